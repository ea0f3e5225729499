theorem dX8_init_0 : decode cX8_init 0 = .ok (.aload_n 0, 1) := by decide +kernel
theorem dX8_init_1 : decode cX8_init 1 = .ok (.invokespecial 3, 3) := by decide +kernel
theorem dX8_init_4 : decode cX8_init 4 = .ok (.aload_n 0, 1) := by decide +kernel
theorem dX8_init_5 : decode cX8_init 5 = .ok (.iconst 4, 1) := by decide +kernel
theorem dX8_init_6 : decode cX8_init 6 = .ok (.anewarray 9, 3) := by decide +kernel
theorem dX8_init_9 : decode cX8_init 9 = .ok (.dup, 1) := by decide +kernel
theorem dX8_init_10 : decode cX8_init 10 = .ok (.iconst 0, 1) := by decide +kernel
theorem dX8_init_11 : decode cX8_init 11 = .ok (.ldc 11, 2) := by decide +kernel
theorem dX8_init_13 : decode cX8_init 13 = .ok (.aastore, 1) := by decide +kernel
theorem dX8_init_14 : decode cX8_init 14 = .ok (.dup, 1) := by decide +kernel
theorem dX8_init_15 : decode cX8_init 15 = .ok (.iconst 1, 1) := by decide +kernel
theorem dX8_init_16 : decode cX8_init 16 = .ok (.ldc 13, 2) := by decide +kernel
theorem dX8_init_18 : decode cX8_init 18 = .ok (.aastore, 1) := by decide +kernel
theorem dX8_init_19 : decode cX8_init 19 = .ok (.dup, 1) := by decide +kernel
theorem dX8_init_20 : decode cX8_init 20 = .ok (.iconst 2, 1) := by decide +kernel
theorem dX8_init_21 : decode cX8_init 21 = .ok (.ldc 15, 2) := by decide +kernel
theorem dX8_init_23 : decode cX8_init 23 = .ok (.aastore, 1) := by decide +kernel
theorem dX8_init_24 : decode cX8_init 24 = .ok (.dup, 1) := by decide +kernel
theorem dX8_init_25 : decode cX8_init 25 = .ok (.iconst 3, 1) := by decide +kernel
theorem dX8_init_26 : decode cX8_init 26 = .ok (.ldc 17, 2) := by decide +kernel
theorem dX8_init_28 : decode cX8_init 28 = .ok (.aastore, 1) := by decide +kernel
theorem dX8_init_29 : decode cX8_init 29 = .ok (.putfield 19, 3) := by decide +kernel
theorem dX8_init_32 : decode cX8_init 32 = .ok (.aload_n 0, 1) := by decide +kernel
theorem dX8_init_33 : decode cX8_init 33 = .ok (.bipush 7, 2) := by decide +kernel
theorem dX8_init_35 : decode cX8_init 35 = .ok (.anewarray 9, 3) := by decide +kernel
theorem dX8_init_38 : decode cX8_init 38 = .ok (.dup, 1) := by decide +kernel
theorem dX8_init_39 : decode cX8_init 39 = .ok (.iconst 0, 1) := by decide +kernel
theorem dX8_init_40 : decode cX8_init 40 = .ok (.ldc 23, 2) := by decide +kernel
theorem dX8_init_42 : decode cX8_init 42 = .ok (.aastore, 1) := by decide +kernel
theorem dX8_init_43 : decode cX8_init 43 = .ok (.dup, 1) := by decide +kernel
theorem dX8_init_44 : decode cX8_init 44 = .ok (.iconst 1, 1) := by decide +kernel
theorem dX8_init_45 : decode cX8_init 45 = .ok (.ldc 25, 2) := by decide +kernel
theorem dX8_init_47 : decode cX8_init 47 = .ok (.aastore, 1) := by decide +kernel
theorem dX8_init_48 : decode cX8_init 48 = .ok (.dup, 1) := by decide +kernel
theorem dX8_init_49 : decode cX8_init 49 = .ok (.iconst 2, 1) := by decide +kernel
theorem dX8_init_50 : decode cX8_init 50 = .ok (.ldc 27, 2) := by decide +kernel
theorem dX8_init_52 : decode cX8_init 52 = .ok (.aastore, 1) := by decide +kernel
theorem dX8_init_53 : decode cX8_init 53 = .ok (.dup, 1) := by decide +kernel
theorem dX8_init_54 : decode cX8_init 54 = .ok (.iconst 3, 1) := by decide +kernel
theorem dX8_init_55 : decode cX8_init 55 = .ok (.ldc 29, 2) := by decide +kernel
theorem dX8_init_57 : decode cX8_init 57 = .ok (.aastore, 1) := by decide +kernel
theorem dX8_init_58 : decode cX8_init 58 = .ok (.dup, 1) := by decide +kernel
theorem dX8_init_59 : decode cX8_init 59 = .ok (.iconst 4, 1) := by decide +kernel
theorem dX8_init_60 : decode cX8_init 60 = .ok (.ldc 31, 2) := by decide +kernel
theorem dX8_init_62 : decode cX8_init 62 = .ok (.aastore, 1) := by decide +kernel
theorem dX8_init_63 : decode cX8_init 63 = .ok (.dup, 1) := by decide +kernel
theorem dX8_init_64 : decode cX8_init 64 = .ok (.iconst 5, 1) := by decide +kernel
theorem dX8_init_65 : decode cX8_init 65 = .ok (.ldc 33, 2) := by decide +kernel
theorem dX8_init_67 : decode cX8_init 67 = .ok (.aastore, 1) := by decide +kernel
theorem dX8_init_68 : decode cX8_init 68 = .ok (.dup, 1) := by decide +kernel
theorem dX8_init_69 : decode cX8_init 69 = .ok (.bipush 6, 2) := by decide +kernel
theorem dX8_init_71 : decode cX8_init 71 = .ok (.ldc 35, 2) := by decide +kernel
theorem dX8_init_73 : decode cX8_init 73 = .ok (.aastore, 1) := by decide +kernel
theorem dX8_init_74 : decode cX8_init 74 = .ok (.putfield 37, 3) := by decide +kernel
theorem dX8_init_77 : decode cX8_init 77 = .ok (.aload_n 0, 1) := by decide +kernel
theorem dX8_init_78 : decode cX8_init 78 = .ok (.bipush 18, 2) := by decide +kernel
theorem dX8_init_80 : decode cX8_init 80 = .ok (.newarray .int, 2) := by decide +kernel
theorem dX8_init_82 : decode cX8_init 82 = .ok (.dup, 1) := by decide +kernel
theorem dX8_init_83 : decode cX8_init 83 = .ok (.iconst 0, 1) := by decide +kernel
theorem dX8_init_84 : decode cX8_init 84 = .ok (.iconst 0, 1) := by decide +kernel
theorem dX8_init_85 : decode cX8_init 85 = .ok (.iastore, 1) := by decide +kernel
theorem dX8_init_86 : decode cX8_init 86 = .ok (.dup, 1) := by decide +kernel
theorem dX8_init_87 : decode cX8_init 87 = .ok (.iconst 1, 1) := by decide +kernel
theorem dX8_init_88 : decode cX8_init 88 = .ok (.iconst 0, 1) := by decide +kernel
theorem dX8_init_89 : decode cX8_init 89 = .ok (.iastore, 1) := by decide +kernel
theorem dX8_init_90 : decode cX8_init 90 = .ok (.dup, 1) := by decide +kernel
theorem dX8_init_91 : decode cX8_init 91 = .ok (.iconst 2, 1) := by decide +kernel
theorem dX8_init_92 : decode cX8_init 92 = .ok (.iconst 0, 1) := by decide +kernel
theorem dX8_init_93 : decode cX8_init 93 = .ok (.iastore, 1) := by decide +kernel
theorem dX8_init_94 : decode cX8_init 94 = .ok (.dup, 1) := by decide +kernel
theorem dX8_init_95 : decode cX8_init 95 = .ok (.iconst 3, 1) := by decide +kernel
theorem dX8_init_96 : decode cX8_init 96 = .ok (.iconst 0, 1) := by decide +kernel
theorem dX8_init_97 : decode cX8_init 97 = .ok (.iastore, 1) := by decide +kernel
theorem dX8_init_98 : decode cX8_init 98 = .ok (.dup, 1) := by decide +kernel
theorem dX8_init_99 : decode cX8_init 99 = .ok (.iconst 4, 1) := by decide +kernel
theorem dX8_init_100 : decode cX8_init 100 = .ok (.iconst 0, 1) := by decide +kernel
theorem dX8_init_101 : decode cX8_init 101 = .ok (.iastore, 1) := by decide +kernel
theorem dX8_init_102 : decode cX8_init 102 = .ok (.dup, 1) := by decide +kernel
theorem dX8_init_103 : decode cX8_init 103 = .ok (.iconst 5, 1) := by decide +kernel
theorem dX8_init_104 : decode cX8_init 104 = .ok (.iconst 3, 1) := by decide +kernel
theorem dX8_init_105 : decode cX8_init 105 = .ok (.iastore, 1) := by decide +kernel
theorem dX8_init_106 : decode cX8_init 106 = .ok (.dup, 1) := by decide +kernel
theorem dX8_init_107 : decode cX8_init 107 = .ok (.bipush 6, 2) := by decide +kernel
theorem dX8_init_109 : decode cX8_init 109 = .ok (.sipush 400, 3) := by decide +kernel
theorem dX8_init_112 : decode cX8_init 112 = .ok (.iastore, 1) := by decide +kernel
theorem dX8_init_113 : decode cX8_init 113 = .ok (.dup, 1) := by decide +kernel
theorem dX8_init_114 : decode cX8_init 114 = .ok (.bipush 7, 2) := by decide +kernel
theorem dX8_init_116 : decode cX8_init 116 = .ok (.iconst 1, 1) := by decide +kernel
theorem dX8_init_117 : decode cX8_init 117 = .ok (.iastore, 1) := by decide +kernel
theorem dX8_init_118 : decode cX8_init 118 = .ok (.dup, 1) := by decide +kernel
theorem dX8_init_119 : decode cX8_init 119 = .ok (.bipush 8, 2) := by decide +kernel
theorem dX8_init_121 : decode cX8_init 121 = .ok (.iconst 0, 1) := by decide +kernel
theorem dX8_init_122 : decode cX8_init 122 = .ok (.iastore, 1) := by decide +kernel
theorem dX8_init_123 : decode cX8_init 123 = .ok (.dup, 1) := by decide +kernel
theorem dX8_init_124 : decode cX8_init 124 = .ok (.bipush 9, 2) := by decide +kernel
theorem dX8_init_126 : decode cX8_init 126 = .ok (.iconst 0, 1) := by decide +kernel
theorem dX8_init_127 : decode cX8_init 127 = .ok (.iastore, 1) := by decide +kernel
theorem dX8_init_128 : decode cX8_init 128 = .ok (.dup, 1) := by decide +kernel
theorem dX8_init_129 : decode cX8_init 129 = .ok (.bipush 10, 2) := by decide +kernel
theorem dX8_init_131 : decode cX8_init 131 = .ok (.iconst 0, 1) := by decide +kernel
theorem dX8_init_132 : decode cX8_init 132 = .ok (.iastore, 1) := by decide +kernel
theorem dX8_init_133 : decode cX8_init 133 = .ok (.dup, 1) := by decide +kernel
theorem dX8_init_134 : decode cX8_init 134 = .ok (.bipush 11, 2) := by decide +kernel
theorem dX8_init_136 : decode cX8_init 136 = .ok (.iconst 0, 1) := by decide +kernel
theorem dX8_init_137 : decode cX8_init 137 = .ok (.iastore, 1) := by decide +kernel
theorem dX8_init_138 : decode cX8_init 138 = .ok (.dup, 1) := by decide +kernel
theorem dX8_init_139 : decode cX8_init 139 = .ok (.bipush 12, 2) := by decide +kernel
theorem dX8_init_141 : decode cX8_init 141 = .ok (.iconst 0, 1) := by decide +kernel
theorem dX8_init_142 : decode cX8_init 142 = .ok (.iastore, 1) := by decide +kernel
theorem dX8_init_143 : decode cX8_init 143 = .ok (.dup, 1) := by decide +kernel
theorem dX8_init_144 : decode cX8_init 144 = .ok (.bipush 13, 2) := by decide +kernel
theorem dX8_init_146 : decode cX8_init 146 = .ok (.iconst 0, 1) := by decide +kernel
theorem dX8_init_147 : decode cX8_init 147 = .ok (.iastore, 1) := by decide +kernel
theorem dX8_init_148 : decode cX8_init 148 = .ok (.dup, 1) := by decide +kernel
theorem dX8_init_149 : decode cX8_init 149 = .ok (.bipush 14, 2) := by decide +kernel
theorem dX8_init_151 : decode cX8_init 151 = .ok (.iconst 3, 1) := by decide +kernel
theorem dX8_init_152 : decode cX8_init 152 = .ok (.iastore, 1) := by decide +kernel
theorem dX8_init_153 : decode cX8_init 153 = .ok (.dup, 1) := by decide +kernel
theorem dX8_init_154 : decode cX8_init 154 = .ok (.bipush 15, 2) := by decide +kernel
theorem dX8_init_156 : decode cX8_init 156 = .ok (.sipush 400, 3) := by decide +kernel
theorem dX8_init_159 : decode cX8_init 159 = .ok (.iastore, 1) := by decide +kernel
theorem dX8_init_160 : decode cX8_init 160 = .ok (.dup, 1) := by decide +kernel
theorem dX8_init_161 : decode cX8_init 161 = .ok (.bipush 16, 2) := by decide +kernel
theorem dX8_init_163 : decode cX8_init 163 = .ok (.iconst 1, 1) := by decide +kernel
theorem dX8_init_164 : decode cX8_init 164 = .ok (.iastore, 1) := by decide +kernel
theorem dX8_init_165 : decode cX8_init 165 = .ok (.dup, 1) := by decide +kernel
theorem dX8_init_166 : decode cX8_init 166 = .ok (.bipush 17, 2) := by decide +kernel
theorem dX8_init_168 : decode cX8_init 168 = .ok (.iconst 0, 1) := by decide +kernel
theorem dX8_init_169 : decode cX8_init 169 = .ok (.iastore, 1) := by decide +kernel
theorem dX8_init_170 : decode cX8_init 170 = .ok (.putfield 40, 3) := by decide +kernel
theorem dX8_init_173 : decode cX8_init 173 = .ok (.aload_n 0, 1) := by decide +kernel
theorem dX8_init_174 : decode cX8_init 174 = .ok (.bipush 20, 2) := by decide +kernel
theorem dX8_init_176 : decode cX8_init 176 = .ok (.newarray .int, 2) := by decide +kernel
theorem dX8_init_178 : decode cX8_init 178 = .ok (.putfield 44, 3) := by decide +kernel
theorem dX8_init_181 : decode cX8_init 181 = .ok (.aload_n 0, 1) := by decide +kernel
theorem dX8_init_182 : decode cX8_init 182 = .ok (.bipush 20, 2) := by decide +kernel
theorem dX8_init_184 : decode cX8_init 184 = .ok (.newarray .int, 2) := by decide +kernel
theorem dX8_init_186 : decode cX8_init 186 = .ok (.putfield 46, 3) := by decide +kernel
theorem dX8_init_189 : decode cX8_init 189 = .ok (.aload_n 0, 1) := by decide +kernel
theorem dX8_init_190 : decode cX8_init 190 = .ok (.bipush 20, 2) := by decide +kernel
theorem dX8_init_192 : decode cX8_init 192 = .ok (.newarray .int, 2) := by decide +kernel
theorem dX8_init_194 : decode cX8_init 194 = .ok (.putfield 49, 3) := by decide +kernel
theorem dX8_init_197 : decode cX8_init 197 = .ok (.aload_n 0, 1) := by decide +kernel
theorem dX8_init_198 : decode cX8_init 198 = .ok (.bipush 20, 2) := by decide +kernel
theorem dX8_init_200 : decode cX8_init 200 = .ok (.newarray .int, 2) := by decide +kernel
theorem dX8_init_202 : decode cX8_init 202 = .ok (.putfield 52, 3) := by decide +kernel
theorem dX8_init_205 : decode cX8_init 205 = .ok (.aload_n 0, 1) := by decide +kernel
theorem dX8_init_206 : decode cX8_init 206 = .ok (.bipush 16, 2) := by decide +kernel
theorem dX8_init_208 : decode cX8_init 208 = .ok (.newarray .int, 2) := by decide +kernel
theorem dX8_init_210 : decode cX8_init 210 = .ok (.putfield 55, 3) := by decide +kernel
theorem dX8_init_213 : decode cX8_init 213 = .ok (.aload_n 0, 1) := by decide +kernel
theorem dX8_init_214 : decode cX8_init 214 = .ok (.bipush 16, 2) := by decide +kernel
theorem dX8_init_216 : decode cX8_init 216 = .ok (.newarray .int, 2) := by decide +kernel
theorem dX8_init_218 : decode cX8_init 218 = .ok (.putfield 58, 3) := by decide +kernel
theorem dX8_init_221 : decode cX8_init 221 = .ok (.aload_n 0, 1) := by decide +kernel
theorem dX8_init_222 : decode cX8_init 222 = .ok (.bipush 16, 2) := by decide +kernel
theorem dX8_init_224 : decode cX8_init 224 = .ok (.newarray .int, 2) := by decide +kernel
theorem dX8_init_226 : decode cX8_init 226 = .ok (.putfield 61, 3) := by decide +kernel
theorem dX8_init_229 : decode cX8_init 229 = .ok (.aload_n 0, 1) := by decide +kernel
theorem dX8_init_230 : decode cX8_init 230 = .ok (.bipush 16, 2) := by decide +kernel
theorem dX8_init_232 : decode cX8_init 232 = .ok (.newarray .int, 2) := by decide +kernel
theorem dX8_init_234 : decode cX8_init 234 = .ok (.putfield 64, 3) := by decide +kernel
theorem dX8_init_237 : decode cX8_init 237 = .ok (.aload_n 0, 1) := by decide +kernel
theorem dX8_init_238 : decode cX8_init 238 = .ok (.bipush 16, 2) := by decide +kernel
theorem dX8_init_240 : decode cX8_init 240 = .ok (.newarray .int, 2) := by decide +kernel
theorem dX8_init_242 : decode cX8_init 242 = .ok (.putfield 66, 3) := by decide +kernel
theorem dX8_init_245 : decode cX8_init 245 = .ok (.aload_n 0, 1) := by decide +kernel
theorem dX8_init_246 : decode cX8_init 246 = .ok (.sipush 192, 3) := by decide +kernel
theorem dX8_init_249 : decode cX8_init 249 = .ok (.newarray .int, 2) := by decide +kernel
theorem dX8_init_251 : decode cX8_init 251 = .ok (.putfield 69, 3) := by decide +kernel
theorem dX8_init_254 : decode cX8_init 254 = .ok (.aload_n 0, 1) := by decide +kernel
theorem dX8_init_255 : decode cX8_init 255 = .ok (.bipush 8, 2) := by decide +kernel
theorem dX8_init_257 : decode cX8_init 257 = .ok (.newarray .int, 2) := by decide +kernel
theorem dX8_init_259 : decode cX8_init 259 = .ok (.putfield 72, 3) := by decide +kernel
theorem dX8_init_262 : decode cX8_init 262 = .ok (.aload_n 0, 1) := by decide +kernel
theorem dX8_init_263 : decode cX8_init 263 = .ok (.sipush 1400, 3) := by decide +kernel
theorem dX8_init_266 : decode cX8_init 266 = .ok (.newarray .int, 2) := by decide +kernel
theorem dX8_init_268 : decode cX8_init 268 = .ok (.putfield 75, 3) := by decide +kernel
theorem dX8_init_271 : decode cX8_init 271 = .ok (.aload_n 0, 1) := by decide +kernel
theorem dX8_init_272 : decode cX8_init 272 = .ok (.iconst 3, 1) := by decide +kernel
theorem dX8_init_273 : decode cX8_init 273 = .ok (.newarray .int, 2) := by decide +kernel
theorem dX8_init_275 : decode cX8_init 275 = .ok (.putfield 78, 3) := by decide +kernel
theorem dX8_init_278 : decode cX8_init 278 = .ok (.aload_n 0, 1) := by decide +kernel
theorem dX8_init_279 : decode cX8_init 279 = .ok (.sipush 700, 3) := by decide +kernel
theorem dX8_init_282 : decode cX8_init 282 = .ok (.newarray .int, 2) := by decide +kernel
theorem dX8_init_284 : decode cX8_init 284 = .ok (.putfield 81, 3) := by decide +kernel
theorem dX8_init_287 : decode cX8_init 287 = .ok (.aload_n 0, 1) := by decide +kernel
theorem dX8_init_288 : decode cX8_init 288 = .ok (.iconst (-1), 1) := by decide +kernel
theorem dX8_init_289 : decode cX8_init 289 = .ok (.putfield 84, 3) := by decide +kernel
theorem dX8_init_292 : decode cX8_init 292 = .ok (.aload_n 0, 1) := by decide +kernel
theorem dX8_init_293 : decode cX8_init 293 = .ok (.bipush 100, 2) := by decide +kernel
theorem dX8_init_295 : decode cX8_init 295 = .ok (.newarray .int, 2) := by decide +kernel
theorem dX8_init_297 : decode cX8_init 297 = .ok (.putfield 88, 3) := by decide +kernel
theorem dX8_init_300 : decode cX8_init 300 = .ok (.aload_n 0, 1) := by decide +kernel
theorem dX8_init_301 : decode cX8_init 301 = .ok (.iconst 1, 1) := by decide +kernel
theorem dX8_init_302 : decode cX8_init 302 = .ok (.putfield 90, 3) := by decide +kernel
theorem dX8_init_305 : decode cX8_init 305 = .ok (.aload_n 0, 1) := by decide +kernel
theorem dX8_init_306 : decode cX8_init 306 = .ok (.sipush 1040, 3) := by decide +kernel
theorem dX8_init_309 : decode cX8_init 309 = .ok (.newarray .int, 2) := by decide +kernel
theorem dX8_init_311 : decode cX8_init 311 = .ok (.putfield 93, 3) := by decide +kernel
theorem dX8_init_314 : decode cX8_init 314 = .ok (.aload_n 0, 1) := by decide +kernel
theorem dX8_init_315 : decode cX8_init 315 = .ok (.bipush 7, 2) := by decide +kernel
theorem dX8_init_317 : decode cX8_init 317 = .ok (.newarray .int, 2) := by decide +kernel
theorem dX8_init_319 : decode cX8_init 319 = .ok (.putfield 96, 3) := by decide +kernel
theorem dX8_init_322 : decode cX8_init 322 = .ok (.aload_n 0, 1) := by decide +kernel
theorem dX8_init_323 : decode cX8_init 323 = .ok (.bipush 64, 2) := by decide +kernel
theorem dX8_init_325 : decode cX8_init 325 = .ok (.newarray .int, 2) := by decide +kernel
theorem dX8_init_327 : decode cX8_init 327 = .ok (.putfield 99, 3) := by decide +kernel
theorem dX8_init_330 : decode cX8_init 330 = .ok (.aload_n 0, 1) := by decide +kernel
theorem dX8_init_331 : decode cX8_init 331 = .ok (.bipush 10, 2) := by decide +kernel
theorem dX8_init_333 : decode cX8_init 333 = .ok (.newarray .int, 2) := by decide +kernel
theorem dX8_init_335 : decode cX8_init 335 = .ok (.putfield 102, 3) := by decide +kernel
theorem dX8_init_338 : decode cX8_init 338 = .ok (.aload_n 0, 1) := by decide +kernel
theorem dX8_init_339 : decode cX8_init 339 = .ok (.bipush 10, 2) := by decide +kernel
theorem dX8_init_341 : decode cX8_init 341 = .ok (.newarray .int, 2) := by decide +kernel
theorem dX8_init_343 : decode cX8_init 343 = .ok (.putfield 105, 3) := by decide +kernel
theorem dX8_init_346 : decode cX8_init 346 = .ok (.aload_n 0, 1) := by decide +kernel
theorem dX8_init_347 : decode cX8_init 347 = .ok (.bipush 8, 2) := by decide +kernel
theorem dX8_init_349 : decode cX8_init 349 = .ok (.newarray .int, 2) := by decide +kernel
theorem dX8_init_351 : decode cX8_init 351 = .ok (.putfield 108, 3) := by decide +kernel
theorem dX8_init_354 : decode cX8_init 354 = .ok (.aload_n 0, 1) := by decide +kernel
theorem dX8_init_355 : decode cX8_init 355 = .ok (.bipush 8, 2) := by decide +kernel
theorem dX8_init_357 : decode cX8_init 357 = .ok (.newarray .int, 2) := by decide +kernel
theorem dX8_init_359 : decode cX8_init 359 = .ok (.putfield 111, 3) := by decide +kernel
theorem dX8_init_362 : decode cX8_init 362 = .ok (.aload_n 0, 1) := by decide +kernel
theorem dX8_init_363 : decode cX8_init 363 = .ok (.bipush 8, 2) := by decide +kernel
theorem dX8_init_365 : decode cX8_init 365 = .ok (.newarray .int, 2) := by decide +kernel
theorem dX8_init_367 : decode cX8_init 367 = .ok (.putfield 114, 3) := by decide +kernel
theorem dX8_init_370 : decode cX8_init 370 = .ok (.aload_n 0, 1) := by decide +kernel
theorem dX8_init_371 : decode cX8_init 371 = .ok (.bipush 10, 2) := by decide +kernel
theorem dX8_init_373 : decode cX8_init 373 = .ok (.newarray .int, 2) := by decide +kernel
theorem dX8_init_375 : decode cX8_init 375 = .ok (.putfield 117, 3) := by decide +kernel
theorem dX8_init_378 : decode cX8_init 378 = .ok (.aload_n 0, 1) := by decide +kernel
theorem dX8_init_379 : decode cX8_init 379 = .ok (.bipush 10, 2) := by decide +kernel
theorem dX8_init_381 : decode cX8_init 381 = .ok (.newarray .int, 2) := by decide +kernel
theorem dX8_init_383 : decode cX8_init 383 = .ok (.putfield 120, 3) := by decide +kernel
theorem dX8_init_386 : decode cX8_init 386 = .ok (.aload_n 0, 1) := by decide +kernel
theorem dX8_init_387 : decode cX8_init 387 = .ok (.bipush 12, 2) := by decide +kernel
theorem dX8_init_389 : decode cX8_init 389 = .ok (.newarray .int, 2) := by decide +kernel
theorem dX8_init_391 : decode cX8_init 391 = .ok (.putfield 123, 3) := by decide +kernel
theorem dX8_init_394 : decode cX8_init 394 = .ok (.aload_n 0, 1) := by decide +kernel
theorem dX8_init_395 : decode cX8_init 395 = .ok (.bipush 12, 2) := by decide +kernel
theorem dX8_init_397 : decode cX8_init 397 = .ok (.newarray .int, 2) := by decide +kernel
theorem dX8_init_399 : decode cX8_init 399 = .ok (.putfield 126, 3) := by decide +kernel
theorem dX8_init_402 : decode cX8_init 402 = .ok (.aload_n 0, 1) := by decide +kernel
theorem dX8_init_403 : decode cX8_init 403 = .ok (.bipush 8, 2) := by decide +kernel
theorem dX8_init_405 : decode cX8_init 405 = .ok (.newarray .int, 2) := by decide +kernel
theorem dX8_init_407 : decode cX8_init 407 = .ok (.putfield 129, 3) := by decide +kernel
theorem dX8_init_410 : decode cX8_init 410 = .ok (.aload_n 0, 1) := by decide +kernel
theorem dX8_init_411 : decode cX8_init 411 = .ok (.bipush 8, 2) := by decide +kernel
theorem dX8_init_413 : decode cX8_init 413 = .ok (.newarray .int, 2) := by decide +kernel
theorem dX8_init_415 : decode cX8_init 415 = .ok (.putfield 132, 3) := by decide +kernel
theorem dX8_init_418 : decode cX8_init 418 = .ok (.aload_n 0, 1) := by decide +kernel
theorem dX8_init_419 : decode cX8_init 419 = .ok (.bipush 8, 2) := by decide +kernel
theorem dX8_init_421 : decode cX8_init 421 = .ok (.newarray .int, 2) := by decide +kernel
theorem dX8_init_423 : decode cX8_init 423 = .ok (.putfield 135, 3) := by decide +kernel
theorem dX8_init_426 : decode cX8_init 426 = .ok (.aload_n 0, 1) := by decide +kernel
theorem dX8_init_427 : decode cX8_init 427 = .ok (.bipush 26, 2) := by decide +kernel
theorem dX8_init_429 : decode cX8_init 429 = .ok (.newarray .int, 2) := by decide +kernel
theorem dX8_init_431 : decode cX8_init 431 = .ok (.putfield 138, 3) := by decide +kernel
theorem dX8_init_434 : decode cX8_init 434 = .ok (.aload_n 0, 1) := by decide +kernel
theorem dX8_init_435 : decode cX8_init 435 = .ok (.sipush 1040, 3) := by decide +kernel
theorem dX8_init_438 : decode cX8_init 438 = .ok (.newarray .int, 2) := by decide +kernel
theorem dX8_init_440 : decode cX8_init 440 = .ok (.putfield 141, 3) := by decide +kernel
theorem dX8_init_443 : decode cX8_init 443 = .ok (.aload_n 0, 1) := by decide +kernel
theorem dX8_init_444 : decode cX8_init 444 = .ok (.bipush 12, 2) := by decide +kernel
theorem dX8_init_446 : decode cX8_init 446 = .ok (.newarray .int, 2) := by decide +kernel
theorem dX8_init_448 : decode cX8_init 448 = .ok (.putfield 144, 3) := by decide +kernel
theorem dX8_init_451 : decode cX8_init 451 = .ok (.aload_n 0, 1) := by decide +kernel
theorem dX8_init_452 : decode cX8_init 452 = .ok (.bipush 12, 2) := by decide +kernel
theorem dX8_init_454 : decode cX8_init 454 = .ok (.newarray .int, 2) := by decide +kernel
theorem dX8_init_456 : decode cX8_init 456 = .ok (.putfield 147, 3) := by decide +kernel
theorem dX8_init_459 : decode cX8_init 459 = .ok (.aload_n 0, 1) := by decide +kernel
theorem dX8_init_460 : decode cX8_init 460 = .ok (.bipush 8, 2) := by decide +kernel
theorem dX8_init_462 : decode cX8_init 462 = .ok (.newarray .int, 2) := by decide +kernel
theorem dX8_init_464 : decode cX8_init 464 = .ok (.putfield 150, 3) := by decide +kernel
theorem dX8_init_467 : decode cX8_init 467 = .ok (.aload_n 0, 1) := by decide +kernel
theorem dX8_init_468 : decode cX8_init 468 = .ok (.bipush 8, 2) := by decide +kernel
theorem dX8_init_470 : decode cX8_init 470 = .ok (.newarray .int, 2) := by decide +kernel
theorem dX8_init_472 : decode cX8_init 472 = .ok (.putfield 153, 3) := by decide +kernel
theorem dX8_init_475 : decode cX8_init 475 = .ok (.aload_n 0, 1) := by decide +kernel
theorem dX8_init_476 : decode cX8_init 476 = .ok (.iconst 3, 1) := by decide +kernel
theorem dX8_init_477 : decode cX8_init 477 = .ok (.newarray .int, 2) := by decide +kernel
theorem dX8_init_479 : decode cX8_init 479 = .ok (.putfield 156, 3) := by decide +kernel
theorem dX8_init_482 : decode cX8_init 482 = .ok (.return_, 1) := by decide +kernel
theorem dX8_thrown_0 : decode cX8_thrown 0 = .ok (.aload_n 0, 1) := by decide +kernel
theorem dX8_thrown_1 : decode cX8_thrown 1 = .ok (.getfield 159, 3) := by decide +kernel
theorem dX8_thrown_4 : decode cX8_thrown 4 = .ok (.ireturn, 1) := by decide +kernel
theorem dX8_fail_0 : decode cX8_fail 0 = .ok (.aload_n 0, 1) := by decide +kernel
theorem dX8_fail_1 : decode cX8_fail 1 = .ok (.iload_n 1, 1) := by decide +kernel
theorem dX8_fail_2 : decode cX8_fail 2 = .ok (.putfield 159, 3) := by decide +kernel
theorem dX8_fail_5 : decode cX8_fail 5 = .ok (.iconst 0, 1) := by decide +kernel
theorem dX8_fail_6 : decode cX8_fail 6 = .ok (.ireturn, 1) := by decide +kernel
theorem dX8_isIn_0 : decode cX8_isIn 0 = .ok (.lload_n 0, 1) := by decide +kernel
theorem dX8_isIn_1 : decode cX8_isIn 1 = .ok (.lload_n 2, 1) := by decide +kernel
theorem dX8_isIn_2 : decode cX8_isIn 2 = .ok (.lcmp, 1) := by decide +kernel
theorem dX8_isIn_3 : decode cX8_isIn 3 = .ok (.ifCond .lt 14, 3) := by decide +kernel
theorem dX8_isIn_6 : decode cX8_isIn 6 = .ok (.lload_n 0, 1) := by decide +kernel
theorem dX8_isIn_7 : decode cX8_isIn 7 = .ok (.lload 4, 2) := by decide +kernel
theorem dX8_isIn_9 : decode cX8_isIn 9 = .ok (.lcmp, 1) := by decide +kernel
theorem dX8_isIn_10 : decode cX8_isIn 10 = .ok (.ifCond .gt 7, 3) := by decide +kernel
theorem dX8_isIn_13 : decode cX8_isIn 13 = .ok (.iconst 1, 1) := by decide +kernel
theorem dX8_isIn_14 : decode cX8_isIn 14 = .ok (.goto 4, 3) := by decide +kernel
theorem dX8_isIn_17 : decode cX8_isIn 17 = .ok (.iconst 0, 1) := by decide +kernel
theorem dX8_isIn_18 : decode cX8_isIn 18 = .ok (.ireturn, 1) := by decide +kernel
theorem dX8_isAisle_0 : decode cX8_isAisle 0 = .ok (.iload_n 1, 1) := by decide +kernel
theorem dX8_isAisle_1 : decode cX8_isAisle 1 = .ok (.i2l, 1) := by decide +kernel
theorem dX8_isAisle_2 : decode cX8_isAisle 2 = .ok (.lconst 0, 1) := by decide +kernel
theorem dX8_isAisle_3 : decode cX8_isAisle 3 = .ok (.aload_n 0, 1) := by decide +kernel
theorem dX8_isAisle_4 : decode cX8_isAisle 4 = .ok (.getfield 40, 3) := by decide +kernel
theorem dX8_isAisle_7 : decode cX8_isAisle 7 = .ok (.iconst 0, 1) := by decide +kernel
theorem dX8_isAisle_8 : decode cX8_isAisle 8 = .ok (.iaload, 1) := by decide +kernel
theorem dX8_isAisle_9 : decode cX8_isAisle 9 = .ok (.iconst 1, 1) := by decide +kernel
theorem dX8_isAisle_10 : decode cX8_isAisle 10 = .ok (.isub, 1) := by decide +kernel
theorem dX8_isAisle_11 : decode cX8_isAisle 11 = .ok (.i2l, 1) := by decide +kernel
theorem dX8_isAisle_12 : decode cX8_isAisle 12 = .ok (.invokestatic 162, 3) := by decide +kernel
theorem dX8_isAisle_15 : decode cX8_isAisle 15 = .ok (.ireturn, 1) := by decide +kernel
theorem dX8_isPerson_0 : decode cX8_isPerson 0 = .ok (.iload_n 1, 1) := by decide +kernel
theorem dX8_isPerson_1 : decode cX8_isPerson 1 = .ok (.i2l, 1) := by decide +kernel
theorem dX8_isPerson_2 : decode cX8_isPerson 2 = .ok (.lconst 0, 1) := by decide +kernel
theorem dX8_isPerson_3 : decode cX8_isPerson 3 = .ok (.aload_n 0, 1) := by decide +kernel
theorem dX8_isPerson_4 : decode cX8_isPerson 4 = .ok (.getfield 40, 3) := by decide +kernel
theorem dX8_isPerson_7 : decode cX8_isPerson 7 = .ok (.iconst 3, 1) := by decide +kernel
theorem dX8_isPerson_8 : decode cX8_isPerson 8 = .ok (.iaload, 1) := by decide +kernel
theorem dX8_isPerson_9 : decode cX8_isPerson 9 = .ok (.iconst 1, 1) := by decide +kernel
theorem dX8_isPerson_10 : decode cX8_isPerson 10 = .ok (.isub, 1) := by decide +kernel
theorem dX8_isPerson_11 : decode cX8_isPerson 11 = .ok (.i2l, 1) := by decide +kernel
theorem dX8_isPerson_12 : decode cX8_isPerson 12 = .ok (.invokestatic 162, 3) := by decide +kernel
theorem dX8_isPerson_15 : decode cX8_isPerson 15 = .ok (.ireturn, 1) := by decide +kernel
theorem dX8_isMinute_0 : decode cX8_isMinute 0 = .ok (.iload_n 0, 1) := by decide +kernel
theorem dX8_isMinute_1 : decode cX8_isMinute 1 = .ok (.i2l, 1) := by decide +kernel
theorem dX8_isMinute_2 : decode cX8_isMinute 2 = .ok (.lconst 1, 1) := by decide +kernel
theorem dX8_isMinute_3 : decode cX8_isMinute 3 = .ok (.ldc2_w 166, 3) := by decide +kernel
theorem dX8_isMinute_6 : decode cX8_isMinute 6 = .ok (.invokestatic 162, 3) := by decide +kernel
theorem dX8_isMinute_9 : decode cX8_isMinute 9 = .ok (.ireturn, 1) := by decide +kernel
theorem dX8_feed_0 : decode cX8_feed 0 = .ok (.aload_n 0, 1) := by decide +kernel
theorem dX8_feed_1 : decode cX8_feed 1 = .ok (.iconst 0, 1) := by decide +kernel
theorem dX8_feed_2 : decode cX8_feed 2 = .ok (.putfield 159, 3) := by decide +kernel
theorem dX8_feed_5 : decode cX8_feed 5 = .ok (.aload_n 0, 1) := by decide +kernel
theorem dX8_feed_6 : decode cX8_feed 6 = .ok (.getfield 168, 3) := by decide +kernel
theorem dX8_feed_9 : decode cX8_feed 9 = .ok (.bipush 20, 2) := by decide +kernel
theorem dX8_feed_11 : decode cX8_feed 11 = .ok (.iadd, 1) := by decide +kernel
theorem dX8_feed_12 : decode cX8_feed 12 = .ok (.sipush 700, 3) := by decide +kernel
theorem dX8_feed_15 : decode cX8_feed 15 = .ok (.if_icmp .le 5, 3) := by decide +kernel
theorem dX8_feed_18 : decode cX8_feed 18 = .ok (.iconst (-1), 1) := by decide +kernel
theorem dX8_feed_19 : decode cX8_feed 19 = .ok (.ireturn, 1) := by decide +kernel
theorem dX8_feed_20 : decode cX8_feed 20 = .ok (.iconst 0, 1) := by decide +kernel
theorem dX8_feed_21 : decode cX8_feed 21 = .ok (.istore 6, 2) := by decide +kernel
theorem dX8_feed_23 : decode cX8_feed 23 = .ok (.iload 6, 2) := by decide +kernel
theorem dX8_feed_25 : decode cX8_feed 25 = .ok (.bipush 20, 2) := by decide +kernel
theorem dX8_feed_27 : decode cX8_feed 27 = .ok (.if_icmp .ge 93, 3) := by decide +kernel
theorem dX8_feed_30 : decode cX8_feed 30 = .ok (.iload 6, 2) := by decide +kernel
theorem dX8_feed_32 : decode cX8_feed 32 = .ok (.iconst 4, 1) := by decide +kernel
theorem dX8_feed_33 : decode cX8_feed 33 = .ok (.if_icmp .ge 7, 3) := by decide +kernel
theorem dX8_feed_36 : decode cX8_feed 36 = .ok (.iload_n 1, 1) := by decide +kernel
theorem dX8_feed_37 : decode cX8_feed 37 = .ok (.goto 39, 3) := by decide +kernel
theorem dX8_feed_40 : decode cX8_feed 40 = .ok (.iload 6, 2) := by decide +kernel
theorem dX8_feed_42 : decode cX8_feed 42 = .ok (.bipush 8, 2) := by decide +kernel
theorem dX8_feed_44 : decode cX8_feed 44 = .ok (.if_icmp .ge 7, 3) := by decide +kernel
theorem dX8_feed_47 : decode cX8_feed 47 = .ok (.iload_n 2, 1) := by decide +kernel
theorem dX8_feed_48 : decode cX8_feed 48 = .ok (.goto 28, 3) := by decide +kernel
theorem dX8_feed_51 : decode cX8_feed 51 = .ok (.iload 6, 2) := by decide +kernel
theorem dX8_feed_53 : decode cX8_feed 53 = .ok (.bipush 12, 2) := by decide +kernel
theorem dX8_feed_55 : decode cX8_feed 55 = .ok (.if_icmp .ge 7, 3) := by decide +kernel
theorem dX8_feed_58 : decode cX8_feed 58 = .ok (.iload_n 3, 1) := by decide +kernel
theorem dX8_feed_59 : decode cX8_feed 59 = .ok (.goto 17, 3) := by decide +kernel
theorem dX8_feed_62 : decode cX8_feed 62 = .ok (.iload 6, 2) := by decide +kernel
theorem dX8_feed_64 : decode cX8_feed 64 = .ok (.bipush 16, 2) := by decide +kernel
theorem dX8_feed_66 : decode cX8_feed 66 = .ok (.if_icmp .ge 8, 3) := by decide +kernel
theorem dX8_feed_69 : decode cX8_feed 69 = .ok (.iload 4, 2) := by decide +kernel
theorem dX8_feed_71 : decode cX8_feed 71 = .ok (.goto 5, 3) := by decide +kernel
theorem dX8_feed_74 : decode cX8_feed 74 = .ok (.iload 5, 2) := by decide +kernel
theorem dX8_feed_76 : decode cX8_feed 76 = .ok (.istore 7, 2) := by decide +kernel
theorem dX8_feed_78 : decode cX8_feed 78 = .ok (.aload_n 0, 1) := by decide +kernel
theorem dX8_feed_79 : decode cX8_feed 79 = .ok (.getfield 81, 3) := by decide +kernel
theorem dX8_feed_82 : decode cX8_feed 82 = .ok (.aload_n 0, 1) := by decide +kernel
theorem dX8_feed_83 : decode cX8_feed 83 = .ok (.getfield 168, 3) := by decide +kernel
theorem dX8_feed_86 : decode cX8_feed 86 = .ok (.iload 7, 2) := by decide +kernel
theorem dX8_feed_88 : decode cX8_feed 88 = .ok (.bipush 24, 2) := by decide +kernel
theorem dX8_feed_90 : decode cX8_feed 90 = .ok (.bipush 8, 2) := by decide +kernel
theorem dX8_feed_92 : decode cX8_feed 92 = .ok (.iload 6, 2) := by decide +kernel
theorem dX8_feed_94 : decode cX8_feed 94 = .ok (.iconst 4, 1) := by decide +kernel
theorem dX8_feed_95 : decode cX8_feed 95 = .ok (.irem, 1) := by decide +kernel
theorem dX8_feed_96 : decode cX8_feed 96 = .ok (.imul, 1) := by decide +kernel
theorem dX8_feed_97 : decode cX8_feed 97 = .ok (.isub, 1) := by decide +kernel
theorem dX8_feed_98 : decode cX8_feed 98 = .ok (.ishr, 1) := by decide +kernel
theorem dX8_feed_99 : decode cX8_feed 99 = .ok (.sipush 255, 3) := by decide +kernel
theorem dX8_feed_102 : decode cX8_feed 102 = .ok (.iand, 1) := by decide +kernel
theorem dX8_feed_103 : decode cX8_feed 103 = .ok (.iastore, 1) := by decide +kernel
theorem dX8_feed_104 : decode cX8_feed 104 = .ok (.aload_n 0, 1) := by decide +kernel
theorem dX8_feed_105 : decode cX8_feed 105 = .ok (.dup, 1) := by decide +kernel
theorem dX8_feed_106 : decode cX8_feed 106 = .ok (.getfield 168, 3) := by decide +kernel
theorem dX8_feed_109 : decode cX8_feed 109 = .ok (.iconst 1, 1) := by decide +kernel
theorem dX8_feed_110 : decode cX8_feed 110 = .ok (.iadd, 1) := by decide +kernel
theorem dX8_feed_111 : decode cX8_feed 111 = .ok (.putfield 168, 3) := by decide +kernel
theorem dX8_feed_114 : decode cX8_feed 114 = .ok (.iinc 6 1, 3) := by decide +kernel
theorem dX8_feed_117 : decode cX8_feed 117 = .ok (.goto (-94), 3) := by decide +kernel
theorem dX8_feed_120 : decode cX8_feed 120 = .ok (.aload_n 0, 1) := by decide +kernel
theorem dX8_feed_121 : decode cX8_feed 121 = .ok (.getfield 168, 3) := by decide +kernel
theorem dX8_feed_124 : decode cX8_feed 124 = .ok (.ireturn, 1) := by decide +kernel
theorem dX8_byteAt_0 : decode cX8_byteAt 0 = .ok (.iload_n 1, 1) := by decide +kernel
theorem dX8_byteAt_1 : decode cX8_byteAt 1 = .ok (.aload_n 0, 1) := by decide +kernel
theorem dX8_byteAt_2 : decode cX8_byteAt 2 = .ok (.getfield 171, 3) := by decide +kernel
theorem dX8_byteAt_5 : decode cX8_byteAt 5 = .ok (.if_icmp .ge 12, 3) := by decide +kernel
theorem dX8_byteAt_8 : decode cX8_byteAt 8 = .ok (.aload_n 0, 1) := by decide +kernel
theorem dX8_byteAt_9 : decode cX8_byteAt 9 = .ok (.getfield 81, 3) := by decide +kernel
theorem dX8_byteAt_12 : decode cX8_byteAt 12 = .ok (.iload_n 1, 1) := by decide +kernel
theorem dX8_byteAt_13 : decode cX8_byteAt 13 = .ok (.iaload, 1) := by decide +kernel
theorem dX8_byteAt_14 : decode cX8_byteAt 14 = .ok (.goto 4, 3) := by decide +kernel
theorem dX8_byteAt_17 : decode cX8_byteAt 17 = .ok (.iconst (-1), 1) := by decide +kernel
theorem dX8_byteAt_18 : decode cX8_byteAt 18 = .ok (.ireturn, 1) := by decide +kernel
theorem dX8_isLetter_0 : decode cX8_isLetter 0 = .ok (.iload_n 0, 1) := by decide +kernel
theorem dX8_isLetter_1 : decode cX8_isLetter 1 = .ok (.bipush 97, 2) := by decide +kernel
theorem dX8_isLetter_3 : decode cX8_isLetter 3 = .ok (.if_icmp .lt 13, 3) := by decide +kernel
theorem dX8_isLetter_6 : decode cX8_isLetter 6 = .ok (.iload_n 0, 1) := by decide +kernel
theorem dX8_isLetter_7 : decode cX8_isLetter 7 = .ok (.bipush 122, 2) := by decide +kernel
theorem dX8_isLetter_9 : decode cX8_isLetter 9 = .ok (.if_icmp .gt 7, 3) := by decide +kernel
theorem dX8_isLetter_12 : decode cX8_isLetter 12 = .ok (.iconst 1, 1) := by decide +kernel
theorem dX8_isLetter_13 : decode cX8_isLetter 13 = .ok (.goto 4, 3) := by decide +kernel
theorem dX8_isLetter_16 : decode cX8_isLetter 16 = .ok (.iconst 0, 1) := by decide +kernel
theorem dX8_isLetter_17 : decode cX8_isLetter 17 = .ok (.ireturn, 1) := by decide +kernel
theorem dX8_isDigit_0 : decode cX8_isDigit 0 = .ok (.iload_n 0, 1) := by decide +kernel
theorem dX8_isDigit_1 : decode cX8_isDigit 1 = .ok (.bipush 48, 2) := by decide +kernel
theorem dX8_isDigit_3 : decode cX8_isDigit 3 = .ok (.if_icmp .lt 13, 3) := by decide +kernel
theorem dX8_isDigit_6 : decode cX8_isDigit 6 = .ok (.iload_n 0, 1) := by decide +kernel
theorem dX8_isDigit_7 : decode cX8_isDigit 7 = .ok (.bipush 57, 2) := by decide +kernel
theorem dX8_isDigit_9 : decode cX8_isDigit 9 = .ok (.if_icmp .gt 7, 3) := by decide +kernel
theorem dX8_isDigit_12 : decode cX8_isDigit 12 = .ok (.iconst 1, 1) := by decide +kernel
theorem dX8_isDigit_13 : decode cX8_isDigit 13 = .ok (.goto 4, 3) := by decide +kernel
theorem dX8_isDigit_16 : decode cX8_isDigit 16 = .ok (.iconst 0, 1) := by decide +kernel
theorem dX8_isDigit_17 : decode cX8_isDigit 17 = .ok (.ireturn, 1) := by decide +kernel
theorem dX8_isMark_0 : decode cX8_isMark 0 = .ok (.iload_n 0, 1) := by decide +kernel
theorem dX8_isMark_1 : decode cX8_isMark 1 = .ok (.bipush 59, 2) := by decide +kernel
theorem dX8_isMark_3 : decode cX8_isMark 3 = .ok (.if_icmp .eq 51, 3) := by decide +kernel
theorem dX8_isMark_6 : decode cX8_isMark 6 = .ok (.iload_n 0, 1) := by decide +kernel
theorem dX8_isMark_7 : decode cX8_isMark 7 = .ok (.bipush 40, 2) := by decide +kernel
theorem dX8_isMark_9 : decode cX8_isMark 9 = .ok (.if_icmp .eq 45, 3) := by decide +kernel
theorem dX8_isMark_12 : decode cX8_isMark 12 = .ok (.iload_n 0, 1) := by decide +kernel
theorem dX8_isMark_13 : decode cX8_isMark 13 = .ok (.bipush 41, 2) := by decide +kernel
theorem dX8_isMark_15 : decode cX8_isMark 15 = .ok (.if_icmp .eq 39, 3) := by decide +kernel
theorem dX8_isMark_18 : decode cX8_isMark 18 = .ok (.iload_n 0, 1) := by decide +kernel
theorem dX8_isMark_19 : decode cX8_isMark 19 = .ok (.bipush 43, 2) := by decide +kernel
theorem dX8_isMark_21 : decode cX8_isMark 21 = .ok (.if_icmp .eq 33, 3) := by decide +kernel
theorem dX8_isMark_24 : decode cX8_isMark 24 = .ok (.iload_n 0, 1) := by decide +kernel
theorem dX8_isMark_25 : decode cX8_isMark 25 = .ok (.bipush 45, 2) := by decide +kernel
theorem dX8_isMark_27 : decode cX8_isMark 27 = .ok (.if_icmp .eq 27, 3) := by decide +kernel
theorem dX8_isMark_30 : decode cX8_isMark 30 = .ok (.iload_n 0, 1) := by decide +kernel
theorem dX8_isMark_31 : decode cX8_isMark 31 = .ok (.bipush 42, 2) := by decide +kernel
theorem dX8_isMark_33 : decode cX8_isMark 33 = .ok (.if_icmp .eq 21, 3) := by decide +kernel
theorem dX8_isMark_36 : decode cX8_isMark 36 = .ok (.iload_n 0, 1) := by decide +kernel
theorem dX8_isMark_37 : decode cX8_isMark 37 = .ok (.bipush 47, 2) := by decide +kernel
theorem dX8_isMark_39 : decode cX8_isMark 39 = .ok (.if_icmp .eq 15, 3) := by decide +kernel
theorem dX8_isMark_42 : decode cX8_isMark 42 = .ok (.iload_n 0, 1) := by decide +kernel
theorem dX8_isMark_43 : decode cX8_isMark 43 = .ok (.bipush 60, 2) := by decide +kernel
theorem dX8_isMark_45 : decode cX8_isMark 45 = .ok (.if_icmp .eq 9, 3) := by decide +kernel
theorem dX8_isMark_48 : decode cX8_isMark 48 = .ok (.iload_n 0, 1) := by decide +kernel
theorem dX8_isMark_49 : decode cX8_isMark 49 = .ok (.bipush 61, 2) := by decide +kernel
theorem dX8_isMark_51 : decode cX8_isMark 51 = .ok (.if_icmp .ne 7, 3) := by decide +kernel
theorem dX8_isMark_54 : decode cX8_isMark 54 = .ok (.iconst 1, 1) := by decide +kernel
theorem dX8_isMark_55 : decode cX8_isMark 55 = .ok (.goto 4, 3) := by decide +kernel
theorem dX8_isMark_58 : decode cX8_isMark 58 = .ok (.iconst 0, 1) := by decide +kernel
theorem dX8_isMark_59 : decode cX8_isMark 59 = .ok (.ireturn, 1) := by decide +kernel
theorem dX8_stepOn_0 : decode cX8_stepOn 0 = .ok (.aload_n 0, 1) := by decide +kernel
theorem dX8_stepOn_1 : decode cX8_stepOn 1 = .ok (.aload_n 0, 1) := by decide +kernel
theorem dX8_stepOn_2 : decode cX8_stepOn 2 = .ok (.getfield 174, 3) := by decide +kernel
theorem dX8_stepOn_5 : decode cX8_stepOn 5 = .ok (.invokevirtual 177, 3) := by decide +kernel
theorem dX8_stepOn_8 : decode cX8_stepOn 8 = .ok (.bipush 32, 2) := by decide +kernel
theorem dX8_stepOn_10 : decode cX8_stepOn 10 = .ok (.if_icmp .eq 16, 3) := by decide +kernel
theorem dX8_stepOn_13 : decode cX8_stepOn 13 = .ok (.aload_n 0, 1) := by decide +kernel
theorem dX8_stepOn_14 : decode cX8_stepOn 14 = .ok (.aload_n 0, 1) := by decide +kernel
theorem dX8_stepOn_15 : decode cX8_stepOn 15 = .ok (.getfield 174, 3) := by decide +kernel
theorem dX8_stepOn_18 : decode cX8_stepOn 18 = .ok (.invokevirtual 177, 3) := by decide +kernel
theorem dX8_stepOn_21 : decode cX8_stepOn 21 = .ok (.bipush 10, 2) := by decide +kernel
theorem dX8_stepOn_23 : decode cX8_stepOn 23 = .ok (.if_icmp .ne 16, 3) := by decide +kernel
theorem dX8_stepOn_26 : decode cX8_stepOn 26 = .ok (.aload_n 0, 1) := by decide +kernel
theorem dX8_stepOn_27 : decode cX8_stepOn 27 = .ok (.dup, 1) := by decide +kernel
theorem dX8_stepOn_28 : decode cX8_stepOn 28 = .ok (.getfield 174, 3) := by decide +kernel
theorem dX8_stepOn_31 : decode cX8_stepOn 31 = .ok (.iconst 1, 1) := by decide +kernel
theorem dX8_stepOn_32 : decode cX8_stepOn 32 = .ok (.iadd, 1) := by decide +kernel
theorem dX8_stepOn_33 : decode cX8_stepOn 33 = .ok (.putfield 174, 3) := by decide +kernel
theorem dX8_stepOn_36 : decode cX8_stepOn 36 = .ok (.goto (-36), 3) := by decide +kernel
theorem dX8_stepOn_39 : decode cX8_stepOn 39 = .ok (.aload_n 0, 1) := by decide +kernel
theorem dX8_stepOn_40 : decode cX8_stepOn 40 = .ok (.aload_n 0, 1) := by decide +kernel
theorem dX8_stepOn_41 : decode cX8_stepOn 41 = .ok (.getfield 174, 3) := by decide +kernel
theorem dX8_stepOn_44 : decode cX8_stepOn 44 = .ok (.putfield 181, 3) := by decide +kernel
theorem dX8_stepOn_47 : decode cX8_stepOn 47 = .ok (.aload_n 0, 1) := by decide +kernel
theorem dX8_stepOn_48 : decode cX8_stepOn 48 = .ok (.aload_n 0, 1) := by decide +kernel
theorem dX8_stepOn_49 : decode cX8_stepOn 49 = .ok (.getfield 174, 3) := by decide +kernel
theorem dX8_stepOn_52 : decode cX8_stepOn 52 = .ok (.invokevirtual 177, 3) := by decide +kernel
theorem dX8_stepOn_55 : decode cX8_stepOn 55 = .ok (.istore_n 1, 1) := by decide +kernel
theorem dX8_stepOn_56 : decode cX8_stepOn 56 = .ok (.iload_n 1, 1) := by decide +kernel
theorem dX8_stepOn_57 : decode cX8_stepOn 57 = .ok (.iconst (-1), 1) := by decide +kernel
theorem dX8_stepOn_58 : decode cX8_stepOn 58 = .ok (.if_icmp .ne 11, 3) := by decide +kernel
theorem dX8_stepOn_61 : decode cX8_stepOn 61 = .ok (.aload_n 0, 1) := by decide +kernel
theorem dX8_stepOn_62 : decode cX8_stepOn 62 = .ok (.iconst 0, 1) := by decide +kernel
theorem dX8_stepOn_63 : decode cX8_stepOn 63 = .ok (.putfield 184, 3) := by decide +kernel
theorem dX8_stepOn_66 : decode cX8_stepOn 66 = .ok (.goto 146, 3) := by decide +kernel
theorem dX8_stepOn_69 : decode cX8_stepOn 69 = .ok (.iload_n 1, 1) := by decide +kernel
theorem dX8_stepOn_70 : decode cX8_stepOn 70 = .ok (.invokestatic 187, 3) := by decide +kernel
theorem dX8_stepOn_73 : decode cX8_stepOn 73 = .ok (.ifCond .eq 38, 3) := by decide +kernel
theorem dX8_stepOn_76 : decode cX8_stepOn 76 = .ok (.aload_n 0, 1) := by decide +kernel
theorem dX8_stepOn_77 : decode cX8_stepOn 77 = .ok (.aload_n 0, 1) := by decide +kernel
theorem dX8_stepOn_78 : decode cX8_stepOn 78 = .ok (.getfield 174, 3) := by decide +kernel
theorem dX8_stepOn_81 : decode cX8_stepOn 81 = .ok (.invokevirtual 177, 3) := by decide +kernel
theorem dX8_stepOn_84 : decode cX8_stepOn 84 = .ok (.invokestatic 187, 3) := by decide +kernel
theorem dX8_stepOn_87 : decode cX8_stepOn 87 = .ok (.ifCond .eq 16, 3) := by decide +kernel
theorem dX8_stepOn_90 : decode cX8_stepOn 90 = .ok (.aload_n 0, 1) := by decide +kernel
theorem dX8_stepOn_91 : decode cX8_stepOn 91 = .ok (.dup, 1) := by decide +kernel
theorem dX8_stepOn_92 : decode cX8_stepOn 92 = .ok (.getfield 174, 3) := by decide +kernel
theorem dX8_stepOn_95 : decode cX8_stepOn 95 = .ok (.iconst 1, 1) := by decide +kernel
theorem dX8_stepOn_96 : decode cX8_stepOn 96 = .ok (.iadd, 1) := by decide +kernel
theorem dX8_stepOn_97 : decode cX8_stepOn 97 = .ok (.putfield 174, 3) := by decide +kernel
theorem dX8_stepOn_100 : decode cX8_stepOn 100 = .ok (.goto (-24), 3) := by decide +kernel
theorem dX8_stepOn_103 : decode cX8_stepOn 103 = .ok (.aload_n 0, 1) := by decide +kernel
theorem dX8_stepOn_104 : decode cX8_stepOn 104 = .ok (.iconst 1, 1) := by decide +kernel
theorem dX8_stepOn_105 : decode cX8_stepOn 105 = .ok (.putfield 184, 3) := by decide +kernel
theorem dX8_stepOn_108 : decode cX8_stepOn 108 = .ok (.goto 104, 3) := by decide +kernel
theorem dX8_stepOn_111 : decode cX8_stepOn 111 = .ok (.iload_n 1, 1) := by decide +kernel
theorem dX8_stepOn_112 : decode cX8_stepOn 112 = .ok (.invokestatic 191, 3) := by decide +kernel
theorem dX8_stepOn_115 : decode cX8_stepOn 115 = .ok (.ifCond .eq 71, 3) := by decide +kernel
theorem dX8_stepOn_118 : decode cX8_stepOn 118 = .ok (.aload_n 0, 1) := by decide +kernel
theorem dX8_stepOn_119 : decode cX8_stepOn 119 = .ok (.iconst 0, 1) := by decide +kernel
theorem dX8_stepOn_120 : decode cX8_stepOn 120 = .ok (.putfield 194, 3) := by decide +kernel
theorem dX8_stepOn_123 : decode cX8_stepOn 123 = .ok (.aload_n 0, 1) := by decide +kernel
theorem dX8_stepOn_124 : decode cX8_stepOn 124 = .ok (.aload_n 0, 1) := by decide +kernel
theorem dX8_stepOn_125 : decode cX8_stepOn 125 = .ok (.getfield 174, 3) := by decide +kernel
theorem dX8_stepOn_128 : decode cX8_stepOn 128 = .ok (.invokevirtual 177, 3) := by decide +kernel
theorem dX8_stepOn_131 : decode cX8_stepOn 131 = .ok (.invokestatic 191, 3) := by decide +kernel
theorem dX8_stepOn_134 : decode cX8_stepOn 134 = .ok (.ifCond .eq 44, 3) := by decide +kernel
theorem dX8_stepOn_137 : decode cX8_stepOn 137 = .ok (.aload_n 0, 1) := by decide +kernel
theorem dX8_stepOn_138 : decode cX8_stepOn 138 = .ok (.ldc 197, 2) := by decide +kernel
theorem dX8_stepOn_140 : decode cX8_stepOn 140 = .ok (.bipush 10, 2) := by decide +kernel
theorem dX8_stepOn_142 : decode cX8_stepOn 142 = .ok (.aload_n 0, 1) := by decide +kernel
theorem dX8_stepOn_143 : decode cX8_stepOn 143 = .ok (.getfield 194, 3) := by decide +kernel
theorem dX8_stepOn_146 : decode cX8_stepOn 146 = .ok (.imul, 1) := by decide +kernel
theorem dX8_stepOn_147 : decode cX8_stepOn 147 = .ok (.aload_n 0, 1) := by decide +kernel
theorem dX8_stepOn_148 : decode cX8_stepOn 148 = .ok (.aload_n 0, 1) := by decide +kernel
theorem dX8_stepOn_149 : decode cX8_stepOn 149 = .ok (.getfield 174, 3) := by decide +kernel
theorem dX8_stepOn_152 : decode cX8_stepOn 152 = .ok (.invokevirtual 177, 3) := by decide +kernel
theorem dX8_stepOn_155 : decode cX8_stepOn 155 = .ok (.iadd, 1) := by decide +kernel
theorem dX8_stepOn_156 : decode cX8_stepOn 156 = .ok (.bipush 48, 2) := by decide +kernel
theorem dX8_stepOn_158 : decode cX8_stepOn 158 = .ok (.isub, 1) := by decide +kernel
theorem dX8_stepOn_159 : decode cX8_stepOn 159 = .ok (.invokestatic 198, 3) := by decide +kernel
theorem dX8_stepOn_162 : decode cX8_stepOn 162 = .ok (.putfield 194, 3) := by decide +kernel
theorem dX8_stepOn_165 : decode cX8_stepOn 165 = .ok (.aload_n 0, 1) := by decide +kernel
theorem dX8_stepOn_166 : decode cX8_stepOn 166 = .ok (.dup, 1) := by decide +kernel
theorem dX8_stepOn_167 : decode cX8_stepOn 167 = .ok (.getfield 174, 3) := by decide +kernel
theorem dX8_stepOn_170 : decode cX8_stepOn 170 = .ok (.iconst 1, 1) := by decide +kernel
theorem dX8_stepOn_171 : decode cX8_stepOn 171 = .ok (.iadd, 1) := by decide +kernel
theorem dX8_stepOn_172 : decode cX8_stepOn 172 = .ok (.putfield 174, 3) := by decide +kernel
theorem dX8_stepOn_175 : decode cX8_stepOn 175 = .ok (.goto (-52), 3) := by decide +kernel
theorem dX8_stepOn_178 : decode cX8_stepOn 178 = .ok (.aload_n 0, 1) := by decide +kernel
theorem dX8_stepOn_179 : decode cX8_stepOn 179 = .ok (.iconst 2, 1) := by decide +kernel
theorem dX8_stepOn_180 : decode cX8_stepOn 180 = .ok (.putfield 184, 3) := by decide +kernel
theorem dX8_stepOn_183 : decode cX8_stepOn 183 = .ok (.goto 29, 3) := by decide +kernel
theorem dX8_stepOn_186 : decode cX8_stepOn 186 = .ok (.aload_n 0, 1) := by decide +kernel
theorem dX8_stepOn_187 : decode cX8_stepOn 187 = .ok (.dup, 1) := by decide +kernel
theorem dX8_stepOn_188 : decode cX8_stepOn 188 = .ok (.getfield 174, 3) := by decide +kernel
theorem dX8_stepOn_191 : decode cX8_stepOn 191 = .ok (.iconst 1, 1) := by decide +kernel
theorem dX8_stepOn_192 : decode cX8_stepOn 192 = .ok (.iadd, 1) := by decide +kernel
theorem dX8_stepOn_193 : decode cX8_stepOn 193 = .ok (.putfield 174, 3) := by decide +kernel
theorem dX8_stepOn_196 : decode cX8_stepOn 196 = .ok (.aload_n 0, 1) := by decide +kernel
theorem dX8_stepOn_197 : decode cX8_stepOn 197 = .ok (.iload_n 1, 1) := by decide +kernel
theorem dX8_stepOn_198 : decode cX8_stepOn 198 = .ok (.invokestatic 204, 3) := by decide +kernel
theorem dX8_stepOn_201 : decode cX8_stepOn 201 = .ok (.ifCond .eq 7, 3) := by decide +kernel
theorem dX8_stepOn_204 : decode cX8_stepOn 204 = .ok (.iconst 3, 1) := by decide +kernel
theorem dX8_stepOn_205 : decode cX8_stepOn 205 = .ok (.goto 4, 3) := by decide +kernel
theorem dX8_stepOn_208 : decode cX8_stepOn 208 = .ok (.iconst 4, 1) := by decide +kernel
theorem dX8_stepOn_209 : decode cX8_stepOn 209 = .ok (.putfield 184, 3) := by decide +kernel
theorem dX8_stepOn_212 : decode cX8_stepOn 212 = .ok (.aload_n 0, 1) := by decide +kernel
theorem dX8_stepOn_213 : decode cX8_stepOn 213 = .ok (.aload_n 0, 1) := by decide +kernel
theorem dX8_stepOn_214 : decode cX8_stepOn 214 = .ok (.getfield 174, 3) := by decide +kernel
theorem dX8_stepOn_217 : decode cX8_stepOn 217 = .ok (.putfield 207, 3) := by decide +kernel
theorem dX8_stepOn_220 : decode cX8_stepOn 220 = .ok (.return_, 1) := by decide +kernel
theorem dX8_wrong_0 : decode cX8_wrong 0 = .ok (.aload_n 0, 1) := by decide +kernel
theorem dX8_wrong_1 : decode cX8_wrong 1 = .ok (.getfield 210, 3) := by decide +kernel
theorem dX8_wrong_4 : decode cX8_wrong 4 = .ok (.ifCond .eq 4, 3) := by decide +kernel
theorem dX8_wrong_7 : decode cX8_wrong 7 = .ok (.return_, 1) := by decide +kernel
theorem dX8_wrong_8 : decode cX8_wrong 8 = .ok (.aload_n 0, 1) := by decide +kernel
theorem dX8_wrong_9 : decode cX8_wrong 9 = .ok (.iload_n 1, 1) := by decide +kernel
theorem dX8_wrong_10 : decode cX8_wrong 10 = .ok (.putfield 210, 3) := by decide +kernel
theorem dX8_wrong_13 : decode cX8_wrong 13 = .ok (.aload_n 0, 1) := by decide +kernel
theorem dX8_wrong_14 : decode cX8_wrong 14 = .ok (.aload_n 0, 1) := by decide +kernel
theorem dX8_wrong_15 : decode cX8_wrong 15 = .ok (.getfield 181, 3) := by decide +kernel
theorem dX8_wrong_18 : decode cX8_wrong 18 = .ok (.putfield 213, 3) := by decide +kernel
theorem dX8_wrong_21 : decode cX8_wrong 21 = .ok (.return_, 1) := by decide +kernel
theorem dX8_is_0 : decode cX8_is 0 = .ok (.aload_n 0, 1) := by decide +kernel
theorem dX8_is_1 : decode cX8_is 1 = .ok (.getfield 210, 3) := by decide +kernel
theorem dX8_is_4 : decode cX8_is 4 = .ok (.ifCond .ne 31, 3) := by decide +kernel
theorem dX8_is_7 : decode cX8_is 7 = .ok (.aload_n 0, 1) := by decide +kernel
theorem dX8_is_8 : decode cX8_is 8 = .ok (.getfield 184, 3) := by decide +kernel
theorem dX8_is_11 : decode cX8_is 11 = .ok (.iconst 1, 1) := by decide +kernel
theorem dX8_is_12 : decode cX8_is 12 = .ok (.if_icmp .ne 23, 3) := by decide +kernel
theorem dX8_is_15 : decode cX8_is 15 = .ok (.aload_n 1, 1) := by decide +kernel
theorem dX8_is_16 : decode cX8_is 16 = .ok (.invokevirtual 216, 3) := by decide +kernel
theorem dX8_is_19 : decode cX8_is 19 = .ok (.aload_n 0, 1) := by decide +kernel
theorem dX8_is_20 : decode cX8_is 20 = .ok (.getfield 207, 3) := by decide +kernel
theorem dX8_is_23 : decode cX8_is 23 = .ok (.aload_n 0, 1) := by decide +kernel
theorem dX8_is_24 : decode cX8_is 24 = .ok (.getfield 181, 3) := by decide +kernel
theorem dX8_is_27 : decode cX8_is 27 = .ok (.isub, 1) := by decide +kernel
theorem dX8_is_28 : decode cX8_is 28 = .ok (.if_icmp .ne 7, 3) := by decide +kernel
theorem dX8_is_31 : decode cX8_is 31 = .ok (.iconst 1, 1) := by decide +kernel
theorem dX8_is_32 : decode cX8_is 32 = .ok (.goto 4, 3) := by decide +kernel
theorem dX8_is_35 : decode cX8_is 35 = .ok (.iconst 0, 1) := by decide +kernel
theorem dX8_is_36 : decode cX8_is 36 = .ok (.istore_n 2, 1) := by decide +kernel
theorem dX8_is_37 : decode cX8_is 37 = .ok (.iconst 0, 1) := by decide +kernel
theorem dX8_is_38 : decode cX8_is 38 = .ok (.istore_n 3, 1) := by decide +kernel
theorem dX8_is_39 : decode cX8_is 39 = .ok (.iload_n 2, 1) := by decide +kernel
theorem dX8_is_40 : decode cX8_is 40 = .ok (.ifCond .eq 42, 3) := by decide +kernel
theorem dX8_is_43 : decode cX8_is 43 = .ok (.iload_n 3, 1) := by decide +kernel
theorem dX8_is_44 : decode cX8_is 44 = .ok (.aload_n 1, 1) := by decide +kernel
theorem dX8_is_45 : decode cX8_is 45 = .ok (.invokevirtual 216, 3) := by decide +kernel
theorem dX8_is_48 : decode cX8_is 48 = .ok (.if_icmp .ge 34, 3) := by decide +kernel
theorem dX8_is_51 : decode cX8_is 51 = .ok (.aload_n 1, 1) := by decide +kernel
theorem dX8_is_52 : decode cX8_is 52 = .ok (.iload_n 3, 1) := by decide +kernel
theorem dX8_is_53 : decode cX8_is 53 = .ok (.invokevirtual 220, 3) := by decide +kernel
theorem dX8_is_56 : decode cX8_is 56 = .ok (.aload_n 0, 1) := by decide +kernel
theorem dX8_is_57 : decode cX8_is 57 = .ok (.getfield 81, 3) := by decide +kernel
theorem dX8_is_60 : decode cX8_is 60 = .ok (.aload_n 0, 1) := by decide +kernel
theorem dX8_is_61 : decode cX8_is 61 = .ok (.getfield 181, 3) := by decide +kernel
theorem dX8_is_64 : decode cX8_is 64 = .ok (.iload_n 3, 1) := by decide +kernel
theorem dX8_is_65 : decode cX8_is 65 = .ok (.iadd, 1) := by decide +kernel
theorem dX8_is_66 : decode cX8_is 66 = .ok (.iaload, 1) := by decide +kernel
theorem dX8_is_67 : decode cX8_is 67 = .ok (.if_icmp .ne 7, 3) := by decide +kernel
theorem dX8_is_70 : decode cX8_is 70 = .ok (.iconst 1, 1) := by decide +kernel
theorem dX8_is_71 : decode cX8_is 71 = .ok (.goto 4, 3) := by decide +kernel
theorem dX8_is_74 : decode cX8_is 74 = .ok (.iconst 0, 1) := by decide +kernel
theorem dX8_is_75 : decode cX8_is 75 = .ok (.istore_n 2, 1) := by decide +kernel
theorem dX8_is_76 : decode cX8_is 76 = .ok (.iinc 3 1, 3) := by decide +kernel
theorem dX8_is_79 : decode cX8_is 79 = .ok (.goto (-40), 3) := by decide +kernel
theorem dX8_is_82 : decode cX8_is 82 = .ok (.iload_n 2, 1) := by decide +kernel
theorem dX8_is_83 : decode cX8_is 83 = .ok (.ireturn, 1) := by decide +kernel
theorem dX8_which_0 : decode cX8_which 0 = .ok (.iconst 0, 1) := by decide +kernel
theorem dX8_which_1 : decode cX8_which 1 = .ok (.istore_n 2, 1) := by decide +kernel
theorem dX8_which_2 : decode cX8_which 2 = .ok (.iload_n 2, 1) := by decide +kernel
theorem dX8_which_3 : decode cX8_which 3 = .ok (.aload_n 1, 1) := by decide +kernel
theorem dX8_which_4 : decode cX8_which 4 = .ok (.arraylength, 1) := by decide +kernel
theorem dX8_which_5 : decode cX8_which 5 = .ok (.if_icmp .ge 21, 3) := by decide +kernel
theorem dX8_which_8 : decode cX8_which 8 = .ok (.aload_n 0, 1) := by decide +kernel
theorem dX8_which_9 : decode cX8_which 9 = .ok (.aload_n 1, 1) := by decide +kernel
theorem dX8_which_10 : decode cX8_which 10 = .ok (.iload_n 2, 1) := by decide +kernel
theorem dX8_which_11 : decode cX8_which 11 = .ok (.aaload, 1) := by decide +kernel
theorem dX8_which_12 : decode cX8_which 12 = .ok (.invokevirtual 224, 3) := by decide +kernel
theorem dX8_which_15 : decode cX8_which 15 = .ok (.ifCond .eq 5, 3) := by decide +kernel
theorem dX8_which_18 : decode cX8_which 18 = .ok (.iload_n 2, 1) := by decide +kernel
theorem dX8_which_19 : decode cX8_which 19 = .ok (.ireturn, 1) := by decide +kernel
theorem dX8_which_20 : decode cX8_which 20 = .ok (.iinc 2 1, 3) := by decide +kernel
theorem dX8_which_23 : decode cX8_which 23 = .ok (.goto (-21), 3) := by decide +kernel
theorem dX8_which_26 : decode cX8_which 26 = .ok (.iconst (-1), 1) := by decide +kernel
theorem dX8_which_27 : decode cX8_which 27 = .ok (.ireturn, 1) := by decide +kernel
theorem dX8_isMarked_0 : decode cX8_isMarked 0 = .ok (.aload_n 0, 1) := by decide +kernel
theorem dX8_isMarked_1 : decode cX8_isMarked 1 = .ok (.getfield 210, 3) := by decide +kernel
theorem dX8_isMarked_4 : decode cX8_isMarked 4 = .ok (.ifCond .ne 28, 3) := by decide +kernel
theorem dX8_isMarked_7 : decode cX8_isMarked 7 = .ok (.aload_n 0, 1) := by decide +kernel
theorem dX8_isMarked_8 : decode cX8_isMarked 8 = .ok (.getfield 184, 3) := by decide +kernel
theorem dX8_isMarked_11 : decode cX8_isMarked 11 = .ok (.iconst 3, 1) := by decide +kernel
theorem dX8_isMarked_12 : decode cX8_isMarked 12 = .ok (.if_icmp .ne 20, 3) := by decide +kernel
theorem dX8_isMarked_15 : decode cX8_isMarked 15 = .ok (.aload_n 0, 1) := by decide +kernel
theorem dX8_isMarked_16 : decode cX8_isMarked 16 = .ok (.getfield 81, 3) := by decide +kernel
theorem dX8_isMarked_19 : decode cX8_isMarked 19 = .ok (.aload_n 0, 1) := by decide +kernel
theorem dX8_isMarked_20 : decode cX8_isMarked 20 = .ok (.getfield 181, 3) := by decide +kernel
theorem dX8_isMarked_23 : decode cX8_isMarked 23 = .ok (.iaload, 1) := by decide +kernel
theorem dX8_isMarked_24 : decode cX8_isMarked 24 = .ok (.iload_n 1, 1) := by decide +kernel
theorem dX8_isMarked_25 : decode cX8_isMarked 25 = .ok (.if_icmp .ne 7, 3) := by decide +kernel
theorem dX8_isMarked_28 : decode cX8_isMarked 28 = .ok (.iconst 1, 1) := by decide +kernel
theorem dX8_isMarked_29 : decode cX8_isMarked 29 = .ok (.goto 4, 3) := by decide +kernel
theorem dX8_isMarked_32 : decode cX8_isMarked 32 = .ok (.iconst 0, 1) := by decide +kernel
theorem dX8_isMarked_33 : decode cX8_isMarked 33 = .ok (.ireturn, 1) := by decide +kernel
theorem dX8_mark_0 : decode cX8_mark 0 = .ok (.aload_n 0, 1) := by decide +kernel
theorem dX8_mark_1 : decode cX8_mark 1 = .ok (.getfield 210, 3) := by decide +kernel
theorem dX8_mark_4 : decode cX8_mark 4 = .ok (.ifCond .ne 16, 3) := by decide +kernel
theorem dX8_mark_7 : decode cX8_mark 7 = .ok (.aload_n 0, 1) := by decide +kernel
theorem dX8_mark_8 : decode cX8_mark 8 = .ok (.iload_n 1, 1) := by decide +kernel
theorem dX8_mark_9 : decode cX8_mark 9 = .ok (.invokevirtual 228, 3) := by decide +kernel
theorem dX8_mark_12 : decode cX8_mark 12 = .ok (.ifCond .ne 8, 3) := by decide +kernel
theorem dX8_mark_15 : decode cX8_mark 15 = .ok (.aload_n 0, 1) := by decide +kernel
theorem dX8_mark_16 : decode cX8_mark 16 = .ok (.iconst 1, 1) := by decide +kernel
theorem dX8_mark_17 : decode cX8_mark 17 = .ok (.invokevirtual 231, 3) := by decide +kernel
theorem dX8_mark_20 : decode cX8_mark 20 = .ok (.aload_n 0, 1) := by decide +kernel
theorem dX8_mark_21 : decode cX8_mark 21 = .ok (.getfield 210, 3) := by decide +kernel
theorem dX8_mark_24 : decode cX8_mark 24 = .ok (.ifCond .ne 7, 3) := by decide +kernel
theorem dX8_mark_27 : decode cX8_mark 27 = .ok (.aload_n 0, 1) := by decide +kernel
theorem dX8_mark_28 : decode cX8_mark 28 = .ok (.invokevirtual 235, 3) := by decide +kernel
theorem dX8_mark_31 : decode cX8_mark 31 = .ok (.return_, 1) := by decide +kernel
theorem dX8_numberNow_0 : decode cX8_numberNow 0 = .ok (.aload_n 0, 1) := by decide +kernel
theorem dX8_numberNow_1 : decode cX8_numberNow 1 = .ok (.getfield 210, 3) := by decide +kernel
theorem dX8_numberNow_4 : decode cX8_numberNow 4 = .ok (.ifCond .eq 5, 3) := by decide +kernel
theorem dX8_numberNow_7 : decode cX8_numberNow 7 = .ok (.iconst 0, 1) := by decide +kernel
theorem dX8_numberNow_8 : decode cX8_numberNow 8 = .ok (.ireturn, 1) := by decide +kernel
theorem dX8_numberNow_9 : decode cX8_numberNow 9 = .ok (.aload_n 0, 1) := by decide +kernel
theorem dX8_numberNow_10 : decode cX8_numberNow 10 = .ok (.getfield 184, 3) := by decide +kernel
theorem dX8_numberNow_13 : decode cX8_numberNow 13 = .ok (.iconst 2, 1) := by decide +kernel
theorem dX8_numberNow_14 : decode cX8_numberNow 14 = .ok (.if_icmp .eq 11, 3) := by decide +kernel
theorem dX8_numberNow_17 : decode cX8_numberNow 17 = .ok (.aload_n 0, 1) := by decide +kernel
theorem dX8_numberNow_18 : decode cX8_numberNow 18 = .ok (.iconst 1, 1) := by decide +kernel
theorem dX8_numberNow_19 : decode cX8_numberNow 19 = .ok (.invokevirtual 231, 3) := by decide +kernel
theorem dX8_numberNow_22 : decode cX8_numberNow 22 = .ok (.goto 37, 3) := by decide +kernel
theorem dX8_numberNow_25 : decode cX8_numberNow 25 = .ok (.aload_n 0, 1) := by decide +kernel
theorem dX8_numberNow_26 : decode cX8_numberNow 26 = .ok (.getfield 207, 3) := by decide +kernel
theorem dX8_numberNow_29 : decode cX8_numberNow 29 = .ok (.aload_n 0, 1) := by decide +kernel
theorem dX8_numberNow_30 : decode cX8_numberNow 30 = .ok (.getfield 181, 3) := by decide +kernel
theorem dX8_numberNow_33 : decode cX8_numberNow 33 = .ok (.isub, 1) := by decide +kernel
theorem dX8_numberNow_34 : decode cX8_numberNow 34 = .ok (.iconst 4, 1) := by decide +kernel
theorem dX8_numberNow_35 : decode cX8_numberNow 35 = .ok (.if_icmp .gt 19, 3) := by decide +kernel
theorem dX8_numberNow_38 : decode cX8_numberNow 38 = .ok (.aload_n 0, 1) := by decide +kernel
theorem dX8_numberNow_39 : decode cX8_numberNow 39 = .ok (.getfield 194, 3) := by decide +kernel
theorem dX8_numberNow_42 : decode cX8_numberNow 42 = .ok (.iload_n 1, 1) := by decide +kernel
theorem dX8_numberNow_43 : decode cX8_numberNow 43 = .ok (.if_icmp .lt 11, 3) := by decide +kernel
theorem dX8_numberNow_46 : decode cX8_numberNow 46 = .ok (.aload_n 0, 1) := by decide +kernel
theorem dX8_numberNow_47 : decode cX8_numberNow 47 = .ok (.getfield 194, 3) := by decide +kernel
theorem dX8_numberNow_50 : decode cX8_numberNow 50 = .ok (.iload_n 2, 1) := by decide +kernel
theorem dX8_numberNow_51 : decode cX8_numberNow 51 = .ok (.if_icmp .le 8, 3) := by decide +kernel
theorem dX8_numberNow_54 : decode cX8_numberNow 54 = .ok (.aload_n 0, 1) := by decide +kernel
theorem dX8_numberNow_55 : decode cX8_numberNow 55 = .ok (.iconst 2, 1) := by decide +kernel
theorem dX8_numberNow_56 : decode cX8_numberNow 56 = .ok (.invokevirtual 231, 3) := by decide +kernel
theorem dX8_numberNow_59 : decode cX8_numberNow 59 = .ok (.aload_n 0, 1) := by decide +kernel
theorem dX8_numberNow_60 : decode cX8_numberNow 60 = .ok (.getfield 210, 3) := by decide +kernel
theorem dX8_numberNow_63 : decode cX8_numberNow 63 = .ok (.ifCond .ne 10, 3) := by decide +kernel
theorem dX8_numberNow_66 : decode cX8_numberNow 66 = .ok (.aload_n 0, 1) := by decide +kernel
theorem dX8_numberNow_67 : decode cX8_numberNow 67 = .ok (.getfield 194, 3) := by decide +kernel
theorem dX8_numberNow_70 : decode cX8_numberNow 70 = .ok (.goto 4, 3) := by decide +kernel
theorem dX8_numberNow_73 : decode cX8_numberNow 73 = .ok (.iconst 0, 1) := by decide +kernel
theorem dX8_numberNow_74 : decode cX8_numberNow 74 = .ok (.ireturn, 1) := by decide +kernel
theorem dX8_readNumber_0 : decode cX8_readNumber 0 = .ok (.aload_n 0, 1) := by decide +kernel
theorem dX8_readNumber_1 : decode cX8_readNumber 1 = .ok (.iload_n 1, 1) := by decide +kernel
theorem dX8_readNumber_2 : decode cX8_readNumber 2 = .ok (.iload_n 2, 1) := by decide +kernel
theorem dX8_readNumber_3 : decode cX8_readNumber 3 = .ok (.invokevirtual 238, 3) := by decide +kernel
theorem dX8_readNumber_6 : decode cX8_readNumber 6 = .ok (.istore_n 3, 1) := by decide +kernel
theorem dX8_readNumber_7 : decode cX8_readNumber 7 = .ok (.aload_n 0, 1) := by decide +kernel
theorem dX8_readNumber_8 : decode cX8_readNumber 8 = .ok (.getfield 210, 3) := by decide +kernel
theorem dX8_readNumber_11 : decode cX8_readNumber 11 = .ok (.ifCond .ne 7, 3) := by decide +kernel
theorem dX8_readNumber_14 : decode cX8_readNumber 14 = .ok (.aload_n 0, 1) := by decide +kernel
theorem dX8_readNumber_15 : decode cX8_readNumber 15 = .ok (.invokevirtual 235, 3) := by decide +kernel
theorem dX8_readNumber_18 : decode cX8_readNumber 18 = .ok (.iload_n 3, 1) := by decide +kernel
theorem dX8_readNumber_19 : decode cX8_readNumber 19 = .ok (.ireturn, 1) := by decide +kernel
theorem dX8_aisleNow_0 : decode cX8_aisleNow 0 = .ok (.aload_n 0, 1) := by decide +kernel
theorem dX8_aisleNow_1 : decode cX8_aisleNow 1 = .ok (.iconst 0, 1) := by decide +kernel
theorem dX8_aisleNow_2 : decode cX8_aisleNow 2 = .ok (.sipush 9999, 3) := by decide +kernel
theorem dX8_aisleNow_5 : decode cX8_aisleNow 5 = .ok (.invokevirtual 238, 3) := by decide +kernel
theorem dX8_aisleNow_8 : decode cX8_aisleNow 8 = .ok (.istore_n 1, 1) := by decide +kernel
theorem dX8_aisleNow_9 : decode cX8_aisleNow 9 = .ok (.aload_n 0, 1) := by decide +kernel
theorem dX8_aisleNow_10 : decode cX8_aisleNow 10 = .ok (.getfield 210, 3) := by decide +kernel
theorem dX8_aisleNow_13 : decode cX8_aisleNow 13 = .ok (.ifCond .ne 19, 3) := by decide +kernel
theorem dX8_aisleNow_16 : decode cX8_aisleNow 16 = .ok (.iload_n 1, 1) := by decide +kernel
theorem dX8_aisleNow_17 : decode cX8_aisleNow 17 = .ok (.aload_n 0, 1) := by decide +kernel
theorem dX8_aisleNow_18 : decode cX8_aisleNow 18 = .ok (.getfield 40, 3) := by decide +kernel
theorem dX8_aisleNow_21 : decode cX8_aisleNow 21 = .ok (.bipush 9, 2) := by decide +kernel
theorem dX8_aisleNow_23 : decode cX8_aisleNow 23 = .ok (.iaload, 1) := by decide +kernel
theorem dX8_aisleNow_24 : decode cX8_aisleNow 24 = .ok (.if_icmp .lt 8, 3) := by decide +kernel
theorem dX8_aisleNow_27 : decode cX8_aisleNow 27 = .ok (.aload_n 0, 1) := by decide +kernel
theorem dX8_aisleNow_28 : decode cX8_aisleNow 28 = .ok (.iconst 3, 1) := by decide +kernel
theorem dX8_aisleNow_29 : decode cX8_aisleNow 29 = .ok (.invokevirtual 231, 3) := by decide +kernel
theorem dX8_aisleNow_32 : decode cX8_aisleNow 32 = .ok (.aload_n 0, 1) := by decide +kernel
theorem dX8_aisleNow_33 : decode cX8_aisleNow 33 = .ok (.getfield 210, 3) := by decide +kernel
theorem dX8_aisleNow_36 : decode cX8_aisleNow 36 = .ok (.ifCond .ne 7, 3) := by decide +kernel
theorem dX8_aisleNow_39 : decode cX8_aisleNow 39 = .ok (.iload_n 1, 1) := by decide +kernel
theorem dX8_aisleNow_40 : decode cX8_aisleNow 40 = .ok (.goto 4, 3) := by decide +kernel
theorem dX8_aisleNow_43 : decode cX8_aisleNow 43 = .ok (.iconst 0, 1) := by decide +kernel
theorem dX8_aisleNow_44 : decode cX8_aisleNow 44 = .ok (.ireturn, 1) := by decide +kernel
theorem dX8_putSign_0 : decode cX8_putSign 0 = .ok (.aload_n 0, 1) := by decide +kernel
theorem dX8_putSign_1 : decode cX8_putSign 1 = .ok (.getfield 210, 3) := by decide +kernel
theorem dX8_putSign_4 : decode cX8_putSign 4 = .ok (.ifCond .eq 4, 3) := by decide +kernel
theorem dX8_putSign_7 : decode cX8_putSign 7 = .ok (.return_, 1) := by decide +kernel
theorem dX8_putSign_8 : decode cX8_putSign 8 = .ok (.aload_n 0, 1) := by decide +kernel
theorem dX8_putSign_9 : decode cX8_putSign 9 = .ok (.getfield 75, 3) := by decide +kernel
theorem dX8_putSign_12 : decode cX8_putSign 12 = .ok (.sipush 700, 3) := by decide +kernel
theorem dX8_putSign_15 : decode cX8_putSign 15 = .ok (.aload_n 0, 1) := by decide +kernel
theorem dX8_putSign_16 : decode cX8_putSign 16 = .ok (.getfield 40, 3) := by decide +kernel
theorem dX8_putSign_19 : decode cX8_putSign 19 = .ok (.bipush 17, 2) := by decide +kernel
theorem dX8_putSign_21 : decode cX8_putSign 21 = .ok (.iaload, 1) := by decide +kernel
theorem dX8_putSign_22 : decode cX8_putSign 22 = .ok (.iadd, 1) := by decide +kernel
theorem dX8_putSign_23 : decode cX8_putSign 23 = .ok (.iload_n 1, 1) := by decide +kernel
theorem dX8_putSign_24 : decode cX8_putSign 24 = .ok (.iastore, 1) := by decide +kernel
theorem dX8_putSign_25 : decode cX8_putSign 25 = .ok (.aload_n 0, 1) := by decide +kernel
theorem dX8_putSign_26 : decode cX8_putSign 26 = .ok (.getfield 40, 3) := by decide +kernel
theorem dX8_putSign_29 : decode cX8_putSign 29 = .ok (.bipush 17, 2) := by decide +kernel
theorem dX8_putSign_31 : decode cX8_putSign 31 = .ok (.dup2, 1) := by decide +kernel
theorem dX8_putSign_32 : decode cX8_putSign 32 = .ok (.iaload, 1) := by decide +kernel
theorem dX8_putSign_33 : decode cX8_putSign 33 = .ok (.iconst 1, 1) := by decide +kernel
theorem dX8_putSign_34 : decode cX8_putSign 34 = .ok (.iadd, 1) := by decide +kernel
theorem dX8_putSign_35 : decode cX8_putSign 35 = .ok (.iastore, 1) := by decide +kernel
theorem dX8_putSign_36 : decode cX8_putSign 36 = .ok (.return_, 1) := by decide +kernel
theorem dX8_readPart_0 : decode cX8_readPart 0 = .ok (.aload_n 0, 1) := by decide +kernel
theorem dX8_readPart_1 : decode cX8_readPart 1 = .ok (.getfield 210, 3) := by decide +kernel
theorem dX8_readPart_4 : decode cX8_readPart 4 = .ok (.ifCond .eq 4, 3) := by decide +kernel
theorem dX8_readPart_7 : decode cX8_readPart 7 = .ok (.return_, 1) := by decide +kernel
theorem dX8_readPart_8 : decode cX8_readPart 8 = .ok (.aload_n 0, 1) := by decide +kernel
theorem dX8_readPart_9 : decode cX8_readPart 9 = .ok (.getfield 184, 3) := by decide +kernel
theorem dX8_readPart_12 : decode cX8_readPart 12 = .ok (.iconst 2, 1) := by decide +kernel
theorem dX8_readPart_13 : decode cX8_readPart 13 = .ok (.if_icmp .ne 16, 3) := by decide +kernel
theorem dX8_readPart_16 : decode cX8_readPart 16 = .ok (.aload_n 0, 1) := by decide +kernel
theorem dX8_readPart_17 : decode cX8_readPart 17 = .ok (.aload_n 0, 1) := by decide +kernel
theorem dX8_readPart_18 : decode cX8_readPart 18 = .ok (.iconst 0, 1) := by decide +kernel
theorem dX8_readPart_19 : decode cX8_readPart 19 = .ok (.sipush 9999, 3) := by decide +kernel
theorem dX8_readPart_22 : decode cX8_readPart 22 = .ok (.invokevirtual 241, 3) := by decide +kernel
theorem dX8_readPart_25 : decode cX8_readPart 25 = .ok (.invokevirtual 244, 3) := by decide +kernel
theorem dX8_readPart_28 : decode cX8_readPart 28 = .ok (.return_, 1) := by decide +kernel
theorem dX8_readPart_29 : decode cX8_readPart 29 = .ok (.aload_n 0, 1) := by decide +kernel
theorem dX8_readPart_30 : decode cX8_readPart 30 = .ok (.getfield 184, 3) := by decide +kernel
theorem dX8_readPart_33 : decode cX8_readPart 33 = .ok (.iconst 1, 1) := by decide +kernel
theorem dX8_readPart_34 : decode cX8_readPart 34 = .ok (.if_icmp .ne 41, 3) := by decide +kernel
theorem dX8_readPart_37 : decode cX8_readPart 37 = .ok (.aload_n 0, 1) := by decide +kernel
theorem dX8_readPart_38 : decode cX8_readPart 38 = .ok (.aload_n 0, 1) := by decide +kernel
theorem dX8_readPart_39 : decode cX8_readPart 39 = .ok (.getfield 37, 3) := by decide +kernel
theorem dX8_readPart_42 : decode cX8_readPart 42 = .ok (.invokevirtual 247, 3) := by decide +kernel
theorem dX8_readPart_45 : decode cX8_readPart 45 = .ok (.istore_n 2, 1) := by decide +kernel
theorem dX8_readPart_46 : decode cX8_readPart 46 = .ok (.iload_n 2, 1) := by decide +kernel
theorem dX8_readPart_47 : decode cX8_readPart 47 = .ok (.iconst (-1), 1) := by decide +kernel
theorem dX8_readPart_48 : decode cX8_readPart 48 = .ok (.if_icmp .ne 8, 3) := by decide +kernel
theorem dX8_readPart_51 : decode cX8_readPart 51 = .ok (.aload_n 0, 1) := by decide +kernel
theorem dX8_readPart_52 : decode cX8_readPart 52 = .ok (.iconst 3, 1) := by decide +kernel
theorem dX8_readPart_53 : decode cX8_readPart 53 = .ok (.invokevirtual 231, 3) := by decide +kernel
theorem dX8_readPart_56 : decode cX8_readPart 56 = .ok (.aload_n 0, 1) := by decide +kernel
theorem dX8_readPart_57 : decode cX8_readPart 57 = .ok (.iconst (-1), 1) := by decide +kernel
theorem dX8_readPart_58 : decode cX8_readPart 58 = .ok (.iload_n 2, 1) := by decide +kernel
theorem dX8_readPart_59 : decode cX8_readPart 59 = .ok (.isub, 1) := by decide +kernel
theorem dX8_readPart_60 : decode cX8_readPart 60 = .ok (.invokevirtual 244, 3) := by decide +kernel
theorem dX8_readPart_63 : decode cX8_readPart 63 = .ok (.aload_n 0, 1) := by decide +kernel
theorem dX8_readPart_64 : decode cX8_readPart 64 = .ok (.getfield 210, 3) := by decide +kernel
theorem dX8_readPart_67 : decode cX8_readPart 67 = .ok (.ifCond .ne 7, 3) := by decide +kernel
theorem dX8_readPart_70 : decode cX8_readPart 70 = .ok (.aload_n 0, 1) := by decide +kernel
theorem dX8_readPart_71 : decode cX8_readPart 71 = .ok (.invokevirtual 235, 3) := by decide +kernel
theorem dX8_readPart_74 : decode cX8_readPart 74 = .ok (.return_, 1) := by decide +kernel
theorem dX8_readPart_75 : decode cX8_readPart 75 = .ok (.aload_n 0, 1) := by decide +kernel
theorem dX8_readPart_76 : decode cX8_readPart 76 = .ok (.bipush 40, 2) := by decide +kernel
theorem dX8_readPart_78 : decode cX8_readPart 78 = .ok (.invokevirtual 251, 3) := by decide +kernel
theorem dX8_readPart_81 : decode cX8_readPart 81 = .ok (.aload_n 0, 1) := by decide +kernel
theorem dX8_readPart_82 : decode cX8_readPart 82 = .ok (.iload_n 1, 1) := by decide +kernel
theorem dX8_readPart_83 : decode cX8_readPart 83 = .ok (.iconst 1, 1) := by decide +kernel
theorem dX8_readPart_84 : decode cX8_readPart 84 = .ok (.iadd, 1) := by decide +kernel
theorem dX8_readPart_85 : decode cX8_readPart 85 = .ok (.invokevirtual 254, 3) := by decide +kernel
theorem dX8_readPart_88 : decode cX8_readPart 88 = .ok (.aload_n 0, 1) := by decide +kernel
theorem dX8_readPart_89 : decode cX8_readPart 89 = .ok (.bipush 41, 2) := by decide +kernel
theorem dX8_readPart_91 : decode cX8_readPart 91 = .ok (.invokevirtual 251, 3) := by decide +kernel
theorem dX8_readPart_94 : decode cX8_readPart 94 = .ok (.return_, 1) := by decide +kernel
theorem dX8_readProduct_0 : decode cX8_readProduct 0 = .ok (.aload_n 0, 1) := by decide +kernel
theorem dX8_readProduct_1 : decode cX8_readProduct 1 = .ok (.iload_n 1, 1) := by decide +kernel
theorem dX8_readProduct_2 : decode cX8_readProduct 2 = .ok (.invokevirtual 257, 3) := by decide +kernel
theorem dX8_readProduct_5 : decode cX8_readProduct 5 = .ok (.aload_n 0, 1) := by decide +kernel
theorem dX8_readProduct_6 : decode cX8_readProduct 6 = .ok (.bipush 42, 2) := by decide +kernel
theorem dX8_readProduct_8 : decode cX8_readProduct 8 = .ok (.invokevirtual 228, 3) := by decide +kernel
theorem dX8_readProduct_11 : decode cX8_readProduct 11 = .ok (.ifCond .ne 12, 3) := by decide +kernel
theorem dX8_readProduct_14 : decode cX8_readProduct 14 = .ok (.aload_n 0, 1) := by decide +kernel
theorem dX8_readProduct_15 : decode cX8_readProduct 15 = .ok (.bipush 47, 2) := by decide +kernel
theorem dX8_readProduct_17 : decode cX8_readProduct 17 = .ok (.invokevirtual 228, 3) := by decide +kernel
theorem dX8_readProduct_20 : decode cX8_readProduct 20 = .ok (.ifCond .eq 37, 3) := by decide +kernel
theorem dX8_readProduct_23 : decode cX8_readProduct 23 = .ok (.aload_n 0, 1) := by decide +kernel
theorem dX8_readProduct_24 : decode cX8_readProduct 24 = .ok (.bipush 42, 2) := by decide +kernel
theorem dX8_readProduct_26 : decode cX8_readProduct 26 = .ok (.invokevirtual 228, 3) := by decide +kernel
theorem dX8_readProduct_29 : decode cX8_readProduct 29 = .ok (.ifCond .eq 8, 3) := by decide +kernel
theorem dX8_readProduct_32 : decode cX8_readProduct 32 = .ok (.bipush (-22), 2) := by decide +kernel
theorem dX8_readProduct_34 : decode cX8_readProduct 34 = .ok (.goto 5, 3) := by decide +kernel
theorem dX8_readProduct_37 : decode cX8_readProduct 37 = .ok (.bipush (-23), 2) := by decide +kernel
theorem dX8_readProduct_39 : decode cX8_readProduct 39 = .ok (.istore_n 2, 1) := by decide +kernel
theorem dX8_readProduct_40 : decode cX8_readProduct 40 = .ok (.aload_n 0, 1) := by decide +kernel
theorem dX8_readProduct_41 : decode cX8_readProduct 41 = .ok (.invokevirtual 235, 3) := by decide +kernel
theorem dX8_readProduct_44 : decode cX8_readProduct 44 = .ok (.aload_n 0, 1) := by decide +kernel
theorem dX8_readProduct_45 : decode cX8_readProduct 45 = .ok (.iload_n 1, 1) := by decide +kernel
theorem dX8_readProduct_46 : decode cX8_readProduct 46 = .ok (.invokevirtual 257, 3) := by decide +kernel
theorem dX8_readProduct_49 : decode cX8_readProduct 49 = .ok (.aload_n 0, 1) := by decide +kernel
theorem dX8_readProduct_50 : decode cX8_readProduct 50 = .ok (.iload_n 2, 1) := by decide +kernel
theorem dX8_readProduct_51 : decode cX8_readProduct 51 = .ok (.invokevirtual 244, 3) := by decide +kernel
theorem dX8_readProduct_54 : decode cX8_readProduct 54 = .ok (.goto (-49), 3) := by decide +kernel
theorem dX8_readProduct_57 : decode cX8_readProduct 57 = .ok (.return_, 1) := by decide +kernel
theorem dX8_readSum_0 : decode cX8_readSum 0 = .ok (.aload_n 0, 1) := by decide +kernel
theorem dX8_readSum_1 : decode cX8_readSum 1 = .ok (.iload_n 1, 1) := by decide +kernel
theorem dX8_readSum_2 : decode cX8_readSum 2 = .ok (.invokevirtual 260, 3) := by decide +kernel
theorem dX8_readSum_5 : decode cX8_readSum 5 = .ok (.aload_n 0, 1) := by decide +kernel
theorem dX8_readSum_6 : decode cX8_readSum 6 = .ok (.bipush 43, 2) := by decide +kernel
theorem dX8_readSum_8 : decode cX8_readSum 8 = .ok (.invokevirtual 228, 3) := by decide +kernel
theorem dX8_readSum_11 : decode cX8_readSum 11 = .ok (.ifCond .ne 12, 3) := by decide +kernel
theorem dX8_readSum_14 : decode cX8_readSum 14 = .ok (.aload_n 0, 1) := by decide +kernel
theorem dX8_readSum_15 : decode cX8_readSum 15 = .ok (.bipush 45, 2) := by decide +kernel
theorem dX8_readSum_17 : decode cX8_readSum 17 = .ok (.invokevirtual 228, 3) := by decide +kernel
theorem dX8_readSum_20 : decode cX8_readSum 20 = .ok (.ifCond .eq 37, 3) := by decide +kernel
theorem dX8_readSum_23 : decode cX8_readSum 23 = .ok (.aload_n 0, 1) := by decide +kernel
theorem dX8_readSum_24 : decode cX8_readSum 24 = .ok (.bipush 43, 2) := by decide +kernel
theorem dX8_readSum_26 : decode cX8_readSum 26 = .ok (.invokevirtual 228, 3) := by decide +kernel
theorem dX8_readSum_29 : decode cX8_readSum 29 = .ok (.ifCond .eq 8, 3) := by decide +kernel
theorem dX8_readSum_32 : decode cX8_readSum 32 = .ok (.bipush (-20), 2) := by decide +kernel
theorem dX8_readSum_34 : decode cX8_readSum 34 = .ok (.goto 5, 3) := by decide +kernel
theorem dX8_readSum_37 : decode cX8_readSum 37 = .ok (.bipush (-21), 2) := by decide +kernel
theorem dX8_readSum_39 : decode cX8_readSum 39 = .ok (.istore_n 2, 1) := by decide +kernel
theorem dX8_readSum_40 : decode cX8_readSum 40 = .ok (.aload_n 0, 1) := by decide +kernel
theorem dX8_readSum_41 : decode cX8_readSum 41 = .ok (.invokevirtual 235, 3) := by decide +kernel
theorem dX8_readSum_44 : decode cX8_readSum 44 = .ok (.aload_n 0, 1) := by decide +kernel
theorem dX8_readSum_45 : decode cX8_readSum 45 = .ok (.iload_n 1, 1) := by decide +kernel
theorem dX8_readSum_46 : decode cX8_readSum 46 = .ok (.invokevirtual 260, 3) := by decide +kernel
theorem dX8_readSum_49 : decode cX8_readSum 49 = .ok (.aload_n 0, 1) := by decide +kernel
theorem dX8_readSum_50 : decode cX8_readSum 50 = .ok (.iload_n 2, 1) := by decide +kernel
theorem dX8_readSum_51 : decode cX8_readSum 51 = .ok (.invokevirtual 244, 3) := by decide +kernel
theorem dX8_readSum_54 : decode cX8_readSum 54 = .ok (.goto (-49), 3) := by decide +kernel
theorem dX8_readSum_57 : decode cX8_readSum 57 = .ok (.return_, 1) := by decide +kernel
theorem dX8_readNot_0 : decode cX8_readNot 0 = .ok (.iconst 0, 1) := by decide +kernel
theorem dX8_readNot_1 : decode cX8_readNot 1 = .ok (.istore_n 2, 1) := by decide +kernel
theorem dX8_readNot_2 : decode cX8_readNot 2 = .ok (.aload_n 0, 1) := by decide +kernel
theorem dX8_readNot_3 : decode cX8_readNot 3 = .ok (.ldc_w 263, 3) := by decide +kernel
theorem dX8_readNot_6 : decode cX8_readNot 6 = .ok (.invokevirtual 224, 3) := by decide +kernel
theorem dX8_readNot_9 : decode cX8_readNot 9 = .ok (.ifCond .eq 31, 3) := by decide +kernel
theorem dX8_readNot_12 : decode cX8_readNot 12 = .ok (.iload_n 2, 1) := by decide +kernel
theorem dX8_readNot_13 : decode cX8_readNot 13 = .ok (.bipush 6, 2) := by decide +kernel
theorem dX8_readNot_15 : decode cX8_readNot 15 = .ok (.if_icmp .ne 8, 3) := by decide +kernel
theorem dX8_readNot_18 : decode cX8_readNot 18 = .ok (.aload_n 0, 1) := by decide +kernel
theorem dX8_readNot_19 : decode cX8_readNot 19 = .ok (.iconst 2, 1) := by decide +kernel
theorem dX8_readNot_20 : decode cX8_readNot 20 = .ok (.invokevirtual 231, 3) := by decide +kernel
theorem dX8_readNot_23 : decode cX8_readNot 23 = .ok (.iinc 2 1, 3) := by decide +kernel
theorem dX8_readNot_26 : decode cX8_readNot 26 = .ok (.aload_n 0, 1) := by decide +kernel
theorem dX8_readNot_27 : decode cX8_readNot 27 = .ok (.getfield 210, 3) := by decide +kernel
theorem dX8_readNot_30 : decode cX8_readNot 30 = .ok (.ifCond .ne (-28), 3) := by decide +kernel
theorem dX8_readNot_33 : decode cX8_readNot 33 = .ok (.aload_n 0, 1) := by decide +kernel
theorem dX8_readNot_34 : decode cX8_readNot 34 = .ok (.invokevirtual 235, 3) := by decide +kernel
theorem dX8_readNot_37 : decode cX8_readNot 37 = .ok (.goto (-35), 3) := by decide +kernel
theorem dX8_readNot_40 : decode cX8_readNot 40 = .ok (.aload_n 0, 1) := by decide +kernel
theorem dX8_readNot_41 : decode cX8_readNot 41 = .ok (.iload_n 1, 1) := by decide +kernel
theorem dX8_readNot_42 : decode cX8_readNot 42 = .ok (.invokevirtual 265, 3) := by decide +kernel
theorem dX8_readNot_45 : decode cX8_readNot 45 = .ok (.aload_n 0, 1) := by decide +kernel
theorem dX8_readNot_46 : decode cX8_readNot 46 = .ok (.bipush 60, 2) := by decide +kernel
theorem dX8_readNot_48 : decode cX8_readNot 48 = .ok (.invokevirtual 228, 3) := by decide +kernel
theorem dX8_readNot_51 : decode cX8_readNot 51 = .ok (.ifCond .ne 12, 3) := by decide +kernel
theorem dX8_readNot_54 : decode cX8_readNot 54 = .ok (.aload_n 0, 1) := by decide +kernel
theorem dX8_readNot_55 : decode cX8_readNot 55 = .ok (.bipush 61, 2) := by decide +kernel
theorem dX8_readNot_57 : decode cX8_readNot 57 = .ok (.invokevirtual 228, 3) := by decide +kernel
theorem dX8_readNot_60 : decode cX8_readNot 60 = .ok (.ifCond .eq 34, 3) := by decide +kernel
theorem dX8_readNot_63 : decode cX8_readNot 63 = .ok (.aload_n 0, 1) := by decide +kernel
theorem dX8_readNot_64 : decode cX8_readNot 64 = .ok (.bipush 60, 2) := by decide +kernel
theorem dX8_readNot_66 : decode cX8_readNot 66 = .ok (.invokevirtual 228, 3) := by decide +kernel
theorem dX8_readNot_69 : decode cX8_readNot 69 = .ok (.ifCond .eq 8, 3) := by decide +kernel
theorem dX8_readNot_72 : decode cX8_readNot 72 = .ok (.bipush (-24), 2) := by decide +kernel
theorem dX8_readNot_74 : decode cX8_readNot 74 = .ok (.goto 5, 3) := by decide +kernel
theorem dX8_readNot_77 : decode cX8_readNot 77 = .ok (.bipush (-25), 2) := by decide +kernel
theorem dX8_readNot_79 : decode cX8_readNot 79 = .ok (.istore_n 3, 1) := by decide +kernel
theorem dX8_readNot_80 : decode cX8_readNot 80 = .ok (.aload_n 0, 1) := by decide +kernel
theorem dX8_readNot_81 : decode cX8_readNot 81 = .ok (.invokevirtual 235, 3) := by decide +kernel
theorem dX8_readNot_84 : decode cX8_readNot 84 = .ok (.aload_n 0, 1) := by decide +kernel
theorem dX8_readNot_85 : decode cX8_readNot 85 = .ok (.iload_n 1, 1) := by decide +kernel
theorem dX8_readNot_86 : decode cX8_readNot 86 = .ok (.invokevirtual 265, 3) := by decide +kernel
theorem dX8_readNot_89 : decode cX8_readNot 89 = .ok (.aload_n 0, 1) := by decide +kernel
theorem dX8_readNot_90 : decode cX8_readNot 90 = .ok (.iload_n 3, 1) := by decide +kernel
theorem dX8_readNot_91 : decode cX8_readNot 91 = .ok (.invokevirtual 244, 3) := by decide +kernel
theorem dX8_readNot_94 : decode cX8_readNot 94 = .ok (.iconst 0, 1) := by decide +kernel
theorem dX8_readNot_95 : decode cX8_readNot 95 = .ok (.istore_n 3, 1) := by decide +kernel
theorem dX8_readNot_96 : decode cX8_readNot 96 = .ok (.iload_n 3, 1) := by decide +kernel
theorem dX8_readNot_97 : decode cX8_readNot 97 = .ok (.iload_n 2, 1) := by decide +kernel
theorem dX8_readNot_98 : decode cX8_readNot 98 = .ok (.if_icmp .ge 15, 3) := by decide +kernel
theorem dX8_readNot_101 : decode cX8_readNot 101 = .ok (.aload_n 0, 1) := by decide +kernel
theorem dX8_readNot_102 : decode cX8_readNot 102 = .ok (.bipush (-28), 2) := by decide +kernel
theorem dX8_readNot_104 : decode cX8_readNot 104 = .ok (.invokevirtual 244, 3) := by decide +kernel
theorem dX8_readNot_107 : decode cX8_readNot 107 = .ok (.iinc 3 1, 3) := by decide +kernel
theorem dX8_readNot_110 : decode cX8_readNot 110 = .ok (.goto (-14), 3) := by decide +kernel
theorem dX8_readNot_113 : decode cX8_readNot 113 = .ok (.return_, 1) := by decide +kernel
theorem dX8_readAnd_0 : decode cX8_readAnd 0 = .ok (.aload_n 0, 1) := by decide +kernel
theorem dX8_readAnd_1 : decode cX8_readAnd 1 = .ok (.iload_n 1, 1) := by decide +kernel
theorem dX8_readAnd_2 : decode cX8_readAnd 2 = .ok (.invokevirtual 268, 3) := by decide +kernel
theorem dX8_readAnd_5 : decode cX8_readAnd 5 = .ok (.aload_n 0, 1) := by decide +kernel
theorem dX8_readAnd_6 : decode cX8_readAnd 6 = .ok (.ldc_w 271, 3) := by decide +kernel
theorem dX8_readAnd_9 : decode cX8_readAnd 9 = .ok (.invokevirtual 224, 3) := by decide +kernel
theorem dX8_readAnd_12 : decode cX8_readAnd 12 = .ok (.ifCond .eq 21, 3) := by decide +kernel
theorem dX8_readAnd_15 : decode cX8_readAnd 15 = .ok (.aload_n 0, 1) := by decide +kernel
theorem dX8_readAnd_16 : decode cX8_readAnd 16 = .ok (.invokevirtual 235, 3) := by decide +kernel
theorem dX8_readAnd_19 : decode cX8_readAnd 19 = .ok (.aload_n 0, 1) := by decide +kernel
theorem dX8_readAnd_20 : decode cX8_readAnd 20 = .ok (.iload_n 1, 1) := by decide +kernel
theorem dX8_readAnd_21 : decode cX8_readAnd 21 = .ok (.invokevirtual 268, 3) := by decide +kernel
theorem dX8_readAnd_24 : decode cX8_readAnd 24 = .ok (.aload_n 0, 1) := by decide +kernel
theorem dX8_readAnd_25 : decode cX8_readAnd 25 = .ok (.bipush (-26), 2) := by decide +kernel
theorem dX8_readAnd_27 : decode cX8_readAnd 27 = .ok (.invokevirtual 244, 3) := by decide +kernel
theorem dX8_readAnd_30 : decode cX8_readAnd 30 = .ok (.goto (-25), 3) := by decide +kernel
theorem dX8_readAnd_33 : decode cX8_readAnd 33 = .ok (.return_, 1) := by decide +kernel
theorem dX8_readExpression_0 : decode cX8_readExpression 0 = .ok (.aload_n 0, 1) := by decide +kernel
theorem dX8_readExpression_1 : decode cX8_readExpression 1 = .ok (.getfield 210, 3) := by decide +kernel
theorem dX8_readExpression_4 : decode cX8_readExpression 4 = .ok (.ifCond .eq 4, 3) := by decide +kernel
theorem dX8_readExpression_7 : decode cX8_readExpression 7 = .ok (.return_, 1) := by decide +kernel
theorem dX8_readExpression_8 : decode cX8_readExpression 8 = .ok (.aload_n 0, 1) := by decide +kernel
theorem dX8_readExpression_9 : decode cX8_readExpression 9 = .ok (.getfield 184, 3) := by decide +kernel
theorem dX8_readExpression_12 : decode cX8_readExpression 12 = .ok (.iconst 2, 1) := by decide +kernel
theorem dX8_readExpression_13 : decode cX8_readExpression 13 = .ok (.if_icmp .eq 20, 3) := by decide +kernel
theorem dX8_readExpression_16 : decode cX8_readExpression 16 = .ok (.aload_n 0, 1) := by decide +kernel
theorem dX8_readExpression_17 : decode cX8_readExpression 17 = .ok (.getfield 184, 3) := by decide +kernel
theorem dX8_readExpression_20 : decode cX8_readExpression 20 = .ok (.iconst 1, 1) := by decide +kernel
theorem dX8_readExpression_21 : decode cX8_readExpression 21 = .ok (.if_icmp .eq 12, 3) := by decide +kernel
theorem dX8_readExpression_24 : decode cX8_readExpression 24 = .ok (.aload_n 0, 1) := by decide +kernel
theorem dX8_readExpression_25 : decode cX8_readExpression 25 = .ok (.bipush 40, 2) := by decide +kernel
theorem dX8_readExpression_27 : decode cX8_readExpression 27 = .ok (.invokevirtual 228, 3) := by decide +kernel
theorem dX8_readExpression_30 : decode cX8_readExpression 30 = .ok (.ifCond .eq 7, 3) := by decide +kernel
theorem dX8_readExpression_33 : decode cX8_readExpression 33 = .ok (.iconst 1, 1) := by decide +kernel
theorem dX8_readExpression_34 : decode cX8_readExpression 34 = .ok (.goto 4, 3) := by decide +kernel
theorem dX8_readExpression_37 : decode cX8_readExpression 37 = .ok (.iconst 0, 1) := by decide +kernel
theorem dX8_readExpression_38 : decode cX8_readExpression 38 = .ok (.istore_n 2, 1) := by decide +kernel
theorem dX8_readExpression_39 : decode cX8_readExpression 39 = .ok (.iload_n 2, 1) := by decide +kernel
theorem dX8_readExpression_40 : decode cX8_readExpression 40 = .ok (.ifCond .ne 11, 3) := by decide +kernel
theorem dX8_readExpression_43 : decode cX8_readExpression 43 = .ok (.aload_n 0, 1) := by decide +kernel
theorem dX8_readExpression_44 : decode cX8_readExpression 44 = .ok (.iconst 1, 1) := by decide +kernel
theorem dX8_readExpression_45 : decode cX8_readExpression 45 = .ok (.invokevirtual 231, 3) := by decide +kernel
theorem dX8_readExpression_48 : decode cX8_readExpression 48 = .ok (.goto 14, 3) := by decide +kernel
theorem dX8_readExpression_51 : decode cX8_readExpression 51 = .ok (.iload_n 1, 1) := by decide +kernel
theorem dX8_readExpression_52 : decode cX8_readExpression 52 = .ok (.bipush 6, 2) := by decide +kernel
theorem dX8_readExpression_54 : decode cX8_readExpression 54 = .ok (.if_icmp .ne 8, 3) := by decide +kernel
theorem dX8_readExpression_57 : decode cX8_readExpression 57 = .ok (.aload_n 0, 1) := by decide +kernel
theorem dX8_readExpression_58 : decode cX8_readExpression 58 = .ok (.iconst 2, 1) := by decide +kernel
theorem dX8_readExpression_59 : decode cX8_readExpression 59 = .ok (.invokevirtual 231, 3) := by decide +kernel
theorem dX8_readExpression_62 : decode cX8_readExpression 62 = .ok (.aload_n 0, 1) := by decide +kernel
theorem dX8_readExpression_63 : decode cX8_readExpression 63 = .ok (.iload_n 1, 1) := by decide +kernel
theorem dX8_readExpression_64 : decode cX8_readExpression 64 = .ok (.invokevirtual 273, 3) := by decide +kernel
theorem dX8_readExpression_67 : decode cX8_readExpression 67 = .ok (.aload_n 0, 1) := by decide +kernel
theorem dX8_readExpression_68 : decode cX8_readExpression 68 = .ok (.ldc_w 276, 3) := by decide +kernel
theorem dX8_readExpression_71 : decode cX8_readExpression 71 = .ok (.invokevirtual 224, 3) := by decide +kernel
theorem dX8_readExpression_74 : decode cX8_readExpression 74 = .ok (.ifCond .eq 21, 3) := by decide +kernel
theorem dX8_readExpression_77 : decode cX8_readExpression 77 = .ok (.aload_n 0, 1) := by decide +kernel
theorem dX8_readExpression_78 : decode cX8_readExpression 78 = .ok (.invokevirtual 235, 3) := by decide +kernel
theorem dX8_readExpression_81 : decode cX8_readExpression 81 = .ok (.aload_n 0, 1) := by decide +kernel
theorem dX8_readExpression_82 : decode cX8_readExpression 82 = .ok (.iload_n 1, 1) := by decide +kernel
theorem dX8_readExpression_83 : decode cX8_readExpression 83 = .ok (.invokevirtual 273, 3) := by decide +kernel
theorem dX8_readExpression_86 : decode cX8_readExpression 86 = .ok (.aload_n 0, 1) := by decide +kernel
theorem dX8_readExpression_87 : decode cX8_readExpression 87 = .ok (.bipush (-27), 2) := by decide +kernel
theorem dX8_readExpression_89 : decode cX8_readExpression 89 = .ok (.invokevirtual 244, 3) := by decide +kernel
theorem dX8_readExpression_92 : decode cX8_readExpression 92 = .ok (.goto (-25), 3) := by decide +kernel
theorem dX8_readExpression_95 : decode cX8_readExpression 95 = .ok (.return_, 1) := by decide +kernel
theorem dX8_another_0 : decode cX8_another 0 = .ok (.aload_n 0, 1) := by decide +kernel
theorem dX8_another_1 : decode cX8_another 1 = .ok (.getfield 40, 3) := by decide +kernel
theorem dX8_another_4 : decode cX8_another 4 = .ok (.bipush 9, 2) := by decide +kernel
theorem dX8_another_6 : decode cX8_another 6 = .ok (.iload_n 1, 1) := by decide +kernel
theorem dX8_another_7 : decode cX8_another 7 = .ok (.iadd, 1) := by decide +kernel
theorem dX8_another_8 : decode cX8_another 8 = .ok (.iaload, 1) := by decide +kernel
theorem dX8_another_9 : decode cX8_another 9 = .ok (.iload_n 2, 1) := by decide +kernel
theorem dX8_another_10 : decode cX8_another 10 = .ok (.if_icmp .ne 8, 3) := by decide +kernel
theorem dX8_another_13 : decode cX8_another 13 = .ok (.aload_n 0, 1) := by decide +kernel
theorem dX8_another_14 : decode cX8_another 14 = .ok (.iconst 2, 1) := by decide +kernel
theorem dX8_another_15 : decode cX8_another 15 = .ok (.invokevirtual 231, 3) := by decide +kernel
theorem dX8_another_18 : decode cX8_another 18 = .ok (.aload_n 0, 1) := by decide +kernel
theorem dX8_another_19 : decode cX8_another 19 = .ok (.getfield 210, 3) := by decide +kernel
theorem dX8_another_22 : decode cX8_another 22 = .ok (.ifCond .eq 5, 3) := by decide +kernel
theorem dX8_another_25 : decode cX8_another 25 = .ok (.iconst 0, 1) := by decide +kernel
theorem dX8_another_26 : decode cX8_another 26 = .ok (.ireturn, 1) := by decide +kernel
theorem dX8_another_27 : decode cX8_another 27 = .ok (.aload_n 0, 1) := by decide +kernel
theorem dX8_another_28 : decode cX8_another 28 = .ok (.invokevirtual 235, 3) := by decide +kernel
theorem dX8_another_31 : decode cX8_another 31 = .ok (.iconst 1, 1) := by decide +kernel
theorem dX8_another_32 : decode cX8_another 32 = .ok (.ireturn, 1) := by decide +kernel
theorem dX8_readAisle_0 : decode cX8_readAisle 0 = .ok (.aload_n 0, 1) := by decide +kernel
theorem dX8_readAisle_1 : decode cX8_readAisle 1 = .ok (.iconst 0, 1) := by decide +kernel
theorem dX8_readAisle_2 : decode cX8_readAisle 2 = .ok (.bipush 10, 2) := by decide +kernel
theorem dX8_readAisle_4 : decode cX8_readAisle 4 = .ok (.invokevirtual 278, 3) := by decide +kernel
theorem dX8_readAisle_7 : decode cX8_readAisle 7 = .ok (.ifCond .ne 4, 3) := by decide +kernel
theorem dX8_readAisle_10 : decode cX8_readAisle 10 = .ok (.return_, 1) := by decide +kernel
theorem dX8_readAisle_11 : decode cX8_readAisle 11 = .ok (.bipush 10, 2) := by decide +kernel
theorem dX8_readAisle_13 : decode cX8_readAisle 13 = .ok (.aload_n 0, 1) := by decide +kernel
theorem dX8_readAisle_14 : decode cX8_readAisle 14 = .ok (.getfield 40, 3) := by decide +kernel
theorem dX8_readAisle_17 : decode cX8_readAisle 17 = .ok (.bipush 9, 2) := by decide +kernel
theorem dX8_readAisle_19 : decode cX8_readAisle 19 = .ok (.iaload, 1) := by decide +kernel
theorem dX8_readAisle_20 : decode cX8_readAisle 20 = .ok (.iadd, 1) := by decide +kernel
theorem dX8_readAisle_21 : decode cX8_readAisle 21 = .ok (.istore_n 1, 1) := by decide +kernel
theorem dX8_readAisle_22 : decode cX8_readAisle 22 = .ok (.aload_n 0, 1) := by decide +kernel
theorem dX8_readAisle_23 : decode cX8_readAisle 23 = .ok (.getfield 44, 3) := by decide +kernel
theorem dX8_readAisle_26 : decode cX8_readAisle 26 = .ok (.iload_n 1, 1) := by decide +kernel
theorem dX8_readAisle_27 : decode cX8_readAisle 27 = .ok (.aload_n 0, 1) := by decide +kernel
theorem dX8_readAisle_28 : decode cX8_readAisle 28 = .ok (.iconst 0, 1) := by decide +kernel
theorem dX8_readAisle_29 : decode cX8_readAisle 29 = .ok (.sipush 999, 3) := by decide +kernel
theorem dX8_readAisle_32 : decode cX8_readAisle 32 = .ok (.invokevirtual 241, 3) := by decide +kernel
theorem dX8_readAisle_35 : decode cX8_readAisle 35 = .ok (.iastore, 1) := by decide +kernel
theorem dX8_readAisle_36 : decode cX8_readAisle 36 = .ok (.aload_n 0, 1) := by decide +kernel
theorem dX8_readAisle_37 : decode cX8_readAisle 37 = .ok (.getfield 46, 3) := by decide +kernel
theorem dX8_readAisle_40 : decode cX8_readAisle 40 = .ok (.iload_n 1, 1) := by decide +kernel
theorem dX8_readAisle_41 : decode cX8_readAisle 41 = .ok (.aload_n 0, 1) := by decide +kernel
theorem dX8_readAisle_42 : decode cX8_readAisle 42 = .ok (.iconst 0, 1) := by decide +kernel
theorem dX8_readAisle_43 : decode cX8_readAisle 43 = .ok (.bipush 99, 2) := by decide +kernel
theorem dX8_readAisle_45 : decode cX8_readAisle 45 = .ok (.invokevirtual 241, 3) := by decide +kernel
theorem dX8_readAisle_48 : decode cX8_readAisle 48 = .ok (.iastore, 1) := by decide +kernel
theorem dX8_readAisle_49 : decode cX8_readAisle 49 = .ok (.aload_n 0, 1) := by decide +kernel
theorem dX8_readAisle_50 : decode cX8_readAisle 50 = .ok (.getfield 49, 3) := by decide +kernel
theorem dX8_readAisle_53 : decode cX8_readAisle 53 = .ok (.iload_n 1, 1) := by decide +kernel
theorem dX8_readAisle_54 : decode cX8_readAisle 54 = .ok (.iconst 0, 1) := by decide +kernel
theorem dX8_readAisle_55 : decode cX8_readAisle 55 = .ok (.iastore, 1) := by decide +kernel
theorem dX8_readAisle_56 : decode cX8_readAisle 56 = .ok (.aload_n 0, 1) := by decide +kernel
theorem dX8_readAisle_57 : decode cX8_readAisle 57 = .ok (.getfield 52, 3) := by decide +kernel
theorem dX8_readAisle_60 : decode cX8_readAisle 60 = .ok (.iload_n 1, 1) := by decide +kernel
theorem dX8_readAisle_61 : decode cX8_readAisle 61 = .ok (.iconst 0, 1) := by decide +kernel
theorem dX8_readAisle_62 : decode cX8_readAisle 62 = .ok (.iastore, 1) := by decide +kernel
theorem dX8_readAisle_63 : decode cX8_readAisle 63 = .ok (.aload_n 0, 1) := by decide +kernel
theorem dX8_readAisle_64 : decode cX8_readAisle 64 = .ok (.getfield 40, 3) := by decide +kernel
theorem dX8_readAisle_67 : decode cX8_readAisle 67 = .ok (.bipush 9, 2) := by decide +kernel
theorem dX8_readAisle_69 : decode cX8_readAisle 69 = .ok (.dup2, 1) := by decide +kernel
theorem dX8_readAisle_70 : decode cX8_readAisle 70 = .ok (.iaload, 1) := by decide +kernel
theorem dX8_readAisle_71 : decode cX8_readAisle 71 = .ok (.iconst 1, 1) := by decide +kernel
theorem dX8_readAisle_72 : decode cX8_readAisle 72 = .ok (.iadd, 1) := by decide +kernel
theorem dX8_readAisle_73 : decode cX8_readAisle 73 = .ok (.iastore, 1) := by decide +kernel
theorem dX8_readAisle_74 : decode cX8_readAisle 74 = .ok (.return_, 1) := by decide +kernel
theorem dX8_readTwo_0 : decode cX8_readTwo 0 = .ok (.aload_n 0, 1) := by decide +kernel
theorem dX8_readTwo_1 : decode cX8_readTwo 1 = .ok (.iload_n 1, 1) := by decide +kernel
theorem dX8_readTwo_2 : decode cX8_readTwo 2 = .ok (.iload_n 1, 1) := by decide +kernel
theorem dX8_readTwo_3 : decode cX8_readTwo 3 = .ok (.iconst 1, 1) := by decide +kernel
theorem dX8_readTwo_4 : decode cX8_readTwo 4 = .ok (.if_icmp .ne 8, 3) := by decide +kernel
theorem dX8_readTwo_7 : decode cX8_readTwo 7 = .ok (.bipush 16, 2) := by decide +kernel
theorem dX8_readTwo_9 : decode cX8_readTwo 9 = .ok (.goto 5, 3) := by decide +kernel
theorem dX8_readTwo_12 : decode cX8_readTwo 12 = .ok (.bipush 6, 2) := by decide +kernel
theorem dX8_readTwo_14 : decode cX8_readTwo 14 = .ok (.invokevirtual 278, 3) := by decide +kernel
theorem dX8_readTwo_17 : decode cX8_readTwo 17 = .ok (.ifCond .ne 4, 3) := by decide +kernel
theorem dX8_readTwo_20 : decode cX8_readTwo 20 = .ok (.return_, 1) := by decide +kernel
theorem dX8_readTwo_21 : decode cX8_readTwo 21 = .ok (.aload_n 0, 1) := by decide +kernel
theorem dX8_readTwo_22 : decode cX8_readTwo 22 = .ok (.invokevirtual 282, 3) := by decide +kernel
theorem dX8_readTwo_25 : decode cX8_readTwo 25 = .ok (.istore_n 2, 1) := by decide +kernel
theorem dX8_readTwo_26 : decode cX8_readTwo 26 = .ok (.aload_n 0, 1) := by decide +kernel
theorem dX8_readTwo_27 : decode cX8_readTwo 27 = .ok (.getfield 210, 3) := by decide +kernel
theorem dX8_readTwo_30 : decode cX8_readTwo 30 = .ok (.ifCond .ne 7, 3) := by decide +kernel
theorem dX8_readTwo_33 : decode cX8_readTwo 33 = .ok (.aload_n 0, 1) := by decide +kernel
theorem dX8_readTwo_34 : decode cX8_readTwo 34 = .ok (.invokevirtual 235, 3) := by decide +kernel
theorem dX8_readTwo_37 : decode cX8_readTwo 37 = .ok (.aload_n 0, 1) := by decide +kernel
theorem dX8_readTwo_38 : decode cX8_readTwo 38 = .ok (.invokevirtual 282, 3) := by decide +kernel
theorem dX8_readTwo_41 : decode cX8_readTwo 41 = .ok (.istore_n 3, 1) := by decide +kernel
theorem dX8_readTwo_42 : decode cX8_readTwo 42 = .ok (.iload_n 1, 1) := by decide +kernel
theorem dX8_readTwo_43 : decode cX8_readTwo 43 = .ok (.iconst 1, 1) := by decide +kernel
theorem dX8_readTwo_44 : decode cX8_readTwo 44 = .ok (.if_icmp .ne 15, 3) := by decide +kernel
theorem dX8_readTwo_47 : decode cX8_readTwo 47 = .ok (.aload_n 0, 1) := by decide +kernel
theorem dX8_readTwo_48 : decode cX8_readTwo 48 = .ok (.getfield 49, 3) := by decide +kernel
theorem dX8_readTwo_51 : decode cX8_readTwo 51 = .ok (.bipush 10, 2) := by decide +kernel
theorem dX8_readTwo_53 : decode cX8_readTwo 53 = .ok (.iload_n 2, 1) := by decide +kernel
theorem dX8_readTwo_54 : decode cX8_readTwo 54 = .ok (.iadd, 1) := by decide +kernel
theorem dX8_readTwo_55 : decode cX8_readTwo 55 = .ok (.iaload, 1) := by decide +kernel
theorem dX8_readTwo_56 : decode cX8_readTwo 56 = .ok (.goto 12, 3) := by decide +kernel
theorem dX8_readTwo_59 : decode cX8_readTwo 59 = .ok (.aload_n 0, 1) := by decide +kernel
theorem dX8_readTwo_60 : decode cX8_readTwo 60 = .ok (.getfield 52, 3) := by decide +kernel
theorem dX8_readTwo_63 : decode cX8_readTwo 63 = .ok (.bipush 10, 2) := by decide +kernel
theorem dX8_readTwo_65 : decode cX8_readTwo 65 = .ok (.iload_n 2, 1) := by decide +kernel
theorem dX8_readTwo_66 : decode cX8_readTwo 66 = .ok (.iadd, 1) := by decide +kernel
theorem dX8_readTwo_67 : decode cX8_readTwo 67 = .ok (.iaload, 1) := by decide +kernel
theorem dX8_readTwo_68 : decode cX8_readTwo 68 = .ok (.istore 4, 2) := by decide +kernel
theorem dX8_readTwo_70 : decode cX8_readTwo 70 = .ok (.aload_n 0, 1) := by decide +kernel
theorem dX8_readTwo_71 : decode cX8_readTwo 71 = .ok (.getfield 210, 3) := by decide +kernel
theorem dX8_readTwo_74 : decode cX8_readTwo 74 = .ok (.ifCond .ne 23, 3) := by decide +kernel
theorem dX8_readTwo_77 : decode cX8_readTwo 77 = .ok (.iload_n 2, 1) := by decide +kernel
theorem dX8_readTwo_78 : decode cX8_readTwo 78 = .ok (.iload_n 3, 1) := by decide +kernel
theorem dX8_readTwo_79 : decode cX8_readTwo 79 = .ok (.if_icmp .eq 13, 3) := by decide +kernel
theorem dX8_readTwo_82 : decode cX8_readTwo 82 = .ok (.iload 4, 2) := by decide +kernel
theorem dX8_readTwo_84 : decode cX8_readTwo 84 = .ok (.iload_n 3, 1) := by decide +kernel
theorem dX8_readTwo_85 : decode cX8_readTwo 85 = .ok (.ishr, 1) := by decide +kernel
theorem dX8_readTwo_86 : decode cX8_readTwo 86 = .ok (.iconst 1, 1) := by decide +kernel
theorem dX8_readTwo_87 : decode cX8_readTwo 87 = .ok (.iand, 1) := by decide +kernel
theorem dX8_readTwo_88 : decode cX8_readTwo 88 = .ok (.iconst 1, 1) := by decide +kernel
theorem dX8_readTwo_89 : decode cX8_readTwo 89 = .ok (.if_icmp .ne 8, 3) := by decide +kernel
theorem dX8_readTwo_92 : decode cX8_readTwo 92 = .ok (.aload_n 0, 1) := by decide +kernel
theorem dX8_readTwo_93 : decode cX8_readTwo 93 = .ok (.iconst 4, 1) := by decide +kernel
theorem dX8_readTwo_94 : decode cX8_readTwo 94 = .ok (.invokevirtual 231, 3) := by decide +kernel
theorem dX8_readTwo_97 : decode cX8_readTwo 97 = .ok (.aload_n 0, 1) := by decide +kernel
theorem dX8_readTwo_98 : decode cX8_readTwo 98 = .ok (.getfield 210, 3) := by decide +kernel
theorem dX8_readTwo_101 : decode cX8_readTwo 101 = .ok (.ifCond .eq 4, 3) := by decide +kernel
theorem dX8_readTwo_104 : decode cX8_readTwo 104 = .ok (.return_, 1) := by decide +kernel
theorem dX8_readTwo_105 : decode cX8_readTwo 105 = .ok (.aload_n 0, 1) := by decide +kernel
theorem dX8_readTwo_106 : decode cX8_readTwo 106 = .ok (.invokevirtual 235, 3) := by decide +kernel
theorem dX8_readTwo_109 : decode cX8_readTwo 109 = .ok (.iload_n 1, 1) := by decide +kernel
theorem dX8_readTwo_110 : decode cX8_readTwo 110 = .ok (.iconst 1, 1) := by decide +kernel
theorem dX8_readTwo_111 : decode cX8_readTwo 111 = .ok (.if_icmp .ne 36, 3) := by decide +kernel
theorem dX8_readTwo_114 : decode cX8_readTwo 114 = .ok (.aload_n 0, 1) := by decide +kernel
theorem dX8_readTwo_115 : decode cX8_readTwo 115 = .ok (.getfield 49, 3) := by decide +kernel
theorem dX8_readTwo_118 : decode cX8_readTwo 118 = .ok (.bipush 10, 2) := by decide +kernel
theorem dX8_readTwo_120 : decode cX8_readTwo 120 = .ok (.iload_n 2, 1) := by decide +kernel
theorem dX8_readTwo_121 : decode cX8_readTwo 121 = .ok (.iadd, 1) := by decide +kernel
theorem dX8_readTwo_122 : decode cX8_readTwo 122 = .ok (.dup2, 1) := by decide +kernel
theorem dX8_readTwo_123 : decode cX8_readTwo 123 = .ok (.iaload, 1) := by decide +kernel
theorem dX8_readTwo_124 : decode cX8_readTwo 124 = .ok (.iconst 1, 1) := by decide +kernel
theorem dX8_readTwo_125 : decode cX8_readTwo 125 = .ok (.iload_n 3, 1) := by decide +kernel
theorem dX8_readTwo_126 : decode cX8_readTwo 126 = .ok (.ishl, 1) := by decide +kernel
theorem dX8_readTwo_127 : decode cX8_readTwo 127 = .ok (.ior, 1) := by decide +kernel
theorem dX8_readTwo_128 : decode cX8_readTwo 128 = .ok (.iastore, 1) := by decide +kernel
theorem dX8_readTwo_129 : decode cX8_readTwo 129 = .ok (.aload_n 0, 1) := by decide +kernel
theorem dX8_readTwo_130 : decode cX8_readTwo 130 = .ok (.getfield 49, 3) := by decide +kernel
theorem dX8_readTwo_133 : decode cX8_readTwo 133 = .ok (.bipush 10, 2) := by decide +kernel
theorem dX8_readTwo_135 : decode cX8_readTwo 135 = .ok (.iload_n 3, 1) := by decide +kernel
theorem dX8_readTwo_136 : decode cX8_readTwo 136 = .ok (.iadd, 1) := by decide +kernel
theorem dX8_readTwo_137 : decode cX8_readTwo 137 = .ok (.dup2, 1) := by decide +kernel
theorem dX8_readTwo_138 : decode cX8_readTwo 138 = .ok (.iaload, 1) := by decide +kernel
theorem dX8_readTwo_139 : decode cX8_readTwo 139 = .ok (.iconst 1, 1) := by decide +kernel
theorem dX8_readTwo_140 : decode cX8_readTwo 140 = .ok (.iload_n 2, 1) := by decide +kernel
theorem dX8_readTwo_141 : decode cX8_readTwo 141 = .ok (.ishl, 1) := by decide +kernel
theorem dX8_readTwo_142 : decode cX8_readTwo 142 = .ok (.ior, 1) := by decide +kernel
theorem dX8_readTwo_143 : decode cX8_readTwo 143 = .ok (.iastore, 1) := by decide +kernel
theorem dX8_readTwo_144 : decode cX8_readTwo 144 = .ok (.goto 18, 3) := by decide +kernel
theorem dX8_readTwo_147 : decode cX8_readTwo 147 = .ok (.aload_n 0, 1) := by decide +kernel
theorem dX8_readTwo_148 : decode cX8_readTwo 148 = .ok (.getfield 52, 3) := by decide +kernel
theorem dX8_readTwo_151 : decode cX8_readTwo 151 = .ok (.bipush 10, 2) := by decide +kernel
theorem dX8_readTwo_153 : decode cX8_readTwo 153 = .ok (.iload_n 2, 1) := by decide +kernel
theorem dX8_readTwo_154 : decode cX8_readTwo 154 = .ok (.iadd, 1) := by decide +kernel
theorem dX8_readTwo_155 : decode cX8_readTwo 155 = .ok (.dup2, 1) := by decide +kernel
theorem dX8_readTwo_156 : decode cX8_readTwo 156 = .ok (.iaload, 1) := by decide +kernel
theorem dX8_readTwo_157 : decode cX8_readTwo 157 = .ok (.iconst 1, 1) := by decide +kernel
theorem dX8_readTwo_158 : decode cX8_readTwo 158 = .ok (.iload_n 3, 1) := by decide +kernel
theorem dX8_readTwo_159 : decode cX8_readTwo 159 = .ok (.ishl, 1) := by decide +kernel
theorem dX8_readTwo_160 : decode cX8_readTwo 160 = .ok (.ior, 1) := by decide +kernel
theorem dX8_readTwo_161 : decode cX8_readTwo 161 = .ok (.iastore, 1) := by decide +kernel
theorem dX8_readTwo_162 : decode cX8_readTwo 162 = .ok (.aload_n 0, 1) := by decide +kernel
theorem dX8_readTwo_163 : decode cX8_readTwo 163 = .ok (.getfield 40, 3) := by decide +kernel
theorem dX8_readTwo_166 : decode cX8_readTwo 166 = .ok (.bipush 9, 2) := by decide +kernel
theorem dX8_readTwo_168 : decode cX8_readTwo 168 = .ok (.iload_n 1, 1) := by decide +kernel
theorem dX8_readTwo_169 : decode cX8_readTwo 169 = .ok (.iadd, 1) := by decide +kernel
theorem dX8_readTwo_170 : decode cX8_readTwo 170 = .ok (.dup2, 1) := by decide +kernel
theorem dX8_readTwo_171 : decode cX8_readTwo 171 = .ok (.iaload, 1) := by decide +kernel
theorem dX8_readTwo_172 : decode cX8_readTwo 172 = .ok (.iconst 1, 1) := by decide +kernel
theorem dX8_readTwo_173 : decode cX8_readTwo 173 = .ok (.iadd, 1) := by decide +kernel
theorem dX8_readTwo_174 : decode cX8_readTwo 174 = .ok (.iastore, 1) := by decide +kernel
theorem dX8_readTwo_175 : decode cX8_readTwo 175 = .ok (.return_, 1) := by decide +kernel
theorem dX8_readPerson_0 : decode cX8_readPerson 0 = .ok (.aload_n 0, 1) := by decide +kernel
theorem dX8_readPerson_1 : decode cX8_readPerson 1 = .ok (.iconst 3, 1) := by decide +kernel
theorem dX8_readPerson_2 : decode cX8_readPerson 2 = .ok (.bipush 8, 2) := by decide +kernel
theorem dX8_readPerson_4 : decode cX8_readPerson 4 = .ok (.invokevirtual 278, 3) := by decide +kernel
theorem dX8_readPerson_7 : decode cX8_readPerson 7 = .ok (.ifCond .ne 4, 3) := by decide +kernel
theorem dX8_readPerson_10 : decode cX8_readPerson 10 = .ok (.return_, 1) := by decide +kernel
theorem dX8_readPerson_11 : decode cX8_readPerson 11 = .ok (.bipush 8, 2) := by decide +kernel
theorem dX8_readPerson_13 : decode cX8_readPerson 13 = .ok (.aload_n 0, 1) := by decide +kernel
theorem dX8_readPerson_14 : decode cX8_readPerson 14 = .ok (.getfield 40, 3) := by decide +kernel
theorem dX8_readPerson_17 : decode cX8_readPerson 17 = .ok (.bipush 12, 2) := by decide +kernel
theorem dX8_readPerson_19 : decode cX8_readPerson 19 = .ok (.iaload, 1) := by decide +kernel
theorem dX8_readPerson_20 : decode cX8_readPerson 20 = .ok (.iadd, 1) := by decide +kernel
theorem dX8_readPerson_21 : decode cX8_readPerson 21 = .ok (.istore_n 2, 1) := by decide +kernel
theorem dX8_readPerson_22 : decode cX8_readPerson 22 = .ok (.aload_n 0, 1) := by decide +kernel
theorem dX8_readPerson_23 : decode cX8_readPerson 23 = .ok (.getfield 55, 3) := by decide +kernel
theorem dX8_readPerson_26 : decode cX8_readPerson 26 = .ok (.iload_n 2, 1) := by decide +kernel
theorem dX8_readPerson_27 : decode cX8_readPerson 27 = .ok (.iload_n 1, 1) := by decide +kernel
theorem dX8_readPerson_28 : decode cX8_readPerson 28 = .ok (.iastore, 1) := by decide +kernel
theorem dX8_readPerson_29 : decode cX8_readPerson 29 = .ok (.aload_n 0, 1) := by decide +kernel
theorem dX8_readPerson_30 : decode cX8_readPerson 30 = .ok (.getfield 58, 3) := by decide +kernel
theorem dX8_readPerson_33 : decode cX8_readPerson 33 = .ok (.iload_n 2, 1) := by decide +kernel
theorem dX8_readPerson_34 : decode cX8_readPerson 34 = .ok (.aload_n 0, 1) := by decide +kernel
theorem dX8_readPerson_35 : decode cX8_readPerson 35 = .ok (.iconst 1, 1) := by decide +kernel
theorem dX8_readPerson_36 : decode cX8_readPerson 36 = .ok (.bipush 60, 2) := by decide +kernel
theorem dX8_readPerson_38 : decode cX8_readPerson 38 = .ok (.invokevirtual 241, 3) := by decide +kernel
theorem dX8_readPerson_41 : decode cX8_readPerson 41 = .ok (.iastore, 1) := by decide +kernel
theorem dX8_readPerson_42 : decode cX8_readPerson 42 = .ok (.aload_n 0, 1) := by decide +kernel
theorem dX8_readPerson_43 : decode cX8_readPerson 43 = .ok (.getfield 61, 3) := by decide +kernel
theorem dX8_readPerson_46 : decode cX8_readPerson 46 = .ok (.iload_n 2, 1) := by decide +kernel
theorem dX8_readPerson_47 : decode cX8_readPerson 47 = .ok (.aload_n 0, 1) := by decide +kernel
theorem dX8_readPerson_48 : decode cX8_readPerson 48 = .ok (.iconst 0, 1) := by decide +kernel
theorem dX8_readPerson_49 : decode cX8_readPerson 49 = .ok (.bipush 12, 2) := by decide +kernel
theorem dX8_readPerson_51 : decode cX8_readPerson 51 = .ok (.invokevirtual 241, 3) := by decide +kernel
theorem dX8_readPerson_54 : decode cX8_readPerson 54 = .ok (.iastore, 1) := by decide +kernel
theorem dX8_readPerson_55 : decode cX8_readPerson 55 = .ok (.aload_n 0, 1) := by decide +kernel
theorem dX8_readPerson_56 : decode cX8_readPerson 56 = .ok (.getfield 64, 3) := by decide +kernel
theorem dX8_readPerson_59 : decode cX8_readPerson 59 = .ok (.iload_n 2, 1) := by decide +kernel
theorem dX8_readPerson_60 : decode cX8_readPerson 60 = .ok (.aload_n 0, 1) := by decide +kernel
theorem dX8_readPerson_61 : decode cX8_readPerson 61 = .ok (.iconst 0, 1) := by decide +kernel
theorem dX8_readPerson_62 : decode cX8_readPerson 62 = .ok (.bipush 9, 2) := by decide +kernel
theorem dX8_readPerson_64 : decode cX8_readPerson 64 = .ok (.invokevirtual 241, 3) := by decide +kernel
theorem dX8_readPerson_67 : decode cX8_readPerson 67 = .ok (.iastore, 1) := by decide +kernel
theorem dX8_readPerson_68 : decode cX8_readPerson 68 = .ok (.iconst 0, 1) := by decide +kernel
theorem dX8_readPerson_69 : decode cX8_readPerson 69 = .ok (.istore_n 3, 1) := by decide +kernel
theorem dX8_readPerson_70 : decode cX8_readPerson 70 = .ok (.aload_n 0, 1) := by decide +kernel
theorem dX8_readPerson_71 : decode cX8_readPerson 71 = .ok (.getfield 210, 3) := by decide +kernel
theorem dX8_readPerson_74 : decode cX8_readPerson 74 = .ok (.ifCond .ne 16, 3) := by decide +kernel
theorem dX8_readPerson_77 : decode cX8_readPerson 77 = .ok (.aload_n 0, 1) := by decide +kernel
theorem dX8_readPerson_78 : decode cX8_readPerson 78 = .ok (.getfield 184, 3) := by decide +kernel
theorem dX8_readPerson_81 : decode cX8_readPerson 81 = .ok (.iconst 2, 1) := by decide +kernel
theorem dX8_readPerson_82 : decode cX8_readPerson 82 = .ok (.if_icmp .eq 8, 3) := by decide +kernel
theorem dX8_readPerson_85 : decode cX8_readPerson 85 = .ok (.aload_n 0, 1) := by decide +kernel
theorem dX8_readPerson_86 : decode cX8_readPerson 86 = .ok (.iconst 1, 1) := by decide +kernel
theorem dX8_readPerson_87 : decode cX8_readPerson 87 = .ok (.invokevirtual 231, 3) := by decide +kernel
theorem dX8_readPerson_90 : decode cX8_readPerson 90 = .ok (.aload_n 0, 1) := by decide +kernel
theorem dX8_readPerson_91 : decode cX8_readPerson 91 = .ok (.getfield 210, 3) := by decide +kernel
theorem dX8_readPerson_94 : decode cX8_readPerson 94 = .ok (.ifCond .ne 126, 3) := by decide +kernel
theorem dX8_readPerson_97 : decode cX8_readPerson 97 = .ok (.aload_n 0, 1) := by decide +kernel
theorem dX8_readPerson_98 : decode cX8_readPerson 98 = .ok (.getfield 184, 3) := by decide +kernel
theorem dX8_readPerson_101 : decode cX8_readPerson 101 = .ok (.iconst 2, 1) := by decide +kernel
theorem dX8_readPerson_102 : decode cX8_readPerson 102 = .ok (.if_icmp .ne 118, 3) := by decide +kernel
theorem dX8_readPerson_105 : decode cX8_readPerson 105 = .ok (.iload_n 3, 1) := by decide +kernel
theorem dX8_readPerson_106 : decode cX8_readPerson 106 = .ok (.bipush 12, 2) := by decide +kernel
theorem dX8_readPerson_108 : decode cX8_readPerson 108 = .ok (.if_icmp .ne 8, 3) := by decide +kernel
theorem dX8_readPerson_111 : decode cX8_readPerson 111 = .ok (.aload_n 0, 1) := by decide +kernel
theorem dX8_readPerson_112 : decode cX8_readPerson 112 = .ok (.iconst 2, 1) := by decide +kernel
theorem dX8_readPerson_113 : decode cX8_readPerson 113 = .ok (.invokevirtual 231, 3) := by decide +kernel
theorem dX8_readPerson_116 : decode cX8_readPerson 116 = .ok (.aload_n 0, 1) := by decide +kernel
theorem dX8_readPerson_117 : decode cX8_readPerson 117 = .ok (.invokevirtual 282, 3) := by decide +kernel
theorem dX8_readPerson_120 : decode cX8_readPerson 120 = .ok (.istore 4, 2) := by decide +kernel
theorem dX8_readPerson_122 : decode cX8_readPerson 122 = .ok (.iload_n 3, 1) := by decide +kernel
theorem dX8_readPerson_123 : decode cX8_readPerson 123 = .ok (.ifCond .ne 7, 3) := by decide +kernel
theorem dX8_readPerson_126 : decode cX8_readPerson 126 = .ok (.iconst 0, 1) := by decide +kernel
theorem dX8_readPerson_127 : decode cX8_readPerson 127 = .ok (.goto 16, 3) := by decide +kernel
theorem dX8_readPerson_130 : decode cX8_readPerson 130 = .ok (.aload_n 0, 1) := by decide +kernel
theorem dX8_readPerson_131 : decode cX8_readPerson 131 = .ok (.getfield 69, 3) := by decide +kernel
theorem dX8_readPerson_134 : decode cX8_readPerson 134 = .ok (.bipush 12, 2) := by decide +kernel
theorem dX8_readPerson_136 : decode cX8_readPerson 136 = .ok (.iload_n 2, 1) := by decide +kernel
theorem dX8_readPerson_137 : decode cX8_readPerson 137 = .ok (.imul, 1) := by decide +kernel
theorem dX8_readPerson_138 : decode cX8_readPerson 138 = .ok (.iload_n 3, 1) := by decide +kernel
theorem dX8_readPerson_139 : decode cX8_readPerson 139 = .ok (.iadd, 1) := by decide +kernel
theorem dX8_readPerson_140 : decode cX8_readPerson 140 = .ok (.iconst 1, 1) := by decide +kernel
theorem dX8_readPerson_141 : decode cX8_readPerson 141 = .ok (.isub, 1) := by decide +kernel
theorem dX8_readPerson_142 : decode cX8_readPerson 142 = .ok (.iaload, 1) := by decide +kernel
theorem dX8_readPerson_143 : decode cX8_readPerson 143 = .ok (.istore 5, 2) := by decide +kernel
theorem dX8_readPerson_145 : decode cX8_readPerson 145 = .ok (.aload_n 0, 1) := by decide +kernel
theorem dX8_readPerson_146 : decode cX8_readPerson 146 = .ok (.getfield 210, 3) := by decide +kernel
theorem dX8_readPerson_149 : decode cX8_readPerson 149 = .ok (.ifCond .ne 38, 3) := by decide +kernel
theorem dX8_readPerson_152 : decode cX8_readPerson 152 = .ok (.iload 4, 2) := by decide +kernel
theorem dX8_readPerson_154 : decode cX8_readPerson 154 = .ok (.iload 5, 2) := by decide +kernel
theorem dX8_readPerson_156 : decode cX8_readPerson 156 = .ok (.if_icmp .eq 31, 3) := by decide +kernel
theorem dX8_readPerson_159 : decode cX8_readPerson 159 = .ok (.iload_n 3, 1) := by decide +kernel
theorem dX8_readPerson_160 : decode cX8_readPerson 160 = .ok (.ifCond .eq 21, 3) := by decide +kernel
theorem dX8_readPerson_163 : decode cX8_readPerson 163 = .ok (.aload_n 0, 1) := by decide +kernel
theorem dX8_readPerson_164 : decode cX8_readPerson 164 = .ok (.getfield 49, 3) := by decide +kernel
theorem dX8_readPerson_167 : decode cX8_readPerson 167 = .ok (.bipush 10, 2) := by decide +kernel
theorem dX8_readPerson_169 : decode cX8_readPerson 169 = .ok (.iload 5, 2) := by decide +kernel
theorem dX8_readPerson_171 : decode cX8_readPerson 171 = .ok (.iadd, 1) := by decide +kernel
theorem dX8_readPerson_172 : decode cX8_readPerson 172 = .ok (.iaload, 1) := by decide +kernel
theorem dX8_readPerson_173 : decode cX8_readPerson 173 = .ok (.iload 4, 2) := by decide +kernel
theorem dX8_readPerson_175 : decode cX8_readPerson 175 = .ok (.ishr, 1) := by decide +kernel
theorem dX8_readPerson_176 : decode cX8_readPerson 176 = .ok (.iconst 1, 1) := by decide +kernel
theorem dX8_readPerson_177 : decode cX8_readPerson 177 = .ok (.iand, 1) := by decide +kernel
theorem dX8_readPerson_178 : decode cX8_readPerson 178 = .ok (.ifCond .ne 9, 3) := by decide +kernel
theorem dX8_readPerson_181 : decode cX8_readPerson 181 = .ok (.aload_n 0, 1) := by decide +kernel
theorem dX8_readPerson_182 : decode cX8_readPerson 182 = .ok (.bipush 6, 2) := by decide +kernel
theorem dX8_readPerson_184 : decode cX8_readPerson 184 = .ok (.invokevirtual 231, 3) := by decide +kernel
theorem dX8_readPerson_187 : decode cX8_readPerson 187 = .ok (.aload_n 0, 1) := by decide +kernel
theorem dX8_readPerson_188 : decode cX8_readPerson 188 = .ok (.getfield 210, 3) := by decide +kernel
theorem dX8_readPerson_191 : decode cX8_readPerson 191 = .ok (.ifCond .eq 6, 3) := by decide +kernel
theorem dX8_readPerson_194 : decode cX8_readPerson 194 = .ok (.goto (-104), 3) := by decide +kernel
theorem dX8_readPerson_197 : decode cX8_readPerson 197 = .ok (.aload_n 0, 1) := by decide +kernel
theorem dX8_readPerson_198 : decode cX8_readPerson 198 = .ok (.getfield 69, 3) := by decide +kernel
theorem dX8_readPerson_201 : decode cX8_readPerson 201 = .ok (.bipush 12, 2) := by decide +kernel
theorem dX8_readPerson_203 : decode cX8_readPerson 203 = .ok (.iload_n 2, 1) := by decide +kernel
theorem dX8_readPerson_204 : decode cX8_readPerson 204 = .ok (.imul, 1) := by decide +kernel
theorem dX8_readPerson_205 : decode cX8_readPerson 205 = .ok (.iload_n 3, 1) := by decide +kernel
theorem dX8_readPerson_206 : decode cX8_readPerson 206 = .ok (.iadd, 1) := by decide +kernel
theorem dX8_readPerson_207 : decode cX8_readPerson 207 = .ok (.iload 4, 2) := by decide +kernel
theorem dX8_readPerson_209 : decode cX8_readPerson 209 = .ok (.iastore, 1) := by decide +kernel
theorem dX8_readPerson_210 : decode cX8_readPerson 210 = .ok (.iinc 3 1, 3) := by decide +kernel
theorem dX8_readPerson_213 : decode cX8_readPerson 213 = .ok (.aload_n 0, 1) := by decide +kernel
theorem dX8_readPerson_214 : decode cX8_readPerson 214 = .ok (.invokevirtual 235, 3) := by decide +kernel
theorem dX8_readPerson_217 : decode cX8_readPerson 217 = .ok (.goto (-127), 3) := by decide +kernel
theorem dX8_readPerson_220 : decode cX8_readPerson 220 = .ok (.aload_n 0, 1) := by decide +kernel
theorem dX8_readPerson_221 : decode cX8_readPerson 221 = .ok (.getfield 210, 3) := by decide +kernel
theorem dX8_readPerson_224 : decode cX8_readPerson 224 = .ok (.ifCond .ne 19, 3) := by decide +kernel
theorem dX8_readPerson_227 : decode cX8_readPerson 227 = .ok (.aload_n 0, 1) := by decide +kernel
theorem dX8_readPerson_228 : decode cX8_readPerson 228 = .ok (.getfield 61, 3) := by decide +kernel
theorem dX8_readPerson_231 : decode cX8_readPerson 231 = .ok (.iload_n 2, 1) := by decide +kernel
theorem dX8_readPerson_232 : decode cX8_readPerson 232 = .ok (.iaload, 1) := by decide +kernel
theorem dX8_readPerson_233 : decode cX8_readPerson 233 = .ok (.iload_n 3, 1) := by decide +kernel
theorem dX8_readPerson_234 : decode cX8_readPerson 234 = .ok (.if_icmp .le 9, 3) := by decide +kernel
theorem dX8_readPerson_237 : decode cX8_readPerson 237 = .ok (.aload_n 0, 1) := by decide +kernel
theorem dX8_readPerson_238 : decode cX8_readPerson 238 = .ok (.bipush 6, 2) := by decide +kernel
theorem dX8_readPerson_240 : decode cX8_readPerson 240 = .ok (.invokevirtual 231, 3) := by decide +kernel
theorem dX8_readPerson_243 : decode cX8_readPerson 243 = .ok (.aload_n 0, 1) := by decide +kernel
theorem dX8_readPerson_244 : decode cX8_readPerson 244 = .ok (.getfield 66, 3) := by decide +kernel
theorem dX8_readPerson_247 : decode cX8_readPerson 247 = .ok (.iload_n 2, 1) := by decide +kernel
theorem dX8_readPerson_248 : decode cX8_readPerson 248 = .ok (.iload_n 3, 1) := by decide +kernel
theorem dX8_readPerson_249 : decode cX8_readPerson 249 = .ok (.iastore, 1) := by decide +kernel
theorem dX8_readPerson_250 : decode cX8_readPerson 250 = .ok (.aload_n 0, 1) := by decide +kernel
theorem dX8_readPerson_251 : decode cX8_readPerson 251 = .ok (.getfield 40, 3) := by decide +kernel
theorem dX8_readPerson_254 : decode cX8_readPerson 254 = .ok (.bipush 12, 2) := by decide +kernel
theorem dX8_readPerson_256 : decode cX8_readPerson 256 = .ok (.dup2, 1) := by decide +kernel
theorem dX8_readPerson_257 : decode cX8_readPerson 257 = .ok (.iaload, 1) := by decide +kernel
theorem dX8_readPerson_258 : decode cX8_readPerson 258 = .ok (.iconst 1, 1) := by decide +kernel
theorem dX8_readPerson_259 : decode cX8_readPerson 259 = .ok (.iadd, 1) := by decide +kernel
theorem dX8_readPerson_260 : decode cX8_readPerson 260 = .ok (.iastore, 1) := by decide +kernel
theorem dX8_readPerson_261 : decode cX8_readPerson 261 = .ok (.return_, 1) := by decide +kernel
theorem dX8_readRule_0 : decode cX8_readRule 0 = .ok (.aload_n 0, 1) := by decide +kernel
theorem dX8_readRule_1 : decode cX8_readRule 1 = .ok (.iconst 4, 1) := by decide +kernel
theorem dX8_readRule_2 : decode cX8_readRule 2 = .ok (.iconst 4, 1) := by decide +kernel
theorem dX8_readRule_3 : decode cX8_readRule 3 = .ok (.invokevirtual 278, 3) := by decide +kernel
theorem dX8_readRule_6 : decode cX8_readRule 6 = .ok (.ifCond .ne 4, 3) := by decide +kernel
theorem dX8_readRule_9 : decode cX8_readRule 9 = .ok (.return_, 1) := by decide +kernel
theorem dX8_readRule_10 : decode cX8_readRule 10 = .ok (.aload_n 0, 1) := by decide +kernel
theorem dX8_readRule_11 : decode cX8_readRule 11 = .ok (.iconst 0, 1) := by decide +kernel
theorem dX8_readRule_12 : decode cX8_readRule 12 = .ok (.invokevirtual 254, 3) := by decide +kernel
theorem dX8_readRule_15 : decode cX8_readRule 15 = .ok (.aload_n 0, 1) := by decide +kernel
theorem dX8_readRule_16 : decode cX8_readRule 16 = .ok (.getfield 72, 3) := by decide +kernel
theorem dX8_readRule_19 : decode cX8_readRule 19 = .ok (.iconst 4, 1) := by decide +kernel
theorem dX8_readRule_20 : decode cX8_readRule 20 = .ok (.aload_n 0, 1) := by decide +kernel
theorem dX8_readRule_21 : decode cX8_readRule 21 = .ok (.getfield 40, 3) := by decide +kernel
theorem dX8_readRule_24 : decode cX8_readRule 24 = .ok (.bipush 13, 2) := by decide +kernel
theorem dX8_readRule_26 : decode cX8_readRule 26 = .ok (.iaload, 1) := by decide +kernel
theorem dX8_readRule_27 : decode cX8_readRule 27 = .ok (.iadd, 1) := by decide +kernel
theorem dX8_readRule_28 : decode cX8_readRule 28 = .ok (.aload_n 0, 1) := by decide +kernel
theorem dX8_readRule_29 : decode cX8_readRule 29 = .ok (.getfield 40, 3) := by decide +kernel
theorem dX8_readRule_32 : decode cX8_readRule 32 = .ok (.bipush 17, 2) := by decide +kernel
theorem dX8_readRule_34 : decode cX8_readRule 34 = .ok (.iaload, 1) := by decide +kernel
theorem dX8_readRule_35 : decode cX8_readRule 35 = .ok (.iastore, 1) := by decide +kernel
theorem dX8_readRule_36 : decode cX8_readRule 36 = .ok (.aload_n 0, 1) := by decide +kernel
theorem dX8_readRule_37 : decode cX8_readRule 37 = .ok (.getfield 40, 3) := by decide +kernel
theorem dX8_readRule_40 : decode cX8_readRule 40 = .ok (.bipush 13, 2) := by decide +kernel
theorem dX8_readRule_42 : decode cX8_readRule 42 = .ok (.dup2, 1) := by decide +kernel
theorem dX8_readRule_43 : decode cX8_readRule 43 = .ok (.iaload, 1) := by decide +kernel
theorem dX8_readRule_44 : decode cX8_readRule 44 = .ok (.iconst 1, 1) := by decide +kernel
theorem dX8_readRule_45 : decode cX8_readRule 45 = .ok (.iadd, 1) := by decide +kernel
theorem dX8_readRule_46 : decode cX8_readRule 46 = .ok (.iastore, 1) := by decide +kernel
theorem dX8_readRule_47 : decode cX8_readRule 47 = .ok (.return_, 1) := by decide +kernel
theorem dX8_readLine_0 : decode cX8_readLine 0 = .ok (.aload_n 0, 1) := by decide +kernel
theorem dX8_readLine_1 : decode cX8_readLine 1 = .ok (.ldc_w 285, 3) := by decide +kernel
theorem dX8_readLine_4 : decode cX8_readLine 4 = .ok (.invokevirtual 224, 3) := by decide +kernel
theorem dX8_readLine_7 : decode cX8_readLine 7 = .ok (.ifCond .eq 7, 3) := by decide +kernel
theorem dX8_readLine_10 : decode cX8_readLine 10 = .ok (.iconst 1, 1) := by decide +kernel
theorem dX8_readLine_11 : decode cX8_readLine 11 = .ok (.goto 32, 3) := by decide +kernel
theorem dX8_readLine_14 : decode cX8_readLine 14 = .ok (.aload_n 0, 1) := by decide +kernel
theorem dX8_readLine_15 : decode cX8_readLine 15 = .ok (.ldc_w 287, 3) := by decide +kernel
theorem dX8_readLine_18 : decode cX8_readLine 18 = .ok (.invokevirtual 224, 3) := by decide +kernel
theorem dX8_readLine_21 : decode cX8_readLine 21 = .ok (.ifCond .eq 7, 3) := by decide +kernel
theorem dX8_readLine_24 : decode cX8_readLine 24 = .ok (.iconst 2, 1) := by decide +kernel
theorem dX8_readLine_25 : decode cX8_readLine 25 = .ok (.goto 18, 3) := by decide +kernel
theorem dX8_readLine_28 : decode cX8_readLine 28 = .ok (.aload_n 0, 1) := by decide +kernel
theorem dX8_readLine_29 : decode cX8_readLine 29 = .ok (.ldc_w 289, 3) := by decide +kernel
theorem dX8_readLine_32 : decode cX8_readLine 32 = .ok (.invokevirtual 224, 3) := by decide +kernel
theorem dX8_readLine_35 : decode cX8_readLine 35 = .ok (.ifCond .eq 7, 3) := by decide +kernel
theorem dX8_readLine_38 : decode cX8_readLine 38 = .ok (.iconst 4, 1) := by decide +kernel
theorem dX8_readLine_39 : decode cX8_readLine 39 = .ok (.goto 4, 3) := by decide +kernel
theorem dX8_readLine_42 : decode cX8_readLine 42 = .ok (.iconst 0, 1) := by decide +kernel
theorem dX8_readLine_43 : decode cX8_readLine 43 = .ok (.istore_n 2, 1) := by decide +kernel
theorem dX8_readLine_44 : decode cX8_readLine 44 = .ok (.aload_n 0, 1) := by decide +kernel
theorem dX8_readLine_45 : decode cX8_readLine 45 = .ok (.aload_n 0, 1) := by decide +kernel
theorem dX8_readLine_46 : decode cX8_readLine 46 = .ok (.getfield 19, 3) := by decide +kernel
theorem dX8_readLine_49 : decode cX8_readLine 49 = .ok (.invokevirtual 247, 3) := by decide +kernel
theorem dX8_readLine_52 : decode cX8_readLine 52 = .ok (.istore_n 3, 1) := by decide +kernel
theorem dX8_readLine_53 : decode cX8_readLine 53 = .ok (.iload_n 2, 1) := by decide +kernel
theorem dX8_readLine_54 : decode cX8_readLine 54 = .ok (.iload_n 1, 1) := by decide +kernel
theorem dX8_readLine_55 : decode cX8_readLine 55 = .ok (.iand, 1) := by decide +kernel
theorem dX8_readLine_56 : decode cX8_readLine 56 = .ok (.ifCond .eq 8, 3) := by decide +kernel
theorem dX8_readLine_59 : decode cX8_readLine 59 = .ok (.aload_n 0, 1) := by decide +kernel
theorem dX8_readLine_60 : decode cX8_readLine 60 = .ok (.iconst 5, 1) := by decide +kernel
theorem dX8_readLine_61 : decode cX8_readLine 61 = .ok (.invokevirtual 231, 3) := by decide +kernel
theorem dX8_readLine_64 : decode cX8_readLine 64 = .ok (.iload_n 2, 1) := by decide +kernel
theorem dX8_readLine_65 : decode cX8_readLine 65 = .ok (.ifCond .le 75, 3) := by decide +kernel
theorem dX8_readLine_68 : decode cX8_readLine 68 = .ok (.aload_n 0, 1) := by decide +kernel
theorem dX8_readLine_69 : decode cX8_readLine 69 = .ok (.getfield 210, 3) := by decide +kernel
theorem dX8_readLine_72 : decode cX8_readLine 72 = .ok (.ifCond .ne 7, 3) := by decide +kernel
theorem dX8_readLine_75 : decode cX8_readLine 75 = .ok (.aload_n 0, 1) := by decide +kernel
theorem dX8_readLine_76 : decode cX8_readLine 76 = .ok (.invokevirtual 235, 3) := by decide +kernel
theorem dX8_readLine_79 : decode cX8_readLine 79 = .ok (.iload_n 2, 1) := by decide +kernel
theorem dX8_readLine_80 : decode cX8_readLine 80 = .ok (.iconst 1, 1) := by decide +kernel
theorem dX8_readLine_81 : decode cX8_readLine 81 = .ok (.if_icmp .ne 20, 3) := by decide +kernel
theorem dX8_readLine_84 : decode cX8_readLine 84 = .ok (.aload_n 0, 1) := by decide +kernel
theorem dX8_readLine_85 : decode cX8_readLine 85 = .ok (.getfield 40, 3) := by decide +kernel
theorem dX8_readLine_88 : decode cX8_readLine 88 = .ok (.bipush 14, 2) := by decide +kernel
theorem dX8_readLine_90 : decode cX8_readLine 90 = .ok (.aload_n 0, 1) := by decide +kernel
theorem dX8_readLine_91 : decode cX8_readLine 91 = .ok (.iconst 1, 1) := by decide +kernel
theorem dX8_readLine_92 : decode cX8_readLine 92 = .ok (.bipush 9, 2) := by decide +kernel
theorem dX8_readLine_94 : decode cX8_readLine 94 = .ok (.invokevirtual 241, 3) := by decide +kernel
theorem dX8_readLine_97 : decode cX8_readLine 97 = .ok (.iastore, 1) := by decide +kernel
theorem dX8_readLine_98 : decode cX8_readLine 98 = .ok (.goto 130, 3) := by decide +kernel
theorem dX8_readLine_101 : decode cX8_readLine 101 = .ok (.iload_n 2, 1) := by decide +kernel
theorem dX8_readLine_102 : decode cX8_readLine 102 = .ok (.iconst 2, 1) := by decide +kernel
theorem dX8_readLine_103 : decode cX8_readLine 103 = .ok (.if_icmp .ne 21, 3) := by decide +kernel
theorem dX8_readLine_106 : decode cX8_readLine 106 = .ok (.aload_n 0, 1) := by decide +kernel
theorem dX8_readLine_107 : decode cX8_readLine 107 = .ok (.getfield 40, 3) := by decide +kernel
theorem dX8_readLine_110 : decode cX8_readLine 110 = .ok (.bipush 15, 2) := by decide +kernel
theorem dX8_readLine_112 : decode cX8_readLine 112 = .ok (.aload_n 0, 1) := by decide +kernel
theorem dX8_readLine_113 : decode cX8_readLine 113 = .ok (.iconst 0, 1) := by decide +kernel
theorem dX8_readLine_114 : decode cX8_readLine 114 = .ok (.sipush 999, 3) := by decide +kernel
theorem dX8_readLine_117 : decode cX8_readLine 117 = .ok (.invokevirtual 241, 3) := by decide +kernel
theorem dX8_readLine_120 : decode cX8_readLine 120 = .ok (.iastore, 1) := by decide +kernel
theorem dX8_readLine_121 : decode cX8_readLine 121 = .ok (.goto 107, 3) := by decide +kernel
theorem dX8_readLine_124 : decode cX8_readLine 124 = .ok (.aload_n 0, 1) := by decide +kernel
theorem dX8_readLine_125 : decode cX8_readLine 125 = .ok (.getfield 40, 3) := by decide +kernel
theorem dX8_readLine_128 : decode cX8_readLine 128 = .ok (.bipush 16, 2) := by decide +kernel
theorem dX8_readLine_130 : decode cX8_readLine 130 = .ok (.aload_n 0, 1) := by decide +kernel
theorem dX8_readLine_131 : decode cX8_readLine 131 = .ok (.iconst 0, 1) := by decide +kernel
theorem dX8_readLine_132 : decode cX8_readLine 132 = .ok (.iconst 2, 1) := by decide +kernel
theorem dX8_readLine_133 : decode cX8_readLine 133 = .ok (.invokevirtual 241, 3) := by decide +kernel
theorem dX8_readLine_136 : decode cX8_readLine 136 = .ok (.iastore, 1) := by decide +kernel
theorem dX8_readLine_137 : decode cX8_readLine 137 = .ok (.goto 91, 3) := by decide +kernel
theorem dX8_readLine_140 : decode cX8_readLine 140 = .ok (.iload_n 3, 1) := by decide +kernel
theorem dX8_readLine_141 : decode cX8_readLine 141 = .ok (.iconst (-1), 1) := by decide +kernel
theorem dX8_readLine_142 : decode cX8_readLine 142 = .ok (.if_icmp .eq 11, 3) := by decide +kernel
theorem dX8_readLine_145 : decode cX8_readLine 145 = .ok (.aload_n 0, 1) := by decide +kernel
theorem dX8_readLine_146 : decode cX8_readLine 146 = .ok (.iload_n 3, 1) := by decide +kernel
theorem dX8_readLine_147 : decode cX8_readLine 147 = .ok (.invokevirtual 290, 3) := by decide +kernel
theorem dX8_readLine_150 : decode cX8_readLine 150 = .ok (.goto 78, 3) := by decide +kernel
theorem dX8_readLine_153 : decode cX8_readLine 153 = .ok (.aload_n 0, 1) := by decide +kernel
theorem dX8_readLine_154 : decode cX8_readLine 154 = .ok (.ldc_w 293, 3) := by decide +kernel
theorem dX8_readLine_157 : decode cX8_readLine 157 = .ok (.invokevirtual 224, 3) := by decide +kernel
theorem dX8_readLine_160 : decode cX8_readLine 160 = .ok (.ifCond .eq 10, 3) := by decide +kernel
theorem dX8_readLine_163 : decode cX8_readLine 163 = .ok (.aload_n 0, 1) := by decide +kernel
theorem dX8_readLine_164 : decode cX8_readLine 164 = .ok (.invokevirtual 295, 3) := by decide +kernel
theorem dX8_readLine_167 : decode cX8_readLine 167 = .ok (.goto 61, 3) := by decide +kernel
theorem dX8_readLine_170 : decode cX8_readLine 170 = .ok (.aload_n 0, 1) := by decide +kernel
theorem dX8_readLine_171 : decode cX8_readLine 171 = .ok (.ldc_w 298, 3) := by decide +kernel
theorem dX8_readLine_174 : decode cX8_readLine 174 = .ok (.invokevirtual 224, 3) := by decide +kernel
theorem dX8_readLine_177 : decode cX8_readLine 177 = .ok (.ifCond .eq 11, 3) := by decide +kernel
theorem dX8_readLine_180 : decode cX8_readLine 180 = .ok (.aload_n 0, 1) := by decide +kernel
theorem dX8_readLine_181 : decode cX8_readLine 181 = .ok (.iconst 1, 1) := by decide +kernel
theorem dX8_readLine_182 : decode cX8_readLine 182 = .ok (.invokevirtual 300, 3) := by decide +kernel
theorem dX8_readLine_185 : decode cX8_readLine 185 = .ok (.goto 43, 3) := by decide +kernel
theorem dX8_readLine_188 : decode cX8_readLine 188 = .ok (.aload_n 0, 1) := by decide +kernel
theorem dX8_readLine_189 : decode cX8_readLine 189 = .ok (.ldc_w 303, 3) := by decide +kernel
theorem dX8_readLine_192 : decode cX8_readLine 192 = .ok (.invokevirtual 224, 3) := by decide +kernel
theorem dX8_readLine_195 : decode cX8_readLine 195 = .ok (.ifCond .eq 11, 3) := by decide +kernel
theorem dX8_readLine_198 : decode cX8_readLine 198 = .ok (.aload_n 0, 1) := by decide +kernel
theorem dX8_readLine_199 : decode cX8_readLine 199 = .ok (.iconst 2, 1) := by decide +kernel
theorem dX8_readLine_200 : decode cX8_readLine 200 = .ok (.invokevirtual 300, 3) := by decide +kernel
theorem dX8_readLine_203 : decode cX8_readLine 203 = .ok (.goto 25, 3) := by decide +kernel
theorem dX8_readLine_206 : decode cX8_readLine 206 = .ok (.aload_n 0, 1) := by decide +kernel
theorem dX8_readLine_207 : decode cX8_readLine 207 = .ok (.ldc_w 305, 3) := by decide +kernel
theorem dX8_readLine_210 : decode cX8_readLine 210 = .ok (.invokevirtual 224, 3) := by decide +kernel
theorem dX8_readLine_213 : decode cX8_readLine 213 = .ok (.ifCond .eq 10, 3) := by decide +kernel
theorem dX8_readLine_216 : decode cX8_readLine 216 = .ok (.aload_n 0, 1) := by decide +kernel
theorem dX8_readLine_217 : decode cX8_readLine 217 = .ok (.invokevirtual 307, 3) := by decide +kernel
theorem dX8_readLine_220 : decode cX8_readLine 220 = .ok (.goto 8, 3) := by decide +kernel
theorem dX8_readLine_223 : decode cX8_readLine 223 = .ok (.aload_n 0, 1) := by decide +kernel
theorem dX8_readLine_224 : decode cX8_readLine 224 = .ok (.iconst 1, 1) := by decide +kernel
theorem dX8_readLine_225 : decode cX8_readLine 225 = .ok (.invokevirtual 231, 3) := by decide +kernel
theorem dX8_readLine_228 : decode cX8_readLine 228 = .ok (.aload_n 0, 1) := by decide +kernel
theorem dX8_readLine_229 : decode cX8_readLine 229 = .ok (.bipush 59, 2) := by decide +kernel
theorem dX8_readLine_231 : decode cX8_readLine 231 = .ok (.invokevirtual 251, 3) := by decide +kernel
theorem dX8_readLine_234 : decode cX8_readLine 234 = .ok (.iload_n 1, 1) := by decide +kernel
theorem dX8_readLine_235 : decode cX8_readLine 235 = .ok (.iload_n 2, 1) := by decide +kernel
theorem dX8_readLine_236 : decode cX8_readLine 236 = .ok (.ior, 1) := by decide +kernel
theorem dX8_readLine_237 : decode cX8_readLine 237 = .ok (.ireturn, 1) := by decide +kernel
theorem dX8_shop_0 : decode cX8_shop 0 = .ok (.aload_n 0, 1) := by decide +kernel
theorem dX8_shop_1 : decode cX8_shop 1 = .ok (.iconst 0, 1) := by decide +kernel
theorem dX8_shop_2 : decode cX8_shop 2 = .ok (.putfield 159, 3) := by decide +kernel
theorem dX8_shop_5 : decode cX8_shop 5 = .ok (.iload_n 1, 1) := by decide +kernel
theorem dX8_shop_6 : decode cX8_shop 6 = .ok (.ifCond .lt 11, 3) := by decide +kernel
theorem dX8_shop_9 : decode cX8_shop 9 = .ok (.iload_n 1, 1) := by decide +kernel
theorem dX8_shop_10 : decode cX8_shop 10 = .ok (.aload_n 0, 1) := by decide +kernel
theorem dX8_shop_11 : decode cX8_shop 11 = .ok (.getfield 168, 3) := by decide +kernel
theorem dX8_shop_14 : decode cX8_shop 14 = .ok (.if_icmp .le 9, 3) := by decide +kernel
theorem dX8_shop_17 : decode cX8_shop 17 = .ok (.aload_n 0, 1) := by decide +kernel
theorem dX8_shop_18 : decode cX8_shop 18 = .ok (.iconst 1, 1) := by decide +kernel
theorem dX8_shop_19 : decode cX8_shop 19 = .ok (.invokevirtual 310, 3) := by decide +kernel
theorem dX8_shop_22 : decode cX8_shop 22 = .ok (.ireturn, 1) := by decide +kernel
theorem dX8_shop_23 : decode cX8_shop 23 = .ok (.aload_n 0, 1) := by decide +kernel
theorem dX8_shop_24 : decode cX8_shop 24 = .ok (.iconst 0, 1) := by decide +kernel
theorem dX8_shop_25 : decode cX8_shop 25 = .ok (.putfield 168, 3) := by decide +kernel
theorem dX8_shop_28 : decode cX8_shop 28 = .ok (.aload_n 0, 1) := by decide +kernel
theorem dX8_shop_29 : decode cX8_shop 29 = .ok (.iload_n 1, 1) := by decide +kernel
theorem dX8_shop_30 : decode cX8_shop 30 = .ok (.putfield 171, 3) := by decide +kernel
theorem dX8_shop_33 : decode cX8_shop 33 = .ok (.aload_n 0, 1) := by decide +kernel
theorem dX8_shop_34 : decode cX8_shop 34 = .ok (.iconst 0, 1) := by decide +kernel
theorem dX8_shop_35 : decode cX8_shop 35 = .ok (.putfield 174, 3) := by decide +kernel
theorem dX8_shop_38 : decode cX8_shop 38 = .ok (.aload_n 0, 1) := by decide +kernel
theorem dX8_shop_39 : decode cX8_shop 39 = .ok (.iconst 0, 1) := by decide +kernel
theorem dX8_shop_40 : decode cX8_shop 40 = .ok (.putfield 210, 3) := by decide +kernel
theorem dX8_shop_43 : decode cX8_shop 43 = .ok (.aload_n 0, 1) := by decide +kernel
theorem dX8_shop_44 : decode cX8_shop 44 = .ok (.iconst (-1), 1) := by decide +kernel
theorem dX8_shop_45 : decode cX8_shop 45 = .ok (.putfield 84, 3) := by decide +kernel
theorem dX8_shop_48 : decode cX8_shop 48 = .ok (.iconst 0, 1) := by decide +kernel
theorem dX8_shop_49 : decode cX8_shop 49 = .ok (.istore_n 2, 1) := by decide +kernel
theorem dX8_shop_50 : decode cX8_shop 50 = .ok (.iload_n 2, 1) := by decide +kernel
theorem dX8_shop_51 : decode cX8_shop 51 = .ok (.bipush 9, 2) := by decide +kernel
theorem dX8_shop_53 : decode cX8_shop 53 = .ok (.if_icmp .ge 50, 3) := by decide +kernel
theorem dX8_shop_56 : decode cX8_shop 56 = .ok (.aload_n 0, 1) := by decide +kernel
theorem dX8_shop_57 : decode cX8_shop 57 = .ok (.getfield 40, 3) := by decide +kernel
theorem dX8_shop_60 : decode cX8_shop 60 = .ok (.bipush 9, 2) := by decide +kernel
theorem dX8_shop_62 : decode cX8_shop 62 = .ok (.iload_n 2, 1) := by decide +kernel
theorem dX8_shop_63 : decode cX8_shop 63 = .ok (.iadd, 1) := by decide +kernel
theorem dX8_shop_64 : decode cX8_shop 64 = .ok (.iload_n 2, 1) := by decide +kernel
theorem dX8_shop_65 : decode cX8_shop 65 = .ok (.iconst 5, 1) := by decide +kernel
theorem dX8_shop_66 : decode cX8_shop 66 = .ok (.if_icmp .ne 7, 3) := by decide +kernel
theorem dX8_shop_69 : decode cX8_shop 69 = .ok (.iconst 3, 1) := by decide +kernel
theorem dX8_shop_70 : decode cX8_shop 70 = .ok (.goto 26, 3) := by decide +kernel
theorem dX8_shop_73 : decode cX8_shop 73 = .ok (.iload_n 2, 1) := by decide +kernel
theorem dX8_shop_74 : decode cX8_shop 74 = .ok (.bipush 6, 2) := by decide +kernel
theorem dX8_shop_76 : decode cX8_shop 76 = .ok (.if_icmp .ne 9, 3) := by decide +kernel
theorem dX8_shop_79 : decode cX8_shop 79 = .ok (.sipush 400, 3) := by decide +kernel
theorem dX8_shop_82 : decode cX8_shop 82 = .ok (.goto 14, 3) := by decide +kernel
theorem dX8_shop_85 : decode cX8_shop 85 = .ok (.iload_n 2, 1) := by decide +kernel
theorem dX8_shop_86 : decode cX8_shop 86 = .ok (.bipush 7, 2) := by decide +kernel
theorem dX8_shop_88 : decode cX8_shop 88 = .ok (.if_icmp .ne 7, 3) := by decide +kernel
theorem dX8_shop_91 : decode cX8_shop 91 = .ok (.iconst 1, 1) := by decide +kernel
theorem dX8_shop_92 : decode cX8_shop 92 = .ok (.goto 4, 3) := by decide +kernel
theorem dX8_shop_95 : decode cX8_shop 95 = .ok (.iconst 0, 1) := by decide +kernel
theorem dX8_shop_96 : decode cX8_shop 96 = .ok (.iastore, 1) := by decide +kernel
theorem dX8_shop_97 : decode cX8_shop 97 = .ok (.iinc 2 1, 3) := by decide +kernel
theorem dX8_shop_100 : decode cX8_shop 100 = .ok (.goto (-50), 3) := by decide +kernel
theorem dX8_shop_103 : decode cX8_shop 103 = .ok (.aload_n 0, 1) := by decide +kernel
theorem dX8_shop_104 : decode cX8_shop 104 = .ok (.invokevirtual 235, 3) := by decide +kernel
theorem dX8_shop_107 : decode cX8_shop 107 = .ok (.iconst 0, 1) := by decide +kernel
theorem dX8_shop_108 : decode cX8_shop 108 = .ok (.istore_n 2, 1) := by decide +kernel
theorem dX8_shop_109 : decode cX8_shop 109 = .ok (.aload_n 0, 1) := by decide +kernel
theorem dX8_shop_110 : decode cX8_shop 110 = .ok (.getfield 210, 3) := by decide +kernel
theorem dX8_shop_113 : decode cX8_shop 113 = .ok (.ifCond .ne 19, 3) := by decide +kernel
theorem dX8_shop_116 : decode cX8_shop 116 = .ok (.aload_n 0, 1) := by decide +kernel
theorem dX8_shop_117 : decode cX8_shop 117 = .ok (.getfield 184, 3) := by decide +kernel
theorem dX8_shop_120 : decode cX8_shop 120 = .ok (.ifCond .eq 12, 3) := by decide +kernel
theorem dX8_shop_123 : decode cX8_shop 123 = .ok (.aload_n 0, 1) := by decide +kernel
theorem dX8_shop_124 : decode cX8_shop 124 = .ok (.iload_n 2, 1) := by decide +kernel
theorem dX8_shop_125 : decode cX8_shop 125 = .ok (.invokevirtual 313, 3) := by decide +kernel
theorem dX8_shop_128 : decode cX8_shop 128 = .ok (.istore_n 2, 1) := by decide +kernel
theorem dX8_shop_129 : decode cX8_shop 129 = .ok (.goto (-20), 3) := by decide +kernel
theorem dX8_shop_132 : decode cX8_shop 132 = .ok (.aload_n 0, 1) := by decide +kernel
theorem dX8_shop_133 : decode cX8_shop 133 = .ok (.getfield 210, 3) := by decide +kernel
theorem dX8_shop_136 : decode cX8_shop 136 = .ok (.ifCond .eq 26, 3) := by decide +kernel
theorem dX8_shop_139 : decode cX8_shop 139 = .ok (.aload_n 0, 1) := by decide +kernel
theorem dX8_shop_140 : decode cX8_shop 140 = .ok (.aload_n 0, 1) := by decide +kernel
theorem dX8_shop_141 : decode cX8_shop 141 = .ok (.getfield 213, 3) := by decide +kernel
theorem dX8_shop_144 : decode cX8_shop 144 = .ok (.putfield 84, 3) := by decide +kernel
theorem dX8_shop_147 : decode cX8_shop 147 = .ok (.aload_n 0, 1) := by decide +kernel
theorem dX8_shop_148 : decode cX8_shop 148 = .ok (.getfield 78, 3) := by decide +kernel
theorem dX8_shop_151 : decode cX8_shop 151 = .ok (.iconst 0, 1) := by decide +kernel
theorem dX8_shop_152 : decode cX8_shop 152 = .ok (.dup2, 1) := by decide +kernel
theorem dX8_shop_153 : decode cX8_shop 153 = .ok (.iaload, 1) := by decide +kernel
theorem dX8_shop_154 : decode cX8_shop 154 = .ok (.iconst 1, 1) := by decide +kernel
theorem dX8_shop_155 : decode cX8_shop 155 = .ok (.iadd, 1) := by decide +kernel
theorem dX8_shop_156 : decode cX8_shop 156 = .ok (.iastore, 1) := by decide +kernel
theorem dX8_shop_157 : decode cX8_shop 157 = .ok (.aload_n 0, 1) := by decide +kernel
theorem dX8_shop_158 : decode cX8_shop 158 = .ok (.getfield 210, 3) := by decide +kernel
theorem dX8_shop_161 : decode cX8_shop 161 = .ok (.ireturn, 1) := by decide +kernel
theorem dX8_shop_162 : decode cX8_shop 162 = .ok (.aload_n 0, 1) := by decide +kernel
theorem dX8_shop_163 : decode cX8_shop 163 = .ok (.invokevirtual 316, 3) := by decide +kernel
theorem dX8_shop_166 : decode cX8_shop 166 = .ok (.iconst 0, 1) := by decide +kernel
theorem dX8_shop_167 : decode cX8_shop 167 = .ok (.ireturn, 1) := by decide +kernel
theorem dX8_takeHalf_0 : decode cX8_takeHalf 0 = .ok (.iconst 0, 1) := by decide +kernel
theorem dX8_takeHalf_1 : decode cX8_takeHalf 1 = .ok (.istore_n 1, 1) := by decide +kernel
theorem dX8_takeHalf_2 : decode cX8_takeHalf 2 = .ok (.iload_n 1, 1) := by decide +kernel
theorem dX8_takeHalf_3 : decode cX8_takeHalf 3 = .ok (.aload_n 0, 1) := by decide +kernel
theorem dX8_takeHalf_4 : decode cX8_takeHalf 4 = .ok (.arraylength, 1) := by decide +kernel
theorem dX8_takeHalf_5 : decode cX8_takeHalf 5 = .ok (.iconst 2, 1) := by decide +kernel
theorem dX8_takeHalf_6 : decode cX8_takeHalf 6 = .ok (.idiv, 1) := by decide +kernel
theorem dX8_takeHalf_7 : decode cX8_takeHalf 7 = .ok (.if_icmp .ge 20, 3) := by decide +kernel
theorem dX8_takeHalf_10 : decode cX8_takeHalf 10 = .ok (.aload_n 0, 1) := by decide +kernel
theorem dX8_takeHalf_11 : decode cX8_takeHalf 11 = .ok (.iload_n 1, 1) := by decide +kernel
theorem dX8_takeHalf_12 : decode cX8_takeHalf 12 = .ok (.aload_n 0, 1) := by decide +kernel
theorem dX8_takeHalf_13 : decode cX8_takeHalf 13 = .ok (.aload_n 0, 1) := by decide +kernel
theorem dX8_takeHalf_14 : decode cX8_takeHalf 14 = .ok (.arraylength, 1) := by decide +kernel
theorem dX8_takeHalf_15 : decode cX8_takeHalf 15 = .ok (.iconst 2, 1) := by decide +kernel
theorem dX8_takeHalf_16 : decode cX8_takeHalf 16 = .ok (.idiv, 1) := by decide +kernel
theorem dX8_takeHalf_17 : decode cX8_takeHalf 17 = .ok (.iload_n 1, 1) := by decide +kernel
theorem dX8_takeHalf_18 : decode cX8_takeHalf 18 = .ok (.iadd, 1) := by decide +kernel
theorem dX8_takeHalf_19 : decode cX8_takeHalf 19 = .ok (.iaload, 1) := by decide +kernel
theorem dX8_takeHalf_20 : decode cX8_takeHalf 20 = .ok (.iastore, 1) := by decide +kernel
theorem dX8_takeHalf_21 : decode cX8_takeHalf 21 = .ok (.iinc 1 1, 3) := by decide +kernel
theorem dX8_takeHalf_24 : decode cX8_takeHalf 24 = .ok (.goto (-22), 3) := by decide +kernel
theorem dX8_takeHalf_27 : decode cX8_takeHalf 27 = .ok (.return_, 1) := by decide +kernel
theorem dX8_takeOver_0 : decode cX8_takeOver 0 = .ok (.aload_n 0, 1) := by decide +kernel
theorem dX8_takeOver_1 : decode cX8_takeOver 1 = .ok (.getfield 40, 3) := by decide +kernel
theorem dX8_takeOver_4 : decode cX8_takeOver 4 = .ok (.invokestatic 319, 3) := by decide +kernel
theorem dX8_takeOver_7 : decode cX8_takeOver 7 = .ok (.aload_n 0, 1) := by decide +kernel
theorem dX8_takeOver_8 : decode cX8_takeOver 8 = .ok (.getfield 44, 3) := by decide +kernel
theorem dX8_takeOver_11 : decode cX8_takeOver 11 = .ok (.invokestatic 319, 3) := by decide +kernel
theorem dX8_takeOver_14 : decode cX8_takeOver 14 = .ok (.aload_n 0, 1) := by decide +kernel
theorem dX8_takeOver_15 : decode cX8_takeOver 15 = .ok (.getfield 46, 3) := by decide +kernel
theorem dX8_takeOver_18 : decode cX8_takeOver 18 = .ok (.invokestatic 319, 3) := by decide +kernel
theorem dX8_takeOver_21 : decode cX8_takeOver 21 = .ok (.aload_n 0, 1) := by decide +kernel
theorem dX8_takeOver_22 : decode cX8_takeOver 22 = .ok (.getfield 49, 3) := by decide +kernel
theorem dX8_takeOver_25 : decode cX8_takeOver 25 = .ok (.invokestatic 319, 3) := by decide +kernel
theorem dX8_takeOver_28 : decode cX8_takeOver 28 = .ok (.aload_n 0, 1) := by decide +kernel
theorem dX8_takeOver_29 : decode cX8_takeOver 29 = .ok (.getfield 52, 3) := by decide +kernel
theorem dX8_takeOver_32 : decode cX8_takeOver 32 = .ok (.invokestatic 319, 3) := by decide +kernel
theorem dX8_takeOver_35 : decode cX8_takeOver 35 = .ok (.aload_n 0, 1) := by decide +kernel
theorem dX8_takeOver_36 : decode cX8_takeOver 36 = .ok (.getfield 55, 3) := by decide +kernel
theorem dX8_takeOver_39 : decode cX8_takeOver 39 = .ok (.invokestatic 319, 3) := by decide +kernel
theorem dX8_takeOver_42 : decode cX8_takeOver 42 = .ok (.aload_n 0, 1) := by decide +kernel
theorem dX8_takeOver_43 : decode cX8_takeOver 43 = .ok (.getfield 58, 3) := by decide +kernel
theorem dX8_takeOver_46 : decode cX8_takeOver 46 = .ok (.invokestatic 319, 3) := by decide +kernel
theorem dX8_takeOver_49 : decode cX8_takeOver 49 = .ok (.aload_n 0, 1) := by decide +kernel
theorem dX8_takeOver_50 : decode cX8_takeOver 50 = .ok (.getfield 61, 3) := by decide +kernel
theorem dX8_takeOver_53 : decode cX8_takeOver 53 = .ok (.invokestatic 319, 3) := by decide +kernel
theorem dX8_takeOver_56 : decode cX8_takeOver 56 = .ok (.aload_n 0, 1) := by decide +kernel
theorem dX8_takeOver_57 : decode cX8_takeOver 57 = .ok (.getfield 64, 3) := by decide +kernel
theorem dX8_takeOver_60 : decode cX8_takeOver 60 = .ok (.invokestatic 319, 3) := by decide +kernel
theorem dX8_takeOver_63 : decode cX8_takeOver 63 = .ok (.aload_n 0, 1) := by decide +kernel
theorem dX8_takeOver_64 : decode cX8_takeOver 64 = .ok (.getfield 66, 3) := by decide +kernel
theorem dX8_takeOver_67 : decode cX8_takeOver 67 = .ok (.invokestatic 319, 3) := by decide +kernel
theorem dX8_takeOver_70 : decode cX8_takeOver 70 = .ok (.aload_n 0, 1) := by decide +kernel
theorem dX8_takeOver_71 : decode cX8_takeOver 71 = .ok (.getfield 69, 3) := by decide +kernel
theorem dX8_takeOver_74 : decode cX8_takeOver 74 = .ok (.invokestatic 319, 3) := by decide +kernel
theorem dX8_takeOver_77 : decode cX8_takeOver 77 = .ok (.aload_n 0, 1) := by decide +kernel
theorem dX8_takeOver_78 : decode cX8_takeOver 78 = .ok (.getfield 72, 3) := by decide +kernel
theorem dX8_takeOver_81 : decode cX8_takeOver 81 = .ok (.invokestatic 319, 3) := by decide +kernel
theorem dX8_takeOver_84 : decode cX8_takeOver 84 = .ok (.aload_n 0, 1) := by decide +kernel
theorem dX8_takeOver_85 : decode cX8_takeOver 85 = .ok (.getfield 75, 3) := by decide +kernel
theorem dX8_takeOver_88 : decode cX8_takeOver 88 = .ok (.invokestatic 319, 3) := by decide +kernel
theorem dX8_takeOver_91 : decode cX8_takeOver 91 = .ok (.aload_n 0, 1) := by decide +kernel
theorem dX8_takeOver_92 : decode cX8_takeOver 92 = .ok (.aload_n 0, 1) := by decide +kernel
theorem dX8_takeOver_93 : decode cX8_takeOver 93 = .ok (.getfield 40, 3) := by decide +kernel
theorem dX8_takeOver_96 : decode cX8_takeOver 96 = .ok (.iconst 4, 1) := by decide +kernel
theorem dX8_takeOver_97 : decode cX8_takeOver 97 = .ok (.iaload, 1) := by decide +kernel
theorem dX8_takeOver_98 : decode cX8_takeOver 98 = .ok (.ifCond .le 7, 3) := by decide +kernel
theorem dX8_takeOver_101 : decode cX8_takeOver 101 = .ok (.iconst 1, 1) := by decide +kernel
theorem dX8_takeOver_102 : decode cX8_takeOver 102 = .ok (.goto 4, 3) := by decide +kernel
theorem dX8_takeOver_105 : decode cX8_takeOver 105 = .ok (.iconst 0, 1) := by decide +kernel
theorem dX8_takeOver_106 : decode cX8_takeOver 106 = .ok (.putfield 323, 3) := by decide +kernel
theorem dX8_takeOver_109 : decode cX8_takeOver 109 = .ok (.aload_n 0, 1) := by decide +kernel
theorem dX8_takeOver_110 : decode cX8_takeOver 110 = .ok (.iconst 0, 1) := by decide +kernel
theorem dX8_takeOver_111 : decode cX8_takeOver 111 = .ok (.putfield 326, 3) := by decide +kernel
theorem dX8_takeOver_114 : decode cX8_takeOver 114 = .ok (.aload_n 0, 1) := by decide +kernel
theorem dX8_takeOver_115 : decode cX8_takeOver 115 = .ok (.iconst 0, 1) := by decide +kernel
theorem dX8_takeOver_116 : decode cX8_takeOver 116 = .ok (.putfield 329, 3) := by decide +kernel
theorem dX8_takeOver_119 : decode cX8_takeOver 119 = .ok (.aload_n 0, 1) := by decide +kernel
theorem dX8_takeOver_120 : decode cX8_takeOver 120 = .ok (.aload_n 0, 1) := by decide +kernel
theorem dX8_takeOver_121 : decode cX8_takeOver 121 = .ok (.getfield 40, 3) := by decide +kernel
theorem dX8_takeOver_124 : decode cX8_takeOver 124 = .ok (.bipush 7, 2) := by decide +kernel
theorem dX8_takeOver_126 : decode cX8_takeOver 126 = .ok (.iaload, 1) := by decide +kernel
theorem dX8_takeOver_127 : decode cX8_takeOver 127 = .ok (.putfield 90, 3) := by decide +kernel
theorem dX8_takeOver_130 : decode cX8_takeOver 130 = .ok (.aload_n 0, 1) := by decide +kernel
theorem dX8_takeOver_131 : decode cX8_takeOver 131 = .ok (.aload_n 0, 1) := by decide +kernel
theorem dX8_takeOver_132 : decode cX8_takeOver 132 = .ok (.getfield 40, 3) := by decide +kernel
theorem dX8_takeOver_135 : decode cX8_takeOver 135 = .ok (.iconst 2, 1) := by decide +kernel
theorem dX8_takeOver_136 : decode cX8_takeOver 136 = .ok (.iaload, 1) := by decide +kernel
theorem dX8_takeOver_137 : decode cX8_takeOver 137 = .ok (.putfield 332, 3) := by decide +kernel
theorem dX8_takeOver_140 : decode cX8_takeOver 140 = .ok (.aload_n 0, 1) := by decide +kernel
theorem dX8_takeOver_141 : decode cX8_takeOver 141 = .ok (.iconst 0, 1) := by decide +kernel
theorem dX8_takeOver_142 : decode cX8_takeOver 142 = .ok (.putfield 335, 3) := by decide +kernel
theorem dX8_takeOver_145 : decode cX8_takeOver 145 = .ok (.aload_n 0, 1) := by decide +kernel
theorem dX8_takeOver_146 : decode cX8_takeOver 146 = .ok (.iconst 0, 1) := by decide +kernel
theorem dX8_takeOver_147 : decode cX8_takeOver 147 = .ok (.putfield 338, 3) := by decide +kernel
theorem dX8_takeOver_150 : decode cX8_takeOver 150 = .ok (.aload_n 0, 1) := by decide +kernel
theorem dX8_takeOver_151 : decode cX8_takeOver 151 = .ok (.iconst 0, 1) := by decide +kernel
theorem dX8_takeOver_152 : decode cX8_takeOver 152 = .ok (.putfield 341, 3) := by decide +kernel
theorem dX8_takeOver_155 : decode cX8_takeOver 155 = .ok (.aload_n 0, 1) := by decide +kernel
theorem dX8_takeOver_156 : decode cX8_takeOver 156 = .ok (.iconst 0, 1) := by decide +kernel
theorem dX8_takeOver_157 : decode cX8_takeOver 157 = .ok (.putfield 344, 3) := by decide +kernel
theorem dX8_takeOver_160 : decode cX8_takeOver 160 = .ok (.aload_n 0, 1) := by decide +kernel
theorem dX8_takeOver_161 : decode cX8_takeOver 161 = .ok (.iconst 0, 1) := by decide +kernel
theorem dX8_takeOver_162 : decode cX8_takeOver 162 = .ok (.putfield 347, 3) := by decide +kernel
theorem dX8_takeOver_165 : decode cX8_takeOver 165 = .ok (.aload_n 0, 1) := by decide +kernel
theorem dX8_takeOver_166 : decode cX8_takeOver 166 = .ok (.iconst 0, 1) := by decide +kernel
theorem dX8_takeOver_167 : decode cX8_takeOver 167 = .ok (.putfield 351, 3) := by decide +kernel
theorem dX8_takeOver_170 : decode cX8_takeOver 170 = .ok (.aload_n 0, 1) := by decide +kernel
theorem dX8_takeOver_171 : decode cX8_takeOver 171 = .ok (.invokevirtual 354, 3) := by decide +kernel
theorem dX8_takeOver_174 : decode cX8_takeOver 174 = .ok (.return_, 1) := by decide +kernel
theorem dX8_fault_0 : decode cX8_fault 0 = .ok (.aload_n 0, 1) := by decide +kernel
theorem dX8_fault_1 : decode cX8_fault 1 = .ok (.iconst 0, 1) := by decide +kernel
theorem dX8_fault_2 : decode cX8_fault 2 = .ok (.putfield 159, 3) := by decide +kernel
theorem dX8_fault_5 : decode cX8_fault 5 = .ok (.aload_n 0, 1) := by decide +kernel
theorem dX8_fault_6 : decode cX8_fault 6 = .ok (.getfield 84, 3) := by decide +kernel
theorem dX8_fault_9 : decode cX8_fault 9 = .ok (.ireturn, 1) := by decide +kernel
theorem dX8_tellFar_0 : decode cX8_tellFar 0 = .ok (.iconst 0, 1) := by decide +kernel
theorem dX8_tellFar_1 : decode cX8_tellFar 1 = .ok (.istore_n 1, 1) := by decide +kernel
theorem dX8_tellFar_2 : decode cX8_tellFar 2 = .ok (.iload_n 1, 1) := by decide +kernel
theorem dX8_tellFar_3 : decode cX8_tellFar 3 = .ok (.aload_n 0, 1) := by decide +kernel
theorem dX8_tellFar_4 : decode cX8_tellFar 4 = .ok (.getfield 40, 3) := by decide +kernel
theorem dX8_tellFar_7 : decode cX8_tellFar 7 = .ok (.iconst 0, 1) := by decide +kernel
theorem dX8_tellFar_8 : decode cX8_tellFar 8 = .ok (.iaload, 1) := by decide +kernel
theorem dX8_tellFar_9 : decode cX8_tellFar 9 = .ok (.if_icmp .ge 168, 3) := by decide +kernel
theorem dX8_tellFar_12 : decode cX8_tellFar 12 = .ok (.iconst 0, 1) := by decide +kernel
theorem dX8_tellFar_13 : decode cX8_tellFar 13 = .ok (.istore_n 2, 1) := by decide +kernel
theorem dX8_tellFar_14 : decode cX8_tellFar 14 = .ok (.iload_n 2, 1) := by decide +kernel
theorem dX8_tellFar_15 : decode cX8_tellFar 15 = .ok (.aload_n 0, 1) := by decide +kernel
theorem dX8_tellFar_16 : decode cX8_tellFar 16 = .ok (.getfield 40, 3) := by decide +kernel
theorem dX8_tellFar_19 : decode cX8_tellFar 19 = .ok (.iconst 0, 1) := by decide +kernel
theorem dX8_tellFar_20 : decode cX8_tellFar 20 = .ok (.iaload, 1) := by decide +kernel
theorem dX8_tellFar_21 : decode cX8_tellFar 21 = .ok (.if_icmp .ge 30, 3) := by decide +kernel
theorem dX8_tellFar_24 : decode cX8_tellFar 24 = .ok (.aload_n 0, 1) := by decide +kernel
theorem dX8_tellFar_25 : decode cX8_tellFar 25 = .ok (.getfield 88, 3) := by decide +kernel
theorem dX8_tellFar_28 : decode cX8_tellFar 28 = .ok (.bipush 10, 2) := by decide +kernel
theorem dX8_tellFar_30 : decode cX8_tellFar 30 = .ok (.iload_n 1, 1) := by decide +kernel
theorem dX8_tellFar_31 : decode cX8_tellFar 31 = .ok (.imul, 1) := by decide +kernel
theorem dX8_tellFar_32 : decode cX8_tellFar 32 = .ok (.iload_n 2, 1) := by decide +kernel
theorem dX8_tellFar_33 : decode cX8_tellFar 33 = .ok (.iadd, 1) := by decide +kernel
theorem dX8_tellFar_34 : decode cX8_tellFar 34 = .ok (.iload_n 1, 1) := by decide +kernel
theorem dX8_tellFar_35 : decode cX8_tellFar 35 = .ok (.iload_n 2, 1) := by decide +kernel
theorem dX8_tellFar_36 : decode cX8_tellFar 36 = .ok (.if_icmp .ne 7, 3) := by decide +kernel
theorem dX8_tellFar_39 : decode cX8_tellFar 39 = .ok (.iconst 0, 1) := by decide +kernel
theorem dX8_tellFar_40 : decode cX8_tellFar 40 = .ok (.goto 4, 3) := by decide +kernel
theorem dX8_tellFar_43 : decode cX8_tellFar 43 = .ok (.iconst (-1), 1) := by decide +kernel
theorem dX8_tellFar_44 : decode cX8_tellFar 44 = .ok (.iastore, 1) := by decide +kernel
theorem dX8_tellFar_45 : decode cX8_tellFar 45 = .ok (.iinc 2 1, 3) := by decide +kernel
theorem dX8_tellFar_48 : decode cX8_tellFar 48 = .ok (.goto (-34), 3) := by decide +kernel
theorem dX8_tellFar_51 : decode cX8_tellFar 51 = .ok (.iconst 0, 1) := by decide +kernel
theorem dX8_tellFar_52 : decode cX8_tellFar 52 = .ok (.istore_n 2, 1) := by decide +kernel
theorem dX8_tellFar_53 : decode cX8_tellFar 53 = .ok (.iload_n 2, 1) := by decide +kernel
theorem dX8_tellFar_54 : decode cX8_tellFar 54 = .ok (.aload_n 0, 1) := by decide +kernel
theorem dX8_tellFar_55 : decode cX8_tellFar 55 = .ok (.getfield 40, 3) := by decide +kernel
theorem dX8_tellFar_58 : decode cX8_tellFar 58 = .ok (.iconst 0, 1) := by decide +kernel
theorem dX8_tellFar_59 : decode cX8_tellFar 59 = .ok (.iaload, 1) := by decide +kernel
theorem dX8_tellFar_60 : decode cX8_tellFar 60 = .ok (.if_icmp .ge 111, 3) := by decide +kernel
theorem dX8_tellFar_63 : decode cX8_tellFar 63 = .ok (.iconst 0, 1) := by decide +kernel
theorem dX8_tellFar_64 : decode cX8_tellFar 64 = .ok (.istore_n 3, 1) := by decide +kernel
theorem dX8_tellFar_65 : decode cX8_tellFar 65 = .ok (.iload_n 3, 1) := by decide +kernel
theorem dX8_tellFar_66 : decode cX8_tellFar 66 = .ok (.aload_n 0, 1) := by decide +kernel
theorem dX8_tellFar_67 : decode cX8_tellFar 67 = .ok (.getfield 40, 3) := by decide +kernel
theorem dX8_tellFar_70 : decode cX8_tellFar 70 = .ok (.iconst 0, 1) := by decide +kernel
theorem dX8_tellFar_71 : decode cX8_tellFar 71 = .ok (.iaload, 1) := by decide +kernel
theorem dX8_tellFar_72 : decode cX8_tellFar 72 = .ok (.if_icmp .ge 93, 3) := by decide +kernel
theorem dX8_tellFar_75 : decode cX8_tellFar 75 = .ok (.aload_n 0, 1) := by decide +kernel
theorem dX8_tellFar_76 : decode cX8_tellFar 76 = .ok (.getfield 88, 3) := by decide +kernel
theorem dX8_tellFar_79 : decode cX8_tellFar 79 = .ok (.bipush 10, 2) := by decide +kernel
theorem dX8_tellFar_81 : decode cX8_tellFar 81 = .ok (.iload_n 1, 1) := by decide +kernel
theorem dX8_tellFar_82 : decode cX8_tellFar 82 = .ok (.imul, 1) := by decide +kernel
theorem dX8_tellFar_83 : decode cX8_tellFar 83 = .ok (.iload_n 3, 1) := by decide +kernel
theorem dX8_tellFar_84 : decode cX8_tellFar 84 = .ok (.iadd, 1) := by decide +kernel
theorem dX8_tellFar_85 : decode cX8_tellFar 85 = .ok (.iaload, 1) := by decide +kernel
theorem dX8_tellFar_86 : decode cX8_tellFar 86 = .ok (.iload_n 2, 1) := by decide +kernel
theorem dX8_tellFar_87 : decode cX8_tellFar 87 = .ok (.if_icmp .eq 6, 3) := by decide +kernel
theorem dX8_tellFar_90 : decode cX8_tellFar 90 = .ok (.goto 69, 3) := by decide +kernel
theorem dX8_tellFar_93 : decode cX8_tellFar 93 = .ok (.iconst 0, 1) := by decide +kernel
theorem dX8_tellFar_94 : decode cX8_tellFar 94 = .ok (.istore 4, 2) := by decide +kernel
theorem dX8_tellFar_96 : decode cX8_tellFar 96 = .ok (.iload 4, 2) := by decide +kernel
theorem dX8_tellFar_98 : decode cX8_tellFar 98 = .ok (.aload_n 0, 1) := by decide +kernel
theorem dX8_tellFar_99 : decode cX8_tellFar 99 = .ok (.getfield 40, 3) := by decide +kernel
theorem dX8_tellFar_102 : decode cX8_tellFar 102 = .ok (.iconst 0, 1) := by decide +kernel
theorem dX8_tellFar_103 : decode cX8_tellFar 103 = .ok (.iaload, 1) := by decide +kernel
theorem dX8_tellFar_104 : decode cX8_tellFar 104 = .ok (.if_icmp .ge 55, 3) := by decide +kernel
theorem dX8_tellFar_107 : decode cX8_tellFar 107 = .ok (.aload_n 0, 1) := by decide +kernel
theorem dX8_tellFar_108 : decode cX8_tellFar 108 = .ok (.getfield 88, 3) := by decide +kernel
theorem dX8_tellFar_111 : decode cX8_tellFar 111 = .ok (.bipush 10, 2) := by decide +kernel
theorem dX8_tellFar_113 : decode cX8_tellFar 113 = .ok (.iload_n 1, 1) := by decide +kernel
theorem dX8_tellFar_114 : decode cX8_tellFar 114 = .ok (.imul, 1) := by decide +kernel
theorem dX8_tellFar_115 : decode cX8_tellFar 115 = .ok (.iload 4, 2) := by decide +kernel
theorem dX8_tellFar_117 : decode cX8_tellFar 117 = .ok (.iadd, 1) := by decide +kernel
theorem dX8_tellFar_118 : decode cX8_tellFar 118 = .ok (.iaload, 1) := by decide +kernel
theorem dX8_tellFar_119 : decode cX8_tellFar 119 = .ok (.iconst (-1), 1) := by decide +kernel
theorem dX8_tellFar_120 : decode cX8_tellFar 120 = .ok (.if_icmp .ne 33, 3) := by decide +kernel
theorem dX8_tellFar_123 : decode cX8_tellFar 123 = .ok (.aload_n 0, 1) := by decide +kernel
theorem dX8_tellFar_124 : decode cX8_tellFar 124 = .ok (.getfield 49, 3) := by decide +kernel
theorem dX8_tellFar_127 : decode cX8_tellFar 127 = .ok (.iload_n 3, 1) := by decide +kernel
theorem dX8_tellFar_128 : decode cX8_tellFar 128 = .ok (.iaload, 1) := by decide +kernel
theorem dX8_tellFar_129 : decode cX8_tellFar 129 = .ok (.iload 4, 2) := by decide +kernel
theorem dX8_tellFar_131 : decode cX8_tellFar 131 = .ok (.ishr, 1) := by decide +kernel
theorem dX8_tellFar_132 : decode cX8_tellFar 132 = .ok (.iconst 1, 1) := by decide +kernel
theorem dX8_tellFar_133 : decode cX8_tellFar 133 = .ok (.iand, 1) := by decide +kernel
theorem dX8_tellFar_134 : decode cX8_tellFar 134 = .ok (.iconst 1, 1) := by decide +kernel
theorem dX8_tellFar_135 : decode cX8_tellFar 135 = .ok (.if_icmp .ne 18, 3) := by decide +kernel
theorem dX8_tellFar_138 : decode cX8_tellFar 138 = .ok (.aload_n 0, 1) := by decide +kernel
theorem dX8_tellFar_139 : decode cX8_tellFar 139 = .ok (.getfield 88, 3) := by decide +kernel
theorem dX8_tellFar_142 : decode cX8_tellFar 142 = .ok (.bipush 10, 2) := by decide +kernel
theorem dX8_tellFar_144 : decode cX8_tellFar 144 = .ok (.iload_n 1, 1) := by decide +kernel
theorem dX8_tellFar_145 : decode cX8_tellFar 145 = .ok (.imul, 1) := by decide +kernel
theorem dX8_tellFar_146 : decode cX8_tellFar 146 = .ok (.iload 4, 2) := by decide +kernel
theorem dX8_tellFar_148 : decode cX8_tellFar 148 = .ok (.iadd, 1) := by decide +kernel
theorem dX8_tellFar_149 : decode cX8_tellFar 149 = .ok (.iload_n 2, 1) := by decide +kernel
theorem dX8_tellFar_150 : decode cX8_tellFar 150 = .ok (.iconst 1, 1) := by decide +kernel
theorem dX8_tellFar_151 : decode cX8_tellFar 151 = .ok (.iadd, 1) := by decide +kernel
theorem dX8_tellFar_152 : decode cX8_tellFar 152 = .ok (.iastore, 1) := by decide +kernel
theorem dX8_tellFar_153 : decode cX8_tellFar 153 = .ok (.iinc 4 1, 3) := by decide +kernel
theorem dX8_tellFar_156 : decode cX8_tellFar 156 = .ok (.goto (-60), 3) := by decide +kernel
theorem dX8_tellFar_159 : decode cX8_tellFar 159 = .ok (.iinc 3 1, 3) := by decide +kernel
theorem dX8_tellFar_162 : decode cX8_tellFar 162 = .ok (.goto (-97), 3) := by decide +kernel
theorem dX8_tellFar_165 : decode cX8_tellFar 165 = .ok (.iinc 2 1, 3) := by decide +kernel
theorem dX8_tellFar_168 : decode cX8_tellFar 168 = .ok (.goto (-115), 3) := by decide +kernel
theorem dX8_tellFar_171 : decode cX8_tellFar 171 = .ok (.iinc 1 1, 3) := by decide +kernel
theorem dX8_tellFar_174 : decode cX8_tellFar 174 = .ok (.goto (-172), 3) := by decide +kernel
theorem dX8_tellFar_177 : decode cX8_tellFar 177 = .ok (.return_, 1) := by decide +kernel
theorem dX8_far_0 : decode cX8_far 0 = .ok (.aload_n 0, 1) := by decide +kernel
theorem dX8_far_1 : decode cX8_far 1 = .ok (.iconst 0, 1) := by decide +kernel
theorem dX8_far_2 : decode cX8_far 2 = .ok (.putfield 159, 3) := by decide +kernel
theorem dX8_far_5 : decode cX8_far 5 = .ok (.aload_n 0, 1) := by decide +kernel
theorem dX8_far_6 : decode cX8_far 6 = .ok (.iload_n 1, 1) := by decide +kernel
theorem dX8_far_7 : decode cX8_far 7 = .ok (.invokevirtual 357, 3) := by decide +kernel
theorem dX8_far_10 : decode cX8_far 10 = .ok (.ifCond .eq 25, 3) := by decide +kernel
theorem dX8_far_13 : decode cX8_far 13 = .ok (.aload_n 0, 1) := by decide +kernel
theorem dX8_far_14 : decode cX8_far 14 = .ok (.iload_n 2, 1) := by decide +kernel
theorem dX8_far_15 : decode cX8_far 15 = .ok (.invokevirtual 357, 3) := by decide +kernel
theorem dX8_far_18 : decode cX8_far 18 = .ok (.ifCond .eq 17, 3) := by decide +kernel
theorem dX8_far_21 : decode cX8_far 21 = .ok (.aload_n 0, 1) := by decide +kernel
theorem dX8_far_22 : decode cX8_far 22 = .ok (.getfield 88, 3) := by decide +kernel
theorem dX8_far_25 : decode cX8_far 25 = .ok (.bipush 10, 2) := by decide +kernel
theorem dX8_far_27 : decode cX8_far 27 = .ok (.iload_n 1, 1) := by decide +kernel
theorem dX8_far_28 : decode cX8_far 28 = .ok (.imul, 1) := by decide +kernel
theorem dX8_far_29 : decode cX8_far 29 = .ok (.iload_n 2, 1) := by decide +kernel
theorem dX8_far_30 : decode cX8_far 30 = .ok (.iadd, 1) := by decide +kernel
theorem dX8_far_31 : decode cX8_far 31 = .ok (.iaload, 1) := by decide +kernel
theorem dX8_far_32 : decode cX8_far 32 = .ok (.goto 8, 3) := by decide +kernel
theorem dX8_far_35 : decode cX8_far 35 = .ok (.aload_n 0, 1) := by decide +kernel
theorem dX8_far_36 : decode cX8_far 36 = .ok (.iconst 1, 1) := by decide +kernel
theorem dX8_far_37 : decode cX8_far 37 = .ok (.invokevirtual 310, 3) := by decide +kernel
theorem dX8_far_40 : decode cX8_far 40 = .ok (.ireturn, 1) := by decide +kernel
theorem dX8_pack_0 : decode cX8_pack 0 = .ok (.aload_n 1, 1) := by decide +kernel
theorem dX8_pack_1 : decode cX8_pack 1 = .ok (.iload_n 2, 1) := by decide +kernel
theorem dX8_pack_2 : decode cX8_pack 2 = .ok (.aload_n 0, 1) := by decide +kernel
theorem dX8_pack_3 : decode cX8_pack 3 = .ok (.getfield 323, 3) := by decide +kernel
theorem dX8_pack_6 : decode cX8_pack 6 = .ok (.iastore, 1) := by decide +kernel
theorem dX8_pack_7 : decode cX8_pack 7 = .ok (.aload_n 1, 1) := by decide +kernel
theorem dX8_pack_8 : decode cX8_pack 8 = .ok (.iload_n 2, 1) := by decide +kernel
theorem dX8_pack_9 : decode cX8_pack 9 = .ok (.iconst 1, 1) := by decide +kernel
theorem dX8_pack_10 : decode cX8_pack 10 = .ok (.iadd, 1) := by decide +kernel
theorem dX8_pack_11 : decode cX8_pack 11 = .ok (.aload_n 0, 1) := by decide +kernel
theorem dX8_pack_12 : decode cX8_pack 12 = .ok (.getfield 326, 3) := by decide +kernel
theorem dX8_pack_15 : decode cX8_pack 15 = .ok (.iastore, 1) := by decide +kernel
theorem dX8_pack_16 : decode cX8_pack 16 = .ok (.aload_n 1, 1) := by decide +kernel
theorem dX8_pack_17 : decode cX8_pack 17 = .ok (.iload_n 2, 1) := by decide +kernel
theorem dX8_pack_18 : decode cX8_pack 18 = .ok (.iconst 2, 1) := by decide +kernel
theorem dX8_pack_19 : decode cX8_pack 19 = .ok (.iadd, 1) := by decide +kernel
theorem dX8_pack_20 : decode cX8_pack 20 = .ok (.aload_n 0, 1) := by decide +kernel
theorem dX8_pack_21 : decode cX8_pack 21 = .ok (.getfield 329, 3) := by decide +kernel
theorem dX8_pack_24 : decode cX8_pack 24 = .ok (.iastore, 1) := by decide +kernel
theorem dX8_pack_25 : decode cX8_pack 25 = .ok (.aload_n 1, 1) := by decide +kernel
theorem dX8_pack_26 : decode cX8_pack 26 = .ok (.iload_n 2, 1) := by decide +kernel
theorem dX8_pack_27 : decode cX8_pack 27 = .ok (.iconst 3, 1) := by decide +kernel
theorem dX8_pack_28 : decode cX8_pack 28 = .ok (.iadd, 1) := by decide +kernel
theorem dX8_pack_29 : decode cX8_pack 29 = .ok (.aload_n 0, 1) := by decide +kernel
theorem dX8_pack_30 : decode cX8_pack 30 = .ok (.getfield 90, 3) := by decide +kernel
theorem dX8_pack_33 : decode cX8_pack 33 = .ok (.iastore, 1) := by decide +kernel
theorem dX8_pack_34 : decode cX8_pack 34 = .ok (.aload_n 1, 1) := by decide +kernel
theorem dX8_pack_35 : decode cX8_pack 35 = .ok (.iload_n 2, 1) := by decide +kernel
theorem dX8_pack_36 : decode cX8_pack 36 = .ok (.iconst 4, 1) := by decide +kernel
theorem dX8_pack_37 : decode cX8_pack 37 = .ok (.iadd, 1) := by decide +kernel
theorem dX8_pack_38 : decode cX8_pack 38 = .ok (.aload_n 0, 1) := by decide +kernel
theorem dX8_pack_39 : decode cX8_pack 39 = .ok (.getfield 332, 3) := by decide +kernel
theorem dX8_pack_42 : decode cX8_pack 42 = .ok (.iastore, 1) := by decide +kernel
theorem dX8_pack_43 : decode cX8_pack 43 = .ok (.aload_n 1, 1) := by decide +kernel
theorem dX8_pack_44 : decode cX8_pack 44 = .ok (.iload_n 2, 1) := by decide +kernel
theorem dX8_pack_45 : decode cX8_pack 45 = .ok (.iconst 5, 1) := by decide +kernel
theorem dX8_pack_46 : decode cX8_pack 46 = .ok (.iadd, 1) := by decide +kernel
theorem dX8_pack_47 : decode cX8_pack 47 = .ok (.aload_n 0, 1) := by decide +kernel
theorem dX8_pack_48 : decode cX8_pack 48 = .ok (.getfield 335, 3) := by decide +kernel
theorem dX8_pack_51 : decode cX8_pack 51 = .ok (.iastore, 1) := by decide +kernel
theorem dX8_pack_52 : decode cX8_pack 52 = .ok (.iconst 0, 1) := by decide +kernel
theorem dX8_pack_53 : decode cX8_pack 53 = .ok (.istore_n 3, 1) := by decide +kernel
theorem dX8_pack_54 : decode cX8_pack 54 = .ok (.iload_n 3, 1) := by decide +kernel
theorem dX8_pack_55 : decode cX8_pack 55 = .ok (.bipush 10, 2) := by decide +kernel
theorem dX8_pack_57 : decode cX8_pack 57 = .ok (.if_icmp .ge 40, 3) := by decide +kernel
theorem dX8_pack_60 : decode cX8_pack 60 = .ok (.aload_n 1, 1) := by decide +kernel
theorem dX8_pack_61 : decode cX8_pack 61 = .ok (.iload_n 2, 1) := by decide +kernel
theorem dX8_pack_62 : decode cX8_pack 62 = .ok (.bipush 6, 2) := by decide +kernel
theorem dX8_pack_64 : decode cX8_pack 64 = .ok (.iadd, 1) := by decide +kernel
theorem dX8_pack_65 : decode cX8_pack 65 = .ok (.iload_n 3, 1) := by decide +kernel
theorem dX8_pack_66 : decode cX8_pack 66 = .ok (.iadd, 1) := by decide +kernel
theorem dX8_pack_67 : decode cX8_pack 67 = .ok (.aload_n 0, 1) := by decide +kernel
theorem dX8_pack_68 : decode cX8_pack 68 = .ok (.getfield 52, 3) := by decide +kernel
theorem dX8_pack_71 : decode cX8_pack 71 = .ok (.iload_n 3, 1) := by decide +kernel
theorem dX8_pack_72 : decode cX8_pack 72 = .ok (.iaload, 1) := by decide +kernel
theorem dX8_pack_73 : decode cX8_pack 73 = .ok (.iastore, 1) := by decide +kernel
theorem dX8_pack_74 : decode cX8_pack 74 = .ok (.aload_n 1, 1) := by decide +kernel
theorem dX8_pack_75 : decode cX8_pack 75 = .ok (.iload_n 2, 1) := by decide +kernel
theorem dX8_pack_76 : decode cX8_pack 76 = .ok (.bipush 6, 2) := by decide +kernel
theorem dX8_pack_78 : decode cX8_pack 78 = .ok (.iadd, 1) := by decide +kernel
theorem dX8_pack_79 : decode cX8_pack 79 = .ok (.bipush 10, 2) := by decide +kernel
theorem dX8_pack_81 : decode cX8_pack 81 = .ok (.iadd, 1) := by decide +kernel
theorem dX8_pack_82 : decode cX8_pack 82 = .ok (.iload_n 3, 1) := by decide +kernel
theorem dX8_pack_83 : decode cX8_pack 83 = .ok (.iadd, 1) := by decide +kernel
theorem dX8_pack_84 : decode cX8_pack 84 = .ok (.aload_n 0, 1) := by decide +kernel
theorem dX8_pack_85 : decode cX8_pack 85 = .ok (.getfield 46, 3) := by decide +kernel
theorem dX8_pack_88 : decode cX8_pack 88 = .ok (.iload_n 3, 1) := by decide +kernel
theorem dX8_pack_89 : decode cX8_pack 89 = .ok (.iaload, 1) := by decide +kernel
theorem dX8_pack_90 : decode cX8_pack 90 = .ok (.iastore, 1) := by decide +kernel
theorem dX8_pack_91 : decode cX8_pack 91 = .ok (.iinc 3 1, 3) := by decide +kernel
theorem dX8_pack_94 : decode cX8_pack 94 = .ok (.goto (-40), 3) := by decide +kernel
theorem dX8_pack_97 : decode cX8_pack 97 = .ok (.return_, 1) := by decide +kernel
theorem dX8_unpack_0 : decode cX8_unpack 0 = .ok (.aload_n 0, 1) := by decide +kernel
theorem dX8_unpack_1 : decode cX8_unpack 1 = .ok (.aload_n 1, 1) := by decide +kernel
theorem dX8_unpack_2 : decode cX8_unpack 2 = .ok (.iload_n 2, 1) := by decide +kernel
theorem dX8_unpack_3 : decode cX8_unpack 3 = .ok (.iaload, 1) := by decide +kernel
theorem dX8_unpack_4 : decode cX8_unpack 4 = .ok (.putfield 323, 3) := by decide +kernel
theorem dX8_unpack_7 : decode cX8_unpack 7 = .ok (.aload_n 0, 1) := by decide +kernel
theorem dX8_unpack_8 : decode cX8_unpack 8 = .ok (.aload_n 1, 1) := by decide +kernel
theorem dX8_unpack_9 : decode cX8_unpack 9 = .ok (.iload_n 2, 1) := by decide +kernel
theorem dX8_unpack_10 : decode cX8_unpack 10 = .ok (.iconst 1, 1) := by decide +kernel
theorem dX8_unpack_11 : decode cX8_unpack 11 = .ok (.iadd, 1) := by decide +kernel
theorem dX8_unpack_12 : decode cX8_unpack 12 = .ok (.iaload, 1) := by decide +kernel
theorem dX8_unpack_13 : decode cX8_unpack 13 = .ok (.putfield 326, 3) := by decide +kernel
theorem dX8_unpack_16 : decode cX8_unpack 16 = .ok (.aload_n 0, 1) := by decide +kernel
theorem dX8_unpack_17 : decode cX8_unpack 17 = .ok (.aload_n 1, 1) := by decide +kernel
theorem dX8_unpack_18 : decode cX8_unpack 18 = .ok (.iload_n 2, 1) := by decide +kernel
theorem dX8_unpack_19 : decode cX8_unpack 19 = .ok (.iconst 2, 1) := by decide +kernel
theorem dX8_unpack_20 : decode cX8_unpack 20 = .ok (.iadd, 1) := by decide +kernel
theorem dX8_unpack_21 : decode cX8_unpack 21 = .ok (.iaload, 1) := by decide +kernel
theorem dX8_unpack_22 : decode cX8_unpack 22 = .ok (.putfield 329, 3) := by decide +kernel
theorem dX8_unpack_25 : decode cX8_unpack 25 = .ok (.aload_n 0, 1) := by decide +kernel
theorem dX8_unpack_26 : decode cX8_unpack 26 = .ok (.aload_n 1, 1) := by decide +kernel
theorem dX8_unpack_27 : decode cX8_unpack 27 = .ok (.iload_n 2, 1) := by decide +kernel
theorem dX8_unpack_28 : decode cX8_unpack 28 = .ok (.iconst 3, 1) := by decide +kernel
theorem dX8_unpack_29 : decode cX8_unpack 29 = .ok (.iadd, 1) := by decide +kernel
theorem dX8_unpack_30 : decode cX8_unpack 30 = .ok (.iaload, 1) := by decide +kernel
theorem dX8_unpack_31 : decode cX8_unpack 31 = .ok (.putfield 90, 3) := by decide +kernel
theorem dX8_unpack_34 : decode cX8_unpack 34 = .ok (.aload_n 0, 1) := by decide +kernel
theorem dX8_unpack_35 : decode cX8_unpack 35 = .ok (.aload_n 1, 1) := by decide +kernel
theorem dX8_unpack_36 : decode cX8_unpack 36 = .ok (.iload_n 2, 1) := by decide +kernel
theorem dX8_unpack_37 : decode cX8_unpack 37 = .ok (.iconst 4, 1) := by decide +kernel
theorem dX8_unpack_38 : decode cX8_unpack 38 = .ok (.iadd, 1) := by decide +kernel
theorem dX8_unpack_39 : decode cX8_unpack 39 = .ok (.iaload, 1) := by decide +kernel
theorem dX8_unpack_40 : decode cX8_unpack 40 = .ok (.putfield 332, 3) := by decide +kernel
theorem dX8_unpack_43 : decode cX8_unpack 43 = .ok (.aload_n 0, 1) := by decide +kernel
theorem dX8_unpack_44 : decode cX8_unpack 44 = .ok (.aload_n 1, 1) := by decide +kernel
theorem dX8_unpack_45 : decode cX8_unpack 45 = .ok (.iload_n 2, 1) := by decide +kernel
theorem dX8_unpack_46 : decode cX8_unpack 46 = .ok (.iconst 5, 1) := by decide +kernel
theorem dX8_unpack_47 : decode cX8_unpack 47 = .ok (.iadd, 1) := by decide +kernel
theorem dX8_unpack_48 : decode cX8_unpack 48 = .ok (.iaload, 1) := by decide +kernel
theorem dX8_unpack_49 : decode cX8_unpack 49 = .ok (.putfield 335, 3) := by decide +kernel
theorem dX8_unpack_52 : decode cX8_unpack 52 = .ok (.iconst 0, 1) := by decide +kernel
theorem dX8_unpack_53 : decode cX8_unpack 53 = .ok (.istore_n 3, 1) := by decide +kernel
theorem dX8_unpack_54 : decode cX8_unpack 54 = .ok (.iload_n 3, 1) := by decide +kernel
theorem dX8_unpack_55 : decode cX8_unpack 55 = .ok (.bipush 10, 2) := by decide +kernel
theorem dX8_unpack_57 : decode cX8_unpack 57 = .ok (.if_icmp .ge 40, 3) := by decide +kernel
theorem dX8_unpack_60 : decode cX8_unpack 60 = .ok (.aload_n 0, 1) := by decide +kernel
theorem dX8_unpack_61 : decode cX8_unpack 61 = .ok (.getfield 52, 3) := by decide +kernel
theorem dX8_unpack_64 : decode cX8_unpack 64 = .ok (.iload_n 3, 1) := by decide +kernel
theorem dX8_unpack_65 : decode cX8_unpack 65 = .ok (.aload_n 1, 1) := by decide +kernel
theorem dX8_unpack_66 : decode cX8_unpack 66 = .ok (.iload_n 2, 1) := by decide +kernel
theorem dX8_unpack_67 : decode cX8_unpack 67 = .ok (.bipush 6, 2) := by decide +kernel
theorem dX8_unpack_69 : decode cX8_unpack 69 = .ok (.iadd, 1) := by decide +kernel
theorem dX8_unpack_70 : decode cX8_unpack 70 = .ok (.iload_n 3, 1) := by decide +kernel
theorem dX8_unpack_71 : decode cX8_unpack 71 = .ok (.iadd, 1) := by decide +kernel
theorem dX8_unpack_72 : decode cX8_unpack 72 = .ok (.iaload, 1) := by decide +kernel
theorem dX8_unpack_73 : decode cX8_unpack 73 = .ok (.iastore, 1) := by decide +kernel
theorem dX8_unpack_74 : decode cX8_unpack 74 = .ok (.aload_n 0, 1) := by decide +kernel
theorem dX8_unpack_75 : decode cX8_unpack 75 = .ok (.getfield 46, 3) := by decide +kernel
theorem dX8_unpack_78 : decode cX8_unpack 78 = .ok (.iload_n 3, 1) := by decide +kernel
theorem dX8_unpack_79 : decode cX8_unpack 79 = .ok (.aload_n 1, 1) := by decide +kernel
theorem dX8_unpack_80 : decode cX8_unpack 80 = .ok (.iload_n 2, 1) := by decide +kernel
theorem dX8_unpack_81 : decode cX8_unpack 81 = .ok (.bipush 6, 2) := by decide +kernel
theorem dX8_unpack_83 : decode cX8_unpack 83 = .ok (.iadd, 1) := by decide +kernel
theorem dX8_unpack_84 : decode cX8_unpack 84 = .ok (.bipush 10, 2) := by decide +kernel
theorem dX8_unpack_86 : decode cX8_unpack 86 = .ok (.iadd, 1) := by decide +kernel
theorem dX8_unpack_87 : decode cX8_unpack 87 = .ok (.iload_n 3, 1) := by decide +kernel
theorem dX8_unpack_88 : decode cX8_unpack 88 = .ok (.iadd, 1) := by decide +kernel
theorem dX8_unpack_89 : decode cX8_unpack 89 = .ok (.iaload, 1) := by decide +kernel
theorem dX8_unpack_90 : decode cX8_unpack 90 = .ok (.iastore, 1) := by decide +kernel
theorem dX8_unpack_91 : decode cX8_unpack 91 = .ok (.iinc 3 1, 3) := by decide +kernel
theorem dX8_unpack_94 : decode cX8_unpack 94 = .ok (.goto (-40), 3) := by decide +kernel
theorem dX8_unpack_97 : decode cX8_unpack 97 = .ok (.return_, 1) := by decide +kernel
theorem dX8_reckon_0 : decode cX8_reckon 0 = .ok (.iload_n 0, 1) := by decide +kernel
theorem dX8_reckon_1 : decode cX8_reckon 1 = .ok (.tableswitch 103 (-26) (-20) #[89, 78, 67, 55, 51, 47, 43], 43) := by decide +kernel
theorem dX8_reckon_44 : decode cX8_reckon 44 = .ok (.iload_n 1, 1) := by decide +kernel
theorem dX8_reckon_45 : decode cX8_reckon 45 = .ok (.iload_n 2, 1) := by decide +kernel
theorem dX8_reckon_46 : decode cX8_reckon 46 = .ok (.iadd, 1) := by decide +kernel
theorem dX8_reckon_47 : decode cX8_reckon 47 = .ok (.ireturn, 1) := by decide +kernel
theorem dX8_reckon_48 : decode cX8_reckon 48 = .ok (.iload_n 1, 1) := by decide +kernel
theorem dX8_reckon_49 : decode cX8_reckon 49 = .ok (.iload_n 2, 1) := by decide +kernel
theorem dX8_reckon_50 : decode cX8_reckon 50 = .ok (.isub, 1) := by decide +kernel
theorem dX8_reckon_51 : decode cX8_reckon 51 = .ok (.ireturn, 1) := by decide +kernel
theorem dX8_reckon_52 : decode cX8_reckon 52 = .ok (.iload_n 1, 1) := by decide +kernel
theorem dX8_reckon_53 : decode cX8_reckon 53 = .ok (.iload_n 2, 1) := by decide +kernel
theorem dX8_reckon_54 : decode cX8_reckon 54 = .ok (.imul, 1) := by decide +kernel
theorem dX8_reckon_55 : decode cX8_reckon 55 = .ok (.ireturn, 1) := by decide +kernel
theorem dX8_reckon_56 : decode cX8_reckon 56 = .ok (.iload_n 2, 1) := by decide +kernel
theorem dX8_reckon_57 : decode cX8_reckon 57 = .ok (.ifCond .ne 7, 3) := by decide +kernel
theorem dX8_reckon_60 : decode cX8_reckon 60 = .ok (.iconst 0, 1) := by decide +kernel
theorem dX8_reckon_61 : decode cX8_reckon 61 = .ok (.goto 6, 3) := by decide +kernel
theorem dX8_reckon_64 : decode cX8_reckon 64 = .ok (.iload_n 1, 1) := by decide +kernel
theorem dX8_reckon_65 : decode cX8_reckon 65 = .ok (.iload_n 2, 1) := by decide +kernel
theorem dX8_reckon_66 : decode cX8_reckon 66 = .ok (.idiv, 1) := by decide +kernel
theorem dX8_reckon_67 : decode cX8_reckon 67 = .ok (.ireturn, 1) := by decide +kernel
theorem dX8_reckon_68 : decode cX8_reckon 68 = .ok (.iload_n 1, 1) := by decide +kernel
theorem dX8_reckon_69 : decode cX8_reckon 69 = .ok (.iload_n 2, 1) := by decide +kernel
theorem dX8_reckon_70 : decode cX8_reckon 70 = .ok (.if_icmp .ge 7, 3) := by decide +kernel
theorem dX8_reckon_73 : decode cX8_reckon 73 = .ok (.iconst 1, 1) := by decide +kernel
theorem dX8_reckon_74 : decode cX8_reckon 74 = .ok (.goto 4, 3) := by decide +kernel
theorem dX8_reckon_77 : decode cX8_reckon 77 = .ok (.iconst 0, 1) := by decide +kernel
theorem dX8_reckon_78 : decode cX8_reckon 78 = .ok (.ireturn, 1) := by decide +kernel
theorem dX8_reckon_79 : decode cX8_reckon 79 = .ok (.iload_n 1, 1) := by decide +kernel
theorem dX8_reckon_80 : decode cX8_reckon 80 = .ok (.iload_n 2, 1) := by decide +kernel
theorem dX8_reckon_81 : decode cX8_reckon 81 = .ok (.if_icmp .ne 7, 3) := by decide +kernel
theorem dX8_reckon_84 : decode cX8_reckon 84 = .ok (.iconst 1, 1) := by decide +kernel
theorem dX8_reckon_85 : decode cX8_reckon 85 = .ok (.goto 4, 3) := by decide +kernel
theorem dX8_reckon_88 : decode cX8_reckon 88 = .ok (.iconst 0, 1) := by decide +kernel
theorem dX8_reckon_89 : decode cX8_reckon 89 = .ok (.ireturn, 1) := by decide +kernel
theorem dX8_reckon_90 : decode cX8_reckon 90 = .ok (.iload_n 1, 1) := by decide +kernel
theorem dX8_reckon_91 : decode cX8_reckon 91 = .ok (.ifCond .eq 11, 3) := by decide +kernel
theorem dX8_reckon_94 : decode cX8_reckon 94 = .ok (.iload_n 2, 1) := by decide +kernel
theorem dX8_reckon_95 : decode cX8_reckon 95 = .ok (.ifCond .eq 7, 3) := by decide +kernel
theorem dX8_reckon_98 : decode cX8_reckon 98 = .ok (.iconst 1, 1) := by decide +kernel
theorem dX8_reckon_99 : decode cX8_reckon 99 = .ok (.goto 4, 3) := by decide +kernel
theorem dX8_reckon_102 : decode cX8_reckon 102 = .ok (.iconst 0, 1) := by decide +kernel
theorem dX8_reckon_103 : decode cX8_reckon 103 = .ok (.ireturn, 1) := by decide +kernel
theorem dX8_reckon_104 : decode cX8_reckon 104 = .ok (.iload_n 1, 1) := by decide +kernel
theorem dX8_reckon_105 : decode cX8_reckon 105 = .ok (.ifCond .ne 7, 3) := by decide +kernel
theorem dX8_reckon_108 : decode cX8_reckon 108 = .ok (.iload_n 2, 1) := by decide +kernel
theorem dX8_reckon_109 : decode cX8_reckon 109 = .ok (.ifCond .eq 7, 3) := by decide +kernel
theorem dX8_reckon_112 : decode cX8_reckon 112 = .ok (.iconst 1, 1) := by decide +kernel
theorem dX8_reckon_113 : decode cX8_reckon 113 = .ok (.goto 4, 3) := by decide +kernel
theorem dX8_reckon_116 : decode cX8_reckon 116 = .ok (.iconst 0, 1) := by decide +kernel
theorem dX8_reckon_117 : decode cX8_reckon 117 = .ok (.ireturn, 1) := by decide +kernel
theorem dX8_valueBy_0 : decode cX8_valueBy 0 = .ok (.iconst 0, 1) := by decide +kernel
theorem dX8_valueBy_1 : decode cX8_valueBy 1 = .ok (.istore_n 2, 1) := by decide +kernel
theorem dX8_valueBy_2 : decode cX8_valueBy 2 = .ok (.iload_n 1, 1) := by decide +kernel
theorem dX8_valueBy_3 : decode cX8_valueBy 3 = .ok (.ifCond .ne 7, 3) := by decide +kernel
theorem dX8_valueBy_6 : decode cX8_valueBy 6 = .ok (.iconst 0, 1) := by decide +kernel
theorem dX8_valueBy_7 : decode cX8_valueBy 7 = .ok (.goto 11, 3) := by decide +kernel
theorem dX8_valueBy_10 : decode cX8_valueBy 10 = .ok (.aload_n 0, 1) := by decide +kernel
theorem dX8_valueBy_11 : decode cX8_valueBy 11 = .ok (.getfield 72, 3) := by decide +kernel
theorem dX8_valueBy_14 : decode cX8_valueBy 14 = .ok (.iload_n 1, 1) := by decide +kernel
theorem dX8_valueBy_15 : decode cX8_valueBy 15 = .ok (.iconst 1, 1) := by decide +kernel
theorem dX8_valueBy_16 : decode cX8_valueBy 16 = .ok (.isub, 1) := by decide +kernel
theorem dX8_valueBy_17 : decode cX8_valueBy 17 = .ok (.iaload, 1) := by decide +kernel
theorem dX8_valueBy_18 : decode cX8_valueBy 18 = .ok (.istore_n 3, 1) := by decide +kernel
theorem dX8_valueBy_19 : decode cX8_valueBy 19 = .ok (.iload_n 3, 1) := by decide +kernel
theorem dX8_valueBy_20 : decode cX8_valueBy 20 = .ok (.aload_n 0, 1) := by decide +kernel
theorem dX8_valueBy_21 : decode cX8_valueBy 21 = .ok (.getfield 72, 3) := by decide +kernel
theorem dX8_valueBy_24 : decode cX8_valueBy 24 = .ok (.iload_n 1, 1) := by decide +kernel
theorem dX8_valueBy_25 : decode cX8_valueBy 25 = .ok (.iaload, 1) := by decide +kernel
theorem dX8_valueBy_26 : decode cX8_valueBy 26 = .ok (.if_icmp .ge 119, 3) := by decide +kernel
theorem dX8_valueBy_29 : decode cX8_valueBy 29 = .ok (.aload_n 0, 1) := by decide +kernel
theorem dX8_valueBy_30 : decode cX8_valueBy 30 = .ok (.getfield 75, 3) := by decide +kernel
theorem dX8_valueBy_33 : decode cX8_valueBy 33 = .ok (.iload_n 3, 1) := by decide +kernel
theorem dX8_valueBy_34 : decode cX8_valueBy 34 = .ok (.iaload, 1) := by decide +kernel
theorem dX8_valueBy_35 : decode cX8_valueBy 35 = .ok (.istore 4, 2) := by decide +kernel
theorem dX8_valueBy_37 : decode cX8_valueBy 37 = .ok (.iload 4, 2) := by decide +kernel
theorem dX8_valueBy_39 : decode cX8_valueBy 39 = .ok (.bipush (-20), 2) := by decide +kernel
theorem dX8_valueBy_41 : decode cX8_valueBy 41 = .ok (.if_icmp .le 34, 3) := by decide +kernel
theorem dX8_valueBy_44 : decode cX8_valueBy 44 = .ok (.aload_n 0, 1) := by decide +kernel
theorem dX8_valueBy_45 : decode cX8_valueBy 45 = .ok (.getfield 99, 3) := by decide +kernel
theorem dX8_valueBy_48 : decode cX8_valueBy 48 = .ok (.iload_n 2, 1) := by decide +kernel
theorem dX8_valueBy_49 : decode cX8_valueBy 49 = .ok (.iload 4, 2) := by decide +kernel
theorem dX8_valueBy_51 : decode cX8_valueBy 51 = .ok (.ifCond .lt 8, 3) := by decide +kernel
theorem dX8_valueBy_54 : decode cX8_valueBy 54 = .ok (.iload 4, 2) := by decide +kernel
theorem dX8_valueBy_56 : decode cX8_valueBy 56 = .ok (.goto 12, 3) := by decide +kernel
theorem dX8_valueBy_59 : decode cX8_valueBy 59 = .ok (.aload_n 0, 1) := by decide +kernel
theorem dX8_valueBy_60 : decode cX8_valueBy 60 = .ok (.getfield 96, 3) := by decide +kernel
theorem dX8_valueBy_63 : decode cX8_valueBy 63 = .ok (.iconst (-1), 1) := by decide +kernel
theorem dX8_valueBy_64 : decode cX8_valueBy 64 = .ok (.iload 4, 2) := by decide +kernel
theorem dX8_valueBy_66 : decode cX8_valueBy 66 = .ok (.isub, 1) := by decide +kernel
theorem dX8_valueBy_67 : decode cX8_valueBy 67 = .ok (.iaload, 1) := by decide +kernel
theorem dX8_valueBy_68 : decode cX8_valueBy 68 = .ok (.iastore, 1) := by decide +kernel
theorem dX8_valueBy_69 : decode cX8_valueBy 69 = .ok (.iinc 2 1, 3) := by decide +kernel
theorem dX8_valueBy_72 : decode cX8_valueBy 72 = .ok (.goto 67, 3) := by decide +kernel
theorem dX8_valueBy_75 : decode cX8_valueBy 75 = .ok (.iload 4, 2) := by decide +kernel
theorem dX8_valueBy_77 : decode cX8_valueBy 77 = .ok (.bipush (-28), 2) := by decide +kernel
theorem dX8_valueBy_79 : decode cX8_valueBy 79 = .ok (.if_icmp .ne 30, 3) := by decide +kernel
theorem dX8_valueBy_82 : decode cX8_valueBy 82 = .ok (.aload_n 0, 1) := by decide +kernel
theorem dX8_valueBy_83 : decode cX8_valueBy 83 = .ok (.getfield 99, 3) := by decide +kernel
theorem dX8_valueBy_86 : decode cX8_valueBy 86 = .ok (.iload_n 2, 1) := by decide +kernel
theorem dX8_valueBy_87 : decode cX8_valueBy 87 = .ok (.iconst 1, 1) := by decide +kernel
theorem dX8_valueBy_88 : decode cX8_valueBy 88 = .ok (.isub, 1) := by decide +kernel
theorem dX8_valueBy_89 : decode cX8_valueBy 89 = .ok (.aload_n 0, 1) := by decide +kernel
theorem dX8_valueBy_90 : decode cX8_valueBy 90 = .ok (.getfield 99, 3) := by decide +kernel
theorem dX8_valueBy_93 : decode cX8_valueBy 93 = .ok (.iload_n 2, 1) := by decide +kernel
theorem dX8_valueBy_94 : decode cX8_valueBy 94 = .ok (.iconst 1, 1) := by decide +kernel
theorem dX8_valueBy_95 : decode cX8_valueBy 95 = .ok (.isub, 1) := by decide +kernel
theorem dX8_valueBy_96 : decode cX8_valueBy 96 = .ok (.iaload, 1) := by decide +kernel
theorem dX8_valueBy_97 : decode cX8_valueBy 97 = .ok (.ifCond .eq 7, 3) := by decide +kernel
theorem dX8_valueBy_100 : decode cX8_valueBy 100 = .ok (.iconst 0, 1) := by decide +kernel
theorem dX8_valueBy_101 : decode cX8_valueBy 101 = .ok (.goto 4, 3) := by decide +kernel
theorem dX8_valueBy_104 : decode cX8_valueBy 104 = .ok (.iconst 1, 1) := by decide +kernel
theorem dX8_valueBy_105 : decode cX8_valueBy 105 = .ok (.iastore, 1) := by decide +kernel
theorem dX8_valueBy_106 : decode cX8_valueBy 106 = .ok (.goto 33, 3) := by decide +kernel
theorem dX8_valueBy_109 : decode cX8_valueBy 109 = .ok (.iinc 2 (-1), 3) := by decide +kernel
theorem dX8_valueBy_112 : decode cX8_valueBy 112 = .ok (.aload_n 0, 1) := by decide +kernel
theorem dX8_valueBy_113 : decode cX8_valueBy 113 = .ok (.getfield 99, 3) := by decide +kernel
theorem dX8_valueBy_116 : decode cX8_valueBy 116 = .ok (.iload_n 2, 1) := by decide +kernel
theorem dX8_valueBy_117 : decode cX8_valueBy 117 = .ok (.iconst 1, 1) := by decide +kernel
theorem dX8_valueBy_118 : decode cX8_valueBy 118 = .ok (.isub, 1) := by decide +kernel
theorem dX8_valueBy_119 : decode cX8_valueBy 119 = .ok (.iload 4, 2) := by decide +kernel
theorem dX8_valueBy_121 : decode cX8_valueBy 121 = .ok (.aload_n 0, 1) := by decide +kernel
theorem dX8_valueBy_122 : decode cX8_valueBy 122 = .ok (.getfield 99, 3) := by decide +kernel
theorem dX8_valueBy_125 : decode cX8_valueBy 125 = .ok (.iload_n 2, 1) := by decide +kernel
theorem dX8_valueBy_126 : decode cX8_valueBy 126 = .ok (.iconst 1, 1) := by decide +kernel
theorem dX8_valueBy_127 : decode cX8_valueBy 127 = .ok (.isub, 1) := by decide +kernel
theorem dX8_valueBy_128 : decode cX8_valueBy 128 = .ok (.iaload, 1) := by decide +kernel
theorem dX8_valueBy_129 : decode cX8_valueBy 129 = .ok (.aload_n 0, 1) := by decide +kernel
theorem dX8_valueBy_130 : decode cX8_valueBy 130 = .ok (.getfield 99, 3) := by decide +kernel
theorem dX8_valueBy_133 : decode cX8_valueBy 133 = .ok (.iload_n 2, 1) := by decide +kernel
theorem dX8_valueBy_134 : decode cX8_valueBy 134 = .ok (.iaload, 1) := by decide +kernel
theorem dX8_valueBy_135 : decode cX8_valueBy 135 = .ok (.invokestatic 360, 3) := by decide +kernel
theorem dX8_valueBy_138 : decode cX8_valueBy 138 = .ok (.iastore, 1) := by decide +kernel
theorem dX8_valueBy_139 : decode cX8_valueBy 139 = .ok (.iinc 3 1, 3) := by decide +kernel
theorem dX8_valueBy_142 : decode cX8_valueBy 142 = .ok (.goto (-123), 3) := by decide +kernel
theorem dX8_valueBy_145 : decode cX8_valueBy 145 = .ok (.aload_n 0, 1) := by decide +kernel
theorem dX8_valueBy_146 : decode cX8_valueBy 146 = .ok (.getfield 99, 3) := by decide +kernel
theorem dX8_valueBy_149 : decode cX8_valueBy 149 = .ok (.iconst 0, 1) := by decide +kernel
theorem dX8_valueBy_150 : decode cX8_valueBy 150 = .ok (.iaload, 1) := by decide +kernel
theorem dX8_valueBy_151 : decode cX8_valueBy 151 = .ok (.ireturn, 1) := by decide +kernel
theorem dX8_set_0 : decode cX8_set 0 = .ok (.iconst 0, 1) := by decide +kernel
theorem dX8_set_1 : decode cX8_set 1 = .ok (.istore_n 1, 1) := by decide +kernel
theorem dX8_set_2 : decode cX8_set 2 = .ok (.iload_n 1, 1) := by decide +kernel
theorem dX8_set_3 : decode cX8_set 3 = .ok (.bipush 10, 2) := by decide +kernel
theorem dX8_set_5 : decode cX8_set 5 = .ok (.if_icmp .ge 33, 3) := by decide +kernel
theorem dX8_set_8 : decode cX8_set 8 = .ok (.aload_n 0, 1) := by decide +kernel
theorem dX8_set_9 : decode cX8_set 9 = .ok (.getfield 102, 3) := by decide +kernel
theorem dX8_set_12 : decode cX8_set 12 = .ok (.iload_n 1, 1) := by decide +kernel
theorem dX8_set_13 : decode cX8_set 13 = .ok (.aload_n 0, 1) := by decide +kernel
theorem dX8_set_14 : decode cX8_set 14 = .ok (.getfield 44, 3) := by decide +kernel
theorem dX8_set_17 : decode cX8_set 17 = .ok (.iload_n 1, 1) := by decide +kernel
theorem dX8_set_18 : decode cX8_set 18 = .ok (.iaload, 1) := by decide +kernel
theorem dX8_set_19 : decode cX8_set 19 = .ok (.iastore, 1) := by decide +kernel
theorem dX8_set_20 : decode cX8_set 20 = .ok (.aload_n 0, 1) := by decide +kernel
theorem dX8_set_21 : decode cX8_set 21 = .ok (.getfield 105, 3) := by decide +kernel
theorem dX8_set_24 : decode cX8_set 24 = .ok (.iload_n 1, 1) := by decide +kernel
theorem dX8_set_25 : decode cX8_set 25 = .ok (.aload_n 0, 1) := by decide +kernel
theorem dX8_set_26 : decode cX8_set 26 = .ok (.getfield 46, 3) := by decide +kernel
theorem dX8_set_29 : decode cX8_set 29 = .ok (.iload_n 1, 1) := by decide +kernel
theorem dX8_set_30 : decode cX8_set 30 = .ok (.iaload, 1) := by decide +kernel
theorem dX8_set_31 : decode cX8_set 31 = .ok (.iastore, 1) := by decide +kernel
theorem dX8_set_32 : decode cX8_set 32 = .ok (.iinc 1 1, 3) := by decide +kernel
theorem dX8_set_35 : decode cX8_set 35 = .ok (.goto (-33), 3) := by decide +kernel
theorem dX8_set_38 : decode cX8_set 38 = .ok (.aload_n 0, 1) := by decide +kernel
theorem dX8_set_39 : decode cX8_set 39 = .ok (.aload_n 0, 1) := by decide +kernel
theorem dX8_set_40 : decode cX8_set 40 = .ok (.getfield 323, 3) := by decide +kernel
theorem dX8_set_43 : decode cX8_set 43 = .ok (.putfield 364, 3) := by decide +kernel
theorem dX8_set_46 : decode cX8_set 46 = .ok (.aload_n 0, 1) := by decide +kernel
theorem dX8_set_47 : decode cX8_set 47 = .ok (.aload_n 0, 1) := by decide +kernel
theorem dX8_set_48 : decode cX8_set 48 = .ok (.getfield 326, 3) := by decide +kernel
theorem dX8_set_51 : decode cX8_set 51 = .ok (.putfield 367, 3) := by decide +kernel
theorem dX8_set_54 : decode cX8_set 54 = .ok (.aload_n 0, 1) := by decide +kernel
theorem dX8_set_55 : decode cX8_set 55 = .ok (.aload_n 0, 1) := by decide +kernel
theorem dX8_set_56 : decode cX8_set 56 = .ok (.getfield 329, 3) := by decide +kernel
theorem dX8_set_59 : decode cX8_set 59 = .ok (.putfield 369, 3) := by decide +kernel
theorem dX8_set_62 : decode cX8_set 62 = .ok (.aload_n 0, 1) := by decide +kernel
theorem dX8_set_63 : decode cX8_set 63 = .ok (.aload_n 0, 1) := by decide +kernel
theorem dX8_set_64 : decode cX8_set 64 = .ok (.getfield 90, 3) := by decide +kernel
theorem dX8_set_67 : decode cX8_set 67 = .ok (.putfield 372, 3) := by decide +kernel
theorem dX8_set_70 : decode cX8_set 70 = .ok (.aload_n 0, 1) := by decide +kernel
theorem dX8_set_71 : decode cX8_set 71 = .ok (.iconst 1, 1) := by decide +kernel
theorem dX8_set_72 : decode cX8_set 72 = .ok (.aload_n 0, 1) := by decide +kernel
theorem dX8_set_73 : decode cX8_set 73 = .ok (.getfield 40, 3) := by decide +kernel
theorem dX8_set_76 : decode cX8_set 76 = .ok (.iconst 3, 1) := by decide +kernel
theorem dX8_set_77 : decode cX8_set 77 = .ok (.iaload, 1) := by decide +kernel
theorem dX8_set_78 : decode cX8_set 78 = .ok (.ishl, 1) := by decide +kernel
theorem dX8_set_79 : decode cX8_set 79 = .ok (.iconst 1, 1) := by decide +kernel
theorem dX8_set_80 : decode cX8_set 80 = .ok (.isub, 1) := by decide +kernel
theorem dX8_set_81 : decode cX8_set 81 = .ok (.putfield 375, 3) := by decide +kernel
theorem dX8_set_84 : decode cX8_set 84 = .ok (.return_, 1) := by decide +kernel
theorem dX8_isInside_0 : decode cX8_isInside 0 = .ok (.aload_n 0, 1) := by decide +kernel
theorem dX8_isInside_1 : decode cX8_isInside 1 = .ok (.getfield 108, 3) := by decide +kernel
theorem dX8_isInside_4 : decode cX8_isInside 4 = .ok (.iload_n 1, 1) := by decide +kernel
theorem dX8_isInside_5 : decode cX8_isInside 5 = .ok (.iaload, 1) := by decide +kernel
theorem dX8_isInside_6 : decode cX8_isInside 6 = .ok (.ifCond .lt 7, 3) := by decide +kernel
theorem dX8_isInside_9 : decode cX8_isInside 9 = .ok (.iconst 1, 1) := by decide +kernel
theorem dX8_isInside_10 : decode cX8_isInside 10 = .ok (.goto 4, 3) := by decide +kernel
theorem dX8_isInside_13 : decode cX8_isInside 13 = .ok (.iconst 0, 1) := by decide +kernel
theorem dX8_isInside_14 : decode cX8_isInside 14 = .ok (.ireturn, 1) := by decide +kernel
theorem dX8_aisleOf_0 : decode cX8_aisleOf 0 = .ok (.aload_n 0, 1) := by decide +kernel
theorem dX8_aisleOf_1 : decode cX8_aisleOf 1 = .ok (.getfield 69, 3) := by decide +kernel
theorem dX8_aisleOf_4 : decode cX8_aisleOf 4 = .ok (.bipush 12, 2) := by decide +kernel
theorem dX8_aisleOf_6 : decode cX8_aisleOf 6 = .ok (.iload_n 1, 1) := by decide +kernel
theorem dX8_aisleOf_7 : decode cX8_aisleOf 7 = .ok (.imul, 1) := by decide +kernel
theorem dX8_aisleOf_8 : decode cX8_aisleOf 8 = .ok (.aload_n 0, 1) := by decide +kernel
theorem dX8_aisleOf_9 : decode cX8_aisleOf 9 = .ok (.getfield 108, 3) := by decide +kernel
theorem dX8_aisleOf_12 : decode cX8_aisleOf 12 = .ok (.iload_n 1, 1) := by decide +kernel
theorem dX8_aisleOf_13 : decode cX8_aisleOf 13 = .ok (.iaload, 1) := by decide +kernel
theorem dX8_aisleOf_14 : decode cX8_aisleOf 14 = .ok (.iadd, 1) := by decide +kernel
theorem dX8_aisleOf_15 : decode cX8_aisleOf 15 = .ok (.iaload, 1) := by decide +kernel
theorem dX8_aisleOf_16 : decode cX8_aisleOf 16 = .ok (.ireturn, 1) := by decide +kernel
theorem dX8_isSeen_0 : decode cX8_isSeen 0 = .ok (.aload_n 0, 1) := by decide +kernel
theorem dX8_isSeen_1 : decode cX8_isSeen 1 = .ok (.getfield 378, 3) := by decide +kernel
theorem dX8_isSeen_4 : decode cX8_isSeen 4 = .ok (.iconst (-1), 1) := by decide +kernel
theorem dX8_isSeen_5 : decode cX8_isSeen 5 = .ok (.if_icmp .eq 32, 3) := by decide +kernel
theorem dX8_isSeen_8 : decode cX8_isSeen 8 = .ok (.aload_n 0, 1) := by decide +kernel
theorem dX8_isSeen_9 : decode cX8_isSeen 9 = .ok (.getfield 378, 3) := by decide +kernel
theorem dX8_isSeen_12 : decode cX8_isSeen 12 = .ok (.iload_n 1, 1) := by decide +kernel
theorem dX8_isSeen_13 : decode cX8_isSeen 13 = .ok (.if_icmp .eq 20, 3) := by decide +kernel
theorem dX8_isSeen_16 : decode cX8_isSeen 16 = .ok (.aload_n 0, 1) := by decide +kernel
theorem dX8_isSeen_17 : decode cX8_isSeen 17 = .ok (.getfield 52, 3) := by decide +kernel
theorem dX8_isSeen_20 : decode cX8_isSeen 20 = .ok (.aload_n 0, 1) := by decide +kernel
theorem dX8_isSeen_21 : decode cX8_isSeen 21 = .ok (.getfield 378, 3) := by decide +kernel
theorem dX8_isSeen_24 : decode cX8_isSeen 24 = .ok (.iaload, 1) := by decide +kernel
theorem dX8_isSeen_25 : decode cX8_isSeen 25 = .ok (.iload_n 1, 1) := by decide +kernel
theorem dX8_isSeen_26 : decode cX8_isSeen 26 = .ok (.ishr, 1) := by decide +kernel
theorem dX8_isSeen_27 : decode cX8_isSeen 27 = .ok (.iconst 1, 1) := by decide +kernel
theorem dX8_isSeen_28 : decode cX8_isSeen 28 = .ok (.iand, 1) := by decide +kernel
theorem dX8_isSeen_29 : decode cX8_isSeen 29 = .ok (.iconst 1, 1) := by decide +kernel
theorem dX8_isSeen_30 : decode cX8_isSeen 30 = .ok (.if_icmp .ne 7, 3) := by decide +kernel
theorem dX8_isSeen_33 : decode cX8_isSeen 33 = .ok (.iconst 1, 1) := by decide +kernel
theorem dX8_isSeen_34 : decode cX8_isSeen 34 = .ok (.goto 4, 3) := by decide +kernel
theorem dX8_isSeen_37 : decode cX8_isSeen 37 = .ok (.iconst 0, 1) := by decide +kernel
theorem dX8_isSeen_38 : decode cX8_isSeen 38 = .ok (.ireturn, 1) := by decide +kernel
theorem dX8_isOf_0 : decode cX8_isOf 0 = .ok (.iload_n 0, 1) := by decide +kernel
theorem dX8_isOf_1 : decode cX8_isOf 1 = .ok (.iload_n 1, 1) := by decide +kernel
theorem dX8_isOf_2 : decode cX8_isOf 2 = .ok (.ishr, 1) := by decide +kernel
theorem dX8_isOf_3 : decode cX8_isOf 3 = .ok (.iconst 1, 1) := by decide +kernel
theorem dX8_isOf_4 : decode cX8_isOf 4 = .ok (.iand, 1) := by decide +kernel
theorem dX8_isOf_5 : decode cX8_isOf 5 = .ok (.iconst 1, 1) := by decide +kernel
theorem dX8_isOf_6 : decode cX8_isOf 6 = .ok (.if_icmp .ne 7, 3) := by decide +kernel
theorem dX8_isOf_9 : decode cX8_isOf 9 = .ok (.iconst 1, 1) := by decide +kernel
theorem dX8_isOf_10 : decode cX8_isOf 10 = .ok (.goto 4, 3) := by decide +kernel
theorem dX8_isOf_13 : decode cX8_isOf 13 = .ok (.iconst 0, 1) := by decide +kernel
theorem dX8_isOf_14 : decode cX8_isOf 14 = .ok (.ireturn, 1) := by decide +kernel
theorem dX8_leave_0 : decode cX8_leave 0 = .ok (.aload_n 0, 1) := by decide +kernel
theorem dX8_leave_1 : decode cX8_leave 1 = .ok (.getfield 108, 3) := by decide +kernel
theorem dX8_leave_4 : decode cX8_leave 4 = .ok (.iload_n 1, 1) := by decide +kernel
theorem dX8_leave_5 : decode cX8_leave 5 = .ok (.bipush (-2), 2) := by decide +kernel
theorem dX8_leave_7 : decode cX8_leave 7 = .ok (.iastore, 1) := by decide +kernel
theorem dX8_leave_8 : decode cX8_leave 8 = .ok (.aload_n 0, 1) := by decide +kernel
theorem dX8_leave_9 : decode cX8_leave 9 = .ok (.getfield 111, 3) := by decide +kernel
theorem dX8_leave_12 : decode cX8_leave 12 = .ok (.iload_n 1, 1) := by decide +kernel
theorem dX8_leave_13 : decode cX8_leave 13 = .ok (.iaload, 1) := by decide +kernel
theorem dX8_leave_14 : decode cX8_leave 14 = .ok (.iconst (-1), 1) := by decide +kernel
theorem dX8_leave_15 : decode cX8_leave 15 = .ok (.if_icmp .ne 4, 3) := by decide +kernel
theorem dX8_leave_18 : decode cX8_leave 18 = .ok (.return_, 1) := by decide +kernel
theorem dX8_leave_19 : decode cX8_leave 19 = .ok (.aload_n 0, 1) := by decide +kernel
theorem dX8_leave_20 : decode cX8_leave 20 = .ok (.getfield 381, 3) := by decide +kernel
theorem dX8_leave_23 : decode cX8_leave 23 = .ok (.iload_n 1, 1) := by decide +kernel
theorem dX8_leave_24 : decode cX8_leave 24 = .ok (.invokestatic 383, 3) := by decide +kernel
theorem dX8_leave_27 : decode cX8_leave 27 = .ok (.istore_n 2, 1) := by decide +kernel
theorem dX8_leave_28 : decode cX8_leave 28 = .ok (.aload_n 0, 1) := by decide +kernel
theorem dX8_leave_29 : decode cX8_leave 29 = .ok (.getfield 386, 3) := by decide +kernel
theorem dX8_leave_32 : decode cX8_leave 32 = .ok (.iload_n 1, 1) := by decide +kernel
theorem dX8_leave_33 : decode cX8_leave 33 = .ok (.invokestatic 383, 3) := by decide +kernel
theorem dX8_leave_36 : decode cX8_leave 36 = .ok (.istore_n 3, 1) := by decide +kernel
theorem dX8_leave_37 : decode cX8_leave 37 = .ok (.aload_n 0, 1) := by decide +kernel
theorem dX8_leave_38 : decode cX8_leave 38 = .ok (.getfield 55, 3) := by decide +kernel
theorem dX8_leave_41 : decode cX8_leave 41 = .ok (.iload_n 1, 1) := by decide +kernel
theorem dX8_leave_42 : decode cX8_leave 42 = .ok (.iaload, 1) := by decide +kernel
theorem dX8_leave_43 : decode cX8_leave 43 = .ok (.ifCond .ne 42, 3) := by decide +kernel
theorem dX8_leave_46 : decode cX8_leave 46 = .ok (.aload_n 0, 1) := by decide +kernel
theorem dX8_leave_47 : decode cX8_leave 47 = .ok (.dup, 1) := by decide +kernel
theorem dX8_leave_48 : decode cX8_leave 48 = .ok (.getfield 389, 3) := by decide +kernel
theorem dX8_leave_51 : decode cX8_leave 51 = .ok (.iconst 1, 1) := by decide +kernel
theorem dX8_leave_52 : decode cX8_leave 52 = .ok (.iadd, 1) := by decide +kernel
theorem dX8_leave_53 : decode cX8_leave 53 = .ok (.putfield 389, 3) := by decide +kernel
theorem dX8_leave_56 : decode cX8_leave 56 = .ok (.aload_n 0, 1) := by decide +kernel
theorem dX8_leave_57 : decode cX8_leave 57 = .ok (.getfield 372, 3) := by decide +kernel
theorem dX8_leave_60 : decode cX8_leave 60 = .ok (.iconst 2, 1) := by decide +kernel
theorem dX8_leave_61 : decode cX8_leave 61 = .ok (.if_icmp .ne 108, 3) := by decide +kernel
theorem dX8_leave_64 : decode cX8_leave 64 = .ok (.iload_n 2, 1) := by decide +kernel
theorem dX8_leave_65 : decode cX8_leave 65 = .ok (.ifCond .eq 104, 3) := by decide +kernel
theorem dX8_leave_68 : decode cX8_leave 68 = .ok (.iload_n 3, 1) := by decide +kernel
theorem dX8_leave_69 : decode cX8_leave 69 = .ok (.ifCond .ne 100, 3) := by decide +kernel
theorem dX8_leave_72 : decode cX8_leave 72 = .ok (.aload_n 0, 1) := by decide +kernel
theorem dX8_leave_73 : decode cX8_leave 73 = .ok (.dup, 1) := by decide +kernel
theorem dX8_leave_74 : decode cX8_leave 74 = .ok (.getfield 392, 3) := by decide +kernel
theorem dX8_leave_77 : decode cX8_leave 77 = .ok (.iconst 1, 1) := by decide +kernel
theorem dX8_leave_78 : decode cX8_leave 78 = .ok (.iadd, 1) := by decide +kernel
theorem dX8_leave_79 : decode cX8_leave 79 = .ok (.putfield 392, 3) := by decide +kernel
theorem dX8_leave_82 : decode cX8_leave 82 = .ok (.goto 87, 3) := by decide +kernel
theorem dX8_leave_85 : decode cX8_leave 85 = .ok (.iload_n 2, 1) := by decide +kernel
theorem dX8_leave_86 : decode cX8_leave 86 = .ok (.ifCond .eq 53, 3) := by decide +kernel
theorem dX8_leave_89 : decode cX8_leave 89 = .ok (.aload_n 0, 1) := by decide +kernel
theorem dX8_leave_90 : decode cX8_leave 90 = .ok (.getfield 372, 3) := by decide +kernel
theorem dX8_leave_93 : decode cX8_leave 93 = .ok (.iconst 2, 1) := by decide +kernel
theorem dX8_leave_94 : decode cX8_leave 94 = .ok (.if_icmp .eq 15, 3) := by decide +kernel
theorem dX8_leave_97 : decode cX8_leave 97 = .ok (.aload_n 0, 1) := by decide +kernel
theorem dX8_leave_98 : decode cX8_leave 98 = .ok (.getfield 372, 3) := by decide +kernel
theorem dX8_leave_101 : decode cX8_leave 101 = .ok (.iconst 1, 1) := by decide +kernel
theorem dX8_leave_102 : decode cX8_leave 102 = .ok (.if_icmp .ne 37, 3) := by decide +kernel
theorem dX8_leave_105 : decode cX8_leave 105 = .ok (.iload_n 3, 1) := by decide +kernel
theorem dX8_leave_106 : decode cX8_leave 106 = .ok (.ifCond .eq 33, 3) := by decide +kernel
theorem dX8_leave_109 : decode cX8_leave 109 = .ok (.aload_n 0, 1) := by decide +kernel
theorem dX8_leave_110 : decode cX8_leave 110 = .ok (.dup, 1) := by decide +kernel
theorem dX8_leave_111 : decode cX8_leave 111 = .ok (.getfield 395, 3) := by decide +kernel
theorem dX8_leave_114 : decode cX8_leave 114 = .ok (.iconst 1, 1) := by decide +kernel
theorem dX8_leave_115 : decode cX8_leave 115 = .ok (.iload_n 1, 1) := by decide +kernel
theorem dX8_leave_116 : decode cX8_leave 116 = .ok (.ishl, 1) := by decide +kernel
theorem dX8_leave_117 : decode cX8_leave 117 = .ok (.ior, 1) := by decide +kernel
theorem dX8_leave_118 : decode cX8_leave 118 = .ok (.putfield 395, 3) := by decide +kernel
theorem dX8_leave_121 : decode cX8_leave 121 = .ok (.aload_n 0, 1) := by decide +kernel
theorem dX8_leave_122 : decode cX8_leave 122 = .ok (.getfield 105, 3) := by decide +kernel
theorem dX8_leave_125 : decode cX8_leave 125 = .ok (.aload_n 0, 1) := by decide +kernel
theorem dX8_leave_126 : decode cX8_leave 126 = .ok (.getfield 111, 3) := by decide +kernel
theorem dX8_leave_129 : decode cX8_leave 129 = .ok (.iload_n 1, 1) := by decide +kernel
theorem dX8_leave_130 : decode cX8_leave 130 = .ok (.iaload, 1) := by decide +kernel
theorem dX8_leave_131 : decode cX8_leave 131 = .ok (.dup2, 1) := by decide +kernel
theorem dX8_leave_132 : decode cX8_leave 132 = .ok (.iaload, 1) := by decide +kernel
theorem dX8_leave_133 : decode cX8_leave 133 = .ok (.iconst 1, 1) := by decide +kernel
theorem dX8_leave_134 : decode cX8_leave 134 = .ok (.iadd, 1) := by decide +kernel
theorem dX8_leave_135 : decode cX8_leave 135 = .ok (.iastore, 1) := by decide +kernel
theorem dX8_leave_136 : decode cX8_leave 136 = .ok (.goto 33, 3) := by decide +kernel
theorem dX8_leave_139 : decode cX8_leave 139 = .ok (.aload_n 0, 1) := by decide +kernel
theorem dX8_leave_140 : decode cX8_leave 140 = .ok (.dup, 1) := by decide +kernel
theorem dX8_leave_141 : decode cX8_leave 141 = .ok (.getfield 398, 3) := by decide +kernel
theorem dX8_leave_144 : decode cX8_leave 144 = .ok (.aload_n 0, 1) := by decide +kernel
theorem dX8_leave_145 : decode cX8_leave 145 = .ok (.getfield 102, 3) := by decide +kernel
theorem dX8_leave_148 : decode cX8_leave 148 = .ok (.aload_n 0, 1) := by decide +kernel
theorem dX8_leave_149 : decode cX8_leave 149 = .ok (.getfield 111, 3) := by decide +kernel
theorem dX8_leave_152 : decode cX8_leave 152 = .ok (.iload_n 1, 1) := by decide +kernel
theorem dX8_leave_153 : decode cX8_leave 153 = .ok (.iaload, 1) := by decide +kernel
theorem dX8_leave_154 : decode cX8_leave 154 = .ok (.iaload, 1) := by decide +kernel
theorem dX8_leave_155 : decode cX8_leave 155 = .ok (.iadd, 1) := by decide +kernel
theorem dX8_leave_156 : decode cX8_leave 156 = .ok (.putfield 398, 3) := by decide +kernel
theorem dX8_leave_159 : decode cX8_leave 159 = .ok (.aload_n 0, 1) := by decide +kernel
theorem dX8_leave_160 : decode cX8_leave 160 = .ok (.dup, 1) := by decide +kernel
theorem dX8_leave_161 : decode cX8_leave 161 = .ok (.getfield 401, 3) := by decide +kernel
theorem dX8_leave_164 : decode cX8_leave 164 = .ok (.iconst 1, 1) := by decide +kernel
theorem dX8_leave_165 : decode cX8_leave 165 = .ok (.iadd, 1) := by decide +kernel
theorem dX8_leave_166 : decode cX8_leave 166 = .ok (.putfield 401, 3) := by decide +kernel
theorem dX8_leave_169 : decode cX8_leave 169 = .ok (.aload_n 0, 1) := by decide +kernel
theorem dX8_leave_170 : decode cX8_leave 170 = .ok (.getfield 111, 3) := by decide +kernel
theorem dX8_leave_173 : decode cX8_leave 173 = .ok (.iload_n 1, 1) := by decide +kernel
theorem dX8_leave_174 : decode cX8_leave 174 = .ok (.iconst (-1), 1) := by decide +kernel
theorem dX8_leave_175 : decode cX8_leave 175 = .ok (.iastore, 1) := by decide +kernel
theorem dX8_leave_176 : decode cX8_leave 176 = .ok (.return_, 1) := by decide +kernel
theorem dX8_seconds_0 : decode cX8_seconds 0 = .ok (.iload_n 2, 1) := by decide +kernel
theorem dX8_seconds_1 : decode cX8_seconds 1 = .ok (.aload_n 0, 1) := by decide +kernel
theorem dX8_seconds_2 : decode cX8_seconds 2 = .ok (.getfield 58, 3) := by decide +kernel
theorem dX8_seconds_5 : decode cX8_seconds 5 = .ok (.iload_n 1, 1) := by decide +kernel
theorem dX8_seconds_6 : decode cX8_seconds 6 = .ok (.iaload, 1) := by decide +kernel
theorem dX8_seconds_7 : decode cX8_seconds 7 = .ok (.isub, 1) := by decide +kernel
theorem dX8_seconds_8 : decode cX8_seconds 8 = .ok (.iconst 1, 1) := by decide +kernel
theorem dX8_seconds_9 : decode cX8_seconds 9 = .ok (.iadd, 1) := by decide +kernel
theorem dX8_seconds_10 : decode cX8_seconds 10 = .ok (.ireturn, 1) := by decide +kernel
theorem dX8_crowdAt_0 : decode cX8_crowdAt 0 = .ok (.iconst 0, 1) := by decide +kernel
theorem dX8_crowdAt_1 : decode cX8_crowdAt 1 = .ok (.istore_n 2, 1) := by decide +kernel
theorem dX8_crowdAt_2 : decode cX8_crowdAt 2 = .ok (.iconst 0, 1) := by decide +kernel
theorem dX8_crowdAt_3 : decode cX8_crowdAt 3 = .ok (.istore_n 3, 1) := by decide +kernel
theorem dX8_crowdAt_4 : decode cX8_crowdAt 4 = .ok (.iload_n 3, 1) := by decide +kernel
theorem dX8_crowdAt_5 : decode cX8_crowdAt 5 = .ok (.aload_n 0, 1) := by decide +kernel
theorem dX8_crowdAt_6 : decode cX8_crowdAt 6 = .ok (.getfield 40, 3) := by decide +kernel
theorem dX8_crowdAt_9 : decode cX8_crowdAt 9 = .ok (.iconst 3, 1) := by decide +kernel
theorem dX8_crowdAt_10 : decode cX8_crowdAt 10 = .ok (.iaload, 1) := by decide +kernel
theorem dX8_crowdAt_11 : decode cX8_crowdAt 11 = .ok (.if_icmp .ge 34, 3) := by decide +kernel
theorem dX8_crowdAt_14 : decode cX8_crowdAt 14 = .ok (.iload_n 2, 1) := by decide +kernel
theorem dX8_crowdAt_15 : decode cX8_crowdAt 15 = .ok (.aload_n 0, 1) := by decide +kernel
theorem dX8_crowdAt_16 : decode cX8_crowdAt 16 = .ok (.iload_n 3, 1) := by decide +kernel
theorem dX8_crowdAt_17 : decode cX8_crowdAt 17 = .ok (.invokevirtual 404, 3) := by decide +kernel
theorem dX8_crowdAt_20 : decode cX8_crowdAt 20 = .ok (.ifCond .eq 16, 3) := by decide +kernel
theorem dX8_crowdAt_23 : decode cX8_crowdAt 23 = .ok (.aload_n 0, 1) := by decide +kernel
theorem dX8_crowdAt_24 : decode cX8_crowdAt 24 = .ok (.iload_n 3, 1) := by decide +kernel
theorem dX8_crowdAt_25 : decode cX8_crowdAt 25 = .ok (.invokevirtual 407, 3) := by decide +kernel
theorem dX8_crowdAt_28 : decode cX8_crowdAt 28 = .ok (.iload_n 1, 1) := by decide +kernel
theorem dX8_crowdAt_29 : decode cX8_crowdAt 29 = .ok (.if_icmp .ne 7, 3) := by decide +kernel
theorem dX8_crowdAt_32 : decode cX8_crowdAt 32 = .ok (.iconst 1, 1) := by decide +kernel
theorem dX8_crowdAt_33 : decode cX8_crowdAt 33 = .ok (.goto 4, 3) := by decide +kernel
theorem dX8_crowdAt_36 : decode cX8_crowdAt 36 = .ok (.iconst 0, 1) := by decide +kernel
theorem dX8_crowdAt_37 : decode cX8_crowdAt 37 = .ok (.iadd, 1) := by decide +kernel
theorem dX8_crowdAt_38 : decode cX8_crowdAt 38 = .ok (.istore_n 2, 1) := by decide +kernel
theorem dX8_crowdAt_39 : decode cX8_crowdAt 39 = .ok (.iinc 3 1, 3) := by decide +kernel
theorem dX8_crowdAt_42 : decode cX8_crowdAt 42 = .ok (.goto (-38), 3) := by decide +kernel
theorem dX8_crowdAt_45 : decode cX8_crowdAt 45 = .ok (.iload_n 2, 1) := by decide +kernel
theorem dX8_crowdAt_46 : decode cX8_crowdAt 46 = .ok (.ireturn, 1) := by decide +kernel
theorem dX8_followed_0 : decode cX8_followed 0 = .ok (.aload_n 0, 1) := by decide +kernel
theorem dX8_followed_1 : decode cX8_followed 1 = .ok (.getfield 364, 3) := by decide +kernel
theorem dX8_followed_4 : decode cX8_followed 4 = .ok (.iconst 2, 1) := by decide +kernel
theorem dX8_followed_5 : decode cX8_followed 5 = .ok (.if_icmp .ne 23, 3) := by decide +kernel
theorem dX8_followed_8 : decode cX8_followed 8 = .ok (.aload_n 0, 1) := by decide +kernel
theorem dX8_followed_9 : decode cX8_followed 9 = .ok (.aload_n 0, 1) := by decide +kernel
theorem dX8_followed_10 : decode cX8_followed 10 = .ok (.getfield 367, 3) := by decide +kernel
theorem dX8_followed_13 : decode cX8_followed 13 = .ok (.invokevirtual 404, 3) := by decide +kernel
theorem dX8_followed_16 : decode cX8_followed 16 = .ok (.ifCond .eq 10, 3) := by decide +kernel
theorem dX8_followed_19 : decode cX8_followed 19 = .ok (.aload_n 0, 1) := by decide +kernel
theorem dX8_followed_20 : decode cX8_followed 20 = .ok (.getfield 367, 3) := by decide +kernel
theorem dX8_followed_23 : decode cX8_followed 23 = .ok (.goto 4, 3) := by decide +kernel
theorem dX8_followed_26 : decode cX8_followed 26 = .ok (.iconst (-1), 1) := by decide +kernel
theorem dX8_followed_27 : decode cX8_followed 27 = .ok (.ireturn, 1) := by decide +kernel
theorem dX8_followed_28 : decode cX8_followed 28 = .ok (.iconst (-1), 1) := by decide +kernel
theorem dX8_followed_29 : decode cX8_followed 29 = .ok (.istore_n 2, 1) := by decide +kernel
theorem dX8_followed_30 : decode cX8_followed 30 = .ok (.iconst 0, 1) := by decide +kernel
theorem dX8_followed_31 : decode cX8_followed 31 = .ok (.istore_n 3, 1) := by decide +kernel
theorem dX8_followed_32 : decode cX8_followed 32 = .ok (.iconst 0, 1) := by decide +kernel
theorem dX8_followed_33 : decode cX8_followed 33 = .ok (.istore 4, 2) := by decide +kernel
theorem dX8_followed_35 : decode cX8_followed 35 = .ok (.iload 4, 2) := by decide +kernel
theorem dX8_followed_37 : decode cX8_followed 37 = .ok (.aload_n 0, 1) := by decide +kernel
theorem dX8_followed_38 : decode cX8_followed 38 = .ok (.getfield 40, 3) := by decide +kernel
theorem dX8_followed_41 : decode cX8_followed 41 = .ok (.iconst 3, 1) := by decide +kernel
theorem dX8_followed_42 : decode cX8_followed 42 = .ok (.iaload, 1) := by decide +kernel
theorem dX8_followed_43 : decode cX8_followed 43 = .ok (.if_icmp .ge 202, 3) := by decide +kernel
theorem dX8_followed_46 : decode cX8_followed 46 = .ok (.aload_n 0, 1) := by decide +kernel
theorem dX8_followed_47 : decode cX8_followed 47 = .ok (.getfield 364, 3) := by decide +kernel
theorem dX8_followed_50 : decode cX8_followed 50 = .ok (.iconst 1, 1) := by decide +kernel
theorem dX8_followed_51 : decode cX8_followed 51 = .ok (.if_icmp .ne 194, 3) := by decide +kernel
theorem dX8_followed_54 : decode cX8_followed 54 = .ok (.aload_n 0, 1) := by decide +kernel
theorem dX8_followed_55 : decode cX8_followed 55 = .ok (.iload 4, 2) := by decide +kernel
theorem dX8_followed_57 : decode cX8_followed 57 = .ok (.invokevirtual 404, 3) := by decide +kernel
theorem dX8_followed_60 : decode cX8_followed 60 = .ok (.ifCond .eq 179, 3) := by decide +kernel
theorem dX8_followed_63 : decode cX8_followed 63 = .ok (.aload_n 0, 1) := by decide +kernel
theorem dX8_followed_64 : decode cX8_followed 64 = .ok (.getfield 55, 3) := by decide +kernel
theorem dX8_followed_67 : decode cX8_followed 67 = .ok (.iload 4, 2) := by decide +kernel
theorem dX8_followed_69 : decode cX8_followed 69 = .ok (.iaload, 1) := by decide +kernel
theorem dX8_followed_70 : decode cX8_followed 70 = .ok (.iconst 3, 1) := by decide +kernel
theorem dX8_followed_71 : decode cX8_followed 71 = .ok (.if_icmp .ne 6, 3) := by decide +kernel
theorem dX8_followed_74 : decode cX8_followed 74 = .ok (.goto 165, 3) := by decide +kernel
theorem dX8_followed_77 : decode cX8_followed 77 = .ok (.aload_n 0, 1) := by decide +kernel
theorem dX8_followed_78 : decode cX8_followed 78 = .ok (.iload 4, 2) := by decide +kernel
theorem dX8_followed_80 : decode cX8_followed 80 = .ok (.invokevirtual 407, 3) := by decide +kernel
theorem dX8_followed_83 : decode cX8_followed 83 = .ok (.istore 5, 2) := by decide +kernel
theorem dX8_followed_85 : decode cX8_followed 85 = .ok (.aload_n 0, 1) := by decide +kernel
theorem dX8_followed_86 : decode cX8_followed 86 = .ok (.getfield 96, 3) := by decide +kernel
theorem dX8_followed_89 : decode cX8_followed 89 = .ok (.iconst 0, 1) := by decide +kernel
theorem dX8_followed_90 : decode cX8_followed 90 = .ok (.aload_n 0, 1) := by decide +kernel
theorem dX8_followed_91 : decode cX8_followed 91 = .ok (.getfield 64, 3) := by decide +kernel
theorem dX8_followed_94 : decode cX8_followed 94 = .ok (.iload 4, 2) := by decide +kernel
theorem dX8_followed_96 : decode cX8_followed 96 = .ok (.iaload, 1) := by decide +kernel
theorem dX8_followed_97 : decode cX8_followed 97 = .ok (.iastore, 1) := by decide +kernel
theorem dX8_followed_98 : decode cX8_followed 98 = .ok (.aload_n 0, 1) := by decide +kernel
theorem dX8_followed_99 : decode cX8_followed 99 = .ok (.getfield 96, 3) := by decide +kernel
theorem dX8_followed_102 : decode cX8_followed 102 = .ok (.iconst 1, 1) := by decide +kernel
theorem dX8_followed_103 : decode cX8_followed 103 = .ok (.aload_n 0, 1) := by decide +kernel
theorem dX8_followed_104 : decode cX8_followed 104 = .ok (.iload 4, 2) := by decide +kernel
theorem dX8_followed_106 : decode cX8_followed 106 = .ok (.iload_n 1, 1) := by decide +kernel
theorem dX8_followed_107 : decode cX8_followed 107 = .ok (.invokevirtual 410, 3) := by decide +kernel
theorem dX8_followed_110 : decode cX8_followed 110 = .ok (.iastore, 1) := by decide +kernel
theorem dX8_followed_111 : decode cX8_followed 111 = .ok (.aload_n 0, 1) := by decide +kernel
theorem dX8_followed_112 : decode cX8_followed 112 = .ok (.getfield 96, 3) := by decide +kernel
theorem dX8_followed_115 : decode cX8_followed 115 = .ok (.iconst 2, 1) := by decide +kernel
theorem dX8_followed_116 : decode cX8_followed 116 = .ok (.aload_n 0, 1) := by decide +kernel
theorem dX8_followed_117 : decode cX8_followed 117 = .ok (.getfield 381, 3) := by decide +kernel
theorem dX8_followed_120 : decode cX8_followed 120 = .ok (.iload 4, 2) := by decide +kernel
theorem dX8_followed_122 : decode cX8_followed 122 = .ok (.invokestatic 383, 3) := by decide +kernel
theorem dX8_followed_125 : decode cX8_followed 125 = .ok (.ifCond .eq 7, 3) := by decide +kernel
theorem dX8_followed_128 : decode cX8_followed 128 = .ok (.iconst 1, 1) := by decide +kernel
theorem dX8_followed_129 : decode cX8_followed 129 = .ok (.goto 4, 3) := by decide +kernel
theorem dX8_followed_132 : decode cX8_followed 132 = .ok (.iconst 0, 1) := by decide +kernel
theorem dX8_followed_133 : decode cX8_followed 133 = .ok (.iastore, 1) := by decide +kernel
theorem dX8_followed_134 : decode cX8_followed 134 = .ok (.aload_n 0, 1) := by decide +kernel
theorem dX8_followed_135 : decode cX8_followed 135 = .ok (.getfield 96, 3) := by decide +kernel
theorem dX8_followed_138 : decode cX8_followed 138 = .ok (.iconst 3, 1) := by decide +kernel
theorem dX8_followed_139 : decode cX8_followed 139 = .ok (.aload_n 0, 1) := by decide +kernel
theorem dX8_followed_140 : decode cX8_followed 140 = .ok (.getfield 88, 3) := by decide +kernel
theorem dX8_followed_143 : decode cX8_followed 143 = .ok (.bipush 10, 2) := by decide +kernel
theorem dX8_followed_145 : decode cX8_followed 145 = .ok (.aload_n 0, 1) := by decide +kernel
theorem dX8_followed_146 : decode cX8_followed 146 = .ok (.getfield 378, 3) := by decide +kernel
theorem dX8_followed_149 : decode cX8_followed 149 = .ok (.imul, 1) := by decide +kernel
theorem dX8_followed_150 : decode cX8_followed 150 = .ok (.iload 5, 2) := by decide +kernel
theorem dX8_followed_152 : decode cX8_followed 152 = .ok (.iadd, 1) := by decide +kernel
theorem dX8_followed_153 : decode cX8_followed 153 = .ok (.iaload, 1) := by decide +kernel
theorem dX8_followed_154 : decode cX8_followed 154 = .ok (.iconst (-1), 1) := by decide +kernel
theorem dX8_followed_155 : decode cX8_followed 155 = .ok (.if_icmp .ne 8, 3) := by decide +kernel
theorem dX8_followed_158 : decode cX8_followed 158 = .ok (.bipush 99, 2) := by decide +kernel
theorem dX8_followed_160 : decode cX8_followed 160 = .ok (.goto 18, 3) := by decide +kernel
theorem dX8_followed_163 : decode cX8_followed 163 = .ok (.aload_n 0, 1) := by decide +kernel
theorem dX8_followed_164 : decode cX8_followed 164 = .ok (.getfield 88, 3) := by decide +kernel
theorem dX8_followed_167 : decode cX8_followed 167 = .ok (.bipush 10, 2) := by decide +kernel
theorem dX8_followed_169 : decode cX8_followed 169 = .ok (.aload_n 0, 1) := by decide +kernel
theorem dX8_followed_170 : decode cX8_followed 170 = .ok (.getfield 378, 3) := by decide +kernel
theorem dX8_followed_173 : decode cX8_followed 173 = .ok (.imul, 1) := by decide +kernel
theorem dX8_followed_174 : decode cX8_followed 174 = .ok (.iload 5, 2) := by decide +kernel
theorem dX8_followed_176 : decode cX8_followed 176 = .ok (.iadd, 1) := by decide +kernel
theorem dX8_followed_177 : decode cX8_followed 177 = .ok (.iaload, 1) := by decide +kernel
theorem dX8_followed_178 : decode cX8_followed 178 = .ok (.iastore, 1) := by decide +kernel
theorem dX8_followed_179 : decode cX8_followed 179 = .ok (.aload_n 0, 1) := by decide +kernel
theorem dX8_followed_180 : decode cX8_followed 180 = .ok (.getfield 96, 3) := by decide +kernel
theorem dX8_followed_183 : decode cX8_followed 183 = .ok (.iconst 4, 1) := by decide +kernel
theorem dX8_followed_184 : decode cX8_followed 184 = .ok (.aload_n 0, 1) := by decide +kernel
theorem dX8_followed_185 : decode cX8_followed 185 = .ok (.getfield 102, 3) := by decide +kernel
theorem dX8_followed_188 : decode cX8_followed 188 = .ok (.iload 5, 2) := by decide +kernel
theorem dX8_followed_190 : decode cX8_followed 190 = .ok (.iaload, 1) := by decide +kernel
theorem dX8_followed_191 : decode cX8_followed 191 = .ok (.iastore, 1) := by decide +kernel
theorem dX8_followed_192 : decode cX8_followed 192 = .ok (.aload_n 0, 1) := by decide +kernel
theorem dX8_followed_193 : decode cX8_followed 193 = .ok (.getfield 96, 3) := by decide +kernel
theorem dX8_followed_196 : decode cX8_followed 196 = .ok (.iconst 5, 1) := by decide +kernel
theorem dX8_followed_197 : decode cX8_followed 197 = .ok (.aload_n 0, 1) := by decide +kernel
theorem dX8_followed_198 : decode cX8_followed 198 = .ok (.iload 5, 2) := by decide +kernel
theorem dX8_followed_200 : decode cX8_followed 200 = .ok (.invokevirtual 413, 3) := by decide +kernel
theorem dX8_followed_203 : decode cX8_followed 203 = .ok (.iconst 1, 1) := by decide +kernel
theorem dX8_followed_204 : decode cX8_followed 204 = .ok (.isub, 1) := by decide +kernel
theorem dX8_followed_205 : decode cX8_followed 205 = .ok (.iastore, 1) := by decide +kernel
theorem dX8_followed_206 : decode cX8_followed 206 = .ok (.aload_n 0, 1) := by decide +kernel
theorem dX8_followed_207 : decode cX8_followed 207 = .ok (.getfield 96, 3) := by decide +kernel
theorem dX8_followed_210 : decode cX8_followed 210 = .ok (.bipush 6, 2) := by decide +kernel
theorem dX8_followed_212 : decode cX8_followed 212 = .ok (.iload_n 1, 1) := by decide +kernel
theorem dX8_followed_213 : decode cX8_followed 213 = .ok (.iastore, 1) := by decide +kernel
theorem dX8_followed_214 : decode cX8_followed 214 = .ok (.aload_n 0, 1) := by decide +kernel
theorem dX8_followed_215 : decode cX8_followed 215 = .ok (.aload_n 0, 1) := by decide +kernel
theorem dX8_followed_216 : decode cX8_followed 216 = .ok (.getfield 367, 3) := by decide +kernel
theorem dX8_followed_219 : decode cX8_followed 219 = .ok (.invokevirtual 416, 3) := by decide +kernel
theorem dX8_followed_222 : decode cX8_followed 222 = .ok (.istore 6, 2) := by decide +kernel
theorem dX8_followed_224 : decode cX8_followed 224 = .ok (.iload 6, 2) := by decide +kernel
theorem dX8_followed_226 : decode cX8_followed 226 = .ok (.iload_n 3, 1) := by decide +kernel
theorem dX8_followed_227 : decode cX8_followed 227 = .ok (.if_icmp .gt 6, 3) := by decide +kernel
theorem dX8_followed_230 : decode cX8_followed 230 = .ok (.goto 9, 3) := by decide +kernel
theorem dX8_followed_233 : decode cX8_followed 233 = .ok (.iload 4, 2) := by decide +kernel
theorem dX8_followed_235 : decode cX8_followed 235 = .ok (.istore_n 2, 1) := by decide +kernel
theorem dX8_followed_236 : decode cX8_followed 236 = .ok (.iload 6, 2) := by decide +kernel
theorem dX8_followed_238 : decode cX8_followed 238 = .ok (.istore_n 3, 1) := by decide +kernel
theorem dX8_followed_239 : decode cX8_followed 239 = .ok (.iinc 4 1, 3) := by decide +kernel
theorem dX8_followed_242 : decode cX8_followed 242 = .ok (.goto (-207), 3) := by decide +kernel
theorem dX8_followed_245 : decode cX8_followed 245 = .ok (.iload_n 2, 1) := by decide +kernel
theorem dX8_followed_246 : decode cX8_followed 246 = .ok (.ireturn, 1) := by decide +kernel
theorem dX8_goNearer_0 : decode cX8_goNearer 0 = .ok (.aload_n 0, 1) := by decide +kernel
theorem dX8_goNearer_1 : decode cX8_goNearer 1 = .ok (.getfield 88, 3) := by decide +kernel
theorem dX8_goNearer_4 : decode cX8_goNearer 4 = .ok (.bipush 10, 2) := by decide +kernel
theorem dX8_goNearer_6 : decode cX8_goNearer 6 = .ok (.aload_n 0, 1) := by decide +kernel
theorem dX8_goNearer_7 : decode cX8_goNearer 7 = .ok (.getfield 378, 3) := by decide +kernel
theorem dX8_goNearer_10 : decode cX8_goNearer 10 = .ok (.imul, 1) := by decide +kernel
theorem dX8_goNearer_11 : decode cX8_goNearer 11 = .ok (.iload_n 1, 1) := by decide +kernel
theorem dX8_goNearer_12 : decode cX8_goNearer 12 = .ok (.iadd, 1) := by decide +kernel
theorem dX8_goNearer_13 : decode cX8_goNearer 13 = .ok (.iaload, 1) := by decide +kernel
theorem dX8_goNearer_14 : decode cX8_goNearer 14 = .ok (.istore_n 2, 1) := by decide +kernel
theorem dX8_goNearer_15 : decode cX8_goNearer 15 = .ok (.iload_n 2, 1) := by decide +kernel
theorem dX8_goNearer_16 : decode cX8_goNearer 16 = .ok (.iconst 1, 1) := by decide +kernel
theorem dX8_goNearer_17 : decode cX8_goNearer 17 = .ok (.if_icmp .ge 4, 3) := by decide +kernel
theorem dX8_goNearer_20 : decode cX8_goNearer 20 = .ok (.return_, 1) := by decide +kernel
theorem dX8_goNearer_21 : decode cX8_goNearer 21 = .ok (.iconst 0, 1) := by decide +kernel
theorem dX8_goNearer_22 : decode cX8_goNearer 22 = .ok (.istore_n 3, 1) := by decide +kernel
theorem dX8_goNearer_23 : decode cX8_goNearer 23 = .ok (.iload_n 3, 1) := by decide +kernel
theorem dX8_goNearer_24 : decode cX8_goNearer 24 = .ok (.aload_n 0, 1) := by decide +kernel
theorem dX8_goNearer_25 : decode cX8_goNearer 25 = .ok (.getfield 40, 3) := by decide +kernel
theorem dX8_goNearer_28 : decode cX8_goNearer 28 = .ok (.iconst 0, 1) := by decide +kernel
theorem dX8_goNearer_29 : decode cX8_goNearer 29 = .ok (.iaload, 1) := by decide +kernel
theorem dX8_goNearer_30 : decode cX8_goNearer 30 = .ok (.if_icmp .ge 51, 3) := by decide +kernel
theorem dX8_goNearer_33 : decode cX8_goNearer 33 = .ok (.aload_n 0, 1) := by decide +kernel
theorem dX8_goNearer_34 : decode cX8_goNearer 34 = .ok (.getfield 49, 3) := by decide +kernel
theorem dX8_goNearer_37 : decode cX8_goNearer 37 = .ok (.aload_n 0, 1) := by decide +kernel
theorem dX8_goNearer_38 : decode cX8_goNearer 38 = .ok (.getfield 378, 3) := by decide +kernel
theorem dX8_goNearer_41 : decode cX8_goNearer 41 = .ok (.iaload, 1) := by decide +kernel
theorem dX8_goNearer_42 : decode cX8_goNearer 42 = .ok (.iload_n 3, 1) := by decide +kernel
theorem dX8_goNearer_43 : decode cX8_goNearer 43 = .ok (.ishr, 1) := by decide +kernel
theorem dX8_goNearer_44 : decode cX8_goNearer 44 = .ok (.iconst 1, 1) := by decide +kernel
theorem dX8_goNearer_45 : decode cX8_goNearer 45 = .ok (.iand, 1) := by decide +kernel
theorem dX8_goNearer_46 : decode cX8_goNearer 46 = .ok (.ifCond .eq 29, 3) := by decide +kernel
theorem dX8_goNearer_49 : decode cX8_goNearer 49 = .ok (.aload_n 0, 1) := by decide +kernel
theorem dX8_goNearer_50 : decode cX8_goNearer 50 = .ok (.getfield 88, 3) := by decide +kernel
theorem dX8_goNearer_53 : decode cX8_goNearer 53 = .ok (.bipush 10, 2) := by decide +kernel
theorem dX8_goNearer_55 : decode cX8_goNearer 55 = .ok (.iload_n 3, 1) := by decide +kernel
theorem dX8_goNearer_56 : decode cX8_goNearer 56 = .ok (.imul, 1) := by decide +kernel
theorem dX8_goNearer_57 : decode cX8_goNearer 57 = .ok (.iload_n 1, 1) := by decide +kernel
theorem dX8_goNearer_58 : decode cX8_goNearer 58 = .ok (.iadd, 1) := by decide +kernel
theorem dX8_goNearer_59 : decode cX8_goNearer 59 = .ok (.iaload, 1) := by decide +kernel
theorem dX8_goNearer_60 : decode cX8_goNearer 60 = .ok (.iload_n 2, 1) := by decide +kernel
theorem dX8_goNearer_61 : decode cX8_goNearer 61 = .ok (.iconst 1, 1) := by decide +kernel
theorem dX8_goNearer_62 : decode cX8_goNearer 62 = .ok (.isub, 1) := by decide +kernel
theorem dX8_goNearer_63 : decode cX8_goNearer 63 = .ok (.if_icmp .eq 6, 3) := by decide +kernel
theorem dX8_goNearer_66 : decode cX8_goNearer 66 = .ok (.goto 9, 3) := by decide +kernel
theorem dX8_goNearer_69 : decode cX8_goNearer 69 = .ok (.aload_n 0, 1) := by decide +kernel
theorem dX8_goNearer_70 : decode cX8_goNearer 70 = .ok (.iload_n 3, 1) := by decide +kernel
theorem dX8_goNearer_71 : decode cX8_goNearer 71 = .ok (.putfield 378, 3) := by decide +kernel
theorem dX8_goNearer_74 : decode cX8_goNearer 74 = .ok (.return_, 1) := by decide +kernel
theorem dX8_goNearer_75 : decode cX8_goNearer 75 = .ok (.iinc 3 1, 3) := by decide +kernel
theorem dX8_goNearer_78 : decode cX8_goNearer 78 = .ok (.goto (-55), 3) := by decide +kernel
theorem dX8_goNearer_81 : decode cX8_goNearer 81 = .ok (.return_, 1) := by decide +kernel
theorem dX8_putBack_0 : decode cX8_putBack 0 = .ok (.aload_n 0, 1) := by decide +kernel
theorem dX8_putBack_1 : decode cX8_putBack 1 = .ok (.getfield 111, 3) := by decide +kernel
theorem dX8_putBack_4 : decode cX8_putBack 4 = .ok (.iload_n 1, 1) := by decide +kernel
theorem dX8_putBack_5 : decode cX8_putBack 5 = .ok (.iaload, 1) := by decide +kernel
theorem dX8_putBack_6 : decode cX8_putBack 6 = .ok (.iconst (-1), 1) := by decide +kernel
theorem dX8_putBack_7 : decode cX8_putBack 7 = .ok (.if_icmp .eq 18, 3) := by decide +kernel
theorem dX8_putBack_10 : decode cX8_putBack 10 = .ok (.aload_n 0, 1) := by decide +kernel
theorem dX8_putBack_11 : decode cX8_putBack 11 = .ok (.getfield 105, 3) := by decide +kernel
theorem dX8_putBack_14 : decode cX8_putBack 14 = .ok (.aload_n 0, 1) := by decide +kernel
theorem dX8_putBack_15 : decode cX8_putBack 15 = .ok (.getfield 111, 3) := by decide +kernel
theorem dX8_putBack_18 : decode cX8_putBack 18 = .ok (.iload_n 1, 1) := by decide +kernel
theorem dX8_putBack_19 : decode cX8_putBack 19 = .ok (.iaload, 1) := by decide +kernel
theorem dX8_putBack_20 : decode cX8_putBack 20 = .ok (.dup2, 1) := by decide +kernel
theorem dX8_putBack_21 : decode cX8_putBack 21 = .ok (.iaload, 1) := by decide +kernel
theorem dX8_putBack_22 : decode cX8_putBack 22 = .ok (.iconst 1, 1) := by decide +kernel
theorem dX8_putBack_23 : decode cX8_putBack 23 = .ok (.iadd, 1) := by decide +kernel
theorem dX8_putBack_24 : decode cX8_putBack 24 = .ok (.iastore, 1) := by decide +kernel
theorem dX8_putBack_25 : decode cX8_putBack 25 = .ok (.aload_n 0, 1) := by decide +kernel
theorem dX8_putBack_26 : decode cX8_putBack 26 = .ok (.getfield 111, 3) := by decide +kernel
theorem dX8_putBack_29 : decode cX8_putBack 29 = .ok (.iload_n 1, 1) := by decide +kernel
theorem dX8_putBack_30 : decode cX8_putBack 30 = .ok (.iconst (-1), 1) := by decide +kernel
theorem dX8_putBack_31 : decode cX8_putBack 31 = .ok (.iastore, 1) := by decide +kernel
theorem dX8_putBack_32 : decode cX8_putBack 32 = .ok (.return_, 1) := by decide +kernel
theorem dX8_minuteNow_0 : decode cX8_minuteNow 0 = .ok (.iconst 0, 1) := by decide +kernel
theorem dX8_minuteNow_1 : decode cX8_minuteNow 1 = .ok (.istore_n 2, 1) := by decide +kernel
theorem dX8_minuteNow_2 : decode cX8_minuteNow 2 = .ok (.iload_n 2, 1) := by decide +kernel
theorem dX8_minuteNow_3 : decode cX8_minuteNow 3 = .ok (.aload_n 0, 1) := by decide +kernel
theorem dX8_minuteNow_4 : decode cX8_minuteNow 4 = .ok (.getfield 40, 3) := by decide +kernel
theorem dX8_minuteNow_7 : decode cX8_minuteNow 7 = .ok (.iconst 3, 1) := by decide +kernel
theorem dX8_minuteNow_8 : decode cX8_minuteNow 8 = .ok (.iaload, 1) := by decide +kernel
theorem dX8_minuteNow_9 : decode cX8_minuteNow 9 = .ok (.if_icmp .ge 99, 3) := by decide +kernel
theorem dX8_minuteNow_12 : decode cX8_minuteNow 12 = .ok (.iload_n 1, 1) := by decide +kernel
theorem dX8_minuteNow_13 : decode cX8_minuteNow 13 = .ok (.aload_n 0, 1) := by decide +kernel
theorem dX8_minuteNow_14 : decode cX8_minuteNow 14 = .ok (.getfield 58, 3) := by decide +kernel
theorem dX8_minuteNow_17 : decode cX8_minuteNow 17 = .ok (.iload_n 2, 1) := by decide +kernel
theorem dX8_minuteNow_18 : decode cX8_minuteNow 18 = .ok (.iaload, 1) := by decide +kernel
theorem dX8_minuteNow_19 : decode cX8_minuteNow 19 = .ok (.if_icmp .ne 24, 3) := by decide +kernel
theorem dX8_minuteNow_22 : decode cX8_minuteNow 22 = .ok (.aload_n 0, 1) := by decide +kernel
theorem dX8_minuteNow_23 : decode cX8_minuteNow 23 = .ok (.getfield 375, 3) := by decide +kernel
theorem dX8_minuteNow_26 : decode cX8_minuteNow 26 = .ok (.iload_n 2, 1) := by decide +kernel
theorem dX8_minuteNow_27 : decode cX8_minuteNow 27 = .ok (.invokestatic 383, 3) := by decide +kernel
theorem dX8_minuteNow_30 : decode cX8_minuteNow 30 = .ok (.ifCond .eq 13, 3) := by decide +kernel
theorem dX8_minuteNow_33 : decode cX8_minuteNow 33 = .ok (.aload_n 0, 1) := by decide +kernel
theorem dX8_minuteNow_34 : decode cX8_minuteNow 34 = .ok (.getfield 108, 3) := by decide +kernel
theorem dX8_minuteNow_37 : decode cX8_minuteNow 37 = .ok (.iload_n 2, 1) := by decide +kernel
theorem dX8_minuteNow_38 : decode cX8_minuteNow 38 = .ok (.iconst 0, 1) := by decide +kernel
theorem dX8_minuteNow_39 : decode cX8_minuteNow 39 = .ok (.iastore, 1) := by decide +kernel
theorem dX8_minuteNow_40 : decode cX8_minuteNow 40 = .ok (.goto 62, 3) := by decide +kernel
theorem dX8_minuteNow_43 : decode cX8_minuteNow 43 = .ok (.aload_n 0, 1) := by decide +kernel
theorem dX8_minuteNow_44 : decode cX8_minuteNow 44 = .ok (.iload_n 2, 1) := by decide +kernel
theorem dX8_minuteNow_45 : decode cX8_minuteNow 45 = .ok (.invokevirtual 404, 3) := by decide +kernel
theorem dX8_minuteNow_48 : decode cX8_minuteNow 48 = .ok (.ifCond .eq 33, 3) := by decide +kernel
theorem dX8_minuteNow_51 : decode cX8_minuteNow 51 = .ok (.aload_n 0, 1) := by decide +kernel
theorem dX8_minuteNow_52 : decode cX8_minuteNow 52 = .ok (.getfield 108, 3) := by decide +kernel
theorem dX8_minuteNow_55 : decode cX8_minuteNow 55 = .ok (.iload_n 2, 1) := by decide +kernel
theorem dX8_minuteNow_56 : decode cX8_minuteNow 56 = .ok (.iaload, 1) := by decide +kernel
theorem dX8_minuteNow_57 : decode cX8_minuteNow 57 = .ok (.iconst 1, 1) := by decide +kernel
theorem dX8_minuteNow_58 : decode cX8_minuteNow 58 = .ok (.iadd, 1) := by decide +kernel
theorem dX8_minuteNow_59 : decode cX8_minuteNow 59 = .ok (.aload_n 0, 1) := by decide +kernel
theorem dX8_minuteNow_60 : decode cX8_minuteNow 60 = .ok (.getfield 66, 3) := by decide +kernel
theorem dX8_minuteNow_63 : decode cX8_minuteNow 63 = .ok (.iload_n 2, 1) := by decide +kernel
theorem dX8_minuteNow_64 : decode cX8_minuteNow 64 = .ok (.iaload, 1) := by decide +kernel
theorem dX8_minuteNow_65 : decode cX8_minuteNow 65 = .ok (.if_icmp .ge 16, 3) := by decide +kernel
theorem dX8_minuteNow_68 : decode cX8_minuteNow 68 = .ok (.aload_n 0, 1) := by decide +kernel
theorem dX8_minuteNow_69 : decode cX8_minuteNow 69 = .ok (.getfield 108, 3) := by decide +kernel
theorem dX8_minuteNow_72 : decode cX8_minuteNow 72 = .ok (.iload_n 2, 1) := by decide +kernel
theorem dX8_minuteNow_73 : decode cX8_minuteNow 73 = .ok (.dup2, 1) := by decide +kernel
theorem dX8_minuteNow_74 : decode cX8_minuteNow 74 = .ok (.iaload, 1) := by decide +kernel
theorem dX8_minuteNow_75 : decode cX8_minuteNow 75 = .ok (.iconst 1, 1) := by decide +kernel
theorem dX8_minuteNow_76 : decode cX8_minuteNow 76 = .ok (.iadd, 1) := by decide +kernel
theorem dX8_minuteNow_77 : decode cX8_minuteNow 77 = .ok (.iastore, 1) := by decide +kernel
theorem dX8_minuteNow_78 : decode cX8_minuteNow 78 = .ok (.goto 24, 3) := by decide +kernel
theorem dX8_minuteNow_81 : decode cX8_minuteNow 81 = .ok (.aload_n 0, 1) := by decide +kernel
theorem dX8_minuteNow_82 : decode cX8_minuteNow 82 = .ok (.iload_n 2, 1) := by decide +kernel
theorem dX8_minuteNow_83 : decode cX8_minuteNow 83 = .ok (.invokevirtual 404, 3) := by decide +kernel
theorem dX8_minuteNow_86 : decode cX8_minuteNow 86 = .ok (.ifCond .eq 16, 3) := by decide +kernel
theorem dX8_minuteNow_89 : decode cX8_minuteNow 89 = .ok (.aload_n 0, 1) := by decide +kernel
theorem dX8_minuteNow_90 : decode cX8_minuteNow 90 = .ok (.iload_n 2, 1) := by decide +kernel
theorem dX8_minuteNow_91 : decode cX8_minuteNow 91 = .ok (.invokevirtual 407, 3) := by decide +kernel
theorem dX8_minuteNow_94 : decode cX8_minuteNow 94 = .ok (.ifCond .ne 8, 3) := by decide +kernel
theorem dX8_minuteNow_97 : decode cX8_minuteNow 97 = .ok (.aload_n 0, 1) := by decide +kernel
theorem dX8_minuteNow_98 : decode cX8_minuteNow 98 = .ok (.iload_n 2, 1) := by decide +kernel
theorem dX8_minuteNow_99 : decode cX8_minuteNow 99 = .ok (.invokevirtual 419, 3) := by decide +kernel
theorem dX8_minuteNow_102 : decode cX8_minuteNow 102 = .ok (.iinc 2 1, 3) := by decide +kernel
theorem dX8_minuteNow_105 : decode cX8_minuteNow 105 = .ok (.goto (-103), 3) := by decide +kernel
theorem dX8_minuteNow_108 : decode cX8_minuteNow 108 = .ok (.aload_n 0, 1) := by decide +kernel
theorem dX8_minuteNow_109 : decode cX8_minuteNow 109 = .ok (.getfield 378, 3) := by decide +kernel
theorem dX8_minuteNow_112 : decode cX8_minuteNow 112 = .ok (.iconst (-1), 1) := by decide +kernel
theorem dX8_minuteNow_113 : decode cX8_minuteNow 113 = .ok (.if_icmp .ne 7, 3) := by decide +kernel
theorem dX8_minuteNow_116 : decode cX8_minuteNow 116 = .ok (.iconst (-1), 1) := by decide +kernel
theorem dX8_minuteNow_117 : decode cX8_minuteNow 117 = .ok (.goto 8, 3) := by decide +kernel
theorem dX8_minuteNow_120 : decode cX8_minuteNow 120 = .ok (.aload_n 0, 1) := by decide +kernel
theorem dX8_minuteNow_121 : decode cX8_minuteNow 121 = .ok (.iload_n 1, 1) := by decide +kernel
theorem dX8_minuteNow_122 : decode cX8_minuteNow 122 = .ok (.invokevirtual 422, 3) := by decide +kernel
theorem dX8_minuteNow_125 : decode cX8_minuteNow 125 = .ok (.istore_n 2, 1) := by decide +kernel
theorem dX8_minuteNow_126 : decode cX8_minuteNow 126 = .ok (.iload_n 2, 1) := by decide +kernel
theorem dX8_minuteNow_127 : decode cX8_minuteNow 127 = .ok (.iconst (-1), 1) := by decide +kernel
theorem dX8_minuteNow_128 : decode cX8_minuteNow 128 = .ok (.if_icmp .eq 12, 3) := by decide +kernel
theorem dX8_minuteNow_131 : decode cX8_minuteNow 131 = .ok (.aload_n 0, 1) := by decide +kernel
theorem dX8_minuteNow_132 : decode cX8_minuteNow 132 = .ok (.aload_n 0, 1) := by decide +kernel
theorem dX8_minuteNow_133 : decode cX8_minuteNow 133 = .ok (.iload_n 2, 1) := by decide +kernel
theorem dX8_minuteNow_134 : decode cX8_minuteNow 134 = .ok (.invokevirtual 407, 3) := by decide +kernel
theorem dX8_minuteNow_137 : decode cX8_minuteNow 137 = .ok (.invokevirtual 425, 3) := by decide +kernel
theorem dX8_minuteNow_140 : decode cX8_minuteNow 140 = .ok (.iconst 0, 1) := by decide +kernel
theorem dX8_minuteNow_141 : decode cX8_minuteNow 141 = .ok (.istore_n 3, 1) := by decide +kernel
theorem dX8_minuteNow_142 : decode cX8_minuteNow 142 = .ok (.iload_n 3, 1) := by decide +kernel
theorem dX8_minuteNow_143 : decode cX8_minuteNow 143 = .ok (.aload_n 0, 1) := by decide +kernel
theorem dX8_minuteNow_144 : decode cX8_minuteNow 144 = .ok (.getfield 40, 3) := by decide +kernel
theorem dX8_minuteNow_147 : decode cX8_minuteNow 147 = .ok (.iconst 3, 1) := by decide +kernel
theorem dX8_minuteNow_148 : decode cX8_minuteNow 148 = .ok (.iaload, 1) := by decide +kernel
theorem dX8_minuteNow_149 : decode cX8_minuteNow 149 = .ok (.if_icmp .ge 114, 3) := by decide +kernel
theorem dX8_minuteNow_152 : decode cX8_minuteNow 152 = .ok (.aload_n 0, 1) := by decide +kernel
theorem dX8_minuteNow_153 : decode cX8_minuteNow 153 = .ok (.iload_n 3, 1) := by decide +kernel
theorem dX8_minuteNow_154 : decode cX8_minuteNow 154 = .ok (.invokevirtual 404, 3) := by decide +kernel
theorem dX8_minuteNow_157 : decode cX8_minuteNow 157 = .ok (.ifCond .eq 33, 3) := by decide +kernel
theorem dX8_minuteNow_160 : decode cX8_minuteNow 160 = .ok (.aload_n 0, 1) := by decide +kernel
theorem dX8_minuteNow_161 : decode cX8_minuteNow 161 = .ok (.getfield 55, 3) := by decide +kernel
theorem dX8_minuteNow_164 : decode cX8_minuteNow 164 = .ok (.iload_n 3, 1) := by decide +kernel
theorem dX8_minuteNow_165 : decode cX8_minuteNow 165 = .ok (.iaload, 1) := by decide +kernel
theorem dX8_minuteNow_166 : decode cX8_minuteNow 166 = .ok (.iconst 1, 1) := by decide +kernel
theorem dX8_minuteNow_167 : decode cX8_minuteNow 167 = .ok (.if_icmp .ne 23, 3) := by decide +kernel
theorem dX8_minuteNow_170 : decode cX8_minuteNow 170 = .ok (.aload_n 0, 1) := by decide +kernel
theorem dX8_minuteNow_171 : decode cX8_minuteNow 171 = .ok (.getfield 378, 3) := by decide +kernel
theorem dX8_minuteNow_174 : decode cX8_minuteNow 174 = .ok (.iconst (-1), 1) := by decide +kernel
theorem dX8_minuteNow_175 : decode cX8_minuteNow 175 = .ok (.if_icmp .eq 15, 3) := by decide +kernel
theorem dX8_minuteNow_178 : decode cX8_minuteNow 178 = .ok (.aload_n 0, 1) := by decide +kernel
theorem dX8_minuteNow_179 : decode cX8_minuteNow 179 = .ok (.iload_n 3, 1) := by decide +kernel
theorem dX8_minuteNow_180 : decode cX8_minuteNow 180 = .ok (.invokevirtual 407, 3) := by decide +kernel
theorem dX8_minuteNow_183 : decode cX8_minuteNow 183 = .ok (.aload_n 0, 1) := by decide +kernel
theorem dX8_minuteNow_184 : decode cX8_minuteNow 184 = .ok (.getfield 378, 3) := by decide +kernel
theorem dX8_minuteNow_187 : decode cX8_minuteNow 187 = .ok (.if_icmp .eq 13, 3) := by decide +kernel
theorem dX8_minuteNow_190 : decode cX8_minuteNow 190 = .ok (.aload_n 0, 1) := by decide +kernel
theorem dX8_minuteNow_191 : decode cX8_minuteNow 191 = .ok (.getfield 114, 3) := by decide +kernel
theorem dX8_minuteNow_194 : decode cX8_minuteNow 194 = .ok (.iload_n 3, 1) := by decide +kernel
theorem dX8_minuteNow_195 : decode cX8_minuteNow 195 = .ok (.iconst 0, 1) := by decide +kernel
theorem dX8_minuteNow_196 : decode cX8_minuteNow 196 = .ok (.iastore, 1) := by decide +kernel
theorem dX8_minuteNow_197 : decode cX8_minuteNow 197 = .ok (.goto 60, 3) := by decide +kernel
theorem dX8_minuteNow_200 : decode cX8_minuteNow 200 = .ok (.aload_n 0, 1) := by decide +kernel
theorem dX8_minuteNow_201 : decode cX8_minuteNow 201 = .ok (.getfield 114, 3) := by decide +kernel
theorem dX8_minuteNow_204 : decode cX8_minuteNow 204 = .ok (.iload_n 3, 1) := by decide +kernel
theorem dX8_minuteNow_205 : decode cX8_minuteNow 205 = .ok (.dup2, 1) := by decide +kernel
theorem dX8_minuteNow_206 : decode cX8_minuteNow 206 = .ok (.iaload, 1) := by decide +kernel
theorem dX8_minuteNow_207 : decode cX8_minuteNow 207 = .ok (.iconst 1, 1) := by decide +kernel
theorem dX8_minuteNow_208 : decode cX8_minuteNow 208 = .ok (.iadd, 1) := by decide +kernel
theorem dX8_minuteNow_209 : decode cX8_minuteNow 209 = .ok (.iastore, 1) := by decide +kernel
theorem dX8_minuteNow_210 : decode cX8_minuteNow 210 = .ok (.aload_n 0, 1) := by decide +kernel
theorem dX8_minuteNow_211 : decode cX8_minuteNow 211 = .ok (.getfield 114, 3) := by decide +kernel
theorem dX8_minuteNow_214 : decode cX8_minuteNow 214 = .ok (.iload_n 3, 1) := by decide +kernel
theorem dX8_minuteNow_215 : decode cX8_minuteNow 215 = .ok (.iaload, 1) := by decide +kernel
theorem dX8_minuteNow_216 : decode cX8_minuteNow 216 = .ok (.aload_n 0, 1) := by decide +kernel
theorem dX8_minuteNow_217 : decode cX8_minuteNow 217 = .ok (.getfield 369, 3) := by decide +kernel
theorem dX8_minuteNow_220 : decode cX8_minuteNow 220 = .ok (.iconst 1, 1) := by decide +kernel
theorem dX8_minuteNow_221 : decode cX8_minuteNow 221 = .ok (.if_icmp .ne 7, 3) := by decide +kernel
theorem dX8_minuteNow_224 : decode cX8_minuteNow 224 = .ok (.iconst 1, 1) := by decide +kernel
theorem dX8_minuteNow_225 : decode cX8_minuteNow 225 = .ok (.goto 9, 3) := by decide +kernel
theorem dX8_minuteNow_228 : decode cX8_minuteNow 228 = .ok (.aload_n 0, 1) := by decide +kernel
theorem dX8_minuteNow_229 : decode cX8_minuteNow 229 = .ok (.getfield 40, 3) := by decide +kernel
theorem dX8_minuteNow_232 : decode cX8_minuteNow 232 = .ok (.iconst 5, 1) := by decide +kernel
theorem dX8_minuteNow_233 : decode cX8_minuteNow 233 = .ok (.iaload, 1) := by decide +kernel
theorem dX8_minuteNow_234 : decode cX8_minuteNow 234 = .ok (.if_icmp .ge 6, 3) := by decide +kernel
theorem dX8_minuteNow_237 : decode cX8_minuteNow 237 = .ok (.goto 20, 3) := by decide +kernel
theorem dX8_minuteNow_240 : decode cX8_minuteNow 240 = .ok (.aload_n 0, 1) := by decide +kernel
theorem dX8_minuteNow_241 : decode cX8_minuteNow 241 = .ok (.dup, 1) := by decide +kernel
theorem dX8_minuteNow_242 : decode cX8_minuteNow 242 = .ok (.getfield 428, 3) := by decide +kernel
theorem dX8_minuteNow_245 : decode cX8_minuteNow 245 = .ok (.iconst 1, 1) := by decide +kernel
theorem dX8_minuteNow_246 : decode cX8_minuteNow 246 = .ok (.iload_n 3, 1) := by decide +kernel
theorem dX8_minuteNow_247 : decode cX8_minuteNow 247 = .ok (.ishl, 1) := by decide +kernel
theorem dX8_minuteNow_248 : decode cX8_minuteNow 248 = .ok (.ior, 1) := by decide +kernel
theorem dX8_minuteNow_249 : decode cX8_minuteNow 249 = .ok (.putfield 428, 3) := by decide +kernel
theorem dX8_minuteNow_252 : decode cX8_minuteNow 252 = .ok (.aload_n 0, 1) := by decide +kernel
theorem dX8_minuteNow_253 : decode cX8_minuteNow 253 = .ok (.iload_n 3, 1) := by decide +kernel
theorem dX8_minuteNow_254 : decode cX8_minuteNow 254 = .ok (.invokevirtual 431, 3) := by decide +kernel
theorem dX8_minuteNow_257 : decode cX8_minuteNow 257 = .ok (.iinc 3 1, 3) := by decide +kernel
theorem dX8_minuteNow_260 : decode cX8_minuteNow 260 = .ok (.goto (-118), 3) := by decide +kernel
theorem dX8_minuteNow_263 : decode cX8_minuteNow 263 = .ok (.iconst 0, 1) := by decide +kernel
theorem dX8_minuteNow_264 : decode cX8_minuteNow 264 = .ok (.istore_n 3, 1) := by decide +kernel
theorem dX8_minuteNow_265 : decode cX8_minuteNow 265 = .ok (.iload_n 3, 1) := by decide +kernel
theorem dX8_minuteNow_266 : decode cX8_minuteNow 266 = .ok (.aload_n 0, 1) := by decide +kernel
theorem dX8_minuteNow_267 : decode cX8_minuteNow 267 = .ok (.getfield 40, 3) := by decide +kernel
theorem dX8_minuteNow_270 : decode cX8_minuteNow 270 = .ok (.iconst 3, 1) := by decide +kernel
theorem dX8_minuteNow_271 : decode cX8_minuteNow 271 = .ok (.iaload, 1) := by decide +kernel
theorem dX8_minuteNow_272 : decode cX8_minuteNow 272 = .ok (.if_icmp .ge 130, 3) := by decide +kernel
theorem dX8_minuteNow_275 : decode cX8_minuteNow 275 = .ok (.aload_n 0, 1) := by decide +kernel
theorem dX8_minuteNow_276 : decode cX8_minuteNow 276 = .ok (.iload_n 3, 1) := by decide +kernel
theorem dX8_minuteNow_277 : decode cX8_minuteNow 277 = .ok (.invokevirtual 404, 3) := by decide +kernel
theorem dX8_minuteNow_280 : decode cX8_minuteNow 280 = .ok (.ifCond .eq 116, 3) := by decide +kernel
theorem dX8_minuteNow_283 : decode cX8_minuteNow 283 = .ok (.aload_n 0, 1) := by decide +kernel
theorem dX8_minuteNow_284 : decode cX8_minuteNow 284 = .ok (.getfield 61, 3) := by decide +kernel
theorem dX8_minuteNow_287 : decode cX8_minuteNow 287 = .ok (.iload_n 3, 1) := by decide +kernel
theorem dX8_minuteNow_288 : decode cX8_minuteNow 288 = .ok (.iaload, 1) := by decide +kernel
theorem dX8_minuteNow_289 : decode cX8_minuteNow 289 = .ok (.ifCond .eq 107, 3) := by decide +kernel
theorem dX8_minuteNow_292 : decode cX8_minuteNow 292 = .ok (.aload_n 0, 1) := by decide +kernel
theorem dX8_minuteNow_293 : decode cX8_minuteNow 293 = .ok (.iload_n 3, 1) := by decide +kernel
theorem dX8_minuteNow_294 : decode cX8_minuteNow 294 = .ok (.iload_n 1, 1) := by decide +kernel
theorem dX8_minuteNow_295 : decode cX8_minuteNow 295 = .ok (.invokevirtual 410, 3) := by decide +kernel
theorem dX8_minuteNow_298 : decode cX8_minuteNow 298 = .ok (.aload_n 0, 1) := by decide +kernel
theorem dX8_minuteNow_299 : decode cX8_minuteNow 299 = .ok (.getfield 61, 3) := by decide +kernel
theorem dX8_minuteNow_302 : decode cX8_minuteNow 302 = .ok (.iload_n 3, 1) := by decide +kernel
theorem dX8_minuteNow_303 : decode cX8_minuteNow 303 = .ok (.iaload, 1) := by decide +kernel
theorem dX8_minuteNow_304 : decode cX8_minuteNow 304 = .ok (.if_icmp .ne 92, 3) := by decide +kernel
theorem dX8_minuteNow_307 : decode cX8_minuteNow 307 = .ok (.aload_n 0, 1) := by decide +kernel
theorem dX8_minuteNow_308 : decode cX8_minuteNow 308 = .ok (.getfield 428, 3) := by decide +kernel
theorem dX8_minuteNow_311 : decode cX8_minuteNow 311 = .ok (.iload_n 3, 1) := by decide +kernel
theorem dX8_minuteNow_312 : decode cX8_minuteNow 312 = .ok (.invokestatic 383, 3) := by decide +kernel
theorem dX8_minuteNow_315 : decode cX8_minuteNow 315 = .ok (.ifCond .eq 6, 3) := by decide +kernel
theorem dX8_minuteNow_318 : decode cX8_minuteNow 318 = .ok (.goto 78, 3) := by decide +kernel
theorem dX8_minuteNow_321 : decode cX8_minuteNow 321 = .ok (.aload_n 0, 1) := by decide +kernel
theorem dX8_minuteNow_322 : decode cX8_minuteNow 322 = .ok (.iload_n 3, 1) := by decide +kernel
theorem dX8_minuteNow_323 : decode cX8_minuteNow 323 = .ok (.invokevirtual 407, 3) := by decide +kernel
theorem dX8_minuteNow_326 : decode cX8_minuteNow 326 = .ok (.istore 4, 2) := by decide +kernel
theorem dX8_minuteNow_328 : decode cX8_minuteNow 328 = .ok (.aload_n 0, 1) := by decide +kernel
theorem dX8_minuteNow_329 : decode cX8_minuteNow 329 = .ok (.getfield 105, 3) := by decide +kernel
theorem dX8_minuteNow_332 : decode cX8_minuteNow 332 = .ok (.iload 4, 2) := by decide +kernel
theorem dX8_minuteNow_334 : decode cX8_minuteNow 334 = .ok (.iaload, 1) := by decide +kernel
theorem dX8_minuteNow_335 : decode cX8_minuteNow 335 = .ok (.ifCond .ne 6, 3) := by decide +kernel
theorem dX8_minuteNow_338 : decode cX8_minuteNow 338 = .ok (.goto 58, 3) := by decide +kernel
theorem dX8_minuteNow_341 : decode cX8_minuteNow 341 = .ok (.aload_n 0, 1) := by decide +kernel
theorem dX8_minuteNow_342 : decode cX8_minuteNow 342 = .ok (.getfield 105, 3) := by decide +kernel
theorem dX8_minuteNow_345 : decode cX8_minuteNow 345 = .ok (.iload 4, 2) := by decide +kernel
theorem dX8_minuteNow_347 : decode cX8_minuteNow 347 = .ok (.dup2, 1) := by decide +kernel
theorem dX8_minuteNow_348 : decode cX8_minuteNow 348 = .ok (.iaload, 1) := by decide +kernel
theorem dX8_minuteNow_349 : decode cX8_minuteNow 349 = .ok (.iconst 1, 1) := by decide +kernel
theorem dX8_minuteNow_350 : decode cX8_minuteNow 350 = .ok (.isub, 1) := by decide +kernel
theorem dX8_minuteNow_351 : decode cX8_minuteNow 351 = .ok (.iastore, 1) := by decide +kernel
theorem dX8_minuteNow_352 : decode cX8_minuteNow 352 = .ok (.aload_n 0, 1) := by decide +kernel
theorem dX8_minuteNow_353 : decode cX8_minuteNow 353 = .ok (.getfield 111, 3) := by decide +kernel
theorem dX8_minuteNow_356 : decode cX8_minuteNow 356 = .ok (.iload_n 3, 1) := by decide +kernel
theorem dX8_minuteNow_357 : decode cX8_minuteNow 357 = .ok (.iload 4, 2) := by decide +kernel
theorem dX8_minuteNow_359 : decode cX8_minuteNow 359 = .ok (.iastore, 1) := by decide +kernel
theorem dX8_minuteNow_360 : decode cX8_minuteNow 360 = .ok (.aload_n 0, 1) := by decide +kernel
theorem dX8_minuteNow_361 : decode cX8_minuteNow 361 = .ok (.iload 4, 2) := by decide +kernel
theorem dX8_minuteNow_363 : decode cX8_minuteNow 363 = .ok (.invokevirtual 434, 3) := by decide +kernel
theorem dX8_minuteNow_366 : decode cX8_minuteNow 366 = .ok (.ifCond .ne 6, 3) := by decide +kernel
theorem dX8_minuteNow_369 : decode cX8_minuteNow 369 = .ok (.goto 27, 3) := by decide +kernel
theorem dX8_minuteNow_372 : decode cX8_minuteNow 372 = .ok (.aload_n 0, 1) := by decide +kernel
theorem dX8_minuteNow_373 : decode cX8_minuteNow 373 = .ok (.dup, 1) := by decide +kernel
theorem dX8_minuteNow_374 : decode cX8_minuteNow 374 = .ok (.getfield 381, 3) := by decide +kernel
theorem dX8_minuteNow_377 : decode cX8_minuteNow 377 = .ok (.iconst 1, 1) := by decide +kernel
theorem dX8_minuteNow_378 : decode cX8_minuteNow 378 = .ok (.iload_n 3, 1) := by decide +kernel
theorem dX8_minuteNow_379 : decode cX8_minuteNow 379 = .ok (.ishl, 1) := by decide +kernel
theorem dX8_minuteNow_380 : decode cX8_minuteNow 380 = .ok (.ior, 1) := by decide +kernel
theorem dX8_minuteNow_381 : decode cX8_minuteNow 381 = .ok (.putfield 381, 3) := by decide +kernel
theorem dX8_minuteNow_384 : decode cX8_minuteNow 384 = .ok (.aload_n 0, 1) := by decide +kernel
theorem dX8_minuteNow_385 : decode cX8_minuteNow 385 = .ok (.dup, 1) := by decide +kernel
theorem dX8_minuteNow_386 : decode cX8_minuteNow 386 = .ok (.getfield 386, 3) := by decide +kernel
theorem dX8_minuteNow_389 : decode cX8_minuteNow 389 = .ok (.iconst 1, 1) := by decide +kernel
theorem dX8_minuteNow_390 : decode cX8_minuteNow 390 = .ok (.iload_n 3, 1) := by decide +kernel
theorem dX8_minuteNow_391 : decode cX8_minuteNow 391 = .ok (.ishl, 1) := by decide +kernel
theorem dX8_minuteNow_392 : decode cX8_minuteNow 392 = .ok (.ior, 1) := by decide +kernel
theorem dX8_minuteNow_393 : decode cX8_minuteNow 393 = .ok (.putfield 386, 3) := by decide +kernel
theorem dX8_minuteNow_396 : decode cX8_minuteNow 396 = .ok (.iinc 3 1, 3) := by decide +kernel
theorem dX8_minuteNow_399 : decode cX8_minuteNow 399 = .ok (.goto (-134), 3) := by decide +kernel
theorem dX8_minuteNow_402 : decode cX8_minuteNow 402 = .ok (.iconst 0, 1) := by decide +kernel
theorem dX8_minuteNow_403 : decode cX8_minuteNow 403 = .ok (.istore_n 3, 1) := by decide +kernel
theorem dX8_minuteNow_404 : decode cX8_minuteNow 404 = .ok (.iload_n 3, 1) := by decide +kernel
theorem dX8_minuteNow_405 : decode cX8_minuteNow 405 = .ok (.aload_n 0, 1) := by decide +kernel
theorem dX8_minuteNow_406 : decode cX8_minuteNow 406 = .ok (.getfield 40, 3) := by decide +kernel
theorem dX8_minuteNow_409 : decode cX8_minuteNow 409 = .ok (.iconst 3, 1) := by decide +kernel
theorem dX8_minuteNow_410 : decode cX8_minuteNow 410 = .ok (.iaload, 1) := by decide +kernel
theorem dX8_minuteNow_411 : decode cX8_minuteNow 411 = .ok (.if_icmp .ge 43, 3) := by decide +kernel
theorem dX8_minuteNow_414 : decode cX8_minuteNow 414 = .ok (.aload_n 0, 1) := by decide +kernel
theorem dX8_minuteNow_415 : decode cX8_minuteNow 415 = .ok (.iload_n 3, 1) := by decide +kernel
theorem dX8_minuteNow_416 : decode cX8_minuteNow 416 = .ok (.invokevirtual 404, 3) := by decide +kernel
theorem dX8_minuteNow_419 : decode cX8_minuteNow 419 = .ok (.ifCond .eq 15, 3) := by decide +kernel
theorem dX8_minuteNow_422 : decode cX8_minuteNow 422 = .ok (.aload_n 0, 1) := by decide +kernel
theorem dX8_minuteNow_423 : decode cX8_minuteNow 423 = .ok (.aload_n 0, 1) := by decide +kernel
theorem dX8_minuteNow_424 : decode cX8_minuteNow 424 = .ok (.iload_n 3, 1) := by decide +kernel
theorem dX8_minuteNow_425 : decode cX8_minuteNow 425 = .ok (.invokevirtual 407, 3) := by decide +kernel
theorem dX8_minuteNow_428 : decode cX8_minuteNow 428 = .ok (.invokevirtual 434, 3) := by decide +kernel
theorem dX8_minuteNow_431 : decode cX8_minuteNow 431 = .ok (.ifCond .ne 17, 3) := by decide +kernel
theorem dX8_minuteNow_434 : decode cX8_minuteNow 434 = .ok (.aload_n 0, 1) := by decide +kernel
theorem dX8_minuteNow_435 : decode cX8_minuteNow 435 = .ok (.dup, 1) := by decide +kernel
theorem dX8_minuteNow_436 : decode cX8_minuteNow 436 = .ok (.getfield 386, 3) := by decide +kernel
theorem dX8_minuteNow_439 : decode cX8_minuteNow 439 = .ok (.iconst 1, 1) := by decide +kernel
theorem dX8_minuteNow_440 : decode cX8_minuteNow 440 = .ok (.iload_n 3, 1) := by decide +kernel
theorem dX8_minuteNow_441 : decode cX8_minuteNow 441 = .ok (.ishl, 1) := by decide +kernel
theorem dX8_minuteNow_442 : decode cX8_minuteNow 442 = .ok (.iconst (-1), 1) := by decide +kernel
theorem dX8_minuteNow_443 : decode cX8_minuteNow 443 = .ok (.ixor, 1) := by decide +kernel
theorem dX8_minuteNow_444 : decode cX8_minuteNow 444 = .ok (.iand, 1) := by decide +kernel
theorem dX8_minuteNow_445 : decode cX8_minuteNow 445 = .ok (.putfield 386, 3) := by decide +kernel
theorem dX8_minuteNow_448 : decode cX8_minuteNow 448 = .ok (.iinc 3 1, 3) := by decide +kernel
theorem dX8_minuteNow_451 : decode cX8_minuteNow 451 = .ok (.goto (-47), 3) := by decide +kernel
theorem dX8_minuteNow_454 : decode cX8_minuteNow 454 = .ok (.return_, 1) := by decide +kernel
theorem dX8_go_0 : decode cX8_go 0 = .ok (.aload_n 0, 1) := by decide +kernel
theorem dX8_go_1 : decode cX8_go 1 = .ok (.aload_n 0, 1) := by decide +kernel
theorem dX8_go_2 : decode cX8_go 2 = .ok (.getfield 364, 3) := by decide +kernel
theorem dX8_go_5 : decode cX8_go 5 = .ok (.ifCond .eq 12, 3) := by decide +kernel
theorem dX8_go_8 : decode cX8_go 8 = .ok (.aload_n 0, 1) := by decide +kernel
theorem dX8_go_9 : decode cX8_go 9 = .ok (.getfield 40, 3) := by decide +kernel
theorem dX8_go_12 : decode cX8_go 12 = .ok (.iconst 0, 1) := by decide +kernel
theorem dX8_go_13 : decode cX8_go 13 = .ok (.iaload, 1) := by decide +kernel
theorem dX8_go_14 : decode cX8_go 14 = .ok (.ifCond .ne 7, 3) := by decide +kernel
theorem dX8_go_17 : decode cX8_go 17 = .ok (.iconst (-1), 1) := by decide +kernel
theorem dX8_go_18 : decode cX8_go 18 = .ok (.goto 19, 3) := by decide +kernel
theorem dX8_go_21 : decode cX8_go 21 = .ok (.aload_n 0, 1) := by decide +kernel
theorem dX8_go_22 : decode cX8_go 22 = .ok (.getfield 364, 3) := by decide +kernel
theorem dX8_go_25 : decode cX8_go 25 = .ok (.iconst 3, 1) := by decide +kernel
theorem dX8_go_26 : decode cX8_go 26 = .ok (.if_icmp .ne 10, 3) := by decide +kernel
theorem dX8_go_29 : decode cX8_go 29 = .ok (.aload_n 0, 1) := by decide +kernel
theorem dX8_go_30 : decode cX8_go 30 = .ok (.getfield 367, 3) := by decide +kernel
theorem dX8_go_33 : decode cX8_go 33 = .ok (.goto 4, 3) := by decide +kernel
theorem dX8_go_36 : decode cX8_go 36 = .ok (.iconst 0, 1) := by decide +kernel
theorem dX8_go_37 : decode cX8_go 37 = .ok (.putfield 378, 3) := by decide +kernel
theorem dX8_go_40 : decode cX8_go 40 = .ok (.aload_n 0, 1) := by decide +kernel
theorem dX8_go_41 : decode cX8_go 41 = .ok (.iconst 0, 1) := by decide +kernel
theorem dX8_go_42 : decode cX8_go 42 = .ok (.putfield 381, 3) := by decide +kernel
theorem dX8_go_45 : decode cX8_go 45 = .ok (.aload_n 0, 1) := by decide +kernel
theorem dX8_go_46 : decode cX8_go 46 = .ok (.iconst 0, 1) := by decide +kernel
theorem dX8_go_47 : decode cX8_go 47 = .ok (.putfield 386, 3) := by decide +kernel
theorem dX8_go_50 : decode cX8_go 50 = .ok (.aload_n 0, 1) := by decide +kernel
theorem dX8_go_51 : decode cX8_go 51 = .ok (.iconst 0, 1) := by decide +kernel
theorem dX8_go_52 : decode cX8_go 52 = .ok (.putfield 428, 3) := by decide +kernel
theorem dX8_go_55 : decode cX8_go 55 = .ok (.aload_n 0, 1) := by decide +kernel
theorem dX8_go_56 : decode cX8_go 56 = .ok (.iconst 0, 1) := by decide +kernel
theorem dX8_go_57 : decode cX8_go 57 = .ok (.putfield 395, 3) := by decide +kernel
theorem dX8_go_60 : decode cX8_go 60 = .ok (.aload_n 0, 1) := by decide +kernel
theorem dX8_go_61 : decode cX8_go 61 = .ok (.iconst 0, 1) := by decide +kernel
theorem dX8_go_62 : decode cX8_go 62 = .ok (.putfield 398, 3) := by decide +kernel
theorem dX8_go_65 : decode cX8_go 65 = .ok (.aload_n 0, 1) := by decide +kernel
theorem dX8_go_66 : decode cX8_go 66 = .ok (.iconst 0, 1) := by decide +kernel
theorem dX8_go_67 : decode cX8_go 67 = .ok (.putfield 401, 3) := by decide +kernel
theorem dX8_go_70 : decode cX8_go 70 = .ok (.aload_n 0, 1) := by decide +kernel
theorem dX8_go_71 : decode cX8_go 71 = .ok (.iconst 0, 1) := by decide +kernel
theorem dX8_go_72 : decode cX8_go 72 = .ok (.putfield 392, 3) := by decide +kernel
theorem dX8_go_75 : decode cX8_go 75 = .ok (.aload_n 0, 1) := by decide +kernel
theorem dX8_go_76 : decode cX8_go 76 = .ok (.iconst 0, 1) := by decide +kernel
theorem dX8_go_77 : decode cX8_go 77 = .ok (.putfield 389, 3) := by decide +kernel
theorem dX8_go_80 : decode cX8_go 80 = .ok (.iconst 0, 1) := by decide +kernel
theorem dX8_go_81 : decode cX8_go 81 = .ok (.istore_n 2, 1) := by decide +kernel
theorem dX8_go_82 : decode cX8_go 82 = .ok (.iload_n 2, 1) := by decide +kernel
theorem dX8_go_83 : decode cX8_go 83 = .ok (.bipush 8, 2) := by decide +kernel
theorem dX8_go_85 : decode cX8_go 85 = .ok (.if_icmp .ge 30, 3) := by decide +kernel
theorem dX8_go_88 : decode cX8_go 88 = .ok (.aload_n 0, 1) := by decide +kernel
theorem dX8_go_89 : decode cX8_go 89 = .ok (.getfield 108, 3) := by decide +kernel
theorem dX8_go_92 : decode cX8_go 92 = .ok (.iload_n 2, 1) := by decide +kernel
theorem dX8_go_93 : decode cX8_go 93 = .ok (.iconst (-1), 1) := by decide +kernel
theorem dX8_go_94 : decode cX8_go 94 = .ok (.iastore, 1) := by decide +kernel
theorem dX8_go_95 : decode cX8_go 95 = .ok (.aload_n 0, 1) := by decide +kernel
theorem dX8_go_96 : decode cX8_go 96 = .ok (.getfield 111, 3) := by decide +kernel
theorem dX8_go_99 : decode cX8_go 99 = .ok (.iload_n 2, 1) := by decide +kernel
theorem dX8_go_100 : decode cX8_go 100 = .ok (.iconst (-1), 1) := by decide +kernel
theorem dX8_go_101 : decode cX8_go 101 = .ok (.iastore, 1) := by decide +kernel
theorem dX8_go_102 : decode cX8_go 102 = .ok (.aload_n 0, 1) := by decide +kernel
theorem dX8_go_103 : decode cX8_go 103 = .ok (.getfield 114, 3) := by decide +kernel
theorem dX8_go_106 : decode cX8_go 106 = .ok (.iload_n 2, 1) := by decide +kernel
theorem dX8_go_107 : decode cX8_go 107 = .ok (.iconst 0, 1) := by decide +kernel
theorem dX8_go_108 : decode cX8_go 108 = .ok (.iastore, 1) := by decide +kernel
theorem dX8_go_109 : decode cX8_go 109 = .ok (.iinc 2 1, 3) := by decide +kernel
theorem dX8_go_112 : decode cX8_go 112 = .ok (.goto (-30), 3) := by decide +kernel
theorem dX8_go_115 : decode cX8_go 115 = .ok (.iconst 1, 1) := by decide +kernel
theorem dX8_go_116 : decode cX8_go 116 = .ok (.istore_n 2, 1) := by decide +kernel
theorem dX8_go_117 : decode cX8_go 117 = .ok (.iload_n 2, 1) := by decide +kernel
theorem dX8_go_118 : decode cX8_go 118 = .ok (.iload_n 1, 1) := by decide +kernel
theorem dX8_go_119 : decode cX8_go 119 = .ok (.if_icmp .gt 14, 3) := by decide +kernel
theorem dX8_go_122 : decode cX8_go 122 = .ok (.aload_n 0, 1) := by decide +kernel
theorem dX8_go_123 : decode cX8_go 123 = .ok (.iload_n 2, 1) := by decide +kernel
theorem dX8_go_124 : decode cX8_go 124 = .ok (.invokevirtual 437, 3) := by decide +kernel
theorem dX8_go_127 : decode cX8_go 127 = .ok (.iinc 2 1, 3) := by decide +kernel
theorem dX8_go_130 : decode cX8_go 130 = .ok (.goto (-13), 3) := by decide +kernel
theorem dX8_go_133 : decode cX8_go 133 = .ok (.return_, 1) := by decide +kernel
theorem dX8_dayNow_0 : decode cX8_dayNow 0 = .ok (.aload_n 0, 1) := by decide +kernel
theorem dX8_dayNow_1 : decode cX8_dayNow 1 = .ok (.bipush 60, 2) := by decide +kernel
theorem dX8_dayNow_3 : decode cX8_dayNow 3 = .ok (.invokevirtual 440, 3) := by decide +kernel
theorem dX8_dayNow_6 : decode cX8_dayNow 6 = .ok (.iconst 0, 1) := by decide +kernel
theorem dX8_dayNow_7 : decode cX8_dayNow 7 = .ok (.istore_n 1, 1) := by decide +kernel
theorem dX8_dayNow_8 : decode cX8_dayNow 8 = .ok (.iload_n 1, 1) := by decide +kernel
theorem dX8_dayNow_9 : decode cX8_dayNow 9 = .ok (.aload_n 0, 1) := by decide +kernel
theorem dX8_dayNow_10 : decode cX8_dayNow 10 = .ok (.getfield 40, 3) := by decide +kernel
theorem dX8_dayNow_13 : decode cX8_dayNow 13 = .ok (.iconst 3, 1) := by decide +kernel
theorem dX8_dayNow_14 : decode cX8_dayNow 14 = .ok (.iaload, 1) := by decide +kernel
theorem dX8_dayNow_15 : decode cX8_dayNow 15 = .ok (.if_icmp .ge 49, 3) := by decide +kernel
theorem dX8_dayNow_18 : decode cX8_dayNow 18 = .ok (.aload_n 0, 1) := by decide +kernel
theorem dX8_dayNow_19 : decode cX8_dayNow 19 = .ok (.getfield 111, 3) := by decide +kernel
theorem dX8_dayNow_22 : decode cX8_dayNow 22 = .ok (.iload_n 1, 1) := by decide +kernel
theorem dX8_dayNow_23 : decode cX8_dayNow 23 = .ok (.iaload, 1) := by decide +kernel
theorem dX8_dayNow_24 : decode cX8_dayNow 24 = .ok (.iconst (-1), 1) := by decide +kernel
theorem dX8_dayNow_25 : decode cX8_dayNow 25 = .ok (.if_icmp .ne 6, 3) := by decide +kernel
theorem dX8_dayNow_28 : decode cX8_dayNow 28 = .ok (.goto 30, 3) := by decide +kernel
theorem dX8_dayNow_31 : decode cX8_dayNow 31 = .ok (.aload_n 0, 1) := by decide +kernel
theorem dX8_dayNow_32 : decode cX8_dayNow 32 = .ok (.getfield 55, 3) := by decide +kernel
theorem dX8_dayNow_35 : decode cX8_dayNow 35 = .ok (.iload_n 1, 1) := by decide +kernel
theorem dX8_dayNow_36 : decode cX8_dayNow 36 = .ok (.iaload, 1) := by decide +kernel
theorem dX8_dayNow_37 : decode cX8_dayNow 37 = .ok (.ifCond .ne 16, 3) := by decide +kernel
theorem dX8_dayNow_40 : decode cX8_dayNow 40 = .ok (.aload_n 0, 1) := by decide +kernel
theorem dX8_dayNow_41 : decode cX8_dayNow 41 = .ok (.dup, 1) := by decide +kernel
theorem dX8_dayNow_42 : decode cX8_dayNow 42 = .ok (.getfield 389, 3) := by decide +kernel
theorem dX8_dayNow_45 : decode cX8_dayNow 45 = .ok (.iconst 1, 1) := by decide +kernel
theorem dX8_dayNow_46 : decode cX8_dayNow 46 = .ok (.iadd, 1) := by decide +kernel
theorem dX8_dayNow_47 : decode cX8_dayNow 47 = .ok (.putfield 389, 3) := by decide +kernel
theorem dX8_dayNow_50 : decode cX8_dayNow 50 = .ok (.goto 8, 3) := by decide +kernel
theorem dX8_dayNow_53 : decode cX8_dayNow 53 = .ok (.aload_n 0, 1) := by decide +kernel
theorem dX8_dayNow_54 : decode cX8_dayNow 54 = .ok (.iload_n 1, 1) := by decide +kernel
theorem dX8_dayNow_55 : decode cX8_dayNow 55 = .ok (.invokevirtual 431, 3) := by decide +kernel
theorem dX8_dayNow_58 : decode cX8_dayNow 58 = .ok (.iinc 1 1, 3) := by decide +kernel
theorem dX8_dayNow_61 : decode cX8_dayNow 61 = .ok (.goto (-53), 3) := by decide +kernel
theorem dX8_dayNow_64 : decode cX8_dayNow 64 = .ok (.return_, 1) := by decide +kernel
theorem dX8_costNow_0 : decode cX8_costNow 0 = .ok (.aload_n 0, 1) := by decide +kernel
theorem dX8_costNow_1 : decode cX8_costNow 1 = .ok (.invokevirtual 443, 3) := by decide +kernel
theorem dX8_costNow_4 : decode cX8_costNow 4 = .ok (.aload_n 0, 1) := by decide +kernel
theorem dX8_costNow_5 : decode cX8_costNow 5 = .ok (.getfield 398, 3) := by decide +kernel
theorem dX8_costNow_8 : decode cX8_costNow 8 = .ok (.aload_n 0, 1) := by decide +kernel
theorem dX8_costNow_9 : decode cX8_costNow 9 = .ok (.getfield 40, 3) := by decide +kernel
theorem dX8_costNow_12 : decode cX8_costNow 12 = .ok (.bipush 6, 2) := by decide +kernel
theorem dX8_costNow_14 : decode cX8_costNow 14 = .ok (.iaload, 1) := by decide +kernel
theorem dX8_costNow_15 : decode cX8_costNow 15 = .ok (.aload_n 0, 1) := by decide +kernel
theorem dX8_costNow_16 : decode cX8_costNow 16 = .ok (.getfield 392, 3) := by decide +kernel
theorem dX8_costNow_19 : decode cX8_costNow 19 = .ok (.imul, 1) := by decide +kernel
theorem dX8_costNow_20 : decode cX8_costNow 20 = .ok (.iadd, 1) := by decide +kernel
theorem dX8_costNow_21 : decode cX8_costNow 21 = .ok (.ireturn, 1) := by decide +kernel
theorem dX8_bitsOf_0 : decode cX8_bitsOf 0 = .ok (.iconst 0, 1) := by decide +kernel
theorem dX8_bitsOf_1 : decode cX8_bitsOf 1 = .ok (.istore_n 1, 1) := by decide +kernel
theorem dX8_bitsOf_2 : decode cX8_bitsOf 2 = .ok (.iload_n 0, 1) := by decide +kernel
theorem dX8_bitsOf_3 : decode cX8_bitsOf 3 = .ok (.istore_n 2, 1) := by decide +kernel
theorem dX8_bitsOf_4 : decode cX8_bitsOf 4 = .ok (.iload_n 2, 1) := by decide +kernel
theorem dX8_bitsOf_5 : decode cX8_bitsOf 5 = .ok (.ifCond .eq 15, 3) := by decide +kernel
theorem dX8_bitsOf_8 : decode cX8_bitsOf 8 = .ok (.iinc 1 1, 3) := by decide +kernel
theorem dX8_bitsOf_11 : decode cX8_bitsOf 11 = .ok (.iload_n 2, 1) := by decide +kernel
theorem dX8_bitsOf_12 : decode cX8_bitsOf 12 = .ok (.iload_n 2, 1) := by decide +kernel
theorem dX8_bitsOf_13 : decode cX8_bitsOf 13 = .ok (.iconst 1, 1) := by decide +kernel
theorem dX8_bitsOf_14 : decode cX8_bitsOf 14 = .ok (.isub, 1) := by decide +kernel
theorem dX8_bitsOf_15 : decode cX8_bitsOf 15 = .ok (.iand, 1) := by decide +kernel
theorem dX8_bitsOf_16 : decode cX8_bitsOf 16 = .ok (.istore_n 2, 1) := by decide +kernel
theorem dX8_bitsOf_17 : decode cX8_bitsOf 17 = .ok (.goto (-13), 3) := by decide +kernel
theorem dX8_bitsOf_20 : decode cX8_bitsOf 20 = .ok (.iload_n 1, 1) := by decide +kernel
theorem dX8_bitsOf_21 : decode cX8_bitsOf 21 = .ok (.ireturn, 1) := by decide +kernel
theorem dX8_count_0 : decode cX8_count 0 = .ok (.aload_n 0, 1) := by decide +kernel
theorem dX8_count_1 : decode cX8_count 1 = .ok (.iconst 0, 1) := by decide +kernel
theorem dX8_count_2 : decode cX8_count 2 = .ok (.putfield 159, 3) := by decide +kernel
theorem dX8_count_5 : decode cX8_count 5 = .ok (.iload_n 1, 1) := by decide +kernel
theorem dX8_count_6 : decode cX8_count 6 = .ok (.tableswitch 157 0 18 #[90, 90, 97, 90, 90, 90, 90, 102, 107, 112, 117, 122, 127, 132, 137, 142, 147, 147, 147], 90) := by decide +kernel
theorem dX8_count_96 : decode cX8_count 96 = .ok (.aload_n 0, 1) := by decide +kernel
theorem dX8_count_97 : decode cX8_count 97 = .ok (.getfield 40, 3) := by decide +kernel
theorem dX8_count_100 : decode cX8_count 100 = .ok (.iload_n 1, 1) := by decide +kernel
theorem dX8_count_101 : decode cX8_count 101 = .ok (.iaload, 1) := by decide +kernel
theorem dX8_count_102 : decode cX8_count 102 = .ok (.ireturn, 1) := by decide +kernel
theorem dX8_count_103 : decode cX8_count 103 = .ok (.aload_n 0, 1) := by decide +kernel
theorem dX8_count_104 : decode cX8_count 104 = .ok (.getfield 332, 3) := by decide +kernel
theorem dX8_count_107 : decode cX8_count 107 = .ok (.ireturn, 1) := by decide +kernel
theorem dX8_count_108 : decode cX8_count 108 = .ok (.aload_n 0, 1) := by decide +kernel
theorem dX8_count_109 : decode cX8_count 109 = .ok (.getfield 90, 3) := by decide +kernel
theorem dX8_count_112 : decode cX8_count 112 = .ok (.ireturn, 1) := by decide +kernel
theorem dX8_count_113 : decode cX8_count 113 = .ok (.aload_n 0, 1) := by decide +kernel
theorem dX8_count_114 : decode cX8_count 114 = .ok (.getfield 323, 3) := by decide +kernel
theorem dX8_count_117 : decode cX8_count 117 = .ok (.ireturn, 1) := by decide +kernel
theorem dX8_count_118 : decode cX8_count 118 = .ok (.aload_n 0, 1) := by decide +kernel
theorem dX8_count_119 : decode cX8_count 119 = .ok (.getfield 326, 3) := by decide +kernel
theorem dX8_count_122 : decode cX8_count 122 = .ok (.ireturn, 1) := by decide +kernel
theorem dX8_count_123 : decode cX8_count 123 = .ok (.aload_n 0, 1) := by decide +kernel
theorem dX8_count_124 : decode cX8_count 124 = .ok (.getfield 329, 3) := by decide +kernel
theorem dX8_count_127 : decode cX8_count 127 = .ok (.ireturn, 1) := by decide +kernel
theorem dX8_count_128 : decode cX8_count 128 = .ok (.aload_n 0, 1) := by decide +kernel
theorem dX8_count_129 : decode cX8_count 129 = .ok (.getfield 335, 3) := by decide +kernel
theorem dX8_count_132 : decode cX8_count 132 = .ok (.ireturn, 1) := by decide +kernel
theorem dX8_count_133 : decode cX8_count 133 = .ok (.aload_n 0, 1) := by decide +kernel
theorem dX8_count_134 : decode cX8_count 134 = .ok (.getfield 338, 3) := by decide +kernel
theorem dX8_count_137 : decode cX8_count 137 = .ok (.ireturn, 1) := by decide +kernel
theorem dX8_count_138 : decode cX8_count 138 = .ok (.aload_n 0, 1) := by decide +kernel
theorem dX8_count_139 : decode cX8_count 139 = .ok (.getfield 341, 3) := by decide +kernel
theorem dX8_count_142 : decode cX8_count 142 = .ok (.ireturn, 1) := by decide +kernel
theorem dX8_count_143 : decode cX8_count 143 = .ok (.aload_n 0, 1) := by decide +kernel
theorem dX8_count_144 : decode cX8_count 144 = .ok (.getfield 344, 3) := by decide +kernel
theorem dX8_count_147 : decode cX8_count 147 = .ok (.ireturn, 1) := by decide +kernel
theorem dX8_count_148 : decode cX8_count 148 = .ok (.aload_n 0, 1) := by decide +kernel
theorem dX8_count_149 : decode cX8_count 149 = .ok (.getfield 168, 3) := by decide +kernel
theorem dX8_count_152 : decode cX8_count 152 = .ok (.ireturn, 1) := by decide +kernel
theorem dX8_count_153 : decode cX8_count 153 = .ok (.aload_n 0, 1) := by decide +kernel
theorem dX8_count_154 : decode cX8_count 154 = .ok (.getfield 78, 3) := by decide +kernel
theorem dX8_count_157 : decode cX8_count 157 = .ok (.iload_n 1, 1) := by decide +kernel
theorem dX8_count_158 : decode cX8_count 158 = .ok (.bipush 16, 2) := by decide +kernel
theorem dX8_count_160 : decode cX8_count 160 = .ok (.isub, 1) := by decide +kernel
theorem dX8_count_161 : decode cX8_count 161 = .ok (.iaload, 1) := by decide +kernel
theorem dX8_count_162 : decode cX8_count 162 = .ok (.ireturn, 1) := by decide +kernel
theorem dX8_count_163 : decode cX8_count 163 = .ok (.aload_n 0, 1) := by decide +kernel
theorem dX8_count_164 : decode cX8_count 164 = .ok (.iconst 1, 1) := by decide +kernel
theorem dX8_count_165 : decode cX8_count 165 = .ok (.invokevirtual 310, 3) := by decide +kernel
theorem dX8_count_168 : decode cX8_count 168 = .ok (.ireturn, 1) := by decide +kernel
theorem dX8_aisle_0 : decode cX8_aisle 0 = .ok (.aload_n 0, 1) := by decide +kernel
theorem dX8_aisle_1 : decode cX8_aisle 1 = .ok (.iconst 0, 1) := by decide +kernel
theorem dX8_aisle_2 : decode cX8_aisle 2 = .ok (.putfield 159, 3) := by decide +kernel
theorem dX8_aisle_5 : decode cX8_aisle 5 = .ok (.aload_n 0, 1) := by decide +kernel
theorem dX8_aisle_6 : decode cX8_aisle 6 = .ok (.iload_n 1, 1) := by decide +kernel
theorem dX8_aisle_7 : decode cX8_aisle 7 = .ok (.invokevirtual 357, 3) := by decide +kernel
theorem dX8_aisle_10 : decode cX8_aisle 10 = .ok (.ifCond .eq 15, 3) := by decide +kernel
theorem dX8_aisle_13 : decode cX8_aisle 13 = .ok (.iload_n 2, 1) := by decide +kernel
theorem dX8_aisle_14 : decode cX8_aisle 14 = .ok (.i2l, 1) := by decide +kernel
theorem dX8_aisle_15 : decode cX8_aisle 15 = .ok (.lconst 0, 1) := by decide +kernel
theorem dX8_aisle_16 : decode cX8_aisle 16 = .ok (.ldc2_w 446, 3) := by decide +kernel
theorem dX8_aisle_19 : decode cX8_aisle 19 = .ok (.invokestatic 162, 3) := by decide +kernel
theorem dX8_aisle_22 : decode cX8_aisle 22 = .ok (.ifCond .ne 9, 3) := by decide +kernel
theorem dX8_aisle_25 : decode cX8_aisle 25 = .ok (.aload_n 0, 1) := by decide +kernel
theorem dX8_aisle_26 : decode cX8_aisle 26 = .ok (.iconst 1, 1) := by decide +kernel
theorem dX8_aisle_27 : decode cX8_aisle 27 = .ok (.invokevirtual 310, 3) := by decide +kernel
theorem dX8_aisle_30 : decode cX8_aisle 30 = .ok (.ireturn, 1) := by decide +kernel
theorem dX8_aisle_31 : decode cX8_aisle 31 = .ok (.iload_n 2, 1) := by decide +kernel
theorem dX8_aisle_32 : decode cX8_aisle 32 = .ok (.ifCond .ne 12, 3) := by decide +kernel
theorem dX8_aisle_35 : decode cX8_aisle 35 = .ok (.aload_n 0, 1) := by decide +kernel
theorem dX8_aisle_36 : decode cX8_aisle 36 = .ok (.getfield 44, 3) := by decide +kernel
theorem dX8_aisle_39 : decode cX8_aisle 39 = .ok (.iload_n 1, 1) := by decide +kernel
theorem dX8_aisle_40 : decode cX8_aisle 40 = .ok (.iaload, 1) := by decide +kernel
theorem dX8_aisle_41 : decode cX8_aisle 41 = .ok (.goto 37, 3) := by decide +kernel
theorem dX8_aisle_44 : decode cX8_aisle 44 = .ok (.iload_n 2, 1) := by decide +kernel
theorem dX8_aisle_45 : decode cX8_aisle 45 = .ok (.iconst 1, 1) := by decide +kernel
theorem dX8_aisle_46 : decode cX8_aisle 46 = .ok (.if_icmp .ne 12, 3) := by decide +kernel
theorem dX8_aisle_49 : decode cX8_aisle 49 = .ok (.aload_n 0, 1) := by decide +kernel
theorem dX8_aisle_50 : decode cX8_aisle 50 = .ok (.getfield 46, 3) := by decide +kernel
theorem dX8_aisle_53 : decode cX8_aisle 53 = .ok (.iload_n 1, 1) := by decide +kernel
theorem dX8_aisle_54 : decode cX8_aisle 54 = .ok (.iaload, 1) := by decide +kernel
theorem dX8_aisle_55 : decode cX8_aisle 55 = .ok (.goto 23, 3) := by decide +kernel
theorem dX8_aisle_58 : decode cX8_aisle 58 = .ok (.iload_n 2, 1) := by decide +kernel
theorem dX8_aisle_59 : decode cX8_aisle 59 = .ok (.iconst 2, 1) := by decide +kernel
theorem dX8_aisle_60 : decode cX8_aisle 60 = .ok (.if_icmp .ne 12, 3) := by decide +kernel
theorem dX8_aisle_63 : decode cX8_aisle 63 = .ok (.aload_n 0, 1) := by decide +kernel
theorem dX8_aisle_64 : decode cX8_aisle 64 = .ok (.getfield 49, 3) := by decide +kernel
theorem dX8_aisle_67 : decode cX8_aisle 67 = .ok (.iload_n 1, 1) := by decide +kernel
theorem dX8_aisle_68 : decode cX8_aisle 68 = .ok (.iaload, 1) := by decide +kernel
theorem dX8_aisle_69 : decode cX8_aisle 69 = .ok (.goto 9, 3) := by decide +kernel
theorem dX8_aisle_72 : decode cX8_aisle 72 = .ok (.aload_n 0, 1) := by decide +kernel
theorem dX8_aisle_73 : decode cX8_aisle 73 = .ok (.getfield 52, 3) := by decide +kernel
theorem dX8_aisle_76 : decode cX8_aisle 76 = .ok (.iload_n 1, 1) := by decide +kernel
theorem dX8_aisle_77 : decode cX8_aisle 77 = .ok (.iaload, 1) := by decide +kernel
theorem dX8_aisle_78 : decode cX8_aisle 78 = .ok (.ireturn, 1) := by decide +kernel
theorem dX8_person_0 : decode cX8_person 0 = .ok (.aload_n 0, 1) := by decide +kernel
theorem dX8_person_1 : decode cX8_person 1 = .ok (.iconst 0, 1) := by decide +kernel
theorem dX8_person_2 : decode cX8_person 2 = .ok (.putfield 159, 3) := by decide +kernel
theorem dX8_person_5 : decode cX8_person 5 = .ok (.aload_n 0, 1) := by decide +kernel
theorem dX8_person_6 : decode cX8_person 6 = .ok (.iload_n 1, 1) := by decide +kernel
theorem dX8_person_7 : decode cX8_person 7 = .ok (.invokevirtual 448, 3) := by decide +kernel
theorem dX8_person_10 : decode cX8_person 10 = .ok (.ifCond .eq 15, 3) := by decide +kernel
theorem dX8_person_13 : decode cX8_person 13 = .ok (.iload_n 2, 1) := by decide +kernel
theorem dX8_person_14 : decode cX8_person 14 = .ok (.i2l, 1) := by decide +kernel
theorem dX8_person_15 : decode cX8_person 15 = .ok (.lconst 0, 1) := by decide +kernel
theorem dX8_person_16 : decode cX8_person 16 = .ok (.ldc2_w 451, 3) := by decide +kernel
theorem dX8_person_19 : decode cX8_person 19 = .ok (.invokestatic 162, 3) := by decide +kernel
theorem dX8_person_22 : decode cX8_person 22 = .ok (.ifCond .ne 9, 3) := by decide +kernel
theorem dX8_person_25 : decode cX8_person 25 = .ok (.aload_n 0, 1) := by decide +kernel
theorem dX8_person_26 : decode cX8_person 26 = .ok (.iconst 1, 1) := by decide +kernel
theorem dX8_person_27 : decode cX8_person 27 = .ok (.invokevirtual 310, 3) := by decide +kernel
theorem dX8_person_30 : decode cX8_person 30 = .ok (.ireturn, 1) := by decide +kernel
theorem dX8_person_31 : decode cX8_person 31 = .ok (.iload_n 2, 1) := by decide +kernel
theorem dX8_person_32 : decode cX8_person 32 = .ok (.ifCond .ne 12, 3) := by decide +kernel
theorem dX8_person_35 : decode cX8_person 35 = .ok (.aload_n 0, 1) := by decide +kernel
theorem dX8_person_36 : decode cX8_person 36 = .ok (.getfield 55, 3) := by decide +kernel
theorem dX8_person_39 : decode cX8_person 39 = .ok (.iload_n 1, 1) := by decide +kernel
theorem dX8_person_40 : decode cX8_person 40 = .ok (.iaload, 1) := by decide +kernel
theorem dX8_person_41 : decode cX8_person 41 = .ok (.goto 51, 3) := by decide +kernel
theorem dX8_person_44 : decode cX8_person 44 = .ok (.iload_n 2, 1) := by decide +kernel
theorem dX8_person_45 : decode cX8_person 45 = .ok (.iconst 1, 1) := by decide +kernel
theorem dX8_person_46 : decode cX8_person 46 = .ok (.if_icmp .ne 12, 3) := by decide +kernel
theorem dX8_person_49 : decode cX8_person 49 = .ok (.aload_n 0, 1) := by decide +kernel
theorem dX8_person_50 : decode cX8_person 50 = .ok (.getfield 58, 3) := by decide +kernel
theorem dX8_person_53 : decode cX8_person 53 = .ok (.iload_n 1, 1) := by decide +kernel
theorem dX8_person_54 : decode cX8_person 54 = .ok (.iaload, 1) := by decide +kernel
theorem dX8_person_55 : decode cX8_person 55 = .ok (.goto 37, 3) := by decide +kernel
theorem dX8_person_58 : decode cX8_person 58 = .ok (.iload_n 2, 1) := by decide +kernel
theorem dX8_person_59 : decode cX8_person 59 = .ok (.iconst 2, 1) := by decide +kernel
theorem dX8_person_60 : decode cX8_person 60 = .ok (.if_icmp .ne 12, 3) := by decide +kernel
theorem dX8_person_63 : decode cX8_person 63 = .ok (.aload_n 0, 1) := by decide +kernel
theorem dX8_person_64 : decode cX8_person 64 = .ok (.getfield 61, 3) := by decide +kernel
theorem dX8_person_67 : decode cX8_person 67 = .ok (.iload_n 1, 1) := by decide +kernel
theorem dX8_person_68 : decode cX8_person 68 = .ok (.iaload, 1) := by decide +kernel
theorem dX8_person_69 : decode cX8_person 69 = .ok (.goto 23, 3) := by decide +kernel
theorem dX8_person_72 : decode cX8_person 72 = .ok (.iload_n 2, 1) := by decide +kernel
theorem dX8_person_73 : decode cX8_person 73 = .ok (.iconst 3, 1) := by decide +kernel
theorem dX8_person_74 : decode cX8_person 74 = .ok (.if_icmp .ne 12, 3) := by decide +kernel
theorem dX8_person_77 : decode cX8_person 77 = .ok (.aload_n 0, 1) := by decide +kernel
theorem dX8_person_78 : decode cX8_person 78 = .ok (.getfield 64, 3) := by decide +kernel
theorem dX8_person_81 : decode cX8_person 81 = .ok (.iload_n 1, 1) := by decide +kernel
theorem dX8_person_82 : decode cX8_person 82 = .ok (.iaload, 1) := by decide +kernel
theorem dX8_person_83 : decode cX8_person 83 = .ok (.goto 9, 3) := by decide +kernel
theorem dX8_person_86 : decode cX8_person 86 = .ok (.aload_n 0, 1) := by decide +kernel
theorem dX8_person_87 : decode cX8_person 87 = .ok (.getfield 66, 3) := by decide +kernel
theorem dX8_person_90 : decode cX8_person 90 = .ok (.iload_n 1, 1) := by decide +kernel
theorem dX8_person_91 : decode cX8_person 91 = .ok (.iaload, 1) := by decide +kernel
theorem dX8_person_92 : decode cX8_person 92 = .ok (.ireturn, 1) := by decide +kernel
theorem dX8_route_0 : decode cX8_route 0 = .ok (.aload_n 0, 1) := by decide +kernel
theorem dX8_route_1 : decode cX8_route 1 = .ok (.iconst 0, 1) := by decide +kernel
theorem dX8_route_2 : decode cX8_route 2 = .ok (.putfield 159, 3) := by decide +kernel
theorem dX8_route_5 : decode cX8_route 5 = .ok (.aload_n 0, 1) := by decide +kernel
theorem dX8_route_6 : decode cX8_route 6 = .ok (.iload_n 1, 1) := by decide +kernel
theorem dX8_route_7 : decode cX8_route 7 = .ok (.invokevirtual 448, 3) := by decide +kernel
theorem dX8_route_10 : decode cX8_route 10 = .ok (.ifCond .eq 35, 3) := by decide +kernel
theorem dX8_route_13 : decode cX8_route 13 = .ok (.iload_n 2, 1) := by decide +kernel
theorem dX8_route_14 : decode cX8_route 14 = .ok (.i2l, 1) := by decide +kernel
theorem dX8_route_15 : decode cX8_route 15 = .ok (.lconst 0, 1) := by decide +kernel
theorem dX8_route_16 : decode cX8_route 16 = .ok (.aload_n 0, 1) := by decide +kernel
theorem dX8_route_17 : decode cX8_route 17 = .ok (.getfield 66, 3) := by decide +kernel
theorem dX8_route_20 : decode cX8_route 20 = .ok (.iload_n 1, 1) := by decide +kernel
theorem dX8_route_21 : decode cX8_route 21 = .ok (.iaload, 1) := by decide +kernel
theorem dX8_route_22 : decode cX8_route 22 = .ok (.iconst 1, 1) := by decide +kernel
theorem dX8_route_23 : decode cX8_route 23 = .ok (.isub, 1) := by decide +kernel
theorem dX8_route_24 : decode cX8_route 24 = .ok (.i2l, 1) := by decide +kernel
theorem dX8_route_25 : decode cX8_route 25 = .ok (.invokestatic 162, 3) := by decide +kernel
theorem dX8_route_28 : decode cX8_route 28 = .ok (.ifCond .eq 17, 3) := by decide +kernel
theorem dX8_route_31 : decode cX8_route 31 = .ok (.aload_n 0, 1) := by decide +kernel
theorem dX8_route_32 : decode cX8_route 32 = .ok (.getfield 69, 3) := by decide +kernel
theorem dX8_route_35 : decode cX8_route 35 = .ok (.bipush 12, 2) := by decide +kernel
theorem dX8_route_37 : decode cX8_route 37 = .ok (.iload_n 1, 1) := by decide +kernel
theorem dX8_route_38 : decode cX8_route 38 = .ok (.imul, 1) := by decide +kernel
theorem dX8_route_39 : decode cX8_route 39 = .ok (.iload_n 2, 1) := by decide +kernel
theorem dX8_route_40 : decode cX8_route 40 = .ok (.iadd, 1) := by decide +kernel
theorem dX8_route_41 : decode cX8_route 41 = .ok (.iaload, 1) := by decide +kernel
theorem dX8_route_42 : decode cX8_route 42 = .ok (.goto 8, 3) := by decide +kernel
theorem dX8_route_45 : decode cX8_route 45 = .ok (.aload_n 0, 1) := by decide +kernel
theorem dX8_route_46 : decode cX8_route 46 = .ok (.iconst 1, 1) := by decide +kernel
theorem dX8_route_47 : decode cX8_route 47 = .ok (.invokevirtual 310, 3) := by decide +kernel
theorem dX8_route_50 : decode cX8_route 50 = .ok (.ireturn, 1) := by decide +kernel
theorem dX8_refuse_0 : decode cX8_refuse 0 = .ok (.aload_n 0, 1) := by decide +kernel
theorem dX8_refuse_1 : decode cX8_refuse 1 = .ok (.getfield 78, 3) := by decide +kernel
theorem dX8_refuse_4 : decode cX8_refuse 4 = .ok (.iload_n 1, 1) := by decide +kernel
theorem dX8_refuse_5 : decode cX8_refuse 5 = .ok (.dup2, 1) := by decide +kernel
theorem dX8_refuse_6 : decode cX8_refuse 6 = .ok (.iaload, 1) := by decide +kernel
theorem dX8_refuse_7 : decode cX8_refuse 7 = .ok (.iconst 1, 1) := by decide +kernel
theorem dX8_refuse_8 : decode cX8_refuse 8 = .ok (.iadd, 1) := by decide +kernel
theorem dX8_refuse_9 : decode cX8_refuse 9 = .ok (.iastore, 1) := by decide +kernel
theorem dX8_refuse_10 : decode cX8_refuse 10 = .ok (.iconst (-1), 1) := by decide +kernel
theorem dX8_refuse_11 : decode cX8_refuse 11 = .ok (.ireturn, 1) := by decide +kernel
theorem dX8_keep_0 : decode cX8_keep 0 = .ok (.aload_n 0, 1) := by decide +kernel
theorem dX8_keep_1 : decode cX8_keep 1 = .ok (.getfield 338, 3) := by decide +kernel
theorem dX8_keep_4 : decode cX8_keep 4 = .ok (.bipush 40, 2) := by decide +kernel
theorem dX8_keep_6 : decode cX8_keep 6 = .ok (.if_icmp .ne 46, 3) := by decide +kernel
theorem dX8_keep_9 : decode cX8_keep 9 = .ok (.bipush 26, 2) := by decide +kernel
theorem dX8_keep_11 : decode cX8_keep 11 = .ok (.istore_n 1, 1) := by decide +kernel
theorem dX8_keep_12 : decode cX8_keep 12 = .ok (.iload_n 1, 1) := by decide +kernel
theorem dX8_keep_13 : decode cX8_keep 13 = .ok (.aload_n 0, 1) := by decide +kernel
theorem dX8_keep_14 : decode cX8_keep 14 = .ok (.getfield 93, 3) := by decide +kernel
theorem dX8_keep_17 : decode cX8_keep 17 = .ok (.arraylength, 1) := by decide +kernel
theorem dX8_keep_18 : decode cX8_keep 18 = .ok (.if_icmp .ge 24, 3) := by decide +kernel
theorem dX8_keep_21 : decode cX8_keep 21 = .ok (.aload_n 0, 1) := by decide +kernel
theorem dX8_keep_22 : decode cX8_keep 22 = .ok (.getfield 93, 3) := by decide +kernel
theorem dX8_keep_25 : decode cX8_keep 25 = .ok (.iload_n 1, 1) := by decide +kernel
theorem dX8_keep_26 : decode cX8_keep 26 = .ok (.bipush 26, 2) := by decide +kernel
theorem dX8_keep_28 : decode cX8_keep 28 = .ok (.isub, 1) := by decide +kernel
theorem dX8_keep_29 : decode cX8_keep 29 = .ok (.aload_n 0, 1) := by decide +kernel
theorem dX8_keep_30 : decode cX8_keep 30 = .ok (.getfield 93, 3) := by decide +kernel
theorem dX8_keep_33 : decode cX8_keep 33 = .ok (.iload_n 1, 1) := by decide +kernel
theorem dX8_keep_34 : decode cX8_keep 34 = .ok (.iaload, 1) := by decide +kernel
theorem dX8_keep_35 : decode cX8_keep 35 = .ok (.iastore, 1) := by decide +kernel
theorem dX8_keep_36 : decode cX8_keep 36 = .ok (.iinc 1 1, 3) := by decide +kernel
theorem dX8_keep_39 : decode cX8_keep 39 = .ok (.goto (-27), 3) := by decide +kernel
theorem dX8_keep_42 : decode cX8_keep 42 = .ok (.aload_n 0, 1) := by decide +kernel
theorem dX8_keep_43 : decode cX8_keep 43 = .ok (.dup, 1) := by decide +kernel
theorem dX8_keep_44 : decode cX8_keep 44 = .ok (.getfield 338, 3) := by decide +kernel
theorem dX8_keep_47 : decode cX8_keep 47 = .ok (.iconst 1, 1) := by decide +kernel
theorem dX8_keep_48 : decode cX8_keep 48 = .ok (.isub, 1) := by decide +kernel
theorem dX8_keep_49 : decode cX8_keep 49 = .ok (.putfield 338, 3) := by decide +kernel
theorem dX8_keep_52 : decode cX8_keep 52 = .ok (.aload_n 0, 1) := by decide +kernel
theorem dX8_keep_53 : decode cX8_keep 53 = .ok (.aload_n 0, 1) := by decide +kernel
theorem dX8_keep_54 : decode cX8_keep 54 = .ok (.getfield 93, 3) := by decide +kernel
theorem dX8_keep_57 : decode cX8_keep 57 = .ok (.bipush 26, 2) := by decide +kernel
theorem dX8_keep_59 : decode cX8_keep 59 = .ok (.aload_n 0, 1) := by decide +kernel
theorem dX8_keep_60 : decode cX8_keep 60 = .ok (.getfield 338, 3) := by decide +kernel
theorem dX8_keep_63 : decode cX8_keep 63 = .ok (.imul, 1) := by decide +kernel
theorem dX8_keep_64 : decode cX8_keep 64 = .ok (.invokevirtual 453, 3) := by decide +kernel
theorem dX8_keep_67 : decode cX8_keep 67 = .ok (.aload_n 0, 1) := by decide +kernel
theorem dX8_keep_68 : decode cX8_keep 68 = .ok (.dup, 1) := by decide +kernel
theorem dX8_keep_69 : decode cX8_keep 69 = .ok (.getfield 338, 3) := by decide +kernel
theorem dX8_keep_72 : decode cX8_keep 72 = .ok (.iconst 1, 1) := by decide +kernel
theorem dX8_keep_73 : decode cX8_keep 73 = .ok (.iadd, 1) := by decide +kernel
theorem dX8_keep_74 : decode cX8_keep 74 = .ok (.putfield 338, 3) := by decide +kernel
theorem dX8_keep_77 : decode cX8_keep 77 = .ok (.return_, 1) := by decide +kernel
theorem dX8_watch_0 : decode cX8_watch 0 = .ok (.aload_n 0, 1) := by decide +kernel
theorem dX8_watch_1 : decode cX8_watch 1 = .ok (.iconst 0, 1) := by decide +kernel
theorem dX8_watch_2 : decode cX8_watch 2 = .ok (.putfield 159, 3) := by decide +kernel
theorem dX8_watch_5 : decode cX8_watch 5 = .ok (.iload_n 1, 1) := by decide +kernel
theorem dX8_watch_6 : decode cX8_watch 6 = .ok (.ifCond .eq 52, 3) := by decide +kernel
theorem dX8_watch_9 : decode cX8_watch 9 = .ok (.iload_n 1, 1) := by decide +kernel
theorem dX8_watch_10 : decode cX8_watch 10 = .ok (.iconst 1, 1) := by decide +kernel
theorem dX8_watch_11 : decode cX8_watch 11 = .ok (.if_icmp .ne 21, 3) := by decide +kernel
theorem dX8_watch_14 : decode cX8_watch 14 = .ok (.iload_n 2, 1) := by decide +kernel
theorem dX8_watch_15 : decode cX8_watch 15 = .ok (.i2l, 1) := by decide +kernel
theorem dX8_watch_16 : decode cX8_watch 16 = .ok (.lconst 0, 1) := by decide +kernel
theorem dX8_watch_17 : decode cX8_watch 17 = .ok (.aload_n 0, 1) := by decide +kernel
theorem dX8_watch_18 : decode cX8_watch 18 = .ok (.getfield 40, 3) := by decide +kernel
theorem dX8_watch_21 : decode cX8_watch 21 = .ok (.iconst 4, 1) := by decide +kernel
theorem dX8_watch_22 : decode cX8_watch 22 = .ok (.iaload, 1) := by decide +kernel
theorem dX8_watch_23 : decode cX8_watch 23 = .ok (.iconst 1, 1) := by decide +kernel
theorem dX8_watch_24 : decode cX8_watch 24 = .ok (.isub, 1) := by decide +kernel
theorem dX8_watch_25 : decode cX8_watch 25 = .ok (.i2l, 1) := by decide +kernel
theorem dX8_watch_26 : decode cX8_watch 26 = .ok (.invokestatic 162, 3) := by decide +kernel
theorem dX8_watch_29 : decode cX8_watch 29 = .ok (.ifCond .ne 29, 3) := by decide +kernel
theorem dX8_watch_32 : decode cX8_watch 32 = .ok (.iload_n 1, 1) := by decide +kernel
theorem dX8_watch_33 : decode cX8_watch 33 = .ok (.iconst 2, 1) := by decide +kernel
theorem dX8_watch_34 : decode cX8_watch 34 = .ok (.if_icmp .ne 11, 3) := by decide +kernel
theorem dX8_watch_37 : decode cX8_watch 37 = .ok (.aload_n 0, 1) := by decide +kernel
theorem dX8_watch_38 : decode cX8_watch 38 = .ok (.iload_n 2, 1) := by decide +kernel
theorem dX8_watch_39 : decode cX8_watch 39 = .ok (.invokevirtual 448, 3) := by decide +kernel
theorem dX8_watch_42 : decode cX8_watch 42 = .ok (.ifCond .ne 16, 3) := by decide +kernel
theorem dX8_watch_45 : decode cX8_watch 45 = .ok (.iload_n 1, 1) := by decide +kernel
theorem dX8_watch_46 : decode cX8_watch 46 = .ok (.iconst 3, 1) := by decide +kernel
theorem dX8_watch_47 : decode cX8_watch 47 = .ok (.if_icmp .ne 15, 3) := by decide +kernel
theorem dX8_watch_50 : decode cX8_watch 50 = .ok (.aload_n 0, 1) := by decide +kernel
theorem dX8_watch_51 : decode cX8_watch 51 = .ok (.iload_n 2, 1) := by decide +kernel
theorem dX8_watch_52 : decode cX8_watch 52 = .ok (.invokevirtual 357, 3) := by decide +kernel
theorem dX8_watch_55 : decode cX8_watch 55 = .ok (.ifCond .eq 7, 3) := by decide +kernel
theorem dX8_watch_58 : decode cX8_watch 58 = .ok (.iconst 1, 1) := by decide +kernel
theorem dX8_watch_59 : decode cX8_watch 59 = .ok (.goto 4, 3) := by decide +kernel
theorem dX8_watch_62 : decode cX8_watch 62 = .ok (.iconst 0, 1) := by decide +kernel
theorem dX8_watch_63 : decode cX8_watch 63 = .ok (.istore_n 3, 1) := by decide +kernel
theorem dX8_watch_64 : decode cX8_watch 64 = .ok (.iload_n 3, 1) := by decide +kernel
theorem dX8_watch_65 : decode cX8_watch 65 = .ok (.ifCond .ne 15, 3) := by decide +kernel
theorem dX8_watch_68 : decode cX8_watch 68 = .ok (.aload_n 0, 1) := by decide +kernel
theorem dX8_watch_69 : decode cX8_watch 69 = .ok (.getfield 78, 3) := by decide +kernel
theorem dX8_watch_72 : decode cX8_watch 72 = .ok (.iconst 1, 1) := by decide +kernel
theorem dX8_watch_73 : decode cX8_watch 73 = .ok (.dup2, 1) := by decide +kernel
theorem dX8_watch_74 : decode cX8_watch 74 = .ok (.iaload, 1) := by decide +kernel
theorem dX8_watch_75 : decode cX8_watch 75 = .ok (.iconst 1, 1) := by decide +kernel
theorem dX8_watch_76 : decode cX8_watch 76 = .ok (.iadd, 1) := by decide +kernel
theorem dX8_watch_77 : decode cX8_watch 77 = .ok (.iastore, 1) := by decide +kernel
theorem dX8_watch_78 : decode cX8_watch 78 = .ok (.iconst 0, 1) := by decide +kernel
theorem dX8_watch_79 : decode cX8_watch 79 = .ok (.ireturn, 1) := by decide +kernel
theorem dX8_watch_80 : decode cX8_watch 80 = .ok (.aload_n 0, 1) := by decide +kernel
theorem dX8_watch_81 : decode cX8_watch 81 = .ok (.invokevirtual 457, 3) := by decide +kernel
theorem dX8_watch_84 : decode cX8_watch 84 = .ok (.aload_n 0, 1) := by decide +kernel
theorem dX8_watch_85 : decode cX8_watch 85 = .ok (.iload_n 1, 1) := by decide +kernel
theorem dX8_watch_86 : decode cX8_watch 86 = .ok (.putfield 323, 3) := by decide +kernel
theorem dX8_watch_89 : decode cX8_watch 89 = .ok (.aload_n 0, 1) := by decide +kernel
theorem dX8_watch_90 : decode cX8_watch 90 = .ok (.iload_n 1, 1) := by decide +kernel
theorem dX8_watch_91 : decode cX8_watch 91 = .ok (.ifCond .ne 7, 3) := by decide +kernel
theorem dX8_watch_94 : decode cX8_watch 94 = .ok (.iconst 0, 1) := by decide +kernel
theorem dX8_watch_95 : decode cX8_watch 95 = .ok (.goto 4, 3) := by decide +kernel
theorem dX8_watch_98 : decode cX8_watch 98 = .ok (.iload_n 2, 1) := by decide +kernel
theorem dX8_watch_99 : decode cX8_watch 99 = .ok (.putfield 326, 3) := by decide +kernel
theorem dX8_watch_102 : decode cX8_watch 102 = .ok (.iconst 1, 1) := by decide +kernel
theorem dX8_watch_103 : decode cX8_watch 103 = .ok (.ireturn, 1) := by decide +kernel
theorem dX8_open_0 : decode cX8_open 0 = .ok (.aload_n 0, 1) := by decide +kernel
theorem dX8_open_1 : decode cX8_open 1 = .ok (.iconst 0, 1) := by decide +kernel
theorem dX8_open_2 : decode cX8_open 2 = .ok (.putfield 159, 3) := by decide +kernel
theorem dX8_open_5 : decode cX8_open 5 = .ok (.aload_n 0, 1) := by decide +kernel
theorem dX8_open_6 : decode cX8_open 6 = .ok (.invokevirtual 457, 3) := by decide +kernel
theorem dX8_open_9 : decode cX8_open 9 = .ok (.aload_n 0, 1) := by decide +kernel
theorem dX8_open_10 : decode cX8_open 10 = .ok (.getfield 329, 3) := by decide +kernel
theorem dX8_open_13 : decode cX8_open 13 = .ok (.iconst 1, 1) := by decide +kernel
theorem dX8_open_14 : decode cX8_open 14 = .ok (.if_icmp .ne 7, 3) := by decide +kernel
theorem dX8_open_17 : decode cX8_open 17 = .ok (.iconst 1, 1) := by decide +kernel
theorem dX8_open_18 : decode cX8_open 18 = .ok (.goto 4, 3) := by decide +kernel
theorem dX8_open_21 : decode cX8_open 21 = .ok (.iconst 0, 1) := by decide +kernel
theorem dX8_open_22 : decode cX8_open 22 = .ok (.istore_n 2, 1) := by decide +kernel
theorem dX8_open_23 : decode cX8_open 23 = .ok (.aload_n 0, 1) := by decide +kernel
theorem dX8_open_24 : decode cX8_open 24 = .ok (.iload_n 1, 1) := by decide +kernel
theorem dX8_open_25 : decode cX8_open 25 = .ok (.ifCond .eq 7, 3) := by decide +kernel
theorem dX8_open_28 : decode cX8_open 28 = .ok (.iconst 1, 1) := by decide +kernel
theorem dX8_open_29 : decode cX8_open 29 = .ok (.goto 4, 3) := by decide +kernel
theorem dX8_open_32 : decode cX8_open 32 = .ok (.iconst 0, 1) := by decide +kernel
theorem dX8_open_33 : decode cX8_open 33 = .ok (.putfield 329, 3) := by decide +kernel
theorem dX8_open_36 : decode cX8_open 36 = .ok (.iload_n 2, 1) := by decide +kernel
theorem dX8_open_37 : decode cX8_open 37 = .ok (.ireturn, 1) := by decide +kernel
theorem dX8_stops_0 : decode cX8_stops 0 = .ok (.aload_n 0, 1) := by decide +kernel
theorem dX8_stops_1 : decode cX8_stops 1 = .ok (.iconst 0, 1) := by decide +kernel
theorem dX8_stops_2 : decode cX8_stops 2 = .ok (.putfield 159, 3) := by decide +kernel
theorem dX8_stops_5 : decode cX8_stops 5 = .ok (.iload_n 1, 1) := by decide +kernel
theorem dX8_stops_6 : decode cX8_stops 6 = .ok (.i2l, 1) := by decide +kernel
theorem dX8_stops_7 : decode cX8_stops 7 = .ok (.lconst 0, 1) := by decide +kernel
theorem dX8_stops_8 : decode cX8_stops 8 = .ok (.ldc2_w 460, 3) := by decide +kernel
theorem dX8_stops_11 : decode cX8_stops 11 = .ok (.invokestatic 162, 3) := by decide +kernel
theorem dX8_stops_14 : decode cX8_stops 14 = .ok (.ifCond .ne 9, 3) := by decide +kernel
theorem dX8_stops_17 : decode cX8_stops 17 = .ok (.aload_n 0, 1) := by decide +kernel
theorem dX8_stops_18 : decode cX8_stops 18 = .ok (.iconst 1, 1) := by decide +kernel
theorem dX8_stops_19 : decode cX8_stops 19 = .ok (.invokevirtual 462, 3) := by decide +kernel
theorem dX8_stops_22 : decode cX8_stops 22 = .ok (.ireturn, 1) := by decide +kernel
theorem dX8_stops_23 : decode cX8_stops 23 = .ok (.aload_n 0, 1) := by decide +kernel
theorem dX8_stops_24 : decode cX8_stops 24 = .ok (.invokevirtual 457, 3) := by decide +kernel
theorem dX8_stops_27 : decode cX8_stops 27 = .ok (.aload_n 0, 1) := by decide +kernel
theorem dX8_stops_28 : decode cX8_stops 28 = .ok (.getfield 90, 3) := by decide +kernel
theorem dX8_stops_31 : decode cX8_stops 31 = .ok (.istore_n 2, 1) := by decide +kernel
theorem dX8_stops_32 : decode cX8_stops 32 = .ok (.aload_n 0, 1) := by decide +kernel
theorem dX8_stops_33 : decode cX8_stops 33 = .ok (.iload_n 1, 1) := by decide +kernel
theorem dX8_stops_34 : decode cX8_stops 34 = .ok (.putfield 90, 3) := by decide +kernel
theorem dX8_stops_37 : decode cX8_stops 37 = .ok (.iload_n 2, 1) := by decide +kernel
theorem dX8_stops_38 : decode cX8_stops 38 = .ok (.ireturn, 1) := by decide +kernel
theorem dX8_mirror_0 : decode cX8_mirror 0 = .ok (.aload_n 0, 1) := by decide +kernel
theorem dX8_mirror_1 : decode cX8_mirror 1 = .ok (.iconst 0, 1) := by decide +kernel
theorem dX8_mirror_2 : decode cX8_mirror 2 = .ok (.putfield 159, 3) := by decide +kernel
theorem dX8_mirror_5 : decode cX8_mirror 5 = .ok (.aload_n 0, 1) := by decide +kernel
theorem dX8_mirror_6 : decode cX8_mirror 6 = .ok (.getfield 332, 3) := by decide +kernel
theorem dX8_mirror_9 : decode cX8_mirror 9 = .ok (.bipush 6, 2) := by decide +kernel
theorem dX8_mirror_11 : decode cX8_mirror 11 = .ok (.if_icmp .eq 37, 3) := by decide +kernel
theorem dX8_mirror_14 : decode cX8_mirror 14 = .ok (.aload_n 0, 1) := by decide +kernel
theorem dX8_mirror_15 : decode cX8_mirror 15 = .ok (.iload_n 1, 1) := by decide +kernel
theorem dX8_mirror_16 : decode cX8_mirror 16 = .ok (.invokevirtual 357, 3) := by decide +kernel
theorem dX8_mirror_19 : decode cX8_mirror 19 = .ok (.ifCond .eq 29, 3) := by decide +kernel
theorem dX8_mirror_22 : decode cX8_mirror 22 = .ok (.aload_n 0, 1) := by decide +kernel
theorem dX8_mirror_23 : decode cX8_mirror 23 = .ok (.iload_n 2, 1) := by decide +kernel
theorem dX8_mirror_24 : decode cX8_mirror 24 = .ok (.invokevirtual 357, 3) := by decide +kernel
theorem dX8_mirror_27 : decode cX8_mirror 27 = .ok (.ifCond .eq 21, 3) := by decide +kernel
theorem dX8_mirror_30 : decode cX8_mirror 30 = .ok (.iload_n 1, 1) := by decide +kernel
theorem dX8_mirror_31 : decode cX8_mirror 31 = .ok (.iload_n 2, 1) := by decide +kernel
theorem dX8_mirror_32 : decode cX8_mirror 32 = .ok (.if_icmp .eq 16, 3) := by decide +kernel
theorem dX8_mirror_35 : decode cX8_mirror 35 = .ok (.aload_n 0, 1) := by decide +kernel
theorem dX8_mirror_36 : decode cX8_mirror 36 = .ok (.getfield 52, 3) := by decide +kernel
theorem dX8_mirror_39 : decode cX8_mirror 39 = .ok (.iload_n 1, 1) := by decide +kernel
theorem dX8_mirror_40 : decode cX8_mirror 40 = .ok (.iaload, 1) := by decide +kernel
theorem dX8_mirror_41 : decode cX8_mirror 41 = .ok (.iload_n 2, 1) := by decide +kernel
theorem dX8_mirror_42 : decode cX8_mirror 42 = .ok (.invokestatic 383, 3) := by decide +kernel
theorem dX8_mirror_45 : decode cX8_mirror 45 = .ok (.ifCond .eq 9, 3) := by decide +kernel
theorem dX8_mirror_48 : decode cX8_mirror 48 = .ok (.aload_n 0, 1) := by decide +kernel
theorem dX8_mirror_49 : decode cX8_mirror 49 = .ok (.iconst 1, 1) := by decide +kernel
theorem dX8_mirror_50 : decode cX8_mirror 50 = .ok (.invokevirtual 462, 3) := by decide +kernel
theorem dX8_mirror_53 : decode cX8_mirror 53 = .ok (.ireturn, 1) := by decide +kernel
theorem dX8_mirror_54 : decode cX8_mirror 54 = .ok (.aload_n 0, 1) := by decide +kernel
theorem dX8_mirror_55 : decode cX8_mirror 55 = .ok (.invokevirtual 457, 3) := by decide +kernel
theorem dX8_mirror_58 : decode cX8_mirror 58 = .ok (.aload_n 0, 1) := by decide +kernel
theorem dX8_mirror_59 : decode cX8_mirror 59 = .ok (.getfield 52, 3) := by decide +kernel
theorem dX8_mirror_62 : decode cX8_mirror 62 = .ok (.iload_n 1, 1) := by decide +kernel
theorem dX8_mirror_63 : decode cX8_mirror 63 = .ok (.dup2, 1) := by decide +kernel
theorem dX8_mirror_64 : decode cX8_mirror 64 = .ok (.iaload, 1) := by decide +kernel
theorem dX8_mirror_65 : decode cX8_mirror 65 = .ok (.iconst 1, 1) := by decide +kernel
theorem dX8_mirror_66 : decode cX8_mirror 66 = .ok (.iload_n 2, 1) := by decide +kernel
theorem dX8_mirror_67 : decode cX8_mirror 67 = .ok (.ishl, 1) := by decide +kernel
theorem dX8_mirror_68 : decode cX8_mirror 68 = .ok (.ior, 1) := by decide +kernel
theorem dX8_mirror_69 : decode cX8_mirror 69 = .ok (.iastore, 1) := by decide +kernel
theorem dX8_mirror_70 : decode cX8_mirror 70 = .ok (.aload_n 0, 1) := by decide +kernel
theorem dX8_mirror_71 : decode cX8_mirror 71 = .ok (.dup, 1) := by decide +kernel
theorem dX8_mirror_72 : decode cX8_mirror 72 = .ok (.getfield 332, 3) := by decide +kernel
theorem dX8_mirror_75 : decode cX8_mirror 75 = .ok (.iconst 1, 1) := by decide +kernel
theorem dX8_mirror_76 : decode cX8_mirror 76 = .ok (.iadd, 1) := by decide +kernel
theorem dX8_mirror_77 : decode cX8_mirror 77 = .ok (.putfield 332, 3) := by decide +kernel
theorem dX8_mirror_80 : decode cX8_mirror 80 = .ok (.aload_n 0, 1) := by decide +kernel
theorem dX8_mirror_81 : decode cX8_mirror 81 = .ok (.getfield 332, 3) := by decide +kernel
theorem dX8_mirror_84 : decode cX8_mirror 84 = .ok (.ireturn, 1) := by decide +kernel
theorem dX8_stock_0 : decode cX8_stock 0 = .ok (.aload_n 0, 1) := by decide +kernel
theorem dX8_stock_1 : decode cX8_stock 1 = .ok (.iconst 0, 1) := by decide +kernel
theorem dX8_stock_2 : decode cX8_stock 2 = .ok (.putfield 159, 3) := by decide +kernel
theorem dX8_stock_5 : decode cX8_stock 5 = .ok (.aload_n 0, 1) := by decide +kernel
theorem dX8_stock_6 : decode cX8_stock 6 = .ok (.iload_n 1, 1) := by decide +kernel
theorem dX8_stock_7 : decode cX8_stock 7 = .ok (.invokevirtual 357, 3) := by decide +kernel
theorem dX8_stock_10 : decode cX8_stock 10 = .ok (.ifCond .ne 9, 3) := by decide +kernel
theorem dX8_stock_13 : decode cX8_stock 13 = .ok (.aload_n 0, 1) := by decide +kernel
theorem dX8_stock_14 : decode cX8_stock 14 = .ok (.iconst 1, 1) := by decide +kernel
theorem dX8_stock_15 : decode cX8_stock 15 = .ok (.invokevirtual 310, 3) := by decide +kernel
theorem dX8_stock_18 : decode cX8_stock 18 = .ok (.ireturn, 1) := by decide +kernel
theorem dX8_stock_19 : decode cX8_stock 19 = .ok (.iload_n 2, 1) := by decide +kernel
theorem dX8_stock_20 : decode cX8_stock 20 = .ok (.i2l, 1) := by decide +kernel
theorem dX8_stock_21 : decode cX8_stock 21 = .ok (.lconst 0, 1) := by decide +kernel
theorem dX8_stock_22 : decode cX8_stock 22 = .ok (.ldc2_w 465, 3) := by decide +kernel
theorem dX8_stock_25 : decode cX8_stock 25 = .ok (.invokestatic 162, 3) := by decide +kernel
theorem dX8_stock_28 : decode cX8_stock 28 = .ok (.ifCond .ne 9, 3) := by decide +kernel
theorem dX8_stock_31 : decode cX8_stock 31 = .ok (.aload_n 0, 1) := by decide +kernel
theorem dX8_stock_32 : decode cX8_stock 32 = .ok (.iconst 1, 1) := by decide +kernel
theorem dX8_stock_33 : decode cX8_stock 33 = .ok (.invokevirtual 462, 3) := by decide +kernel
theorem dX8_stock_36 : decode cX8_stock 36 = .ok (.ireturn, 1) := by decide +kernel
theorem dX8_stock_37 : decode cX8_stock 37 = .ok (.aload_n 0, 1) := by decide +kernel
theorem dX8_stock_38 : decode cX8_stock 38 = .ok (.invokevirtual 457, 3) := by decide +kernel
theorem dX8_stock_41 : decode cX8_stock 41 = .ok (.aload_n 0, 1) := by decide +kernel
theorem dX8_stock_42 : decode cX8_stock 42 = .ok (.getfield 46, 3) := by decide +kernel
theorem dX8_stock_45 : decode cX8_stock 45 = .ok (.iload_n 1, 1) := by decide +kernel
theorem dX8_stock_46 : decode cX8_stock 46 = .ok (.iaload, 1) := by decide +kernel
theorem dX8_stock_47 : decode cX8_stock 47 = .ok (.istore_n 3, 1) := by decide +kernel
theorem dX8_stock_48 : decode cX8_stock 48 = .ok (.aload_n 0, 1) := by decide +kernel
theorem dX8_stock_49 : decode cX8_stock 49 = .ok (.getfield 46, 3) := by decide +kernel
theorem dX8_stock_52 : decode cX8_stock 52 = .ok (.iload_n 1, 1) := by decide +kernel
theorem dX8_stock_53 : decode cX8_stock 53 = .ok (.iload_n 2, 1) := by decide +kernel
theorem dX8_stock_54 : decode cX8_stock 54 = .ok (.iastore, 1) := by decide +kernel
theorem dX8_stock_55 : decode cX8_stock 55 = .ok (.iload_n 3, 1) := by decide +kernel
theorem dX8_stock_56 : decode cX8_stock 56 = .ok (.ireturn, 1) := by decide +kernel
theorem dX8_days_0 : decode cX8_days 0 = .ok (.aload_n 0, 1) := by decide +kernel
theorem dX8_days_1 : decode cX8_days 1 = .ok (.iconst 0, 1) := by decide +kernel
theorem dX8_days_2 : decode cX8_days 2 = .ok (.putfield 159, 3) := by decide +kernel
theorem dX8_days_5 : decode cX8_days 5 = .ok (.iload_n 1, 1) := by decide +kernel
theorem dX8_days_6 : decode cX8_days 6 = .ok (.i2l, 1) := by decide +kernel
theorem dX8_days_7 : decode cX8_days 7 = .ok (.lconst 1, 1) := by decide +kernel
theorem dX8_days_8 : decode cX8_days 8 = .ok (.ldc2_w 467, 3) := by decide +kernel
theorem dX8_days_11 : decode cX8_days 11 = .ok (.invokestatic 162, 3) := by decide +kernel
theorem dX8_days_14 : decode cX8_days 14 = .ok (.ifCond .ne 9, 3) := by decide +kernel
theorem dX8_days_17 : decode cX8_days 17 = .ok (.aload_n 0, 1) := by decide +kernel
theorem dX8_days_18 : decode cX8_days 18 = .ok (.iconst 1, 1) := by decide +kernel
theorem dX8_days_19 : decode cX8_days 19 = .ok (.invokevirtual 462, 3) := by decide +kernel
theorem dX8_days_22 : decode cX8_days 22 = .ok (.ireturn, 1) := by decide +kernel
theorem dX8_days_23 : decode cX8_days 23 = .ok (.aload_n 0, 1) := by decide +kernel
theorem dX8_days_24 : decode cX8_days 24 = .ok (.invokevirtual 457, 3) := by decide +kernel
theorem dX8_days_27 : decode cX8_days 27 = .ok (.aload_n 0, 1) := by decide +kernel
theorem dX8_days_28 : decode cX8_days 28 = .ok (.invokevirtual 469, 3) := by decide +kernel
theorem dX8_days_31 : decode cX8_days 31 = .ok (.iconst 0, 1) := by decide +kernel
theorem dX8_days_32 : decode cX8_days 32 = .ok (.istore_n 2, 1) := by decide +kernel
theorem dX8_days_33 : decode cX8_days 33 = .ok (.iconst 0, 1) := by decide +kernel
theorem dX8_days_34 : decode cX8_days 34 = .ok (.istore_n 3, 1) := by decide +kernel
theorem dX8_days_35 : decode cX8_days 35 = .ok (.iload_n 3, 1) := by decide +kernel
theorem dX8_days_36 : decode cX8_days 36 = .ok (.iload_n 1, 1) := by decide +kernel
theorem dX8_days_37 : decode cX8_days 37 = .ok (.if_icmp .ge 16, 3) := by decide +kernel
theorem dX8_days_40 : decode cX8_days 40 = .ok (.iload_n 2, 1) := by decide +kernel
theorem dX8_days_41 : decode cX8_days 41 = .ok (.aload_n 0, 1) := by decide +kernel
theorem dX8_days_42 : decode cX8_days 42 = .ok (.invokevirtual 472, 3) := by decide +kernel
theorem dX8_days_45 : decode cX8_days 45 = .ok (.iadd, 1) := by decide +kernel
theorem dX8_days_46 : decode cX8_days 46 = .ok (.istore_n 2, 1) := by decide +kernel
theorem dX8_days_47 : decode cX8_days 47 = .ok (.iinc 3 1, 3) := by decide +kernel
theorem dX8_days_50 : decode cX8_days 50 = .ok (.goto (-15), 3) := by decide +kernel
theorem dX8_days_53 : decode cX8_days 53 = .ok (.iconst 0, 1) := by decide +kernel
theorem dX8_days_54 : decode cX8_days 54 = .ok (.istore_n 3, 1) := by decide +kernel
theorem dX8_days_55 : decode cX8_days 55 = .ok (.iload_n 3, 1) := by decide +kernel
theorem dX8_days_56 : decode cX8_days 56 = .ok (.bipush 10, 2) := by decide +kernel
theorem dX8_days_58 : decode cX8_days 58 = .ok (.if_icmp .ge 21, 3) := by decide +kernel
theorem dX8_days_61 : decode cX8_days 61 = .ok (.aload_n 0, 1) := by decide +kernel
theorem dX8_days_62 : decode cX8_days 62 = .ok (.getfield 46, 3) := by decide +kernel
theorem dX8_days_65 : decode cX8_days 65 = .ok (.iload_n 3, 1) := by decide +kernel
theorem dX8_days_66 : decode cX8_days 66 = .ok (.aload_n 0, 1) := by decide +kernel
theorem dX8_days_67 : decode cX8_days 67 = .ok (.getfield 105, 3) := by decide +kernel
theorem dX8_days_70 : decode cX8_days 70 = .ok (.iload_n 3, 1) := by decide +kernel
theorem dX8_days_71 : decode cX8_days 71 = .ok (.iaload, 1) := by decide +kernel
theorem dX8_days_72 : decode cX8_days 72 = .ok (.iastore, 1) := by decide +kernel
theorem dX8_days_73 : decode cX8_days 73 = .ok (.iinc 3 1, 3) := by decide +kernel
theorem dX8_days_76 : decode cX8_days 76 = .ok (.goto (-21), 3) := by decide +kernel
theorem dX8_days_79 : decode cX8_days 79 = .ok (.aload_n 0, 1) := by decide +kernel
theorem dX8_days_80 : decode cX8_days 80 = .ok (.dup, 1) := by decide +kernel
theorem dX8_days_81 : decode cX8_days 81 = .ok (.getfield 335, 3) := by decide +kernel
theorem dX8_days_84 : decode cX8_days 84 = .ok (.iload_n 1, 1) := by decide +kernel
theorem dX8_days_85 : decode cX8_days 85 = .ok (.iadd, 1) := by decide +kernel
theorem dX8_days_86 : decode cX8_days 86 = .ok (.putfield 335, 3) := by decide +kernel
theorem dX8_days_89 : decode cX8_days 89 = .ok (.iload_n 2, 1) := by decide +kernel
theorem dX8_days_90 : decode cX8_days 90 = .ok (.ireturn, 1) := by decide +kernel
theorem dX8_undo_0 : decode cX8_undo 0 = .ok (.aload_n 0, 1) := by decide +kernel
theorem dX8_undo_1 : decode cX8_undo 1 = .ok (.iconst 0, 1) := by decide +kernel
theorem dX8_undo_2 : decode cX8_undo 2 = .ok (.putfield 159, 3) := by decide +kernel
theorem dX8_undo_5 : decode cX8_undo 5 = .ok (.aload_n 0, 1) := by decide +kernel
theorem dX8_undo_6 : decode cX8_undo 6 = .ok (.getfield 338, 3) := by decide +kernel
theorem dX8_undo_9 : decode cX8_undo 9 = .ok (.ifCond .ne 5, 3) := by decide +kernel
theorem dX8_undo_12 : decode cX8_undo 12 = .ok (.iconst (-1), 1) := by decide +kernel
theorem dX8_undo_13 : decode cX8_undo 13 = .ok (.ireturn, 1) := by decide +kernel
theorem dX8_undo_14 : decode cX8_undo 14 = .ok (.aload_n 0, 1) := by decide +kernel
theorem dX8_undo_15 : decode cX8_undo 15 = .ok (.dup, 1) := by decide +kernel
theorem dX8_undo_16 : decode cX8_undo 16 = .ok (.getfield 338, 3) := by decide +kernel
theorem dX8_undo_19 : decode cX8_undo 19 = .ok (.iconst 1, 1) := by decide +kernel
theorem dX8_undo_20 : decode cX8_undo 20 = .ok (.isub, 1) := by decide +kernel
theorem dX8_undo_21 : decode cX8_undo 21 = .ok (.putfield 338, 3) := by decide +kernel
theorem dX8_undo_24 : decode cX8_undo 24 = .ok (.aload_n 0, 1) := by decide +kernel
theorem dX8_undo_25 : decode cX8_undo 25 = .ok (.aload_n 0, 1) := by decide +kernel
theorem dX8_undo_26 : decode cX8_undo 26 = .ok (.getfield 93, 3) := by decide +kernel
theorem dX8_undo_29 : decode cX8_undo 29 = .ok (.bipush 26, 2) := by decide +kernel
theorem dX8_undo_31 : decode cX8_undo 31 = .ok (.aload_n 0, 1) := by decide +kernel
theorem dX8_undo_32 : decode cX8_undo 32 = .ok (.getfield 338, 3) := by decide +kernel
theorem dX8_undo_35 : decode cX8_undo 35 = .ok (.imul, 1) := by decide +kernel
theorem dX8_undo_36 : decode cX8_undo 36 = .ok (.invokevirtual 475, 3) := by decide +kernel
theorem dX8_undo_39 : decode cX8_undo 39 = .ok (.aload_n 0, 1) := by decide +kernel
theorem dX8_undo_40 : decode cX8_undo 40 = .ok (.getfield 338, 3) := by decide +kernel
theorem dX8_undo_43 : decode cX8_undo 43 = .ok (.ireturn, 1) := by decide +kernel
theorem dX8_day_0 : decode cX8_day 0 = .ok (.aload_n 0, 1) := by decide +kernel
theorem dX8_day_1 : decode cX8_day 1 = .ok (.iconst 0, 1) := by decide +kernel
theorem dX8_day_2 : decode cX8_day 2 = .ok (.putfield 159, 3) := by decide +kernel
theorem dX8_day_5 : decode cX8_day 5 = .ok (.iload_n 1, 1) := by decide +kernel
theorem dX8_day_6 : decode cX8_day 6 = .ok (.i2l, 1) := by decide +kernel
theorem dX8_day_7 : decode cX8_day 7 = .ok (.lconst 0, 1) := by decide +kernel
theorem dX8_day_8 : decode cX8_day 8 = .ok (.ldc2_w 478, 3) := by decide +kernel
theorem dX8_day_11 : decode cX8_day 11 = .ok (.invokestatic 162, 3) := by decide +kernel
theorem dX8_day_14 : decode cX8_day 14 = .ok (.ifCond .ne 9, 3) := by decide +kernel
theorem dX8_day_17 : decode cX8_day 17 = .ok (.aload_n 0, 1) := by decide +kernel
theorem dX8_day_18 : decode cX8_day 18 = .ok (.iconst 1, 1) := by decide +kernel
theorem dX8_day_19 : decode cX8_day 19 = .ok (.invokevirtual 310, 3) := by decide +kernel
theorem dX8_day_22 : decode cX8_day 22 = .ok (.ireturn, 1) := by decide +kernel
theorem dX8_day_23 : decode cX8_day 23 = .ok (.aload_n 0, 1) := by decide +kernel
theorem dX8_day_24 : decode cX8_day 24 = .ok (.invokevirtual 469, 3) := by decide +kernel
theorem dX8_day_27 : decode cX8_day 27 = .ok (.aload_n 0, 1) := by decide +kernel
theorem dX8_day_28 : decode cX8_day 28 = .ok (.invokevirtual 472, 3) := by decide +kernel
theorem dX8_day_31 : decode cX8_day 31 = .ok (.istore_n 2, 1) := by decide +kernel
theorem dX8_day_32 : decode cX8_day 32 = .ok (.iload_n 1, 1) := by decide +kernel
theorem dX8_day_33 : decode cX8_day 33 = .ok (.tableswitch 78 0 6 #[43, 45, 50, 58, 63, 68, 73], 43) := by decide +kernel
theorem dX8_day_76 : decode cX8_day 76 = .ok (.iload_n 2, 1) := by decide +kernel
theorem dX8_day_77 : decode cX8_day 77 = .ok (.ireturn, 1) := by decide +kernel
theorem dX8_day_78 : decode cX8_day 78 = .ok (.aload_n 0, 1) := by decide +kernel
theorem dX8_day_79 : decode cX8_day 79 = .ok (.getfield 401, 3) := by decide +kernel
theorem dX8_day_82 : decode cX8_day 82 = .ok (.ireturn, 1) := by decide +kernel
theorem dX8_day_83 : decode cX8_day 83 = .ok (.aload_n 0, 1) := by decide +kernel
theorem dX8_day_84 : decode cX8_day 84 = .ok (.getfield 395, 3) := by decide +kernel
theorem dX8_day_87 : decode cX8_day 87 = .ok (.invokestatic 480, 3) := by decide +kernel
theorem dX8_day_90 : decode cX8_day 90 = .ok (.ireturn, 1) := by decide +kernel
theorem dX8_day_91 : decode cX8_day 91 = .ok (.aload_n 0, 1) := by decide +kernel
theorem dX8_day_92 : decode cX8_day 92 = .ok (.getfield 392, 3) := by decide +kernel
theorem dX8_day_95 : decode cX8_day 95 = .ok (.ireturn, 1) := by decide +kernel
theorem dX8_day_96 : decode cX8_day 96 = .ok (.aload_n 0, 1) := by decide +kernel
theorem dX8_day_97 : decode cX8_day 97 = .ok (.getfield 389, 3) := by decide +kernel
theorem dX8_day_100 : decode cX8_day 100 = .ok (.ireturn, 1) := by decide +kernel
theorem dX8_day_101 : decode cX8_day 101 = .ok (.aload_n 0, 1) := by decide +kernel
theorem dX8_day_102 : decode cX8_day 102 = .ok (.getfield 381, 3) := by decide +kernel
theorem dX8_day_105 : decode cX8_day 105 = .ok (.ireturn, 1) := by decide +kernel
theorem dX8_day_106 : decode cX8_day 106 = .ok (.aload_n 0, 1) := by decide +kernel
theorem dX8_day_107 : decode cX8_day 107 = .ok (.getfield 428, 3) := by decide +kernel
theorem dX8_day_110 : decode cX8_day 110 = .ok (.ireturn, 1) := by decide +kernel
theorem dX8_day_111 : decode cX8_day 111 = .ok (.aload_n 0, 1) := by decide +kernel
theorem dX8_day_112 : decode cX8_day 112 = .ok (.getfield 395, 3) := by decide +kernel
theorem dX8_day_115 : decode cX8_day 115 = .ok (.ireturn, 1) := by decide +kernel
theorem dX8_where_0 : decode cX8_where 0 = .ok (.aload_n 0, 1) := by decide +kernel
theorem dX8_where_1 : decode cX8_where 1 = .ok (.iconst 0, 1) := by decide +kernel
theorem dX8_where_2 : decode cX8_where 2 = .ok (.putfield 159, 3) := by decide +kernel
theorem dX8_where_5 : decode cX8_where 5 = .ok (.aload_n 0, 1) := by decide +kernel
theorem dX8_where_6 : decode cX8_where 6 = .ok (.iload_n 1, 1) := by decide +kernel
theorem dX8_where_7 : decode cX8_where 7 = .ok (.invokevirtual 448, 3) := by decide +kernel
theorem dX8_where_10 : decode cX8_where 10 = .ok (.ifCond .eq 10, 3) := by decide +kernel
theorem dX8_where_13 : decode cX8_where 13 = .ok (.iload_n 2, 1) := by decide +kernel
theorem dX8_where_14 : decode cX8_where 14 = .ok (.invokestatic 483, 3) := by decide +kernel
theorem dX8_where_17 : decode cX8_where 17 = .ok (.ifCond .ne 9, 3) := by decide +kernel
theorem dX8_where_20 : decode cX8_where 20 = .ok (.aload_n 0, 1) := by decide +kernel
theorem dX8_where_21 : decode cX8_where 21 = .ok (.iconst 1, 1) := by decide +kernel
theorem dX8_where_22 : decode cX8_where 22 = .ok (.invokevirtual 310, 3) := by decide +kernel
theorem dX8_where_25 : decode cX8_where 25 = .ok (.ireturn, 1) := by decide +kernel
theorem dX8_where_26 : decode cX8_where 26 = .ok (.aload_n 0, 1) := by decide +kernel
theorem dX8_where_27 : decode cX8_where 27 = .ok (.invokevirtual 469, 3) := by decide +kernel
theorem dX8_where_30 : decode cX8_where 30 = .ok (.aload_n 0, 1) := by decide +kernel
theorem dX8_where_31 : decode cX8_where 31 = .ok (.iload_n 2, 1) := by decide +kernel
theorem dX8_where_32 : decode cX8_where 32 = .ok (.invokevirtual 440, 3) := by decide +kernel
theorem dX8_where_35 : decode cX8_where 35 = .ok (.aload_n 0, 1) := by decide +kernel
theorem dX8_where_36 : decode cX8_where 36 = .ok (.iload_n 1, 1) := by decide +kernel
theorem dX8_where_37 : decode cX8_where 37 = .ok (.invokevirtual 404, 3) := by decide +kernel
theorem dX8_where_40 : decode cX8_where 40 = .ok (.ifCond .eq 11, 3) := by decide +kernel
theorem dX8_where_43 : decode cX8_where 43 = .ok (.aload_n 0, 1) := by decide +kernel
theorem dX8_where_44 : decode cX8_where 44 = .ok (.iload_n 1, 1) := by decide +kernel
theorem dX8_where_45 : decode cX8_where 45 = .ok (.invokevirtual 407, 3) := by decide +kernel
theorem dX8_where_48 : decode cX8_where 48 = .ok (.goto 4, 3) := by decide +kernel
theorem dX8_where_51 : decode cX8_where 51 = .ok (.iconst (-1), 1) := by decide +kernel
theorem dX8_where_52 : decode cX8_where 52 = .ok (.ireturn, 1) := by decide +kernel
theorem dX8_eyes_0 : decode cX8_eyes 0 = .ok (.aload_n 0, 1) := by decide +kernel
theorem dX8_eyes_1 : decode cX8_eyes 1 = .ok (.iconst 0, 1) := by decide +kernel
theorem dX8_eyes_2 : decode cX8_eyes 2 = .ok (.putfield 159, 3) := by decide +kernel
theorem dX8_eyes_5 : decode cX8_eyes 5 = .ok (.iload_n 1, 1) := by decide +kernel
theorem dX8_eyes_6 : decode cX8_eyes 6 = .ok (.invokestatic 483, 3) := by decide +kernel
theorem dX8_eyes_9 : decode cX8_eyes 9 = .ok (.ifCond .ne 9, 3) := by decide +kernel
theorem dX8_eyes_12 : decode cX8_eyes 12 = .ok (.aload_n 0, 1) := by decide +kernel
theorem dX8_eyes_13 : decode cX8_eyes 13 = .ok (.iconst 1, 1) := by decide +kernel
theorem dX8_eyes_14 : decode cX8_eyes 14 = .ok (.invokevirtual 310, 3) := by decide +kernel
theorem dX8_eyes_17 : decode cX8_eyes 17 = .ok (.ireturn, 1) := by decide +kernel
theorem dX8_eyes_18 : decode cX8_eyes 18 = .ok (.aload_n 0, 1) := by decide +kernel
theorem dX8_eyes_19 : decode cX8_eyes 19 = .ok (.invokevirtual 469, 3) := by decide +kernel
theorem dX8_eyes_22 : decode cX8_eyes 22 = .ok (.aload_n 0, 1) := by decide +kernel
theorem dX8_eyes_23 : decode cX8_eyes 23 = .ok (.iload_n 1, 1) := by decide +kernel
theorem dX8_eyes_24 : decode cX8_eyes 24 = .ok (.invokevirtual 440, 3) := by decide +kernel
theorem dX8_eyes_27 : decode cX8_eyes 27 = .ok (.aload_n 0, 1) := by decide +kernel
theorem dX8_eyes_28 : decode cX8_eyes 28 = .ok (.getfield 378, 3) := by decide +kernel
theorem dX8_eyes_31 : decode cX8_eyes 31 = .ok (.ireturn, 1) := by decide +kernel
theorem dX8_has_0 : decode cX8_has 0 = .ok (.aload_n 0, 1) := by decide +kernel
theorem dX8_has_1 : decode cX8_has 1 = .ok (.iconst 0, 1) := by decide +kernel
theorem dX8_has_2 : decode cX8_has 2 = .ok (.putfield 159, 3) := by decide +kernel
theorem dX8_has_5 : decode cX8_has 5 = .ok (.aload_n 0, 1) := by decide +kernel
theorem dX8_has_6 : decode cX8_has 6 = .ok (.iload_n 1, 1) := by decide +kernel
theorem dX8_has_7 : decode cX8_has 7 = .ok (.invokevirtual 448, 3) := by decide +kernel
theorem dX8_has_10 : decode cX8_has 10 = .ok (.ifCond .eq 10, 3) := by decide +kernel
theorem dX8_has_13 : decode cX8_has 13 = .ok (.iload_n 2, 1) := by decide +kernel
theorem dX8_has_14 : decode cX8_has 14 = .ok (.invokestatic 483, 3) := by decide +kernel
theorem dX8_has_17 : decode cX8_has 17 = .ok (.ifCond .ne 9, 3) := by decide +kernel
theorem dX8_has_20 : decode cX8_has 20 = .ok (.aload_n 0, 1) := by decide +kernel
theorem dX8_has_21 : decode cX8_has 21 = .ok (.iconst 1, 1) := by decide +kernel
theorem dX8_has_22 : decode cX8_has 22 = .ok (.invokevirtual 310, 3) := by decide +kernel
theorem dX8_has_25 : decode cX8_has 25 = .ok (.ireturn, 1) := by decide +kernel
theorem dX8_has_26 : decode cX8_has 26 = .ok (.aload_n 0, 1) := by decide +kernel
theorem dX8_has_27 : decode cX8_has 27 = .ok (.invokevirtual 469, 3) := by decide +kernel
theorem dX8_has_30 : decode cX8_has 30 = .ok (.aload_n 0, 1) := by decide +kernel
theorem dX8_has_31 : decode cX8_has 31 = .ok (.iload_n 2, 1) := by decide +kernel
theorem dX8_has_32 : decode cX8_has 32 = .ok (.invokevirtual 440, 3) := by decide +kernel
theorem dX8_has_35 : decode cX8_has 35 = .ok (.aload_n 0, 1) := by decide +kernel
theorem dX8_has_36 : decode cX8_has 36 = .ok (.getfield 111, 3) := by decide +kernel
theorem dX8_has_39 : decode cX8_has 39 = .ok (.iload_n 1, 1) := by decide +kernel
theorem dX8_has_40 : decode cX8_has 40 = .ok (.iaload, 1) := by decide +kernel
theorem dX8_has_41 : decode cX8_has 41 = .ok (.ireturn, 1) := by decide +kernel
theorem dX8_ask_0 : decode cX8_ask 0 = .ok (.iconst 0, 1) := by decide +kernel
theorem dX8_ask_1 : decode cX8_ask 1 = .ok (.istore_n 2, 1) := by decide +kernel
theorem dX8_ask_2 : decode cX8_ask 2 = .ok (.iload_n 2, 1) := by decide +kernel
theorem dX8_ask_3 : decode cX8_ask 3 = .ok (.bipush 10, 2) := by decide +kernel
theorem dX8_ask_5 : decode cX8_ask 5 = .ok (.if_icmp .ge 21, 3) := by decide +kernel
theorem dX8_ask_8 : decode cX8_ask 8 = .ok (.aload_n 0, 1) := by decide +kernel
theorem dX8_ask_9 : decode cX8_ask 9 = .ok (.getfield 105, 3) := by decide +kernel
theorem dX8_ask_12 : decode cX8_ask 12 = .ok (.iload_n 2, 1) := by decide +kernel
theorem dX8_ask_13 : decode cX8_ask 13 = .ok (.aload_n 0, 1) := by decide +kernel
theorem dX8_ask_14 : decode cX8_ask 14 = .ok (.getfield 46, 3) := by decide +kernel
theorem dX8_ask_17 : decode cX8_ask 17 = .ok (.iload_n 2, 1) := by decide +kernel
theorem dX8_ask_18 : decode cX8_ask 18 = .ok (.iaload, 1) := by decide +kernel
theorem dX8_ask_19 : decode cX8_ask 19 = .ok (.iastore, 1) := by decide +kernel
theorem dX8_ask_20 : decode cX8_ask 20 = .ok (.iinc 2 1, 3) := by decide +kernel
theorem dX8_ask_23 : decode cX8_ask 23 = .ok (.goto (-21), 3) := by decide +kernel
theorem dX8_ask_26 : decode cX8_ask 26 = .ok (.aload_n 0, 1) := by decide +kernel
theorem dX8_ask_27 : decode cX8_ask 27 = .ok (.invokevirtual 472, 3) := by decide +kernel
theorem dX8_ask_30 : decode cX8_ask 30 = .ok (.istore_n 2, 1) := by decide +kernel
theorem dX8_ask_31 : decode cX8_ask 31 = .ok (.aload_n 0, 1) := by decide +kernel
theorem dX8_ask_32 : decode cX8_ask 32 = .ok (.getfield 486, 3) := by decide +kernel
theorem dX8_ask_35 : decode cX8_ask 35 = .ok (.ifCond .eq 12, 3) := by decide +kernel
theorem dX8_ask_38 : decode cX8_ask 38 = .ok (.iload_n 2, 1) := by decide +kernel
theorem dX8_ask_39 : decode cX8_ask 39 = .ok (.aload_n 0, 1) := by decide +kernel
theorem dX8_ask_40 : decode cX8_ask 40 = .ok (.getfield 489, 3) := by decide +kernel
theorem dX8_ask_43 : decode cX8_ask 43 = .ok (.if_icmp .lt 4, 3) := by decide +kernel
theorem dX8_ask_46 : decode cX8_ask 46 = .ok (.return_, 1) := by decide +kernel
theorem dX8_ask_47 : decode cX8_ask 47 = .ok (.aload_n 0, 1) := by decide +kernel
theorem dX8_ask_48 : decode cX8_ask 48 = .ok (.iconst 1, 1) := by decide +kernel
theorem dX8_ask_49 : decode cX8_ask 49 = .ok (.putfield 486, 3) := by decide +kernel
theorem dX8_ask_52 : decode cX8_ask 52 = .ok (.aload_n 0, 1) := by decide +kernel
theorem dX8_ask_53 : decode cX8_ask 53 = .ok (.iload_n 1, 1) := by decide +kernel
theorem dX8_ask_54 : decode cX8_ask 54 = .ok (.putfield 492, 3) := by decide +kernel
theorem dX8_ask_57 : decode cX8_ask 57 = .ok (.aload_n 0, 1) := by decide +kernel
theorem dX8_ask_58 : decode cX8_ask 58 = .ok (.iload_n 2, 1) := by decide +kernel
theorem dX8_ask_59 : decode cX8_ask 59 = .ok (.putfield 489, 3) := by decide +kernel
theorem dX8_ask_62 : decode cX8_ask 62 = .ok (.return_, 1) := by decide +kernel
theorem dX8_best_0 : decode cX8_best 0 = .ok (.aload_n 0, 1) := by decide +kernel
theorem dX8_best_1 : decode cX8_best 1 = .ok (.iconst 0, 1) := by decide +kernel
theorem dX8_best_2 : decode cX8_best 2 = .ok (.putfield 159, 3) := by decide +kernel
theorem dX8_best_5 : decode cX8_best 5 = .ok (.iload_n 1, 1) := by decide +kernel
theorem dX8_best_6 : decode cX8_best 6 = .ok (.i2l, 1) := by decide +kernel
theorem dX8_best_7 : decode cX8_best 7 = .ok (.lconst 0, 1) := by decide +kernel
theorem dX8_best_8 : decode cX8_best 8 = .ok (.ldc2_w 460, 3) := by decide +kernel
theorem dX8_best_11 : decode cX8_best 11 = .ok (.invokestatic 162, 3) := by decide +kernel
theorem dX8_best_14 : decode cX8_best 14 = .ok (.ifCond .eq 12, 3) := by decide +kernel
theorem dX8_best_17 : decode cX8_best 17 = .ok (.iload_n 2, 1) := by decide +kernel
theorem dX8_best_18 : decode cX8_best 18 = .ok (.ifCond .lt 8, 3) := by decide +kernel
theorem dX8_best_21 : decode cX8_best 21 = .ok (.iload_n 2, 1) := by decide +kernel
theorem dX8_best_22 : decode cX8_best 22 = .ok (.iconst 1, 1) := by decide +kernel
theorem dX8_best_23 : decode cX8_best 23 = .ok (.if_icmp .le 9, 3) := by decide +kernel
theorem dX8_best_26 : decode cX8_best 26 = .ok (.aload_n 0, 1) := by decide +kernel
theorem dX8_best_27 : decode cX8_best 27 = .ok (.iconst 1, 1) := by decide +kernel
theorem dX8_best_28 : decode cX8_best 28 = .ok (.invokevirtual 310, 3) := by decide +kernel
theorem dX8_best_31 : decode cX8_best 31 = .ok (.ireturn, 1) := by decide +kernel
theorem dX8_best_32 : decode cX8_best 32 = .ok (.aload_n 0, 1) := by decide +kernel
theorem dX8_best_33 : decode cX8_best 33 = .ok (.invokevirtual 469, 3) := by decide +kernel
theorem dX8_best_36 : decode cX8_best 36 = .ok (.aload_n 0, 1) := by decide +kernel
theorem dX8_best_37 : decode cX8_best 37 = .ok (.iconst 0, 1) := by decide +kernel
theorem dX8_best_38 : decode cX8_best 38 = .ok (.putfield 486, 3) := by decide +kernel
theorem dX8_best_41 : decode cX8_best 41 = .ok (.aload_n 0, 1) := by decide +kernel
theorem dX8_best_42 : decode cX8_best 42 = .ok (.iload_n 1, 1) := by decide +kernel
theorem dX8_best_43 : decode cX8_best 43 = .ok (.ifCond .ne 7, 3) := by decide +kernel
theorem dX8_best_46 : decode cX8_best 46 = .ok (.iconst 3, 1) := by decide +kernel
theorem dX8_best_47 : decode cX8_best 47 = .ok (.goto 13, 3) := by decide +kernel
theorem dX8_best_50 : decode cX8_best 50 = .ok (.iload_n 1, 1) := by decide +kernel
theorem dX8_best_51 : decode cX8_best 51 = .ok (.iconst 1, 1) := by decide +kernel
theorem dX8_best_52 : decode cX8_best 52 = .ok (.if_icmp .ne 7, 3) := by decide +kernel
theorem dX8_best_55 : decode cX8_best 55 = .ok (.iconst 2, 1) := by decide +kernel
theorem dX8_best_56 : decode cX8_best 56 = .ok (.goto 4, 3) := by decide +kernel
theorem dX8_best_59 : decode cX8_best 59 = .ok (.iconst 1, 1) := by decide +kernel
theorem dX8_best_60 : decode cX8_best 60 = .ok (.putfield 364, 3) := by decide +kernel
theorem dX8_best_63 : decode cX8_best 63 = .ok (.iload_n 1, 1) := by decide +kernel
theorem dX8_best_64 : decode cX8_best 64 = .ok (.ifCond .ne 12, 3) := by decide +kernel
theorem dX8_best_67 : decode cX8_best 67 = .ok (.aload_n 0, 1) := by decide +kernel
theorem dX8_best_68 : decode cX8_best 68 = .ok (.getfield 40, 3) := by decide +kernel
theorem dX8_best_71 : decode cX8_best 71 = .ok (.iconst 0, 1) := by decide +kernel
theorem dX8_best_72 : decode cX8_best 72 = .ok (.iaload, 1) := by decide +kernel
theorem dX8_best_73 : decode cX8_best 73 = .ok (.goto 23, 3) := by decide +kernel
theorem dX8_best_76 : decode cX8_best 76 = .ok (.iload_n 1, 1) := by decide +kernel
theorem dX8_best_77 : decode cX8_best 77 = .ok (.iconst 1, 1) := by decide +kernel
theorem dX8_best_78 : decode cX8_best 78 = .ok (.if_icmp .ne 12, 3) := by decide +kernel
theorem dX8_best_81 : decode cX8_best 81 = .ok (.aload_n 0, 1) := by decide +kernel
theorem dX8_best_82 : decode cX8_best 82 = .ok (.getfield 40, 3) := by decide +kernel
theorem dX8_best_85 : decode cX8_best 85 = .ok (.iconst 3, 1) := by decide +kernel
theorem dX8_best_86 : decode cX8_best 86 = .ok (.iaload, 1) := by decide +kernel
theorem dX8_best_87 : decode cX8_best 87 = .ok (.goto 9, 3) := by decide +kernel
theorem dX8_best_90 : decode cX8_best 90 = .ok (.aload_n 0, 1) := by decide +kernel
theorem dX8_best_91 : decode cX8_best 91 = .ok (.getfield 40, 3) := by decide +kernel
theorem dX8_best_94 : decode cX8_best 94 = .ok (.iconst 4, 1) := by decide +kernel
theorem dX8_best_95 : decode cX8_best 95 = .ok (.iaload, 1) := by decide +kernel
theorem dX8_best_96 : decode cX8_best 96 = .ok (.istore_n 3, 1) := by decide +kernel
theorem dX8_best_97 : decode cX8_best 97 = .ok (.aload_n 0, 1) := by decide +kernel
theorem dX8_best_98 : decode cX8_best 98 = .ok (.iconst 0, 1) := by decide +kernel
theorem dX8_best_99 : decode cX8_best 99 = .ok (.putfield 367, 3) := by decide +kernel
theorem dX8_best_102 : decode cX8_best 102 = .ok (.aload_n 0, 1) := by decide +kernel
theorem dX8_best_103 : decode cX8_best 103 = .ok (.getfield 367, 3) := by decide +kernel
theorem dX8_best_106 : decode cX8_best 106 = .ok (.iload_n 3, 1) := by decide +kernel
theorem dX8_best_107 : decode cX8_best 107 = .ok (.if_icmp .ge 24, 3) := by decide +kernel
theorem dX8_best_110 : decode cX8_best 110 = .ok (.aload_n 0, 1) := by decide +kernel
theorem dX8_best_111 : decode cX8_best 111 = .ok (.aload_n 0, 1) := by decide +kernel
theorem dX8_best_112 : decode cX8_best 112 = .ok (.getfield 367, 3) := by decide +kernel
theorem dX8_best_115 : decode cX8_best 115 = .ok (.invokevirtual 495, 3) := by decide +kernel
theorem dX8_best_118 : decode cX8_best 118 = .ok (.aload_n 0, 1) := by decide +kernel
theorem dX8_best_119 : decode cX8_best 119 = .ok (.dup, 1) := by decide +kernel
theorem dX8_best_120 : decode cX8_best 120 = .ok (.getfield 367, 3) := by decide +kernel
theorem dX8_best_123 : decode cX8_best 123 = .ok (.iconst 1, 1) := by decide +kernel
theorem dX8_best_124 : decode cX8_best 124 = .ok (.iadd, 1) := by decide +kernel
theorem dX8_best_125 : decode cX8_best 125 = .ok (.putfield 367, 3) := by decide +kernel
theorem dX8_best_128 : decode cX8_best 128 = .ok (.goto (-26), 3) := by decide +kernel
theorem dX8_best_131 : decode cX8_best 131 = .ok (.iload_n 1, 1) := by decide +kernel
theorem dX8_best_132 : decode cX8_best 132 = .ok (.iconst 2, 1) := by decide +kernel
theorem dX8_best_133 : decode cX8_best 133 = .ok (.if_icmp .ne 13, 3) := by decide +kernel
theorem dX8_best_136 : decode cX8_best 136 = .ok (.aload_n 0, 1) := by decide +kernel
theorem dX8_best_137 : decode cX8_best 137 = .ok (.iconst 0, 1) := by decide +kernel
theorem dX8_best_138 : decode cX8_best 138 = .ok (.putfield 364, 3) := by decide +kernel
theorem dX8_best_141 : decode cX8_best 141 = .ok (.aload_n 0, 1) := by decide +kernel
theorem dX8_best_142 : decode cX8_best 142 = .ok (.iconst (-1), 1) := by decide +kernel
theorem dX8_best_143 : decode cX8_best 143 = .ok (.invokevirtual 495, 3) := by decide +kernel
theorem dX8_best_146 : decode cX8_best 146 = .ok (.aload_n 0, 1) := by decide +kernel
theorem dX8_best_147 : decode cX8_best 147 = .ok (.getfield 486, 3) := by decide +kernel
theorem dX8_best_150 : decode cX8_best 150 = .ok (.ifCond .ne 7, 3) := by decide +kernel
theorem dX8_best_153 : decode cX8_best 153 = .ok (.iconst (-1), 1) := by decide +kernel
theorem dX8_best_154 : decode cX8_best 154 = .ok (.goto 18, 3) := by decide +kernel
theorem dX8_best_157 : decode cX8_best 157 = .ok (.iload_n 2, 1) := by decide +kernel
theorem dX8_best_158 : decode cX8_best 158 = .ok (.ifCond .ne 10, 3) := by decide +kernel
theorem dX8_best_161 : decode cX8_best 161 = .ok (.aload_n 0, 1) := by decide +kernel
theorem dX8_best_162 : decode cX8_best 162 = .ok (.getfield 492, 3) := by decide +kernel
theorem dX8_best_165 : decode cX8_best 165 = .ok (.goto 7, 3) := by decide +kernel
theorem dX8_best_168 : decode cX8_best 168 = .ok (.aload_n 0, 1) := by decide +kernel
theorem dX8_best_169 : decode cX8_best 169 = .ok (.getfield 489, 3) := by decide +kernel
theorem dX8_best_172 : decode cX8_best 172 = .ok (.ireturn, 1) := by decide +kernel
theorem dX8_cost_0 : decode cX8_cost 0 = .ok (.aload_n 0, 1) := by decide +kernel
theorem dX8_cost_1 : decode cX8_cost 1 = .ok (.iconst 0, 1) := by decide +kernel
theorem dX8_cost_2 : decode cX8_cost 2 = .ok (.putfield 159, 3) := by decide +kernel
theorem dX8_cost_5 : decode cX8_cost 5 = .ok (.aload_n 0, 1) := by decide +kernel
theorem dX8_cost_6 : decode cX8_cost 6 = .ok (.invokevirtual 469, 3) := by decide +kernel
theorem dX8_cost_9 : decode cX8_cost 9 = .ok (.aload_n 0, 1) := by decide +kernel
theorem dX8_cost_10 : decode cX8_cost 10 = .ok (.iload_n 1, 1) := by decide +kernel
theorem dX8_cost_11 : decode cX8_cost 11 = .ok (.ifCond .eq 7, 3) := by decide +kernel
theorem dX8_cost_14 : decode cX8_cost 14 = .ok (.iconst 1, 1) := by decide +kernel
theorem dX8_cost_15 : decode cX8_cost 15 = .ok (.goto 4, 3) := by decide +kernel
theorem dX8_cost_18 : decode cX8_cost 18 = .ok (.iconst 0, 1) := by decide +kernel
theorem dX8_cost_19 : decode cX8_cost 19 = .ok (.putfield 369, 3) := by decide +kernel
theorem dX8_cost_22 : decode cX8_cost 22 = .ok (.aload_n 0, 1) := by decide +kernel
theorem dX8_cost_23 : decode cX8_cost 23 = .ok (.invokevirtual 472, 3) := by decide +kernel
theorem dX8_cost_26 : decode cX8_cost 26 = .ok (.ireturn, 1) := by decide +kernel
theorem dX8_glass_0 : decode cX8_glass 0 = .ok (.aload_n 0, 1) := by decide +kernel
theorem dX8_glass_1 : decode cX8_glass 1 = .ok (.iconst 0, 1) := by decide +kernel
theorem dX8_glass_2 : decode cX8_glass 2 = .ok (.putfield 159, 3) := by decide +kernel
theorem dX8_glass_5 : decode cX8_glass 5 = .ok (.iload_n 1, 1) := by decide +kernel
theorem dX8_glass_6 : decode cX8_glass 6 = .ok (.ifCond .lt 8, 3) := by decide +kernel
theorem dX8_glass_9 : decode cX8_glass 9 = .ok (.iload_n 1, 1) := by decide +kernel
theorem dX8_glass_10 : decode cX8_glass 10 = .ok (.iconst 1, 1) := by decide +kernel
theorem dX8_glass_11 : decode cX8_glass 11 = .ok (.if_icmp .le 9, 3) := by decide +kernel
theorem dX8_glass_14 : decode cX8_glass 14 = .ok (.aload_n 0, 1) := by decide +kernel
theorem dX8_glass_15 : decode cX8_glass 15 = .ok (.iconst 1, 1) := by decide +kernel
theorem dX8_glass_16 : decode cX8_glass 16 = .ok (.invokevirtual 310, 3) := by decide +kernel
theorem dX8_glass_19 : decode cX8_glass 19 = .ok (.ireturn, 1) := by decide +kernel
theorem dX8_glass_20 : decode cX8_glass 20 = .ok (.aload_n 0, 1) := by decide +kernel
theorem dX8_glass_21 : decode cX8_glass 21 = .ok (.invokevirtual 469, 3) := by decide +kernel
theorem dX8_glass_24 : decode cX8_glass 24 = .ok (.aload_n 0, 1) := by decide +kernel
theorem dX8_glass_25 : decode cX8_glass 25 = .ok (.iconst 0, 1) := by decide +kernel
theorem dX8_glass_26 : decode cX8_glass 26 = .ok (.putfield 486, 3) := by decide +kernel
theorem dX8_glass_29 : decode cX8_glass 29 = .ok (.aload_n 0, 1) := by decide +kernel
theorem dX8_glass_30 : decode cX8_glass 30 = .ok (.iconst (-1), 1) := by decide +kernel
theorem dX8_glass_31 : decode cX8_glass 31 = .ok (.invokevirtual 495, 3) := by decide +kernel
theorem dX8_glass_34 : decode cX8_glass 34 = .ok (.iconst 0, 1) := by decide +kernel
theorem dX8_glass_35 : decode cX8_glass 35 = .ok (.istore_n 2, 1) := by decide +kernel
theorem dX8_glass_36 : decode cX8_glass 36 = .ok (.iload_n 2, 1) := by decide +kernel
theorem dX8_glass_37 : decode cX8_glass 37 = .ok (.aload_n 0, 1) := by decide +kernel
theorem dX8_glass_38 : decode cX8_glass 38 = .ok (.getfield 40, 3) := by decide +kernel
theorem dX8_glass_41 : decode cX8_glass 41 = .ok (.iconst 0, 1) := by decide +kernel
theorem dX8_glass_42 : decode cX8_glass 42 = .ok (.iaload, 1) := by decide +kernel
theorem dX8_glass_43 : decode cX8_glass 43 = .ok (.if_icmp .ge 93, 3) := by decide +kernel
theorem dX8_glass_46 : decode cX8_glass 46 = .ok (.aload_n 0, 1) := by decide +kernel
theorem dX8_glass_47 : decode cX8_glass 47 = .ok (.getfield 332, 3) := by decide +kernel
theorem dX8_glass_50 : decode cX8_glass 50 = .ok (.bipush 6, 2) := by decide +kernel
theorem dX8_glass_52 : decode cX8_glass 52 = .ok (.if_icmp .ge 84, 3) := by decide +kernel
theorem dX8_glass_55 : decode cX8_glass 55 = .ok (.iconst 0, 1) := by decide +kernel
theorem dX8_glass_56 : decode cX8_glass 56 = .ok (.istore_n 3, 1) := by decide +kernel
theorem dX8_glass_57 : decode cX8_glass 57 = .ok (.iload_n 3, 1) := by decide +kernel
theorem dX8_glass_58 : decode cX8_glass 58 = .ok (.aload_n 0, 1) := by decide +kernel
theorem dX8_glass_59 : decode cX8_glass 59 = .ok (.getfield 40, 3) := by decide +kernel
theorem dX8_glass_62 : decode cX8_glass 62 = .ok (.iconst 0, 1) := by decide +kernel
theorem dX8_glass_63 : decode cX8_glass 63 = .ok (.iaload, 1) := by decide +kernel
theorem dX8_glass_64 : decode cX8_glass 64 = .ok (.if_icmp .ge 66, 3) := by decide +kernel
theorem dX8_glass_67 : decode cX8_glass 67 = .ok (.iload_n 2, 1) := by decide +kernel
theorem dX8_glass_68 : decode cX8_glass 68 = .ok (.iload_n 3, 1) := by decide +kernel
theorem dX8_glass_69 : decode cX8_glass 69 = .ok (.if_icmp .eq 55, 3) := by decide +kernel
theorem dX8_glass_72 : decode cX8_glass 72 = .ok (.aload_n 0, 1) := by decide +kernel
theorem dX8_glass_73 : decode cX8_glass 73 = .ok (.getfield 52, 3) := by decide +kernel
theorem dX8_glass_76 : decode cX8_glass 76 = .ok (.iload_n 2, 1) := by decide +kernel
theorem dX8_glass_77 : decode cX8_glass 77 = .ok (.iaload, 1) := by decide +kernel
theorem dX8_glass_78 : decode cX8_glass 78 = .ok (.iload_n 3, 1) := by decide +kernel
theorem dX8_glass_79 : decode cX8_glass 79 = .ok (.invokestatic 383, 3) := by decide +kernel
theorem dX8_glass_82 : decode cX8_glass 82 = .ok (.ifCond .eq 6, 3) := by decide +kernel
theorem dX8_glass_85 : decode cX8_glass 85 = .ok (.goto 39, 3) := by decide +kernel
theorem dX8_glass_88 : decode cX8_glass 88 = .ok (.aload_n 0, 1) := by decide +kernel
theorem dX8_glass_89 : decode cX8_glass 89 = .ok (.getfield 52, 3) := by decide +kernel
theorem dX8_glass_92 : decode cX8_glass 92 = .ok (.iload_n 2, 1) := by decide +kernel
theorem dX8_glass_93 : decode cX8_glass 93 = .ok (.dup2, 1) := by decide +kernel
theorem dX8_glass_94 : decode cX8_glass 94 = .ok (.iaload, 1) := by decide +kernel
theorem dX8_glass_95 : decode cX8_glass 95 = .ok (.iconst 1, 1) := by decide +kernel
theorem dX8_glass_96 : decode cX8_glass 96 = .ok (.iload_n 3, 1) := by decide +kernel
theorem dX8_glass_97 : decode cX8_glass 97 = .ok (.ishl, 1) := by decide +kernel
theorem dX8_glass_98 : decode cX8_glass 98 = .ok (.ior, 1) := by decide +kernel
theorem dX8_glass_99 : decode cX8_glass 99 = .ok (.iastore, 1) := by decide +kernel
theorem dX8_glass_100 : decode cX8_glass 100 = .ok (.aload_n 0, 1) := by decide +kernel
theorem dX8_glass_101 : decode cX8_glass 101 = .ok (.bipush 10, 2) := by decide +kernel
theorem dX8_glass_103 : decode cX8_glass 103 = .ok (.iload_n 2, 1) := by decide +kernel
theorem dX8_glass_104 : decode cX8_glass 104 = .ok (.imul, 1) := by decide +kernel
theorem dX8_glass_105 : decode cX8_glass 105 = .ok (.iload_n 3, 1) := by decide +kernel
theorem dX8_glass_106 : decode cX8_glass 106 = .ok (.iadd, 1) := by decide +kernel
theorem dX8_glass_107 : decode cX8_glass 107 = .ok (.invokevirtual 495, 3) := by decide +kernel
theorem dX8_glass_110 : decode cX8_glass 110 = .ok (.aload_n 0, 1) := by decide +kernel
theorem dX8_glass_111 : decode cX8_glass 111 = .ok (.getfield 52, 3) := by decide +kernel
theorem dX8_glass_114 : decode cX8_glass 114 = .ok (.iload_n 2, 1) := by decide +kernel
theorem dX8_glass_115 : decode cX8_glass 115 = .ok (.dup2, 1) := by decide +kernel
theorem dX8_glass_116 : decode cX8_glass 116 = .ok (.iaload, 1) := by decide +kernel
theorem dX8_glass_117 : decode cX8_glass 117 = .ok (.iconst 1, 1) := by decide +kernel
theorem dX8_glass_118 : decode cX8_glass 118 = .ok (.iload_n 3, 1) := by decide +kernel
theorem dX8_glass_119 : decode cX8_glass 119 = .ok (.ishl, 1) := by decide +kernel
theorem dX8_glass_120 : decode cX8_glass 120 = .ok (.iconst (-1), 1) := by decide +kernel
theorem dX8_glass_121 : decode cX8_glass 121 = .ok (.ixor, 1) := by decide +kernel
theorem dX8_glass_122 : decode cX8_glass 122 = .ok (.iand, 1) := by decide +kernel
theorem dX8_glass_123 : decode cX8_glass 123 = .ok (.iastore, 1) := by decide +kernel
theorem dX8_glass_124 : decode cX8_glass 124 = .ok (.iinc 3 1, 3) := by decide +kernel
theorem dX8_glass_127 : decode cX8_glass 127 = .ok (.goto (-70), 3) := by decide +kernel
theorem dX8_glass_130 : decode cX8_glass 130 = .ok (.iinc 2 1, 3) := by decide +kernel
theorem dX8_glass_133 : decode cX8_glass 133 = .ok (.goto (-97), 3) := by decide +kernel
theorem dX8_glass_136 : decode cX8_glass 136 = .ok (.aload_n 0, 1) := by decide +kernel
theorem dX8_glass_137 : decode cX8_glass 137 = .ok (.getfield 492, 3) := by decide +kernel
theorem dX8_glass_140 : decode cX8_glass 140 = .ok (.iconst (-1), 1) := by decide +kernel
theorem dX8_glass_141 : decode cX8_glass 141 = .ok (.if_icmp .ne 7, 3) := by decide +kernel
theorem dX8_glass_144 : decode cX8_glass 144 = .ok (.iconst (-1), 1) := by decide +kernel
theorem dX8_glass_145 : decode cX8_glass 145 = .ok (.goto 18, 3) := by decide +kernel
theorem dX8_glass_148 : decode cX8_glass 148 = .ok (.iload_n 1, 1) := by decide +kernel
theorem dX8_glass_149 : decode cX8_glass 149 = .ok (.ifCond .ne 10, 3) := by decide +kernel
theorem dX8_glass_152 : decode cX8_glass 152 = .ok (.aload_n 0, 1) := by decide +kernel
theorem dX8_glass_153 : decode cX8_glass 153 = .ok (.getfield 492, 3) := by decide +kernel
theorem dX8_glass_156 : decode cX8_glass 156 = .ok (.goto 7, 3) := by decide +kernel
theorem dX8_glass_159 : decode cX8_glass 159 = .ok (.aload_n 0, 1) := by decide +kernel
theorem dX8_glass_160 : decode cX8_glass 160 = .ok (.getfield 489, 3) := by decide +kernel
theorem dX8_glass_163 : decode cX8_glass 163 = .ok (.ireturn, 1) := by decide +kernel
theorem dX8_layOn_0 : decode cX8_layOn 0 = .ok (.iload_n 1, 1) := by decide +kernel
theorem dX8_layOn_1 : decode cX8_layOn 1 = .ok (.aload_n 0, 1) := by decide +kernel
theorem dX8_layOn_2 : decode cX8_layOn 2 = .ok (.getfield 40, 3) := by decide +kernel
theorem dX8_layOn_5 : decode cX8_layOn 5 = .ok (.iconst 0, 1) := by decide +kernel
theorem dX8_layOn_6 : decode cX8_layOn 6 = .ok (.iaload, 1) := by decide +kernel
theorem dX8_layOn_7 : decode cX8_layOn 7 = .ok (.if_icmp .ge 66, 3) := by decide +kernel
theorem dX8_layOn_10 : decode cX8_layOn 10 = .ok (.iconst 0, 1) := by decide +kernel
theorem dX8_layOn_11 : decode cX8_layOn 11 = .ok (.istore_n 3, 1) := by decide +kernel
theorem dX8_layOn_12 : decode cX8_layOn 12 = .ok (.iload_n 3, 1) := by decide +kernel
theorem dX8_layOn_13 : decode cX8_layOn 13 = .ok (.aload_n 0, 1) := by decide +kernel
theorem dX8_layOn_14 : decode cX8_layOn 14 = .ok (.getfield 40, 3) := by decide +kernel
theorem dX8_layOn_17 : decode cX8_layOn 17 = .ok (.iconst 0, 1) := by decide +kernel
theorem dX8_layOn_18 : decode cX8_layOn 18 = .ok (.iaload, 1) := by decide +kernel
theorem dX8_layOn_19 : decode cX8_layOn 19 = .ok (.if_icmp .ge 53, 3) := by decide +kernel
theorem dX8_layOn_22 : decode cX8_layOn 22 = .ok (.iload_n 2, 1) := by decide +kernel
theorem dX8_layOn_23 : decode cX8_layOn 23 = .ok (.iload_n 3, 1) := by decide +kernel
theorem dX8_layOn_24 : decode cX8_layOn 24 = .ok (.invokestatic 383, 3) := by decide +kernel
theorem dX8_layOn_27 : decode cX8_layOn 27 = .ok (.ifCond .ne 6, 3) := by decide +kernel
theorem dX8_layOn_30 : decode cX8_layOn 30 = .ok (.goto 36, 3) := by decide +kernel
theorem dX8_layOn_33 : decode cX8_layOn 33 = .ok (.aload_n 0, 1) := by decide +kernel
theorem dX8_layOn_34 : decode cX8_layOn 34 = .ok (.getfield 117, 3) := by decide +kernel
theorem dX8_layOn_37 : decode cX8_layOn 37 = .ok (.iload_n 1, 1) := by decide +kernel
theorem dX8_layOn_38 : decode cX8_layOn 38 = .ok (.iload_n 3, 1) := by decide +kernel
theorem dX8_layOn_39 : decode cX8_layOn 39 = .ok (.iastore, 1) := by decide +kernel
theorem dX8_layOn_40 : decode cX8_layOn 40 = .ok (.aload_n 0, 1) := by decide +kernel
theorem dX8_layOn_41 : decode cX8_layOn 41 = .ok (.getfield 102, 3) := by decide +kernel
theorem dX8_layOn_44 : decode cX8_layOn 44 = .ok (.iload_n 1, 1) := by decide +kernel
theorem dX8_layOn_45 : decode cX8_layOn 45 = .ok (.aload_n 0, 1) := by decide +kernel
theorem dX8_layOn_46 : decode cX8_layOn 46 = .ok (.getfield 44, 3) := by decide +kernel
theorem dX8_layOn_49 : decode cX8_layOn 49 = .ok (.iload_n 3, 1) := by decide +kernel
theorem dX8_layOn_50 : decode cX8_layOn 50 = .ok (.iaload, 1) := by decide +kernel
theorem dX8_layOn_51 : decode cX8_layOn 51 = .ok (.iastore, 1) := by decide +kernel
theorem dX8_layOn_52 : decode cX8_layOn 52 = .ok (.aload_n 0, 1) := by decide +kernel
theorem dX8_layOn_53 : decode cX8_layOn 53 = .ok (.iload_n 1, 1) := by decide +kernel
theorem dX8_layOn_54 : decode cX8_layOn 54 = .ok (.iconst 1, 1) := by decide +kernel
theorem dX8_layOn_55 : decode cX8_layOn 55 = .ok (.iadd, 1) := by decide +kernel
theorem dX8_layOn_56 : decode cX8_layOn 56 = .ok (.iload_n 2, 1) := by decide +kernel
theorem dX8_layOn_57 : decode cX8_layOn 57 = .ok (.iconst 1, 1) := by decide +kernel
theorem dX8_layOn_58 : decode cX8_layOn 58 = .ok (.iload_n 3, 1) := by decide +kernel
theorem dX8_layOn_59 : decode cX8_layOn 59 = .ok (.ishl, 1) := by decide +kernel
theorem dX8_layOn_60 : decode cX8_layOn 60 = .ok (.iconst (-1), 1) := by decide +kernel
theorem dX8_layOn_61 : decode cX8_layOn 61 = .ok (.ixor, 1) := by decide +kernel
theorem dX8_layOn_62 : decode cX8_layOn 62 = .ok (.iand, 1) := by decide +kernel
theorem dX8_layOn_63 : decode cX8_layOn 63 = .ok (.invokevirtual 498, 3) := by decide +kernel
theorem dX8_layOn_66 : decode cX8_layOn 66 = .ok (.iinc 3 1, 3) := by decide +kernel
theorem dX8_layOn_69 : decode cX8_layOn 69 = .ok (.goto (-57), 3) := by decide +kernel
theorem dX8_layOn_72 : decode cX8_layOn 72 = .ok (.return_, 1) := by decide +kernel
theorem dX8_layOn_73 : decode cX8_layOn 73 = .ok (.aload_n 0, 1) := by decide +kernel
theorem dX8_layOn_74 : decode cX8_layOn 74 = .ok (.getfield 486, 3) := by decide +kernel
theorem dX8_layOn_77 : decode cX8_layOn 77 = .ok (.istore_n 3, 1) := by decide +kernel
theorem dX8_layOn_78 : decode cX8_layOn 78 = .ok (.aload_n 0, 1) := by decide +kernel
theorem dX8_layOn_79 : decode cX8_layOn 79 = .ok (.getfield 489, 3) := by decide +kernel
theorem dX8_layOn_82 : decode cX8_layOn 82 = .ok (.istore 4, 2) := by decide +kernel
theorem dX8_layOn_84 : decode cX8_layOn 84 = .ok (.aload_n 0, 1) := by decide +kernel
theorem dX8_layOn_85 : decode cX8_layOn 85 = .ok (.iconst 0, 1) := by decide +kernel
theorem dX8_layOn_86 : decode cX8_layOn 86 = .ok (.invokevirtual 495, 3) := by decide +kernel
theorem dX8_layOn_89 : decode cX8_layOn 89 = .ok (.iload_n 3, 1) := by decide +kernel
theorem dX8_layOn_90 : decode cX8_layOn 90 = .ok (.ifCond .eq 13, 3) := by decide +kernel
theorem dX8_layOn_93 : decode cX8_layOn 93 = .ok (.aload_n 0, 1) := by decide +kernel
theorem dX8_layOn_94 : decode cX8_layOn 94 = .ok (.getfield 489, 3) := by decide +kernel
theorem dX8_layOn_97 : decode cX8_layOn 97 = .ok (.iload 4, 2) := by decide +kernel
theorem dX8_layOn_99 : decode cX8_layOn 99 = .ok (.if_icmp .ne 4, 3) := by decide +kernel
theorem dX8_layOn_102 : decode cX8_layOn 102 = .ok (.return_, 1) := by decide +kernel
theorem dX8_layOn_103 : decode cX8_layOn 103 = .ok (.iconst 0, 1) := by decide +kernel
theorem dX8_layOn_104 : decode cX8_layOn 104 = .ok (.istore 5, 2) := by decide +kernel
theorem dX8_layOn_106 : decode cX8_layOn 106 = .ok (.iload 5, 2) := by decide +kernel
theorem dX8_layOn_108 : decode cX8_layOn 108 = .ok (.aload_n 0, 1) := by decide +kernel
theorem dX8_layOn_109 : decode cX8_layOn 109 = .ok (.getfield 40, 3) := by decide +kernel
theorem dX8_layOn_112 : decode cX8_layOn 112 = .ok (.iconst 0, 1) := by decide +kernel
theorem dX8_layOn_113 : decode cX8_layOn 113 = .ok (.iaload, 1) := by decide +kernel
theorem dX8_layOn_114 : decode cX8_layOn 114 = .ok (.if_icmp .ge 23, 3) := by decide +kernel
theorem dX8_layOn_117 : decode cX8_layOn 117 = .ok (.aload_n 0, 1) := by decide +kernel
theorem dX8_layOn_118 : decode cX8_layOn 118 = .ok (.getfield 120, 3) := by decide +kernel
theorem dX8_layOn_121 : decode cX8_layOn 121 = .ok (.iload 5, 2) := by decide +kernel
theorem dX8_layOn_123 : decode cX8_layOn 123 = .ok (.aload_n 0, 1) := by decide +kernel
theorem dX8_layOn_124 : decode cX8_layOn 124 = .ok (.getfield 117, 3) := by decide +kernel
theorem dX8_layOn_127 : decode cX8_layOn 127 = .ok (.iload 5, 2) := by decide +kernel
theorem dX8_layOn_129 : decode cX8_layOn 129 = .ok (.iaload, 1) := by decide +kernel
theorem dX8_layOn_130 : decode cX8_layOn 130 = .ok (.iastore, 1) := by decide +kernel
theorem dX8_layOn_131 : decode cX8_layOn 131 = .ok (.iinc 5 1, 3) := by decide +kernel
theorem dX8_layOn_134 : decode cX8_layOn 134 = .ok (.goto (-28), 3) := by decide +kernel
theorem dX8_layOn_137 : decode cX8_layOn 137 = .ok (.return_, 1) := by decide +kernel
theorem dX8_lay_0 : decode cX8_lay 0 = .ok (.aload_n 0, 1) := by decide +kernel
theorem dX8_lay_1 : decode cX8_lay 1 = .ok (.iconst 0, 1) := by decide +kernel
theorem dX8_lay_2 : decode cX8_lay 2 = .ok (.putfield 159, 3) := by decide +kernel
theorem dX8_lay_5 : decode cX8_lay 5 = .ok (.aload_n 0, 1) := by decide +kernel
theorem dX8_lay_6 : decode cX8_lay 6 = .ok (.getfield 40, 3) := by decide +kernel
theorem dX8_lay_9 : decode cX8_lay 9 = .ok (.iconst 0, 1) := by decide +kernel
theorem dX8_lay_10 : decode cX8_lay 10 = .ok (.iaload, 1) := by decide +kernel
theorem dX8_lay_11 : decode cX8_lay 11 = .ok (.iconst 5, 1) := by decide +kernel
theorem dX8_lay_12 : decode cX8_lay 12 = .ok (.if_icmp .le 6, 3) := by decide +kernel
theorem dX8_lay_15 : decode cX8_lay 15 = .ok (.bipush (-2), 2) := by decide +kernel
theorem dX8_lay_17 : decode cX8_lay 17 = .ok (.ireturn, 1) := by decide +kernel
theorem dX8_lay_18 : decode cX8_lay 18 = .ok (.aload_n 0, 1) := by decide +kernel
theorem dX8_lay_19 : decode cX8_lay 19 = .ok (.invokevirtual 469, 3) := by decide +kernel
theorem dX8_lay_22 : decode cX8_lay 22 = .ok (.aload_n 0, 1) := by decide +kernel
theorem dX8_lay_23 : decode cX8_lay 23 = .ok (.iconst 0, 1) := by decide +kernel
theorem dX8_lay_24 : decode cX8_lay 24 = .ok (.putfield 486, 3) := by decide +kernel
theorem dX8_lay_27 : decode cX8_lay 27 = .ok (.aload_n 0, 1) := by decide +kernel
theorem dX8_lay_28 : decode cX8_lay 28 = .ok (.iconst 0, 1) := by decide +kernel
theorem dX8_lay_29 : decode cX8_lay 29 = .ok (.iconst 1, 1) := by decide +kernel
theorem dX8_lay_30 : decode cX8_lay 30 = .ok (.aload_n 0, 1) := by decide +kernel
theorem dX8_lay_31 : decode cX8_lay 31 = .ok (.getfield 40, 3) := by decide +kernel
theorem dX8_lay_34 : decode cX8_lay 34 = .ok (.iconst 0, 1) := by decide +kernel
theorem dX8_lay_35 : decode cX8_lay 35 = .ok (.iaload, 1) := by decide +kernel
theorem dX8_lay_36 : decode cX8_lay 36 = .ok (.ishl, 1) := by decide +kernel
theorem dX8_lay_37 : decode cX8_lay 37 = .ok (.iconst 1, 1) := by decide +kernel
theorem dX8_lay_38 : decode cX8_lay 38 = .ok (.isub, 1) := by decide +kernel
theorem dX8_lay_39 : decode cX8_lay 39 = .ok (.invokevirtual 498, 3) := by decide +kernel
theorem dX8_lay_42 : decode cX8_lay 42 = .ok (.aload_n 0, 1) := by decide +kernel
theorem dX8_lay_43 : decode cX8_lay 43 = .ok (.iconst 1, 1) := by decide +kernel
theorem dX8_lay_44 : decode cX8_lay 44 = .ok (.putfield 347, 3) := by decide +kernel
theorem dX8_lay_47 : decode cX8_lay 47 = .ok (.aload_n 0, 1) := by decide +kernel
theorem dX8_lay_48 : decode cX8_lay 48 = .ok (.getfield 489, 3) := by decide +kernel
theorem dX8_lay_51 : decode cX8_lay 51 = .ok (.ireturn, 1) := by decide +kernel
theorem dX8_laid_0 : decode cX8_laid 0 = .ok (.aload_n 0, 1) := by decide +kernel
theorem dX8_laid_1 : decode cX8_laid 1 = .ok (.iconst 0, 1) := by decide +kernel
theorem dX8_laid_2 : decode cX8_laid 2 = .ok (.putfield 159, 3) := by decide +kernel
theorem dX8_laid_5 : decode cX8_laid 5 = .ok (.aload_n 0, 1) := by decide +kernel
theorem dX8_laid_6 : decode cX8_laid 6 = .ok (.iload_n 1, 1) := by decide +kernel
theorem dX8_laid_7 : decode cX8_laid 7 = .ok (.invokevirtual 357, 3) := by decide +kernel
theorem dX8_laid_10 : decode cX8_laid 10 = .ok (.ifCond .eq 19, 3) := by decide +kernel
theorem dX8_laid_13 : decode cX8_laid 13 = .ok (.aload_n 0, 1) := by decide +kernel
theorem dX8_laid_14 : decode cX8_laid 14 = .ok (.getfield 347, 3) := by decide +kernel
theorem dX8_laid_17 : decode cX8_laid 17 = .ok (.ifCond .eq 12, 3) := by decide +kernel
theorem dX8_laid_20 : decode cX8_laid 20 = .ok (.aload_n 0, 1) := by decide +kernel
theorem dX8_laid_21 : decode cX8_laid 21 = .ok (.getfield 120, 3) := by decide +kernel
theorem dX8_laid_24 : decode cX8_laid 24 = .ok (.iload_n 1, 1) := by decide +kernel
theorem dX8_laid_25 : decode cX8_laid 25 = .ok (.iaload, 1) := by decide +kernel
theorem dX8_laid_26 : decode cX8_laid 26 = .ok (.goto 8, 3) := by decide +kernel
theorem dX8_laid_29 : decode cX8_laid 29 = .ok (.aload_n 0, 1) := by decide +kernel
theorem dX8_laid_30 : decode cX8_laid 30 = .ok (.iconst 1, 1) := by decide +kernel
theorem dX8_laid_31 : decode cX8_laid 31 = .ok (.invokevirtual 310, 3) := by decide +kernel
theorem dX8_laid_34 : decode cX8_laid 34 = .ok (.ireturn, 1) := by decide +kernel
theorem dX8_without_0 : decode cX8_without 0 = .ok (.aload_n 0, 1) := by decide +kernel
theorem dX8_without_1 : decode cX8_without 1 = .ok (.iconst 0, 1) := by decide +kernel
theorem dX8_without_2 : decode cX8_without 2 = .ok (.putfield 159, 3) := by decide +kernel
theorem dX8_without_5 : decode cX8_without 5 = .ok (.aload_n 0, 1) := by decide +kernel
theorem dX8_without_6 : decode cX8_without 6 = .ok (.iload_n 1, 1) := by decide +kernel
theorem dX8_without_7 : decode cX8_without 7 = .ok (.invokevirtual 448, 3) := by decide +kernel
theorem dX8_without_10 : decode cX8_without 10 = .ok (.ifCond .ne 9, 3) := by decide +kernel
theorem dX8_without_13 : decode cX8_without 13 = .ok (.aload_n 0, 1) := by decide +kernel
theorem dX8_without_14 : decode cX8_without 14 = .ok (.iconst 1, 1) := by decide +kernel
theorem dX8_without_15 : decode cX8_without 15 = .ok (.invokevirtual 310, 3) := by decide +kernel
theorem dX8_without_18 : decode cX8_without 18 = .ok (.ireturn, 1) := by decide +kernel
theorem dX8_without_19 : decode cX8_without 19 = .ok (.aload_n 0, 1) := by decide +kernel
theorem dX8_without_20 : decode cX8_without 20 = .ok (.invokevirtual 469, 3) := by decide +kernel
theorem dX8_without_23 : decode cX8_without 23 = .ok (.aload_n 0, 1) := by decide +kernel
theorem dX8_without_24 : decode cX8_without 24 = .ok (.dup, 1) := by decide +kernel
theorem dX8_without_25 : decode cX8_without 25 = .ok (.getfield 375, 3) := by decide +kernel
theorem dX8_without_28 : decode cX8_without 28 = .ok (.iconst 1, 1) := by decide +kernel
theorem dX8_without_29 : decode cX8_without 29 = .ok (.iload_n 1, 1) := by decide +kernel
theorem dX8_without_30 : decode cX8_without 30 = .ok (.ishl, 1) := by decide +kernel
theorem dX8_without_31 : decode cX8_without 31 = .ok (.iconst (-1), 1) := by decide +kernel
theorem dX8_without_32 : decode cX8_without 32 = .ok (.ixor, 1) := by decide +kernel
theorem dX8_without_33 : decode cX8_without 33 = .ok (.iand, 1) := by decide +kernel
theorem dX8_without_34 : decode cX8_without 34 = .ok (.putfield 375, 3) := by decide +kernel
theorem dX8_without_37 : decode cX8_without 37 = .ok (.aload_n 0, 1) := by decide +kernel
theorem dX8_without_38 : decode cX8_without 38 = .ok (.invokevirtual 472, 3) := by decide +kernel
theorem dX8_without_41 : decode cX8_without 41 = .ok (.ireturn, 1) := by decide +kernel
theorem dX8_sign_0 : decode cX8_sign 0 = .ok (.aload_n 0, 1) := by decide +kernel
theorem dX8_sign_1 : decode cX8_sign 1 = .ok (.iconst 0, 1) := by decide +kernel
theorem dX8_sign_2 : decode cX8_sign 2 = .ok (.putfield 159, 3) := by decide +kernel
theorem dX8_sign_5 : decode cX8_sign 5 = .ok (.aload_n 0, 1) := by decide +kernel
theorem dX8_sign_6 : decode cX8_sign 6 = .ok (.getfield 341, 3) := by decide +kernel
theorem dX8_sign_9 : decode cX8_sign 9 = .ok (.bipush 12, 2) := by decide +kernel
theorem dX8_sign_11 : decode cX8_sign 11 = .ok (.if_icmp .eq 15, 3) := by decide +kernel
theorem dX8_sign_14 : decode cX8_sign 14 = .ok (.iload_n 1, 1) := by decide +kernel
theorem dX8_sign_15 : decode cX8_sign 15 = .ok (.i2l, 1) := by decide +kernel
theorem dX8_sign_16 : decode cX8_sign 16 = .ok (.lconst 0, 1) := by decide +kernel
theorem dX8_sign_17 : decode cX8_sign 17 = .ok (.ldc2_w 502, 3) := by decide +kernel
theorem dX8_sign_20 : decode cX8_sign 20 = .ok (.invokestatic 162, 3) := by decide +kernel
theorem dX8_sign_23 : decode cX8_sign 23 = .ok (.ifCond .ne 9, 3) := by decide +kernel
theorem dX8_sign_26 : decode cX8_sign 26 = .ok (.aload_n 0, 1) := by decide +kernel
theorem dX8_sign_27 : decode cX8_sign 27 = .ok (.iconst 2, 1) := by decide +kernel
theorem dX8_sign_28 : decode cX8_sign 28 = .ok (.invokevirtual 462, 3) := by decide +kernel
theorem dX8_sign_31 : decode cX8_sign 31 = .ok (.ireturn, 1) := by decide +kernel
theorem dX8_sign_32 : decode cX8_sign 32 = .ok (.aload_n 0, 1) := by decide +kernel
theorem dX8_sign_33 : decode cX8_sign 33 = .ok (.getfield 123, 3) := by decide +kernel
theorem dX8_sign_36 : decode cX8_sign 36 = .ok (.aload_n 0, 1) := by decide +kernel
theorem dX8_sign_37 : decode cX8_sign 37 = .ok (.getfield 341, 3) := by decide +kernel
theorem dX8_sign_40 : decode cX8_sign 40 = .ok (.iload_n 1, 1) := by decide +kernel
theorem dX8_sign_41 : decode cX8_sign 41 = .ok (.iastore, 1) := by decide +kernel
theorem dX8_sign_42 : decode cX8_sign 42 = .ok (.aload_n 0, 1) := by decide +kernel
theorem dX8_sign_43 : decode cX8_sign 43 = .ok (.getfield 126, 3) := by decide +kernel
theorem dX8_sign_46 : decode cX8_sign 46 = .ok (.aload_n 0, 1) := by decide +kernel
theorem dX8_sign_47 : decode cX8_sign 47 = .ok (.getfield 341, 3) := by decide +kernel
theorem dX8_sign_50 : decode cX8_sign 50 = .ok (.iload_n 2, 1) := by decide +kernel
theorem dX8_sign_51 : decode cX8_sign 51 = .ok (.ifCond .eq 7, 3) := by decide +kernel
theorem dX8_sign_54 : decode cX8_sign 54 = .ok (.iconst 1, 1) := by decide +kernel
theorem dX8_sign_55 : decode cX8_sign 55 = .ok (.goto 4, 3) := by decide +kernel
theorem dX8_sign_58 : decode cX8_sign 58 = .ok (.iconst 0, 1) := by decide +kernel
theorem dX8_sign_59 : decode cX8_sign 59 = .ok (.iastore, 1) := by decide +kernel
theorem dX8_sign_60 : decode cX8_sign 60 = .ok (.aload_n 0, 1) := by decide +kernel
theorem dX8_sign_61 : decode cX8_sign 61 = .ok (.dup, 1) := by decide +kernel
theorem dX8_sign_62 : decode cX8_sign 62 = .ok (.getfield 341, 3) := by decide +kernel
theorem dX8_sign_65 : decode cX8_sign 65 = .ok (.iconst 1, 1) := by decide +kernel
theorem dX8_sign_66 : decode cX8_sign 66 = .ok (.iadd, 1) := by decide +kernel
theorem dX8_sign_67 : decode cX8_sign 67 = .ok (.putfield 341, 3) := by decide +kernel
theorem dX8_sign_70 : decode cX8_sign 70 = .ok (.aload_n 0, 1) := by decide +kernel
theorem dX8_sign_71 : decode cX8_sign 71 = .ok (.getfield 341, 3) := by decide +kernel
theorem dX8_sign_74 : decode cX8_sign 74 = .ok (.ireturn, 1) := by decide +kernel
theorem dX8_signed_0 : decode cX8_signed 0 = .ok (.iconst 0, 1) := by decide +kernel
theorem dX8_signed_1 : decode cX8_signed 1 = .ok (.istore_n 3, 1) := by decide +kernel
theorem dX8_signed_2 : decode cX8_signed 2 = .ok (.iconst 0, 1) := by decide +kernel
theorem dX8_signed_3 : decode cX8_signed 3 = .ok (.istore 4, 2) := by decide +kernel
theorem dX8_signed_5 : decode cX8_signed 5 = .ok (.iload 4, 2) := by decide +kernel
theorem dX8_signed_7 : decode cX8_signed 7 = .ok (.aload_n 0, 1) := by decide +kernel
theorem dX8_signed_8 : decode cX8_signed 8 = .ok (.getfield 341, 3) := by decide +kernel
theorem dX8_signed_11 : decode cX8_signed 11 = .ok (.if_icmp .ge 42, 3) := by decide +kernel
theorem dX8_signed_14 : decode cX8_signed 14 = .ok (.iload_n 3, 1) := by decide +kernel
theorem dX8_signed_15 : decode cX8_signed 15 = .ok (.aload_n 0, 1) := by decide +kernel
theorem dX8_signed_16 : decode cX8_signed 16 = .ok (.getfield 123, 3) := by decide +kernel
theorem dX8_signed_19 : decode cX8_signed 19 = .ok (.iload 4, 2) := by decide +kernel
theorem dX8_signed_21 : decode cX8_signed 21 = .ok (.iaload, 1) := by decide +kernel
theorem dX8_signed_22 : decode cX8_signed 22 = .ok (.iload_n 1, 1) := by decide +kernel
theorem dX8_signed_23 : decode cX8_signed 23 = .ok (.if_icmp .lt 21, 3) := by decide +kernel
theorem dX8_signed_26 : decode cX8_signed 26 = .ok (.iload_n 2, 1) := by decide +kernel
theorem dX8_signed_27 : decode cX8_signed 27 = .ok (.ifCond .eq 7, 3) := by decide +kernel
theorem dX8_signed_30 : decode cX8_signed 30 = .ok (.iconst 1, 1) := by decide +kernel
theorem dX8_signed_31 : decode cX8_signed 31 = .ok (.goto 14, 3) := by decide +kernel
theorem dX8_signed_34 : decode cX8_signed 34 = .ok (.aload_n 0, 1) := by decide +kernel
theorem dX8_signed_35 : decode cX8_signed 35 = .ok (.getfield 126, 3) := by decide +kernel
theorem dX8_signed_38 : decode cX8_signed 38 = .ok (.iload 4, 2) := by decide +kernel
theorem dX8_signed_40 : decode cX8_signed 40 = .ok (.iaload, 1) := by decide +kernel
theorem dX8_signed_41 : decode cX8_signed 41 = .ok (.goto 4, 3) := by decide +kernel
theorem dX8_signed_44 : decode cX8_signed 44 = .ok (.iconst 0, 1) := by decide +kernel
theorem dX8_signed_45 : decode cX8_signed 45 = .ok (.iadd, 1) := by decide +kernel
theorem dX8_signed_46 : decode cX8_signed 46 = .ok (.istore_n 3, 1) := by decide +kernel
theorem dX8_signed_47 : decode cX8_signed 47 = .ok (.iinc 4 1, 3) := by decide +kernel
theorem dX8_signed_50 : decode cX8_signed 50 = .ok (.goto (-45), 3) := by decide +kernel
theorem dX8_signed_53 : decode cX8_signed 53 = .ok (.iload_n 3, 1) := by decide +kernel
theorem dX8_signed_54 : decode cX8_signed 54 = .ok (.ireturn, 1) := by decide +kernel
theorem dX8_common_0 : decode cX8_common 0 = .ok (.iload_n 0, 1) := by decide +kernel
theorem dX8_common_1 : decode cX8_common 1 = .ok (.istore_n 2, 1) := by decide +kernel
theorem dX8_common_2 : decode cX8_common 2 = .ok (.iload_n 1, 1) := by decide +kernel
theorem dX8_common_3 : decode cX8_common 3 = .ok (.istore_n 3, 1) := by decide +kernel
theorem dX8_common_4 : decode cX8_common 4 = .ok (.iload_n 3, 1) := by decide +kernel
theorem dX8_common_5 : decode cX8_common 5 = .ok (.ifCond .eq 16, 3) := by decide +kernel
theorem dX8_common_8 : decode cX8_common 8 = .ok (.iload_n 2, 1) := by decide +kernel
theorem dX8_common_9 : decode cX8_common 9 = .ok (.iload_n 3, 1) := by decide +kernel
theorem dX8_common_10 : decode cX8_common 10 = .ok (.irem, 1) := by decide +kernel
theorem dX8_common_11 : decode cX8_common 11 = .ok (.istore 4, 2) := by decide +kernel
theorem dX8_common_13 : decode cX8_common 13 = .ok (.iload_n 3, 1) := by decide +kernel
theorem dX8_common_14 : decode cX8_common 14 = .ok (.istore_n 2, 1) := by decide +kernel
theorem dX8_common_15 : decode cX8_common 15 = .ok (.iload 4, 2) := by decide +kernel
theorem dX8_common_17 : decode cX8_common 17 = .ok (.istore_n 3, 1) := by decide +kernel
theorem dX8_common_18 : decode cX8_common 18 = .ok (.goto (-14), 3) := by decide +kernel
theorem dX8_common_21 : decode cX8_common 21 = .ok (.iload_n 2, 1) := by decide +kernel
theorem dX8_common_22 : decode cX8_common 22 = .ok (.ireturn, 1) := by decide +kernel
theorem dX8_part_0 : decode cX8_part 0 = .ok (.iload_n 1, 1) := by decide +kernel
theorem dX8_part_1 : decode cX8_part 1 = .ok (.ifCond .ne 5, 3) := by decide +kernel
theorem dX8_part_4 : decode cX8_part 4 = .ok (.iload_n 2, 1) := by decide +kernel
theorem dX8_part_5 : decode cX8_part 5 = .ok (.ireturn, 1) := by decide +kernel
theorem dX8_part_6 : decode cX8_part 6 = .ok (.iload_n 1, 1) := by decide +kernel
theorem dX8_part_7 : decode cX8_part 7 = .ok (.iload_n 0, 1) := by decide +kernel
theorem dX8_part_8 : decode cX8_part 8 = .ok (.invokestatic 504, 3) := by decide +kernel
theorem dX8_part_11 : decode cX8_part 11 = .ok (.istore_n 3, 1) := by decide +kernel
theorem dX8_part_12 : decode cX8_part 12 = .ok (.iload_n 2, 1) := by decide +kernel
theorem dX8_part_13 : decode cX8_part 13 = .ok (.ifCond .ne 9, 3) := by decide +kernel
theorem dX8_part_16 : decode cX8_part 16 = .ok (.iload_n 0, 1) := by decide +kernel
theorem dX8_part_17 : decode cX8_part 17 = .ok (.iload_n 3, 1) := by decide +kernel
theorem dX8_part_18 : decode cX8_part 18 = .ok (.idiv, 1) := by decide +kernel
theorem dX8_part_19 : decode cX8_part 19 = .ok (.goto 6, 3) := by decide +kernel
theorem dX8_part_22 : decode cX8_part 22 = .ok (.iload_n 1, 1) := by decide +kernel
theorem dX8_part_23 : decode cX8_part 23 = .ok (.iload_n 3, 1) := by decide +kernel
theorem dX8_part_24 : decode cX8_part 24 = .ok (.idiv, 1) := by decide +kernel
theorem dX8_part_25 : decode cX8_part 25 = .ok (.ireturn, 1) := by decide +kernel
theorem dX8_odds_0 : decode cX8_odds 0 = .ok (.aload_n 0, 1) := by decide +kernel
theorem dX8_odds_1 : decode cX8_odds 1 = .ok (.iconst 0, 1) := by decide +kernel
theorem dX8_odds_2 : decode cX8_odds 2 = .ok (.putfield 159, 3) := by decide +kernel
theorem dX8_odds_5 : decode cX8_odds 5 = .ok (.iload_n 2, 1) := by decide +kernel
theorem dX8_odds_6 : decode cX8_odds 6 = .ok (.ifCond .lt 8, 3) := by decide +kernel
theorem dX8_odds_9 : decode cX8_odds 9 = .ok (.iload_n 2, 1) := by decide +kernel
theorem dX8_odds_10 : decode cX8_odds 10 = .ok (.iconst 1, 1) := by decide +kernel
theorem dX8_odds_11 : decode cX8_odds 11 = .ok (.if_icmp .le 9, 3) := by decide +kernel
theorem dX8_odds_14 : decode cX8_odds 14 = .ok (.aload_n 0, 1) := by decide +kernel
theorem dX8_odds_15 : decode cX8_odds 15 = .ok (.iconst 1, 1) := by decide +kernel
theorem dX8_odds_16 : decode cX8_odds 16 = .ok (.invokevirtual 310, 3) := by decide +kernel
theorem dX8_odds_19 : decode cX8_odds 19 = .ok (.ireturn, 1) := by decide +kernel
theorem dX8_odds_20 : decode cX8_odds 20 = .ok (.iload_n 1, 1) := by decide +kernel
theorem dX8_odds_21 : decode cX8_odds 21 = .ok (.i2l, 1) := by decide +kernel
theorem dX8_odds_22 : decode cX8_odds 22 = .ok (.lconst 0, 1) := by decide +kernel
theorem dX8_odds_23 : decode cX8_odds 23 = .ok (.ldc2_w 502, 3) := by decide +kernel
theorem dX8_odds_26 : decode cX8_odds 26 = .ok (.invokestatic 162, 3) := by decide +kernel
theorem dX8_odds_29 : decode cX8_odds 29 = .ok (.ifCond .eq 22, 3) := by decide +kernel
theorem dX8_odds_32 : decode cX8_odds 32 = .ok (.aload_n 0, 1) := by decide +kernel
theorem dX8_odds_33 : decode cX8_odds 33 = .ok (.iload_n 1, 1) := by decide +kernel
theorem dX8_odds_34 : decode cX8_odds 34 = .ok (.iconst 0, 1) := by decide +kernel
theorem dX8_odds_35 : decode cX8_odds 35 = .ok (.invokevirtual 507, 3) := by decide +kernel
theorem dX8_odds_38 : decode cX8_odds 38 = .ok (.aload_n 0, 1) := by decide +kernel
theorem dX8_odds_39 : decode cX8_odds 39 = .ok (.iload_n 1, 1) := by decide +kernel
theorem dX8_odds_40 : decode cX8_odds 40 = .ok (.iconst 1, 1) := by decide +kernel
theorem dX8_odds_41 : decode cX8_odds 41 = .ok (.invokevirtual 507, 3) := by decide +kernel
theorem dX8_odds_44 : decode cX8_odds 44 = .ok (.iload_n 2, 1) := by decide +kernel
theorem dX8_odds_45 : decode cX8_odds 45 = .ok (.invokestatic 511, 3) := by decide +kernel
theorem dX8_odds_48 : decode cX8_odds 48 = .ok (.goto 8, 3) := by decide +kernel
theorem dX8_odds_51 : decode cX8_odds 51 = .ok (.aload_n 0, 1) := by decide +kernel
theorem dX8_odds_52 : decode cX8_odds 52 = .ok (.iconst 2, 1) := by decide +kernel
theorem dX8_odds_53 : decode cX8_odds 53 = .ok (.invokevirtual 310, 3) := by decide +kernel
theorem dX8_odds_56 : decode cX8_odds 56 = .ok (.ireturn, 1) := by decide +kernel
theorem dX8_line_0 : decode cX8_line 0 = .ok (.aload_n 0, 1) := by decide +kernel
theorem dX8_line_1 : decode cX8_line 1 = .ok (.iconst 0, 1) := by decide +kernel
theorem dX8_line_2 : decode cX8_line 2 = .ok (.putfield 159, 3) := by decide +kernel
theorem dX8_line_5 : decode cX8_line 5 = .ok (.iconst 0, 1) := by decide +kernel
theorem dX8_line_6 : decode cX8_line 6 = .ok (.istore_n 1, 1) := by decide +kernel
theorem dX8_line_7 : decode cX8_line 7 = .ok (.iload_n 1, 1) := by decide +kernel
theorem dX8_line_8 : decode cX8_line 8 = .ok (.bipush 10, 2) := by decide +kernel
theorem dX8_line_10 : decode cX8_line 10 = .ok (.if_icmp .ge 28, 3) := by decide +kernel
theorem dX8_line_13 : decode cX8_line 13 = .ok (.iconst 2, 1) := by decide +kernel
theorem dX8_line_14 : decode cX8_line 14 = .ok (.aload_n 0, 1) := by decide +kernel
theorem dX8_line_15 : decode cX8_line 15 = .ok (.iload_n 1, 1) := by decide +kernel
theorem dX8_line_16 : decode cX8_line 16 = .ok (.iconst 0, 1) := by decide +kernel
theorem dX8_line_17 : decode cX8_line 17 = .ok (.invokevirtual 507, 3) := by decide +kernel
theorem dX8_line_20 : decode cX8_line 20 = .ok (.imul, 1) := by decide +kernel
theorem dX8_line_21 : decode cX8_line 21 = .ok (.aload_n 0, 1) := by decide +kernel
theorem dX8_line_22 : decode cX8_line 22 = .ok (.iload_n 1, 1) := by decide +kernel
theorem dX8_line_23 : decode cX8_line 23 = .ok (.iconst 1, 1) := by decide +kernel
theorem dX8_line_24 : decode cX8_line 24 = .ok (.invokevirtual 507, 3) := by decide +kernel
theorem dX8_line_27 : decode cX8_line 27 = .ok (.if_icmp .le 5, 3) := by decide +kernel
theorem dX8_line_30 : decode cX8_line 30 = .ok (.iload_n 1, 1) := by decide +kernel
theorem dX8_line_31 : decode cX8_line 31 = .ok (.ireturn, 1) := by decide +kernel
theorem dX8_line_32 : decode cX8_line 32 = .ok (.iinc 1 1, 3) := by decide +kernel
theorem dX8_line_35 : decode cX8_line 35 = .ok (.goto (-28), 3) := by decide +kernel
theorem dX8_line_38 : decode cX8_line 38 = .ok (.iconst (-1), 1) := by decide +kernel
theorem dX8_line_39 : decode cX8_line 39 = .ok (.ireturn, 1) := by decide +kernel
theorem dX8_gate_0 : decode cX8_gate 0 = .ok (.aload_n 0, 1) := by decide +kernel
theorem dX8_gate_1 : decode cX8_gate 1 = .ok (.iconst 0, 1) := by decide +kernel
theorem dX8_gate_2 : decode cX8_gate 2 = .ok (.putfield 159, 3) := by decide +kernel
theorem dX8_gate_5 : decode cX8_gate 5 = .ok (.iload 5, 2) := by decide +kernel
theorem dX8_gate_7 : decode cX8_gate 7 = .ok (.ifCond .lt 9, 3) := by decide +kernel
theorem dX8_gate_10 : decode cX8_gate 10 = .ok (.iload 5, 2) := by decide +kernel
theorem dX8_gate_12 : decode cX8_gate 12 = .ok (.iconst 1, 1) := by decide +kernel
theorem dX8_gate_13 : decode cX8_gate 13 = .ok (.if_icmp .le 9, 3) := by decide +kernel
theorem dX8_gate_16 : decode cX8_gate 16 = .ok (.aload_n 0, 1) := by decide +kernel
theorem dX8_gate_17 : decode cX8_gate 17 = .ok (.iconst 1, 1) := by decide +kernel
theorem dX8_gate_18 : decode cX8_gate 18 = .ok (.invokevirtual 310, 3) := by decide +kernel
theorem dX8_gate_21 : decode cX8_gate 21 = .ok (.ireturn, 1) := by decide +kernel
theorem dX8_gate_22 : decode cX8_gate 22 = .ok (.iload_n 2, 1) := by decide +kernel
theorem dX8_gate_23 : decode cX8_gate 23 = .ok (.i2l, 1) := by decide +kernel
theorem dX8_gate_24 : decode cX8_gate 24 = .ok (.lconst 1, 1) := by decide +kernel
theorem dX8_gate_25 : decode cX8_gate 25 = .ok (.ldc2_w 465, 3) := by decide +kernel
theorem dX8_gate_28 : decode cX8_gate 28 = .ok (.invokestatic 162, 3) := by decide +kernel
theorem dX8_gate_31 : decode cX8_gate 31 = .ok (.ifCond .eq 39, 3) := by decide +kernel
theorem dX8_gate_34 : decode cX8_gate 34 = .ok (.iload_n 1, 1) := by decide +kernel
theorem dX8_gate_35 : decode cX8_gate 35 = .ok (.i2l, 1) := by decide +kernel
theorem dX8_gate_36 : decode cX8_gate 36 = .ok (.lconst 0, 1) := by decide +kernel
theorem dX8_gate_37 : decode cX8_gate 37 = .ok (.iload_n 2, 1) := by decide +kernel
theorem dX8_gate_38 : decode cX8_gate 38 = .ok (.i2l, 1) := by decide +kernel
theorem dX8_gate_39 : decode cX8_gate 39 = .ok (.invokestatic 162, 3) := by decide +kernel
theorem dX8_gate_42 : decode cX8_gate 42 = .ok (.ifCond .eq 28, 3) := by decide +kernel
theorem dX8_gate_45 : decode cX8_gate 45 = .ok (.iload_n 3, 1) := by decide +kernel
theorem dX8_gate_46 : decode cX8_gate 46 = .ok (.i2l, 1) := by decide +kernel
theorem dX8_gate_47 : decode cX8_gate 47 = .ok (.lconst 0, 1) := by decide +kernel
theorem dX8_gate_48 : decode cX8_gate 48 = .ok (.ldc2_w 514, 3) := by decide +kernel
theorem dX8_gate_51 : decode cX8_gate 51 = .ok (.invokestatic 162, 3) := by decide +kernel
theorem dX8_gate_54 : decode cX8_gate 54 = .ok (.ifCond .eq 16, 3) := by decide +kernel
theorem dX8_gate_57 : decode cX8_gate 57 = .ok (.iload 4, 2) := by decide +kernel
theorem dX8_gate_59 : decode cX8_gate 59 = .ok (.i2l, 1) := by decide +kernel
theorem dX8_gate_60 : decode cX8_gate 60 = .ok (.lconst 0, 1) := by decide +kernel
theorem dX8_gate_61 : decode cX8_gate 61 = .ok (.ldc2_w 514, 3) := by decide +kernel
theorem dX8_gate_64 : decode cX8_gate 64 = .ok (.invokestatic 162, 3) := by decide +kernel
theorem dX8_gate_67 : decode cX8_gate 67 = .ok (.ifCond .ne 9, 3) := by decide +kernel
theorem dX8_gate_70 : decode cX8_gate 70 = .ok (.aload_n 0, 1) := by decide +kernel
theorem dX8_gate_71 : decode cX8_gate 71 = .ok (.iconst 2, 1) := by decide +kernel
theorem dX8_gate_72 : decode cX8_gate 72 = .ok (.invokevirtual 310, 3) := by decide +kernel
theorem dX8_gate_75 : decode cX8_gate 75 = .ok (.ireturn, 1) := by decide +kernel
theorem dX8_gate_76 : decode cX8_gate 76 = .ok (.iload_n 1, 1) := by decide +kernel
theorem dX8_gate_77 : decode cX8_gate 77 = .ok (.iload_n 3, 1) := by decide +kernel
theorem dX8_gate_78 : decode cX8_gate 78 = .ok (.imul, 1) := by decide +kernel
theorem dX8_gate_79 : decode cX8_gate 79 = .ok (.iload_n 1, 1) := by decide +kernel
theorem dX8_gate_80 : decode cX8_gate 80 = .ok (.iload_n 3, 1) := by decide +kernel
theorem dX8_gate_81 : decode cX8_gate 81 = .ok (.imul, 1) := by decide +kernel
theorem dX8_gate_82 : decode cX8_gate 82 = .ok (.iload_n 2, 1) := by decide +kernel
theorem dX8_gate_83 : decode cX8_gate 83 = .ok (.iload_n 1, 1) := by decide +kernel
theorem dX8_gate_84 : decode cX8_gate 84 = .ok (.isub, 1) := by decide +kernel
theorem dX8_gate_85 : decode cX8_gate 85 = .ok (.iload 4, 2) := by decide +kernel
theorem dX8_gate_87 : decode cX8_gate 87 = .ok (.imul, 1) := by decide +kernel
theorem dX8_gate_88 : decode cX8_gate 88 = .ok (.iadd, 1) := by decide +kernel
theorem dX8_gate_89 : decode cX8_gate 89 = .ok (.iload 5, 2) := by decide +kernel
theorem dX8_gate_91 : decode cX8_gate 91 = .ok (.invokestatic 511, 3) := by decide +kernel
theorem dX8_gate_94 : decode cX8_gate 94 = .ok (.ireturn, 1) := by decide +kernel
theorem dX8_miss_0 : decode cX8_miss 0 = .ok (.aload_n 0, 1) := by decide +kernel
theorem dX8_miss_1 : decode cX8_miss 1 = .ok (.iconst 0, 1) := by decide +kernel
theorem dX8_miss_2 : decode cX8_miss 2 = .ok (.putfield 159, 3) := by decide +kernel
theorem dX8_miss_5 : decode cX8_miss 5 = .ok (.aload_n 0, 1) := by decide +kernel
theorem dX8_miss_6 : decode cX8_miss 6 = .ok (.getfield 344, 3) := by decide +kernel
theorem dX8_miss_9 : decode cX8_miss 9 = .ok (.bipush 8, 2) := by decide +kernel
theorem dX8_miss_11 : decode cX8_miss 11 = .ok (.if_icmp .eq 18, 3) := by decide +kernel
theorem dX8_miss_14 : decode cX8_miss 14 = .ok (.aload_n 0, 1) := by decide +kernel
theorem dX8_miss_15 : decode cX8_miss 15 = .ok (.iload_n 1, 1) := by decide +kernel
theorem dX8_miss_16 : decode cX8_miss 16 = .ok (.invokevirtual 357, 3) := by decide +kernel
theorem dX8_miss_19 : decode cX8_miss 19 = .ok (.ifCond .eq 10, 3) := by decide +kernel
theorem dX8_miss_22 : decode cX8_miss 22 = .ok (.iload_n 2, 1) := by decide +kernel
theorem dX8_miss_23 : decode cX8_miss 23 = .ok (.invokestatic 483, 3) := by decide +kernel
theorem dX8_miss_26 : decode cX8_miss 26 = .ok (.ifCond .ne 9, 3) := by decide +kernel
theorem dX8_miss_29 : decode cX8_miss 29 = .ok (.aload_n 0, 1) := by decide +kernel
theorem dX8_miss_30 : decode cX8_miss 30 = .ok (.iconst 2, 1) := by decide +kernel
theorem dX8_miss_31 : decode cX8_miss 31 = .ok (.invokevirtual 462, 3) := by decide +kernel
theorem dX8_miss_34 : decode cX8_miss 34 = .ok (.ireturn, 1) := by decide +kernel
theorem dX8_miss_35 : decode cX8_miss 35 = .ok (.aload_n 0, 1) := by decide +kernel
theorem dX8_miss_36 : decode cX8_miss 36 = .ok (.getfield 129, 3) := by decide +kernel
theorem dX8_miss_39 : decode cX8_miss 39 = .ok (.aload_n 0, 1) := by decide +kernel
theorem dX8_miss_40 : decode cX8_miss 40 = .ok (.getfield 344, 3) := by decide +kernel
theorem dX8_miss_43 : decode cX8_miss 43 = .ok (.iload_n 1, 1) := by decide +kernel
theorem dX8_miss_44 : decode cX8_miss 44 = .ok (.iastore, 1) := by decide +kernel
theorem dX8_miss_45 : decode cX8_miss 45 = .ok (.aload_n 0, 1) := by decide +kernel
theorem dX8_miss_46 : decode cX8_miss 46 = .ok (.getfield 132, 3) := by decide +kernel
theorem dX8_miss_49 : decode cX8_miss 49 = .ok (.aload_n 0, 1) := by decide +kernel
theorem dX8_miss_50 : decode cX8_miss 50 = .ok (.getfield 344, 3) := by decide +kernel
theorem dX8_miss_53 : decode cX8_miss 53 = .ok (.iload_n 2, 1) := by decide +kernel
theorem dX8_miss_54 : decode cX8_miss 54 = .ok (.iastore, 1) := by decide +kernel
theorem dX8_miss_55 : decode cX8_miss 55 = .ok (.aload_n 0, 1) := by decide +kernel
theorem dX8_miss_56 : decode cX8_miss 56 = .ok (.dup, 1) := by decide +kernel
theorem dX8_miss_57 : decode cX8_miss 57 = .ok (.getfield 344, 3) := by decide +kernel
theorem dX8_miss_60 : decode cX8_miss 60 = .ok (.iconst 1, 1) := by decide +kernel
theorem dX8_miss_61 : decode cX8_miss 61 = .ok (.iadd, 1) := by decide +kernel
theorem dX8_miss_62 : decode cX8_miss 62 = .ok (.putfield 344, 3) := by decide +kernel
theorem dX8_miss_65 : decode cX8_miss 65 = .ok (.aload_n 0, 1) := by decide +kernel
theorem dX8_miss_66 : decode cX8_miss 66 = .ok (.getfield 344, 3) := by decide +kernel
theorem dX8_miss_69 : decode cX8_miss 69 = .ok (.ireturn, 1) := by decide +kernel
theorem dX8_forget_0 : decode cX8_forget 0 = .ok (.aload_n 0, 1) := by decide +kernel
theorem dX8_forget_1 : decode cX8_forget 1 = .ok (.iconst 0, 1) := by decide +kernel
theorem dX8_forget_2 : decode cX8_forget 2 = .ok (.putfield 159, 3) := by decide +kernel
theorem dX8_forget_5 : decode cX8_forget 5 = .ok (.aload_n 0, 1) := by decide +kernel
theorem dX8_forget_6 : decode cX8_forget 6 = .ok (.iconst 0, 1) := by decide +kernel
theorem dX8_forget_7 : decode cX8_forget 7 = .ok (.putfield 341, 3) := by decide +kernel
theorem dX8_forget_10 : decode cX8_forget 10 = .ok (.aload_n 0, 1) := by decide +kernel
theorem dX8_forget_11 : decode cX8_forget 11 = .ok (.iconst 0, 1) := by decide +kernel
theorem dX8_forget_12 : decode cX8_forget 12 = .ok (.putfield 344, 3) := by decide +kernel
theorem dX8_forget_15 : decode cX8_forget 15 = .ok (.return_, 1) := by decide +kernel
theorem dX8_tellCanHave_0 : decode cX8_tellCanHave 0 = .ok (.iconst 0, 1) := by decide +kernel
theorem dX8_tellCanHave_1 : decode cX8_tellCanHave 1 = .ok (.istore_n 1, 1) := by decide +kernel
theorem dX8_tellCanHave_2 : decode cX8_tellCanHave 2 = .ok (.iload_n 1, 1) := by decide +kernel
theorem dX8_tellCanHave_3 : decode cX8_tellCanHave 3 = .ok (.aload_n 0, 1) := by decide +kernel
theorem dX8_tellCanHave_4 : decode cX8_tellCanHave 4 = .ok (.getfield 344, 3) := by decide +kernel
theorem dX8_tellCanHave_7 : decode cX8_tellCanHave 7 = .ok (.if_icmp .ge 103, 3) := by decide +kernel
theorem dX8_tellCanHave_10 : decode cX8_tellCanHave 10 = .ok (.aload_n 0, 1) := by decide +kernel
theorem dX8_tellCanHave_11 : decode cX8_tellCanHave 11 = .ok (.getfield 135, 3) := by decide +kernel
theorem dX8_tellCanHave_14 : decode cX8_tellCanHave 14 = .ok (.iload_n 1, 1) := by decide +kernel
theorem dX8_tellCanHave_15 : decode cX8_tellCanHave 15 = .ok (.iconst 0, 1) := by decide +kernel
theorem dX8_tellCanHave_16 : decode cX8_tellCanHave 16 = .ok (.iastore, 1) := by decide +kernel
theorem dX8_tellCanHave_17 : decode cX8_tellCanHave 17 = .ok (.iconst 0, 1) := by decide +kernel
theorem dX8_tellCanHave_18 : decode cX8_tellCanHave 18 = .ok (.istore_n 2, 1) := by decide +kernel
theorem dX8_tellCanHave_19 : decode cX8_tellCanHave 19 = .ok (.iload_n 2, 1) := by decide +kernel
theorem dX8_tellCanHave_20 : decode cX8_tellCanHave 20 = .ok (.aload_n 0, 1) := by decide +kernel
theorem dX8_tellCanHave_21 : decode cX8_tellCanHave 21 = .ok (.getfield 40, 3) := by decide +kernel
theorem dX8_tellCanHave_24 : decode cX8_tellCanHave 24 = .ok (.iconst 3, 1) := by decide +kernel
theorem dX8_tellCanHave_25 : decode cX8_tellCanHave 25 = .ok (.iaload, 1) := by decide +kernel
theorem dX8_tellCanHave_26 : decode cX8_tellCanHave 26 = .ok (.if_icmp .ge 78, 3) := by decide +kernel
theorem dX8_tellCanHave_29 : decode cX8_tellCanHave 29 = .ok (.aload_n 0, 1) := by decide +kernel
theorem dX8_tellCanHave_30 : decode cX8_tellCanHave 30 = .ok (.getfield 66, 3) := by decide +kernel
theorem dX8_tellCanHave_33 : decode cX8_tellCanHave 33 = .ok (.iload_n 2, 1) := by decide +kernel
theorem dX8_tellCanHave_34 : decode cX8_tellCanHave 34 = .ok (.iaload, 1) := by decide +kernel
theorem dX8_tellCanHave_35 : decode cX8_tellCanHave 35 = .ok (.aload_n 0, 1) := by decide +kernel
theorem dX8_tellCanHave_36 : decode cX8_tellCanHave 36 = .ok (.iload_n 2, 1) := by decide +kernel
theorem dX8_tellCanHave_37 : decode cX8_tellCanHave 37 = .ok (.aload_n 0, 1) := by decide +kernel
theorem dX8_tellCanHave_38 : decode cX8_tellCanHave 38 = .ok (.getfield 132, 3) := by decide +kernel
theorem dX8_tellCanHave_41 : decode cX8_tellCanHave 41 = .ok (.iload_n 1, 1) := by decide +kernel
theorem dX8_tellCanHave_42 : decode cX8_tellCanHave 42 = .ok (.iaload, 1) := by decide +kernel
theorem dX8_tellCanHave_43 : decode cX8_tellCanHave 43 = .ok (.invokevirtual 410, 3) := by decide +kernel
theorem dX8_tellCanHave_46 : decode cX8_tellCanHave 46 = .ok (.invokestatic 198, 3) := by decide +kernel
theorem dX8_tellCanHave_49 : decode cX8_tellCanHave 49 = .ok (.istore_n 3, 1) := by decide +kernel
theorem dX8_tellCanHave_50 : decode cX8_tellCanHave 50 = .ok (.iconst 0, 1) := by decide +kernel
theorem dX8_tellCanHave_51 : decode cX8_tellCanHave 51 = .ok (.istore 4, 2) := by decide +kernel
theorem dX8_tellCanHave_53 : decode cX8_tellCanHave 53 = .ok (.iload 4, 2) := by decide +kernel
theorem dX8_tellCanHave_55 : decode cX8_tellCanHave 55 = .ok (.iload_n 3, 1) := by decide +kernel
theorem dX8_tellCanHave_56 : decode cX8_tellCanHave 56 = .ok (.if_icmp .ge 42, 3) := by decide +kernel
theorem dX8_tellCanHave_59 : decode cX8_tellCanHave 59 = .ok (.aload_n 0, 1) := by decide +kernel
theorem dX8_tellCanHave_60 : decode cX8_tellCanHave 60 = .ok (.getfield 69, 3) := by decide +kernel
theorem dX8_tellCanHave_63 : decode cX8_tellCanHave 63 = .ok (.bipush 12, 2) := by decide +kernel
theorem dX8_tellCanHave_65 : decode cX8_tellCanHave 65 = .ok (.iload_n 2, 1) := by decide +kernel
theorem dX8_tellCanHave_66 : decode cX8_tellCanHave 66 = .ok (.imul, 1) := by decide +kernel
theorem dX8_tellCanHave_67 : decode cX8_tellCanHave 67 = .ok (.iload 4, 2) := by decide +kernel
theorem dX8_tellCanHave_69 : decode cX8_tellCanHave 69 = .ok (.iadd, 1) := by decide +kernel
theorem dX8_tellCanHave_70 : decode cX8_tellCanHave 70 = .ok (.iaload, 1) := by decide +kernel
theorem dX8_tellCanHave_71 : decode cX8_tellCanHave 71 = .ok (.aload_n 0, 1) := by decide +kernel
theorem dX8_tellCanHave_72 : decode cX8_tellCanHave 72 = .ok (.getfield 129, 3) := by decide +kernel
theorem dX8_tellCanHave_75 : decode cX8_tellCanHave 75 = .ok (.iload_n 1, 1) := by decide +kernel
theorem dX8_tellCanHave_76 : decode cX8_tellCanHave 76 = .ok (.iaload, 1) := by decide +kernel
theorem dX8_tellCanHave_77 : decode cX8_tellCanHave 77 = .ok (.if_icmp .ne 15, 3) := by decide +kernel
theorem dX8_tellCanHave_80 : decode cX8_tellCanHave 80 = .ok (.aload_n 0, 1) := by decide +kernel
theorem dX8_tellCanHave_81 : decode cX8_tellCanHave 81 = .ok (.getfield 135, 3) := by decide +kernel
theorem dX8_tellCanHave_84 : decode cX8_tellCanHave 84 = .ok (.iload_n 1, 1) := by decide +kernel
theorem dX8_tellCanHave_85 : decode cX8_tellCanHave 85 = .ok (.dup2, 1) := by decide +kernel
theorem dX8_tellCanHave_86 : decode cX8_tellCanHave 86 = .ok (.iaload, 1) := by decide +kernel
theorem dX8_tellCanHave_87 : decode cX8_tellCanHave 87 = .ok (.iconst 1, 1) := by decide +kernel
theorem dX8_tellCanHave_88 : decode cX8_tellCanHave 88 = .ok (.iload_n 2, 1) := by decide +kernel
theorem dX8_tellCanHave_89 : decode cX8_tellCanHave 89 = .ok (.ishl, 1) := by decide +kernel
theorem dX8_tellCanHave_90 : decode cX8_tellCanHave 90 = .ok (.ior, 1) := by decide +kernel
theorem dX8_tellCanHave_91 : decode cX8_tellCanHave 91 = .ok (.iastore, 1) := by decide +kernel
theorem dX8_tellCanHave_92 : decode cX8_tellCanHave 92 = .ok (.iinc 4 1, 3) := by decide +kernel
theorem dX8_tellCanHave_95 : decode cX8_tellCanHave 95 = .ok (.goto (-42), 3) := by decide +kernel
theorem dX8_tellCanHave_98 : decode cX8_tellCanHave 98 = .ok (.iinc 2 1, 3) := by decide +kernel
theorem dX8_tellCanHave_101 : decode cX8_tellCanHave 101 = .ok (.goto (-82), 3) := by decide +kernel
theorem dX8_tellCanHave_104 : decode cX8_tellCanHave 104 = .ok (.iinc 1 1, 3) := by decide +kernel
theorem dX8_tellCanHave_107 : decode cX8_tellCanHave 107 = .ok (.goto (-105), 3) := by decide +kernel
theorem dX8_tellCanHave_110 : decode cX8_tellCanHave 110 = .ok (.return_, 1) := by decide +kernel
theorem dX8_who_0 : decode cX8_who 0 = .ok (.aload_n 0, 1) := by decide +kernel
theorem dX8_who_1 : decode cX8_who 1 = .ok (.iconst 0, 1) := by decide +kernel
theorem dX8_who_2 : decode cX8_who 2 = .ok (.putfield 159, 3) := by decide +kernel
theorem dX8_who_5 : decode cX8_who 5 = .ok (.iload_n 1, 1) := by decide +kernel
theorem dX8_who_6 : decode cX8_who 6 = .ok (.i2l, 1) := by decide +kernel
theorem dX8_who_7 : decode cX8_who 7 = .ok (.ldc2_w 516, 3) := by decide +kernel
theorem dX8_who_10 : decode cX8_who 10 = .ok (.aload_n 0, 1) := by decide +kernel
theorem dX8_who_11 : decode cX8_who 11 = .ok (.getfield 344, 3) := by decide +kernel
theorem dX8_who_14 : decode cX8_who 14 = .ok (.iconst 1, 1) := by decide +kernel
theorem dX8_who_15 : decode cX8_who 15 = .ok (.isub, 1) := by decide +kernel
theorem dX8_who_16 : decode cX8_who 16 = .ok (.i2l, 1) := by decide +kernel
theorem dX8_who_17 : decode cX8_who 17 = .ok (.invokestatic 162, 3) := by decide +kernel
theorem dX8_who_20 : decode cX8_who 20 = .ok (.ifCond .ne 9, 3) := by decide +kernel
theorem dX8_who_23 : decode cX8_who 23 = .ok (.aload_n 0, 1) := by decide +kernel
theorem dX8_who_24 : decode cX8_who 24 = .ok (.iconst 1, 1) := by decide +kernel
theorem dX8_who_25 : decode cX8_who 25 = .ok (.invokevirtual 310, 3) := by decide +kernel
theorem dX8_who_28 : decode cX8_who 28 = .ok (.ireturn, 1) := by decide +kernel
theorem dX8_who_29 : decode cX8_who 29 = .ok (.aload_n 0, 1) := by decide +kernel
theorem dX8_who_30 : decode cX8_who 30 = .ok (.invokevirtual 518, 3) := by decide +kernel
theorem dX8_who_33 : decode cX8_who 33 = .ok (.iload_n 1, 1) := by decide +kernel
theorem dX8_who_34 : decode cX8_who 34 = .ok (.iconst (-1), 1) := by decide +kernel
theorem dX8_who_35 : decode cX8_who 35 = .ok (.if_icmp .eq 10, 3) := by decide +kernel
theorem dX8_who_38 : decode cX8_who 38 = .ok (.aload_n 0, 1) := by decide +kernel
theorem dX8_who_39 : decode cX8_who 39 = .ok (.getfield 135, 3) := by decide +kernel
theorem dX8_who_42 : decode cX8_who 42 = .ok (.iload_n 1, 1) := by decide +kernel
theorem dX8_who_43 : decode cX8_who 43 = .ok (.iaload, 1) := by decide +kernel
theorem dX8_who_44 : decode cX8_who 44 = .ok (.ireturn, 1) := by decide +kernel
theorem dX8_who_45 : decode cX8_who 45 = .ok (.iconst (-1), 1) := by decide +kernel
theorem dX8_who_46 : decode cX8_who 46 = .ok (.istore_n 2, 1) := by decide +kernel
theorem dX8_who_47 : decode cX8_who 47 = .ok (.iconst 0, 1) := by decide +kernel
theorem dX8_who_48 : decode cX8_who 48 = .ok (.istore_n 3, 1) := by decide +kernel
theorem dX8_who_49 : decode cX8_who 49 = .ok (.iload_n 3, 1) := by decide +kernel
theorem dX8_who_50 : decode cX8_who 50 = .ok (.iconst 1, 1) := by decide +kernel
theorem dX8_who_51 : decode cX8_who 51 = .ok (.aload_n 0, 1) := by decide +kernel
theorem dX8_who_52 : decode cX8_who 52 = .ok (.getfield 40, 3) := by decide +kernel
theorem dX8_who_55 : decode cX8_who 55 = .ok (.iconst 3, 1) := by decide +kernel
theorem dX8_who_56 : decode cX8_who 56 = .ok (.iaload, 1) := by decide +kernel
theorem dX8_who_57 : decode cX8_who 57 = .ok (.ishl, 1) := by decide +kernel
theorem dX8_who_58 : decode cX8_who 58 = .ok (.if_icmp .ge 81, 3) := by decide +kernel
theorem dX8_who_61 : decode cX8_who 61 = .ok (.iload_n 2, 1) := by decide +kernel
theorem dX8_who_62 : decode cX8_who 62 = .ok (.iconst (-1), 1) := by decide +kernel
theorem dX8_who_63 : decode cX8_who 63 = .ok (.if_icmp .eq 14, 3) := by decide +kernel
theorem dX8_who_66 : decode cX8_who 66 = .ok (.iload_n 3, 1) := by decide +kernel
theorem dX8_who_67 : decode cX8_who 67 = .ok (.invokestatic 480, 3) := by decide +kernel
theorem dX8_who_70 : decode cX8_who 70 = .ok (.iload_n 2, 1) := by decide +kernel
theorem dX8_who_71 : decode cX8_who 71 = .ok (.invokestatic 480, 3) := by decide +kernel
theorem dX8_who_74 : decode cX8_who 74 = .ok (.if_icmp .ge 7, 3) := by decide +kernel
theorem dX8_who_77 : decode cX8_who 77 = .ok (.iconst 1, 1) := by decide +kernel
theorem dX8_who_78 : decode cX8_who 78 = .ok (.goto 4, 3) := by decide +kernel
theorem dX8_who_81 : decode cX8_who 81 = .ok (.iconst 0, 1) := by decide +kernel
theorem dX8_who_82 : decode cX8_who 82 = .ok (.istore 4, 2) := by decide +kernel
theorem dX8_who_84 : decode cX8_who 84 = .ok (.iconst 0, 1) := by decide +kernel
theorem dX8_who_85 : decode cX8_who 85 = .ok (.istore 5, 2) := by decide +kernel
theorem dX8_who_87 : decode cX8_who 87 = .ok (.iload 5, 2) := by decide +kernel
theorem dX8_who_89 : decode cX8_who 89 = .ok (.aload_n 0, 1) := by decide +kernel
theorem dX8_who_90 : decode cX8_who 90 = .ok (.getfield 344, 3) := by decide +kernel
theorem dX8_who_93 : decode cX8_who 93 = .ok (.if_icmp .ge 33, 3) := by decide +kernel
theorem dX8_who_96 : decode cX8_who 96 = .ok (.iload 4, 2) := by decide +kernel
theorem dX8_who_98 : decode cX8_who 98 = .ok (.ifCond .eq 28, 3) := by decide +kernel
theorem dX8_who_101 : decode cX8_who 101 = .ok (.aload_n 0, 1) := by decide +kernel
theorem dX8_who_102 : decode cX8_who 102 = .ok (.getfield 135, 3) := by decide +kernel
theorem dX8_who_105 : decode cX8_who 105 = .ok (.iload 5, 2) := by decide +kernel
theorem dX8_who_107 : decode cX8_who 107 = .ok (.iaload, 1) := by decide +kernel
theorem dX8_who_108 : decode cX8_who 108 = .ok (.iload_n 3, 1) := by decide +kernel
theorem dX8_who_109 : decode cX8_who 109 = .ok (.iand, 1) := by decide +kernel
theorem dX8_who_110 : decode cX8_who 110 = .ok (.ifCond .eq 7, 3) := by decide +kernel
theorem dX8_who_113 : decode cX8_who 113 = .ok (.iconst 1, 1) := by decide +kernel
theorem dX8_who_114 : decode cX8_who 114 = .ok (.goto 4, 3) := by decide +kernel
theorem dX8_who_117 : decode cX8_who 117 = .ok (.iconst 0, 1) := by decide +kernel
theorem dX8_who_118 : decode cX8_who 118 = .ok (.istore 4, 2) := by decide +kernel
theorem dX8_who_120 : decode cX8_who 120 = .ok (.iinc 5 1, 3) := by decide +kernel
theorem dX8_who_123 : decode cX8_who 123 = .ok (.goto (-36), 3) := by decide +kernel
theorem dX8_who_126 : decode cX8_who 126 = .ok (.iload 4, 2) := by decide +kernel
theorem dX8_who_128 : decode cX8_who 128 = .ok (.ifCond .eq 5, 3) := by decide +kernel
theorem dX8_who_131 : decode cX8_who 131 = .ok (.iload_n 3, 1) := by decide +kernel
theorem dX8_who_132 : decode cX8_who 132 = .ok (.istore_n 2, 1) := by decide +kernel
theorem dX8_who_133 : decode cX8_who 133 = .ok (.iinc 3 1, 3) := by decide +kernel
theorem dX8_who_136 : decode cX8_who 136 = .ok (.goto (-87), 3) := by decide +kernel
theorem dX8_who_139 : decode cX8_who 139 = .ok (.iload_n 2, 1) := by decide +kernel
theorem dX8_who_140 : decode cX8_who 140 = .ok (.ireturn, 1) := by decide +kernel
theorem dX8_gain_0 : decode cX8_gain 0 = .ok (.iload_n 2, 1) := by decide +kernel
theorem dX8_gain_1 : decode cX8_gain 1 = .ok (.iload_n 1, 1) := by decide +kernel
theorem dX8_gain_2 : decode cX8_gain 2 = .ok (.if_icmp .eq 16, 3) := by decide +kernel
theorem dX8_gain_5 : decode cX8_gain 5 = .ok (.aload_n 0, 1) := by decide +kernel
theorem dX8_gain_6 : decode cX8_gain 6 = .ok (.getfield 52, 3) := by decide +kernel
theorem dX8_gain_9 : decode cX8_gain 9 = .ok (.iload_n 2, 1) := by decide +kernel
theorem dX8_gain_10 : decode cX8_gain 10 = .ok (.iaload, 1) := by decide +kernel
theorem dX8_gain_11 : decode cX8_gain 11 = .ok (.iload_n 1, 1) := by decide +kernel
theorem dX8_gain_12 : decode cX8_gain 12 = .ok (.invokestatic 383, 3) := by decide +kernel
theorem dX8_gain_15 : decode cX8_gain 15 = .ok (.ifCond .eq 17, 3) := by decide +kernel
theorem dX8_gain_18 : decode cX8_gain 18 = .ok (.aload_n 0, 1) := by decide +kernel
theorem dX8_gain_19 : decode cX8_gain 19 = .ok (.getfield 40, 3) := by decide +kernel
theorem dX8_gain_22 : decode cX8_gain 22 = .ok (.bipush 6, 2) := by decide +kernel
theorem dX8_gain_24 : decode cX8_gain 24 = .ok (.iaload, 1) := by decide +kernel
theorem dX8_gain_25 : decode cX8_gain 25 = .ok (.bipush 10, 2) := by decide +kernel
theorem dX8_gain_27 : decode cX8_gain 27 = .ok (.idiv, 1) := by decide +kernel
theorem dX8_gain_28 : decode cX8_gain 28 = .ok (.ineg, 1) := by decide +kernel
theorem dX8_gain_29 : decode cX8_gain 29 = .ok (.goto 9, 3) := by decide +kernel
theorem dX8_gain_32 : decode cX8_gain 32 = .ok (.aload_n 0, 1) := by decide +kernel
theorem dX8_gain_33 : decode cX8_gain 33 = .ok (.getfield 44, 3) := by decide +kernel
theorem dX8_gain_36 : decode cX8_gain 36 = .ok (.iload_n 1, 1) := by decide +kernel
theorem dX8_gain_37 : decode cX8_gain 37 = .ok (.iaload, 1) := by decide +kernel
theorem dX8_gain_38 : decode cX8_gain 38 = .ok (.ireturn, 1) := by decide +kernel
theorem dX8_mostBy_0 : decode cX8_mostBy 0 = .ok (.aload_n 0, 1) := by decide +kernel
theorem dX8_mostBy_1 : decode cX8_mostBy 1 = .ok (.iconst 0, 1) := by decide +kernel
theorem dX8_mostBy_2 : decode cX8_mostBy 2 = .ok (.iload_n 1, 1) := by decide +kernel
theorem dX8_mostBy_3 : decode cX8_mostBy 3 = .ok (.invokevirtual 521, 3) := by decide +kernel
theorem dX8_mostBy_6 : decode cX8_mostBy 6 = .ok (.istore_n 2, 1) := by decide +kernel
theorem dX8_mostBy_7 : decode cX8_mostBy 7 = .ok (.iconst 1, 1) := by decide +kernel
theorem dX8_mostBy_8 : decode cX8_mostBy 8 = .ok (.istore_n 3, 1) := by decide +kernel
theorem dX8_mostBy_9 : decode cX8_mostBy 9 = .ok (.iload_n 3, 1) := by decide +kernel
theorem dX8_mostBy_10 : decode cX8_mostBy 10 = .ok (.aload_n 0, 1) := by decide +kernel
theorem dX8_mostBy_11 : decode cX8_mostBy 11 = .ok (.getfield 40, 3) := by decide +kernel
theorem dX8_mostBy_14 : decode cX8_mostBy 14 = .ok (.iconst 0, 1) := by decide +kernel
theorem dX8_mostBy_15 : decode cX8_mostBy 15 = .ok (.iaload, 1) := by decide +kernel
theorem dX8_mostBy_16 : decode cX8_mostBy 16 = .ok (.if_icmp .ge 20, 3) := by decide +kernel
theorem dX8_mostBy_19 : decode cX8_mostBy 19 = .ok (.iload_n 2, 1) := by decide +kernel
theorem dX8_mostBy_20 : decode cX8_mostBy 20 = .ok (.aload_n 0, 1) := by decide +kernel
theorem dX8_mostBy_21 : decode cX8_mostBy 21 = .ok (.iload_n 3, 1) := by decide +kernel
theorem dX8_mostBy_22 : decode cX8_mostBy 22 = .ok (.iload_n 1, 1) := by decide +kernel
theorem dX8_mostBy_23 : decode cX8_mostBy 23 = .ok (.invokevirtual 521, 3) := by decide +kernel
theorem dX8_mostBy_26 : decode cX8_mostBy 26 = .ok (.invokestatic 524, 3) := by decide +kernel
theorem dX8_mostBy_29 : decode cX8_mostBy 29 = .ok (.istore_n 2, 1) := by decide +kernel
theorem dX8_mostBy_30 : decode cX8_mostBy 30 = .ok (.iinc 3 1, 3) := by decide +kernel
theorem dX8_mostBy_33 : decode cX8_mostBy 33 = .ok (.goto (-24), 3) := by decide +kernel
theorem dX8_mostBy_36 : decode cX8_mostBy 36 = .ok (.iload_n 2, 1) := by decide +kernel
theorem dX8_mostBy_37 : decode cX8_mostBy 37 = .ok (.ireturn, 1) := by decide +kernel
theorem dX8_rests_0 : decode cX8_rests 0 = .ok (.iconst 0, 1) := by decide +kernel
theorem dX8_rests_1 : decode cX8_rests 1 = .ok (.istore_n 3, 1) := by decide +kernel
theorem dX8_rests_2 : decode cX8_rests 2 = .ok (.iload_n 3, 1) := by decide +kernel
theorem dX8_rests_3 : decode cX8_rests 3 = .ok (.aload_n 0, 1) := by decide +kernel
theorem dX8_rests_4 : decode cX8_rests 4 = .ok (.getfield 40, 3) := by decide +kernel
theorem dX8_rests_7 : decode cX8_rests 7 = .ok (.iconst 0, 1) := by decide +kernel
theorem dX8_rests_8 : decode cX8_rests 8 = .ok (.iaload, 1) := by decide +kernel
theorem dX8_rests_9 : decode cX8_rests 9 = .ok (.if_icmp .ge 41, 3) := by decide +kernel
theorem dX8_rests_12 : decode cX8_rests 12 = .ok (.aload_n 0, 1) := by decide +kernel
theorem dX8_rests_13 : decode cX8_rests 13 = .ok (.iload_n 3, 1) := by decide +kernel
theorem dX8_rests_14 : decode cX8_rests 14 = .ok (.iload_n 2, 1) := by decide +kernel
theorem dX8_rests_15 : decode cX8_rests 15 = .ok (.invokevirtual 521, 3) := by decide +kernel
theorem dX8_rests_18 : decode cX8_rests 18 = .ok (.aload_n 0, 1) := by decide +kernel
theorem dX8_rests_19 : decode cX8_rests 19 = .ok (.iload_n 1, 1) := by decide +kernel
theorem dX8_rests_20 : decode cX8_rests 20 = .ok (.iload_n 2, 1) := by decide +kernel
theorem dX8_rests_21 : decode cX8_rests 21 = .ok (.invokevirtual 521, 3) := by decide +kernel
theorem dX8_rests_24 : decode cX8_rests 24 = .ok (.if_icmp .gt 18, 3) := by decide +kernel
theorem dX8_rests_27 : decode cX8_rests 27 = .ok (.aload_n 0, 1) := by decide +kernel
theorem dX8_rests_28 : decode cX8_rests 28 = .ok (.iload_n 1, 1) := by decide +kernel
theorem dX8_rests_29 : decode cX8_rests 29 = .ok (.iload_n 3, 1) := by decide +kernel
theorem dX8_rests_30 : decode cX8_rests 30 = .ok (.invokevirtual 521, 3) := by decide +kernel
theorem dX8_rests_33 : decode cX8_rests 33 = .ok (.aload_n 0, 1) := by decide +kernel
theorem dX8_rests_34 : decode cX8_rests 34 = .ok (.iload_n 1, 1) := by decide +kernel
theorem dX8_rests_35 : decode cX8_rests 35 = .ok (.iload_n 2, 1) := by decide +kernel
theorem dX8_rests_36 : decode cX8_rests 36 = .ok (.invokevirtual 521, 3) := by decide +kernel
theorem dX8_rests_39 : decode cX8_rests 39 = .ok (.if_icmp .ge 5, 3) := by decide +kernel
theorem dX8_rests_42 : decode cX8_rests 42 = .ok (.iconst 0, 1) := by decide +kernel
theorem dX8_rests_43 : decode cX8_rests 43 = .ok (.ireturn, 1) := by decide +kernel
theorem dX8_rests_44 : decode cX8_rests 44 = .ok (.iinc 3 1, 3) := by decide +kernel
theorem dX8_rests_47 : decode cX8_rests 47 = .ok (.goto (-45), 3) := by decide +kernel
theorem dX8_rests_50 : decode cX8_rests 50 = .ok (.iconst 1, 1) := by decide +kernel
theorem dX8_rests_51 : decode cX8_rests 51 = .ok (.ireturn, 1) := by decide +kernel
theorem dX8_game_0 : decode cX8_game 0 = .ok (.aload_n 0, 1) := by decide +kernel
theorem dX8_game_1 : decode cX8_game 1 = .ok (.iconst 0, 1) := by decide +kernel
theorem dX8_game_2 : decode cX8_game 2 = .ok (.putfield 159, 3) := by decide +kernel
theorem dX8_game_5 : decode cX8_game 5 = .ok (.iload_n 1, 1) := by decide +kernel
theorem dX8_game_6 : decode cX8_game 6 = .ok (.i2l, 1) := by decide +kernel
theorem dX8_game_7 : decode cX8_game 7 = .ok (.lconst 0, 1) := by decide +kernel
theorem dX8_game_8 : decode cX8_game 8 = .ok (.ldc2_w 446, 3) := by decide +kernel
theorem dX8_game_11 : decode cX8_game 11 = .ok (.invokestatic 162, 3) := by decide +kernel
theorem dX8_game_14 : decode cX8_game 14 = .ok (.ifCond .ne 9, 3) := by decide +kernel
theorem dX8_game_17 : decode cX8_game 17 = .ok (.aload_n 0, 1) := by decide +kernel
theorem dX8_game_18 : decode cX8_game 18 = .ok (.iconst 1, 1) := by decide +kernel
theorem dX8_game_19 : decode cX8_game 19 = .ok (.invokevirtual 310, 3) := by decide +kernel
theorem dX8_game_22 : decode cX8_game 22 = .ok (.ireturn, 1) := by decide +kernel
theorem dX8_game_23 : decode cX8_game 23 = .ok (.iconst 0, 1) := by decide +kernel
theorem dX8_game_24 : decode cX8_game 24 = .ok (.istore_n 2, 1) := by decide +kernel
theorem dX8_game_25 : decode cX8_game 25 = .ok (.iconst (-1), 1) := by decide +kernel
theorem dX8_game_26 : decode cX8_game 26 = .ok (.istore_n 3, 1) := by decide +kernel
theorem dX8_game_27 : decode cX8_game 27 = .ok (.iconst (-1), 1) := by decide +kernel
theorem dX8_game_28 : decode cX8_game 28 = .ok (.istore 4, 2) := by decide +kernel
theorem dX8_game_30 : decode cX8_game 30 = .ok (.iconst 0, 1) := by decide +kernel
theorem dX8_game_31 : decode cX8_game 31 = .ok (.istore 5, 2) := by decide +kernel
theorem dX8_game_33 : decode cX8_game 33 = .ok (.iload 5, 2) := by decide +kernel
theorem dX8_game_35 : decode cX8_game 35 = .ok (.aload_n 0, 1) := by decide +kernel
theorem dX8_game_36 : decode cX8_game 36 = .ok (.getfield 40, 3) := by decide +kernel
theorem dX8_game_39 : decode cX8_game 39 = .ok (.iconst 0, 1) := by decide +kernel
theorem dX8_game_40 : decode cX8_game 40 = .ok (.iaload, 1) := by decide +kernel
theorem dX8_game_41 : decode cX8_game 41 = .ok (.if_icmp .ge 89, 3) := by decide +kernel
theorem dX8_game_44 : decode cX8_game 44 = .ok (.iconst 0, 1) := by decide +kernel
theorem dX8_game_45 : decode cX8_game 45 = .ok (.istore 6, 2) := by decide +kernel
theorem dX8_game_47 : decode cX8_game 47 = .ok (.iload 6, 2) := by decide +kernel
theorem dX8_game_49 : decode cX8_game 49 = .ok (.aload_n 0, 1) := by decide +kernel
theorem dX8_game_50 : decode cX8_game 50 = .ok (.getfield 40, 3) := by decide +kernel
theorem dX8_game_53 : decode cX8_game 53 = .ok (.iconst 0, 1) := by decide +kernel
theorem dX8_game_54 : decode cX8_game 54 = .ok (.iaload, 1) := by decide +kernel
theorem dX8_game_55 : decode cX8_game 55 = .ok (.if_icmp .ge 44, 3) := by decide +kernel
theorem dX8_game_58 : decode cX8_game 58 = .ok (.aload_n 0, 1) := by decide +kernel
theorem dX8_game_59 : decode cX8_game 59 = .ok (.iload 5, 2) := by decide +kernel
theorem dX8_game_61 : decode cX8_game 61 = .ok (.iload 6, 2) := by decide +kernel
theorem dX8_game_63 : decode cX8_game 63 = .ok (.invokevirtual 527, 3) := by decide +kernel
theorem dX8_game_66 : decode cX8_game 66 = .ok (.ifCond .ne 6, 3) := by decide +kernel
theorem dX8_game_69 : decode cX8_game 69 = .ok (.goto 24, 3) := by decide +kernel
theorem dX8_game_72 : decode cX8_game 72 = .ok (.iinc 2 1, 3) := by decide +kernel
theorem dX8_game_75 : decode cX8_game 75 = .ok (.iload_n 3, 1) := by decide +kernel
theorem dX8_game_76 : decode cX8_game 76 = .ok (.iconst (-1), 1) := by decide +kernel
theorem dX8_game_77 : decode cX8_game 77 = .ok (.if_icmp .ne 14, 3) := by decide +kernel
theorem dX8_game_80 : decode cX8_game 80 = .ok (.bipush 10, 2) := by decide +kernel
theorem dX8_game_82 : decode cX8_game 82 = .ok (.iload 5, 2) := by decide +kernel
theorem dX8_game_84 : decode cX8_game 84 = .ok (.imul, 1) := by decide +kernel
theorem dX8_game_85 : decode cX8_game 85 = .ok (.iload 6, 2) := by decide +kernel
theorem dX8_game_87 : decode cX8_game 87 = .ok (.iadd, 1) := by decide +kernel
theorem dX8_game_88 : decode cX8_game 88 = .ok (.goto 4, 3) := by decide +kernel
theorem dX8_game_91 : decode cX8_game 91 = .ok (.iload_n 3, 1) := by decide +kernel
theorem dX8_game_92 : decode cX8_game 92 = .ok (.istore_n 3, 1) := by decide +kernel
theorem dX8_game_93 : decode cX8_game 93 = .ok (.iinc 6 1, 3) := by decide +kernel
theorem dX8_game_96 : decode cX8_game 96 = .ok (.goto (-49), 3) := by decide +kernel
theorem dX8_game_99 : decode cX8_game 99 = .ok (.iload 4, 2) := by decide +kernel
theorem dX8_game_101 : decode cX8_game 101 = .ok (.iconst (-1), 1) := by decide +kernel
theorem dX8_game_102 : decode cX8_game 102 = .ok (.if_icmp .eq 18, 3) := by decide +kernel
theorem dX8_game_105 : decode cX8_game 105 = .ok (.aload_n 0, 1) := by decide +kernel
theorem dX8_game_106 : decode cX8_game 106 = .ok (.iload 5, 2) := by decide +kernel
theorem dX8_game_108 : decode cX8_game 108 = .ok (.invokevirtual 530, 3) := by decide +kernel
theorem dX8_game_111 : decode cX8_game 111 = .ok (.aload_n 0, 1) := by decide +kernel
theorem dX8_game_112 : decode cX8_game 112 = .ok (.iload 4, 2) := by decide +kernel
theorem dX8_game_114 : decode cX8_game 114 = .ok (.invokevirtual 530, 3) := by decide +kernel
theorem dX8_game_117 : decode cX8_game 117 = .ok (.if_icmp .ge 7, 3) := by decide +kernel
theorem dX8_game_120 : decode cX8_game 120 = .ok (.iload 5, 2) := by decide +kernel
theorem dX8_game_122 : decode cX8_game 122 = .ok (.istore 4, 2) := by decide +kernel
theorem dX8_game_124 : decode cX8_game 124 = .ok (.iinc 5 1, 3) := by decide +kernel
theorem dX8_game_127 : decode cX8_game 127 = .ok (.goto (-94), 3) := by decide +kernel
theorem dX8_game_130 : decode cX8_game 130 = .ok (.iload_n 1, 1) := by decide +kernel
theorem dX8_game_131 : decode cX8_game 131 = .ok (.ifCond .ne 7, 3) := by decide +kernel
theorem dX8_game_134 : decode cX8_game 134 = .ok (.iload_n 2, 1) := by decide +kernel
theorem dX8_game_135 : decode cX8_game 135 = .ok (.goto 34, 3) := by decide +kernel
theorem dX8_game_138 : decode cX8_game 138 = .ok (.iload_n 1, 1) := by decide +kernel
theorem dX8_game_139 : decode cX8_game 139 = .ok (.iconst 1, 1) := by decide +kernel
theorem dX8_game_140 : decode cX8_game 140 = .ok (.if_icmp .ne 7, 3) := by decide +kernel
theorem dX8_game_143 : decode cX8_game 143 = .ok (.iload_n 3, 1) := by decide +kernel
theorem dX8_game_144 : decode cX8_game 144 = .ok (.goto 25, 3) := by decide +kernel
theorem dX8_game_147 : decode cX8_game 147 = .ok (.iload_n 1, 1) := by decide +kernel
theorem dX8_game_148 : decode cX8_game 148 = .ok (.iconst 2, 1) := by decide +kernel
theorem dX8_game_149 : decode cX8_game 149 = .ok (.if_icmp .eq 9, 3) := by decide +kernel
theorem dX8_game_152 : decode cX8_game 152 = .ok (.iload 4, 2) := by decide +kernel
theorem dX8_game_154 : decode cX8_game 154 = .ok (.iconst (-1), 1) := by decide +kernel
theorem dX8_game_155 : decode cX8_game 155 = .ok (.if_icmp .ne 8, 3) := by decide +kernel
theorem dX8_game_158 : decode cX8_game 158 = .ok (.iload 4, 2) := by decide +kernel
theorem dX8_game_160 : decode cX8_game 160 = .ok (.goto 9, 3) := by decide +kernel
theorem dX8_game_163 : decode cX8_game 163 = .ok (.aload_n 0, 1) := by decide +kernel
theorem dX8_game_164 : decode cX8_game 164 = .ok (.iload 4, 2) := by decide +kernel
theorem dX8_game_166 : decode cX8_game 166 = .ok (.invokevirtual 530, 3) := by decide +kernel
theorem dX8_game_169 : decode cX8_game 169 = .ok (.ireturn, 1) := by decide +kernel
theorem dX8_drawOf_0 : decode cX8_drawOf 0 = .ok (.aload_n 0, 1) := by decide +kernel
theorem dX8_drawOf_1 : decode cX8_drawOf 1 = .ok (.aload_n 0, 1) := by decide +kernel
theorem dX8_drawOf_2 : decode cX8_drawOf 2 = .ok (.getfield 533, 3) := by decide +kernel
theorem dX8_drawOf_5 : decode cX8_drawOf 5 = .ok (.ldc_w 536, 3) := by decide +kernel
theorem dX8_drawOf_8 : decode cX8_drawOf 8 = .ok (.imul, 1) := by decide +kernel
theorem dX8_drawOf_9 : decode cX8_drawOf 9 = .ok (.sipush 12345, 3) := by decide +kernel
theorem dX8_drawOf_12 : decode cX8_drawOf 12 = .ok (.iadd, 1) := by decide +kernel
theorem dX8_drawOf_13 : decode cX8_drawOf 13 = .ok (.putfield 533, 3) := by decide +kernel
theorem dX8_drawOf_16 : decode cX8_drawOf 16 = .ok (.aload_n 0, 1) := by decide +kernel
theorem dX8_drawOf_17 : decode cX8_drawOf 17 = .ok (.getfield 533, 3) := by decide +kernel
theorem dX8_drawOf_20 : decode cX8_drawOf 20 = .ok (.bipush 16, 2) := by decide +kernel
theorem dX8_drawOf_22 : decode cX8_drawOf 22 = .ok (.ishr, 1) := by decide +kernel
theorem dX8_drawOf_23 : decode cX8_drawOf 23 = .ok (.sipush 32767, 3) := by decide +kernel
theorem dX8_drawOf_26 : decode cX8_drawOf 26 = .ok (.iand, 1) := by decide +kernel
theorem dX8_drawOf_27 : decode cX8_drawOf 27 = .ok (.iload_n 1, 1) := by decide +kernel
theorem dX8_drawOf_28 : decode cX8_drawOf 28 = .ok (.irem, 1) := by decide +kernel
theorem dX8_drawOf_29 : decode cX8_drawOf 29 = .ok (.ireturn, 1) := by decide +kernel
theorem dX8_weeks_0 : decode cX8_weeks 0 = .ok (.aload_n 0, 1) := by decide +kernel
theorem dX8_weeks_1 : decode cX8_weeks 1 = .ok (.iconst 0, 1) := by decide +kernel
theorem dX8_weeks_2 : decode cX8_weeks 2 = .ok (.putfield 159, 3) := by decide +kernel
theorem dX8_weeks_5 : decode cX8_weeks 5 = .ok (.iload_n 3, 1) := by decide +kernel
theorem dX8_weeks_6 : decode cX8_weeks 6 = .ok (.i2l, 1) := by decide +kernel
theorem dX8_weeks_7 : decode cX8_weeks 7 = .ok (.lconst 0, 1) := by decide +kernel
theorem dX8_weeks_8 : decode cX8_weeks 8 = .ok (.ldc2_w 460, 3) := by decide +kernel
theorem dX8_weeks_11 : decode cX8_weeks 11 = .ok (.invokestatic 162, 3) := by decide +kernel
theorem dX8_weeks_14 : decode cX8_weeks 14 = .ok (.ifCond .ne 9, 3) := by decide +kernel
theorem dX8_weeks_17 : decode cX8_weeks 17 = .ok (.aload_n 0, 1) := by decide +kernel
theorem dX8_weeks_18 : decode cX8_weeks 18 = .ok (.iconst 1, 1) := by decide +kernel
theorem dX8_weeks_19 : decode cX8_weeks 19 = .ok (.invokevirtual 310, 3) := by decide +kernel
theorem dX8_weeks_22 : decode cX8_weeks 22 = .ok (.ireturn, 1) := by decide +kernel
theorem dX8_weeks_23 : decode cX8_weeks 23 = .ok (.iload_n 2, 1) := by decide +kernel
theorem dX8_weeks_24 : decode cX8_weeks 24 = .ok (.i2l, 1) := by decide +kernel
theorem dX8_weeks_25 : decode cX8_weeks 25 = .ok (.lconst 0, 1) := by decide +kernel
theorem dX8_weeks_26 : decode cX8_weeks 26 = .ok (.ldc2_w 467, 3) := by decide +kernel
theorem dX8_weeks_29 : decode cX8_weeks 29 = .ok (.invokestatic 162, 3) := by decide +kernel
theorem dX8_weeks_32 : decode cX8_weeks 32 = .ok (.ifCond .ne 9, 3) := by decide +kernel
theorem dX8_weeks_35 : decode cX8_weeks 35 = .ok (.aload_n 0, 1) := by decide +kernel
theorem dX8_weeks_36 : decode cX8_weeks 36 = .ok (.iconst 2, 1) := by decide +kernel
theorem dX8_weeks_37 : decode cX8_weeks 37 = .ok (.invokevirtual 310, 3) := by decide +kernel
theorem dX8_weeks_40 : decode cX8_weeks 40 = .ok (.ireturn, 1) := by decide +kernel
theorem dX8_weeks_41 : decode cX8_weeks 41 = .ok (.aload_n 0, 1) := by decide +kernel
theorem dX8_weeks_42 : decode cX8_weeks 42 = .ok (.invokevirtual 469, 3) := by decide +kernel
theorem dX8_weeks_45 : decode cX8_weeks 45 = .ok (.aload_n 0, 1) := by decide +kernel
theorem dX8_weeks_46 : decode cX8_weeks 46 = .ok (.iload_n 1, 1) := by decide +kernel
theorem dX8_weeks_47 : decode cX8_weeks 47 = .ok (.putfield 533, 3) := by decide +kernel
theorem dX8_weeks_50 : decode cX8_weeks 50 = .ok (.iconst 0, 1) := by decide +kernel
theorem dX8_weeks_51 : decode cX8_weeks 51 = .ok (.istore 4, 2) := by decide +kernel
theorem dX8_weeks_53 : decode cX8_weeks 53 = .ok (.iconst 0, 1) := by decide +kernel
theorem dX8_weeks_54 : decode cX8_weeks 54 = .ok (.istore 5, 2) := by decide +kernel
theorem dX8_weeks_56 : decode cX8_weeks 56 = .ok (.iconst 0, 1) := by decide +kernel
theorem dX8_weeks_57 : decode cX8_weeks 57 = .ok (.istore 6, 2) := by decide +kernel
theorem dX8_weeks_59 : decode cX8_weeks 59 = .ok (.iconst 0, 1) := by decide +kernel
theorem dX8_weeks_60 : decode cX8_weeks 60 = .ok (.istore 7, 2) := by decide +kernel
theorem dX8_weeks_62 : decode cX8_weeks 62 = .ok (.iload 7, 2) := by decide +kernel
theorem dX8_weeks_64 : decode cX8_weeks 64 = .ok (.iload_n 2, 1) := by decide +kernel
theorem dX8_weeks_65 : decode cX8_weeks 65 = .ok (.if_icmp .ge 82, 3) := by decide +kernel
theorem dX8_weeks_68 : decode cX8_weeks 68 = .ok (.aload_n 0, 1) := by decide +kernel
theorem dX8_weeks_69 : decode cX8_weeks 69 = .ok (.iconst 0, 1) := by decide +kernel
theorem dX8_weeks_70 : decode cX8_weeks 70 = .ok (.putfield 375, 3) := by decide +kernel
theorem dX8_weeks_73 : decode cX8_weeks 73 = .ok (.iconst 0, 1) := by decide +kernel
theorem dX8_weeks_74 : decode cX8_weeks 74 = .ok (.istore 8, 2) := by decide +kernel
theorem dX8_weeks_76 : decode cX8_weeks 76 = .ok (.iload 8, 2) := by decide +kernel
theorem dX8_weeks_78 : decode cX8_weeks 78 = .ok (.aload_n 0, 1) := by decide +kernel
theorem dX8_weeks_79 : decode cX8_weeks 79 = .ok (.getfield 40, 3) := by decide +kernel
theorem dX8_weeks_82 : decode cX8_weeks 82 = .ok (.iconst 3, 1) := by decide +kernel
theorem dX8_weeks_83 : decode cX8_weeks 83 = .ok (.iaload, 1) := by decide +kernel
theorem dX8_weeks_84 : decode cX8_weeks 84 = .ok (.if_icmp .ge 26, 3) := by decide +kernel
theorem dX8_weeks_87 : decode cX8_weeks 87 = .ok (.aload_n 0, 1) := by decide +kernel
theorem dX8_weeks_88 : decode cX8_weeks 88 = .ok (.dup, 1) := by decide +kernel
theorem dX8_weeks_89 : decode cX8_weeks 89 = .ok (.getfield 375, 3) := by decide +kernel
theorem dX8_weeks_92 : decode cX8_weeks 92 = .ok (.aload_n 0, 1) := by decide +kernel
theorem dX8_weeks_93 : decode cX8_weeks 93 = .ok (.iconst 2, 1) := by decide +kernel
theorem dX8_weeks_94 : decode cX8_weeks 94 = .ok (.invokevirtual 537, 3) := by decide +kernel
theorem dX8_weeks_97 : decode cX8_weeks 97 = .ok (.iload 8, 2) := by decide +kernel
theorem dX8_weeks_99 : decode cX8_weeks 99 = .ok (.ishl, 1) := by decide +kernel
theorem dX8_weeks_100 : decode cX8_weeks 100 = .ok (.ior, 1) := by decide +kernel
theorem dX8_weeks_101 : decode cX8_weeks 101 = .ok (.putfield 375, 3) := by decide +kernel
theorem dX8_weeks_104 : decode cX8_weeks 104 = .ok (.iinc 8 1, 3) := by decide +kernel
theorem dX8_weeks_107 : decode cX8_weeks 107 = .ok (.goto (-31), 3) := by decide +kernel
theorem dX8_weeks_110 : decode cX8_weeks 110 = .ok (.aload_n 0, 1) := by decide +kernel
theorem dX8_weeks_111 : decode cX8_weeks 111 = .ok (.invokevirtual 472, 3) := by decide +kernel
theorem dX8_weeks_114 : decode cX8_weeks 114 = .ok (.istore 8, 2) := by decide +kernel
theorem dX8_weeks_116 : decode cX8_weeks 116 = .ok (.iload 4, 2) := by decide +kernel
theorem dX8_weeks_118 : decode cX8_weeks 118 = .ok (.iload 8, 2) := by decide +kernel
theorem dX8_weeks_120 : decode cX8_weeks 120 = .ok (.iadd, 1) := by decide +kernel
theorem dX8_weeks_121 : decode cX8_weeks 121 = .ok (.istore 4, 2) := by decide +kernel
theorem dX8_weeks_123 : decode cX8_weeks 123 = .ok (.iload 5, 2) := by decide +kernel
theorem dX8_weeks_125 : decode cX8_weeks 125 = .ok (.iload 8, 2) := by decide +kernel
theorem dX8_weeks_127 : decode cX8_weeks 127 = .ok (.invokestatic 524, 3) := by decide +kernel
theorem dX8_weeks_130 : decode cX8_weeks 130 = .ok (.istore 5, 2) := by decide +kernel
theorem dX8_weeks_132 : decode cX8_weeks 132 = .ok (.iload 6, 2) := by decide +kernel
theorem dX8_weeks_134 : decode cX8_weeks 134 = .ok (.aload_n 0, 1) := by decide +kernel
theorem dX8_weeks_135 : decode cX8_weeks 135 = .ok (.getfield 401, 3) := by decide +kernel
theorem dX8_weeks_138 : decode cX8_weeks 138 = .ok (.iadd, 1) := by decide +kernel
theorem dX8_weeks_139 : decode cX8_weeks 139 = .ok (.istore 6, 2) := by decide +kernel
theorem dX8_weeks_141 : decode cX8_weeks 141 = .ok (.iinc 7 1, 3) := by decide +kernel
theorem dX8_weeks_144 : decode cX8_weeks 144 = .ok (.goto (-82), 3) := by decide +kernel
theorem dX8_weeks_147 : decode cX8_weeks 147 = .ok (.iload_n 3, 1) := by decide +kernel
theorem dX8_weeks_148 : decode cX8_weeks 148 = .ok (.ifCond .ne 8, 3) := by decide +kernel
theorem dX8_weeks_151 : decode cX8_weeks 151 = .ok (.iload 4, 2) := by decide +kernel
theorem dX8_weeks_153 : decode cX8_weeks 153 = .ok (.goto 15, 3) := by decide +kernel
theorem dX8_weeks_156 : decode cX8_weeks 156 = .ok (.iload_n 3, 1) := by decide +kernel
theorem dX8_weeks_157 : decode cX8_weeks 157 = .ok (.iconst 1, 1) := by decide +kernel
theorem dX8_weeks_158 : decode cX8_weeks 158 = .ok (.if_icmp .ne 8, 3) := by decide +kernel
theorem dX8_weeks_161 : decode cX8_weeks 161 = .ok (.iload 5, 2) := by decide +kernel
theorem dX8_weeks_163 : decode cX8_weeks 163 = .ok (.goto 5, 3) := by decide +kernel
theorem dX8_weeks_166 : decode cX8_weeks 166 = .ok (.iload 6, 2) := by decide +kernel
theorem dX8_weeks_168 : decode cX8_weeks 168 = .ok (.ireturn, 1) := by decide +kernel
theorem dX8_be_0 : decode cX8_be 0 = .ok (.iconst 0, 1) := by decide +kernel
theorem dX8_be_1 : decode cX8_be 1 = .ok (.istore_n 2, 1) := by decide +kernel
theorem dX8_be_2 : decode cX8_be 2 = .ok (.iload_n 2, 1) := by decide +kernel
theorem dX8_be_3 : decode cX8_be 3 = .ok (.aload_n 0, 1) := by decide +kernel
theorem dX8_be_4 : decode cX8_be 4 = .ok (.arraylength, 1) := by decide +kernel
theorem dX8_be_5 : decode cX8_be 5 = .ok (.if_icmp .ge 15, 3) := by decide +kernel
theorem dX8_be_8 : decode cX8_be 8 = .ok (.aload_n 0, 1) := by decide +kernel
theorem dX8_be_9 : decode cX8_be 9 = .ok (.iload_n 2, 1) := by decide +kernel
theorem dX8_be_10 : decode cX8_be 10 = .ok (.aload_n 1, 1) := by decide +kernel
theorem dX8_be_11 : decode cX8_be 11 = .ok (.iload_n 2, 1) := by decide +kernel
theorem dX8_be_12 : decode cX8_be 12 = .ok (.iaload, 1) := by decide +kernel
theorem dX8_be_13 : decode cX8_be 13 = .ok (.iastore, 1) := by decide +kernel
theorem dX8_be_14 : decode cX8_be 14 = .ok (.iinc 2 1, 3) := by decide +kernel
theorem dX8_be_17 : decode cX8_be 17 = .ok (.goto (-15), 3) := by decide +kernel
theorem dX8_be_20 : decode cX8_be 20 = .ok (.return_, 1) := by decide +kernel
theorem dX8_image_0 : decode cX8_image 0 = .ok (.aload_n 0, 1) := by decide +kernel
theorem dX8_image_1 : decode cX8_image 1 = .ok (.iconst 0, 1) := by decide +kernel
theorem dX8_image_2 : decode cX8_image 2 = .ok (.putfield 159, 3) := by decide +kernel
theorem dX8_image_5 : decode cX8_image 5 = .ok (.aload_n 0, 1) := by decide +kernel
theorem dX8_image_6 : decode cX8_image 6 = .ok (.iconst 1, 1) := by decide +kernel
theorem dX8_image_7 : decode cX8_image 7 = .ok (.putfield 351, 3) := by decide +kernel
theorem dX8_image_10 : decode cX8_image 10 = .ok (.aload_n 0, 1) := by decide +kernel
theorem dX8_image_11 : decode cX8_image 11 = .ok (.aload_n 0, 1) := by decide +kernel
theorem dX8_image_12 : decode cX8_image 12 = .ok (.getfield 338, 3) := by decide +kernel
theorem dX8_image_15 : decode cX8_image 15 = .ok (.putfield 540, 3) := by decide +kernel
theorem dX8_image_18 : decode cX8_image 18 = .ok (.aload_n 0, 1) := by decide +kernel
theorem dX8_image_19 : decode cX8_image 19 = .ok (.aload_n 0, 1) := by decide +kernel
theorem dX8_image_20 : decode cX8_image 20 = .ok (.getfield 341, 3) := by decide +kernel
theorem dX8_image_23 : decode cX8_image 23 = .ok (.putfield 543, 3) := by decide +kernel
theorem dX8_image_26 : decode cX8_image 26 = .ok (.aload_n 0, 1) := by decide +kernel
theorem dX8_image_27 : decode cX8_image 27 = .ok (.aload_n 0, 1) := by decide +kernel
theorem dX8_image_28 : decode cX8_image 28 = .ok (.getfield 344, 3) := by decide +kernel
theorem dX8_image_31 : decode cX8_image 31 = .ok (.putfield 546, 3) := by decide +kernel
theorem dX8_image_34 : decode cX8_image 34 = .ok (.aload_n 0, 1) := by decide +kernel
theorem dX8_image_35 : decode cX8_image 35 = .ok (.aload_n 0, 1) := by decide +kernel
theorem dX8_image_36 : decode cX8_image 36 = .ok (.getfield 138, 3) := by decide +kernel
theorem dX8_image_39 : decode cX8_image 39 = .ok (.iconst 0, 1) := by decide +kernel
theorem dX8_image_40 : decode cX8_image 40 = .ok (.invokevirtual 453, 3) := by decide +kernel
theorem dX8_image_43 : decode cX8_image 43 = .ok (.aload_n 0, 1) := by decide +kernel
theorem dX8_image_44 : decode cX8_image 44 = .ok (.getfield 141, 3) := by decide +kernel
theorem dX8_image_47 : decode cX8_image 47 = .ok (.aload_n 0, 1) := by decide +kernel
theorem dX8_image_48 : decode cX8_image 48 = .ok (.getfield 93, 3) := by decide +kernel
theorem dX8_image_51 : decode cX8_image 51 = .ok (.invokestatic 549, 3) := by decide +kernel
theorem dX8_image_54 : decode cX8_image 54 = .ok (.aload_n 0, 1) := by decide +kernel
theorem dX8_image_55 : decode cX8_image 55 = .ok (.getfield 144, 3) := by decide +kernel
theorem dX8_image_58 : decode cX8_image 58 = .ok (.aload_n 0, 1) := by decide +kernel
theorem dX8_image_59 : decode cX8_image 59 = .ok (.getfield 123, 3) := by decide +kernel
theorem dX8_image_62 : decode cX8_image 62 = .ok (.invokestatic 549, 3) := by decide +kernel
theorem dX8_image_65 : decode cX8_image 65 = .ok (.aload_n 0, 1) := by decide +kernel
theorem dX8_image_66 : decode cX8_image 66 = .ok (.getfield 147, 3) := by decide +kernel
theorem dX8_image_69 : decode cX8_image 69 = .ok (.aload_n 0, 1) := by decide +kernel
theorem dX8_image_70 : decode cX8_image 70 = .ok (.getfield 126, 3) := by decide +kernel
theorem dX8_image_73 : decode cX8_image 73 = .ok (.invokestatic 549, 3) := by decide +kernel
theorem dX8_image_76 : decode cX8_image 76 = .ok (.aload_n 0, 1) := by decide +kernel
theorem dX8_image_77 : decode cX8_image 77 = .ok (.getfield 150, 3) := by decide +kernel
theorem dX8_image_80 : decode cX8_image 80 = .ok (.aload_n 0, 1) := by decide +kernel
theorem dX8_image_81 : decode cX8_image 81 = .ok (.getfield 129, 3) := by decide +kernel
theorem dX8_image_84 : decode cX8_image 84 = .ok (.invokestatic 549, 3) := by decide +kernel
theorem dX8_image_87 : decode cX8_image 87 = .ok (.aload_n 0, 1) := by decide +kernel
theorem dX8_image_88 : decode cX8_image 88 = .ok (.getfield 153, 3) := by decide +kernel
theorem dX8_image_91 : decode cX8_image 91 = .ok (.aload_n 0, 1) := by decide +kernel
theorem dX8_image_92 : decode cX8_image 92 = .ok (.getfield 132, 3) := by decide +kernel
theorem dX8_image_95 : decode cX8_image 95 = .ok (.invokestatic 549, 3) := by decide +kernel
theorem dX8_image_98 : decode cX8_image 98 = .ok (.aload_n 0, 1) := by decide +kernel
theorem dX8_image_99 : decode cX8_image 99 = .ok (.getfield 156, 3) := by decide +kernel
theorem dX8_image_102 : decode cX8_image 102 = .ok (.aload_n 0, 1) := by decide +kernel
theorem dX8_image_103 : decode cX8_image 103 = .ok (.getfield 78, 3) := by decide +kernel
theorem dX8_image_106 : decode cX8_image 106 = .ok (.invokestatic 549, 3) := by decide +kernel
theorem dX8_image_109 : decode cX8_image 109 = .ok (.return_, 1) := by decide +kernel
theorem dX8_restore_0 : decode cX8_restore 0 = .ok (.aload_n 0, 1) := by decide +kernel
theorem dX8_restore_1 : decode cX8_restore 1 = .ok (.iconst 0, 1) := by decide +kernel
theorem dX8_restore_2 : decode cX8_restore 2 = .ok (.putfield 159, 3) := by decide +kernel
theorem dX8_restore_5 : decode cX8_restore 5 = .ok (.aload_n 0, 1) := by decide +kernel
theorem dX8_restore_6 : decode cX8_restore 6 = .ok (.getfield 351, 3) := by decide +kernel
theorem dX8_restore_9 : decode cX8_restore 9 = .ok (.ifCond .ne 5, 3) := by decide +kernel
theorem dX8_restore_12 : decode cX8_restore 12 = .ok (.iconst 0, 1) := by decide +kernel
theorem dX8_restore_13 : decode cX8_restore 13 = .ok (.ireturn, 1) := by decide +kernel
theorem dX8_restore_14 : decode cX8_restore 14 = .ok (.aload_n 0, 1) := by decide +kernel
theorem dX8_restore_15 : decode cX8_restore 15 = .ok (.aload_n 0, 1) := by decide +kernel
theorem dX8_restore_16 : decode cX8_restore 16 = .ok (.getfield 540, 3) := by decide +kernel
theorem dX8_restore_19 : decode cX8_restore 19 = .ok (.putfield 338, 3) := by decide +kernel
theorem dX8_restore_22 : decode cX8_restore 22 = .ok (.aload_n 0, 1) := by decide +kernel
theorem dX8_restore_23 : decode cX8_restore 23 = .ok (.aload_n 0, 1) := by decide +kernel
theorem dX8_restore_24 : decode cX8_restore 24 = .ok (.getfield 543, 3) := by decide +kernel
theorem dX8_restore_27 : decode cX8_restore 27 = .ok (.putfield 341, 3) := by decide +kernel
theorem dX8_restore_30 : decode cX8_restore 30 = .ok (.aload_n 0, 1) := by decide +kernel
theorem dX8_restore_31 : decode cX8_restore 31 = .ok (.aload_n 0, 1) := by decide +kernel
theorem dX8_restore_32 : decode cX8_restore 32 = .ok (.getfield 546, 3) := by decide +kernel
theorem dX8_restore_35 : decode cX8_restore 35 = .ok (.putfield 344, 3) := by decide +kernel
theorem dX8_restore_38 : decode cX8_restore 38 = .ok (.aload_n 0, 1) := by decide +kernel
theorem dX8_restore_39 : decode cX8_restore 39 = .ok (.aload_n 0, 1) := by decide +kernel
theorem dX8_restore_40 : decode cX8_restore 40 = .ok (.getfield 138, 3) := by decide +kernel
theorem dX8_restore_43 : decode cX8_restore 43 = .ok (.iconst 0, 1) := by decide +kernel
theorem dX8_restore_44 : decode cX8_restore 44 = .ok (.invokevirtual 475, 3) := by decide +kernel
theorem dX8_restore_47 : decode cX8_restore 47 = .ok (.aload_n 0, 1) := by decide +kernel
theorem dX8_restore_48 : decode cX8_restore 48 = .ok (.getfield 93, 3) := by decide +kernel
theorem dX8_restore_51 : decode cX8_restore 51 = .ok (.aload_n 0, 1) := by decide +kernel
theorem dX8_restore_52 : decode cX8_restore 52 = .ok (.getfield 141, 3) := by decide +kernel
theorem dX8_restore_55 : decode cX8_restore 55 = .ok (.invokestatic 549, 3) := by decide +kernel
theorem dX8_restore_58 : decode cX8_restore 58 = .ok (.aload_n 0, 1) := by decide +kernel
theorem dX8_restore_59 : decode cX8_restore 59 = .ok (.getfield 123, 3) := by decide +kernel
theorem dX8_restore_62 : decode cX8_restore 62 = .ok (.aload_n 0, 1) := by decide +kernel
theorem dX8_restore_63 : decode cX8_restore 63 = .ok (.getfield 144, 3) := by decide +kernel
theorem dX8_restore_66 : decode cX8_restore 66 = .ok (.invokestatic 549, 3) := by decide +kernel
theorem dX8_restore_69 : decode cX8_restore 69 = .ok (.aload_n 0, 1) := by decide +kernel
theorem dX8_restore_70 : decode cX8_restore 70 = .ok (.getfield 126, 3) := by decide +kernel
theorem dX8_restore_73 : decode cX8_restore 73 = .ok (.aload_n 0, 1) := by decide +kernel
theorem dX8_restore_74 : decode cX8_restore 74 = .ok (.getfield 147, 3) := by decide +kernel
theorem dX8_restore_77 : decode cX8_restore 77 = .ok (.invokestatic 549, 3) := by decide +kernel
theorem dX8_restore_80 : decode cX8_restore 80 = .ok (.aload_n 0, 1) := by decide +kernel
theorem dX8_restore_81 : decode cX8_restore 81 = .ok (.getfield 129, 3) := by decide +kernel
theorem dX8_restore_84 : decode cX8_restore 84 = .ok (.aload_n 0, 1) := by decide +kernel
theorem dX8_restore_85 : decode cX8_restore 85 = .ok (.getfield 150, 3) := by decide +kernel
theorem dX8_restore_88 : decode cX8_restore 88 = .ok (.invokestatic 549, 3) := by decide +kernel
theorem dX8_restore_91 : decode cX8_restore 91 = .ok (.aload_n 0, 1) := by decide +kernel
theorem dX8_restore_92 : decode cX8_restore 92 = .ok (.getfield 132, 3) := by decide +kernel
theorem dX8_restore_95 : decode cX8_restore 95 = .ok (.aload_n 0, 1) := by decide +kernel
theorem dX8_restore_96 : decode cX8_restore 96 = .ok (.getfield 153, 3) := by decide +kernel
theorem dX8_restore_99 : decode cX8_restore 99 = .ok (.invokestatic 549, 3) := by decide +kernel
theorem dX8_restore_102 : decode cX8_restore 102 = .ok (.aload_n 0, 1) := by decide +kernel
theorem dX8_restore_103 : decode cX8_restore 103 = .ok (.getfield 78, 3) := by decide +kernel
theorem dX8_restore_106 : decode cX8_restore 106 = .ok (.aload_n 0, 1) := by decide +kernel
theorem dX8_restore_107 : decode cX8_restore 107 = .ok (.getfield 156, 3) := by decide +kernel
theorem dX8_restore_110 : decode cX8_restore 110 = .ok (.invokestatic 549, 3) := by decide +kernel
theorem dX8_restore_113 : decode cX8_restore 113 = .ok (.iconst 1, 1) := by decide +kernel
theorem dX8_restore_114 : decode cX8_restore 114 = .ok (.ireturn, 1) := by decide +kernel
