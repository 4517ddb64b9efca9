theorem d_M_init_0 : decode b_M_init 0 = .ok (.aload_n 0, 1) := by decide +kernel
theorem d_M_init_1 : decode b_M_init 1 = .ok (.invokespecial 1, 3) := by decide +kernel
theorem d_M_init_4 : decode b_M_init 4 = .ok (.aload_n 0, 1) := by decide +kernel
theorem d_M_init_5 : decode b_M_init 5 = .ok (.bipush 12, 2) := by decide +kernel
theorem d_M_init_7 : decode b_M_init 7 = .ok (.newarray .int, 2) := by decide +kernel
theorem d_M_init_9 : decode b_M_init 9 = .ok (.putfield 7, 3) := by decide +kernel
theorem d_M_init_12 : decode b_M_init 12 = .ok (.aload_n 0, 1) := by decide +kernel
theorem d_M_init_13 : decode b_M_init 13 = .ok (.bipush 12, 2) := by decide +kernel
theorem d_M_init_15 : decode b_M_init 15 = .ok (.newarray .int, 2) := by decide +kernel
theorem d_M_init_17 : decode b_M_init 17 = .ok (.putfield 13, 3) := by decide +kernel
theorem d_M_init_20 : decode b_M_init 20 = .ok (.aload_n 0, 1) := by decide +kernel
theorem d_M_init_21 : decode b_M_init 21 = .ok (.bipush 12, 2) := by decide +kernel
theorem d_M_init_23 : decode b_M_init 23 = .ok (.newarray .int, 2) := by decide +kernel
theorem d_M_init_25 : decode b_M_init 25 = .ok (.putfield 16, 3) := by decide +kernel
theorem d_M_init_28 : decode b_M_init 28 = .ok (.aload_n 0, 1) := by decide +kernel
theorem d_M_init_29 : decode b_M_init 29 = .ok (.bipush 12, 2) := by decide +kernel
theorem d_M_init_31 : decode b_M_init 31 = .ok (.newarray .long, 2) := by decide +kernel
theorem d_M_init_33 : decode b_M_init 33 = .ok (.putfield 19, 3) := by decide +kernel
theorem d_M_init_36 : decode b_M_init 36 = .ok (.aload_n 0, 1) := by decide +kernel
theorem d_M_init_37 : decode b_M_init 37 = .ok (.bipush 12, 2) := by decide +kernel
theorem d_M_init_39 : decode b_M_init 39 = .ok (.newarray .boolean, 2) := by decide +kernel
theorem d_M_init_41 : decode b_M_init 41 = .ok (.putfield 23, 3) := by decide +kernel
theorem d_M_init_44 : decode b_M_init 44 = .ok (.aload_n 0, 1) := by decide +kernel
theorem d_M_init_45 : decode b_M_init 45 = .ok (.bipush 12, 2) := by decide +kernel
theorem d_M_init_47 : decode b_M_init 47 = .ok (.newarray .boolean, 2) := by decide +kernel
theorem d_M_init_49 : decode b_M_init 49 = .ok (.putfield 27, 3) := by decide +kernel
theorem d_M_init_52 : decode b_M_init 52 = .ok (.aload_n 0, 1) := by decide +kernel
theorem d_M_init_53 : decode b_M_init 53 = .ok (.bipush 12, 2) := by decide +kernel
theorem d_M_init_55 : decode b_M_init 55 = .ok (.newarray .int, 2) := by decide +kernel
theorem d_M_init_57 : decode b_M_init 57 = .ok (.putfield 30, 3) := by decide +kernel
theorem d_M_init_60 : decode b_M_init 60 = .ok (.aload_n 0, 1) := by decide +kernel
theorem d_M_init_61 : decode b_M_init 61 = .ok (.bipush 12, 2) := by decide +kernel
theorem d_M_init_63 : decode b_M_init 63 = .ok (.newarray .int, 2) := by decide +kernel
theorem d_M_init_65 : decode b_M_init 65 = .ok (.putfield 33, 3) := by decide +kernel
theorem d_M_init_68 : decode b_M_init 68 = .ok (.aload_n 0, 1) := by decide +kernel
theorem d_M_init_69 : decode b_M_init 69 = .ok (.bipush 16, 2) := by decide +kernel
theorem d_M_init_71 : decode b_M_init 71 = .ok (.newarray .long, 2) := by decide +kernel
theorem d_M_init_73 : decode b_M_init 73 = .ok (.dup, 1) := by decide +kernel
theorem d_M_init_74 : decode b_M_init 74 = .ok (.iconst 0, 1) := by decide +kernel
theorem d_M_init_75 : decode b_M_init 75 = .ok (.lconst 1, 1) := by decide +kernel
theorem d_M_init_76 : decode b_M_init 76 = .ok (.lastore, 1) := by decide +kernel
theorem d_M_init_77 : decode b_M_init 77 = .ok (.dup, 1) := by decide +kernel
theorem d_M_init_78 : decode b_M_init 78 = .ok (.iconst 1, 1) := by decide +kernel
theorem d_M_init_79 : decode b_M_init 79 = .ok (.lconst 1, 1) := by decide +kernel
theorem d_M_init_80 : decode b_M_init 80 = .ok (.lastore, 1) := by decide +kernel
theorem d_M_init_81 : decode b_M_init 81 = .ok (.dup, 1) := by decide +kernel
theorem d_M_init_82 : decode b_M_init 82 = .ok (.iconst 2, 1) := by decide +kernel
theorem d_M_init_83 : decode b_M_init 83 = .ok (.lconst 1, 1) := by decide +kernel
theorem d_M_init_84 : decode b_M_init 84 = .ok (.lastore, 1) := by decide +kernel
theorem d_M_init_85 : decode b_M_init 85 = .ok (.dup, 1) := by decide +kernel
theorem d_M_init_86 : decode b_M_init 86 = .ok (.iconst 3, 1) := by decide +kernel
theorem d_M_init_87 : decode b_M_init 87 = .ok (.lconst 1, 1) := by decide +kernel
theorem d_M_init_88 : decode b_M_init 88 = .ok (.lastore, 1) := by decide +kernel
theorem d_M_init_89 : decode b_M_init 89 = .ok (.dup, 1) := by decide +kernel
theorem d_M_init_90 : decode b_M_init 90 = .ok (.iconst 4, 1) := by decide +kernel
theorem d_M_init_91 : decode b_M_init 91 = .ok (.lconst 1, 1) := by decide +kernel
theorem d_M_init_92 : decode b_M_init 92 = .ok (.lastore, 1) := by decide +kernel
theorem d_M_init_93 : decode b_M_init 93 = .ok (.dup, 1) := by decide +kernel
theorem d_M_init_94 : decode b_M_init 94 = .ok (.iconst 5, 1) := by decide +kernel
theorem d_M_init_95 : decode b_M_init 95 = .ok (.lconst 1, 1) := by decide +kernel
theorem d_M_init_96 : decode b_M_init 96 = .ok (.lastore, 1) := by decide +kernel
theorem d_M_init_97 : decode b_M_init 97 = .ok (.dup, 1) := by decide +kernel
theorem d_M_init_98 : decode b_M_init 98 = .ok (.bipush 6, 2) := by decide +kernel
theorem d_M_init_100 : decode b_M_init 100 = .ok (.lconst 1, 1) := by decide +kernel
theorem d_M_init_101 : decode b_M_init 101 = .ok (.lastore, 1) := by decide +kernel
theorem d_M_init_102 : decode b_M_init 102 = .ok (.dup, 1) := by decide +kernel
theorem d_M_init_103 : decode b_M_init 103 = .ok (.bipush 7, 2) := by decide +kernel
theorem d_M_init_105 : decode b_M_init 105 = .ok (.lconst 1, 1) := by decide +kernel
theorem d_M_init_106 : decode b_M_init 106 = .ok (.lastore, 1) := by decide +kernel
theorem d_M_init_107 : decode b_M_init 107 = .ok (.dup, 1) := by decide +kernel
theorem d_M_init_108 : decode b_M_init 108 = .ok (.bipush 8, 2) := by decide +kernel
theorem d_M_init_110 : decode b_M_init 110 = .ok (.lconst 1, 1) := by decide +kernel
theorem d_M_init_111 : decode b_M_init 111 = .ok (.lastore, 1) := by decide +kernel
theorem d_M_init_112 : decode b_M_init 112 = .ok (.dup, 1) := by decide +kernel
theorem d_M_init_113 : decode b_M_init 113 = .ok (.bipush 9, 2) := by decide +kernel
theorem d_M_init_115 : decode b_M_init 115 = .ok (.lconst 1, 1) := by decide +kernel
theorem d_M_init_116 : decode b_M_init 116 = .ok (.lastore, 1) := by decide +kernel
theorem d_M_init_117 : decode b_M_init 117 = .ok (.dup, 1) := by decide +kernel
theorem d_M_init_118 : decode b_M_init 118 = .ok (.bipush 10, 2) := by decide +kernel
theorem d_M_init_120 : decode b_M_init 120 = .ok (.lconst 1, 1) := by decide +kernel
theorem d_M_init_121 : decode b_M_init 121 = .ok (.lastore, 1) := by decide +kernel
theorem d_M_init_122 : decode b_M_init 122 = .ok (.dup, 1) := by decide +kernel
theorem d_M_init_123 : decode b_M_init 123 = .ok (.bipush 11, 2) := by decide +kernel
theorem d_M_init_125 : decode b_M_init 125 = .ok (.lconst 1, 1) := by decide +kernel
theorem d_M_init_126 : decode b_M_init 126 = .ok (.lastore, 1) := by decide +kernel
theorem d_M_init_127 : decode b_M_init 127 = .ok (.dup, 1) := by decide +kernel
theorem d_M_init_128 : decode b_M_init 128 = .ok (.bipush 12, 2) := by decide +kernel
theorem d_M_init_130 : decode b_M_init 130 = .ok (.lconst 1, 1) := by decide +kernel
theorem d_M_init_131 : decode b_M_init 131 = .ok (.lastore, 1) := by decide +kernel
theorem d_M_init_132 : decode b_M_init 132 = .ok (.dup, 1) := by decide +kernel
theorem d_M_init_133 : decode b_M_init 133 = .ok (.bipush 13, 2) := by decide +kernel
theorem d_M_init_135 : decode b_M_init 135 = .ok (.lconst 1, 1) := by decide +kernel
theorem d_M_init_136 : decode b_M_init 136 = .ok (.lastore, 1) := by decide +kernel
theorem d_M_init_137 : decode b_M_init 137 = .ok (.dup, 1) := by decide +kernel
theorem d_M_init_138 : decode b_M_init 138 = .ok (.bipush 14, 2) := by decide +kernel
theorem d_M_init_140 : decode b_M_init 140 = .ok (.lconst 1, 1) := by decide +kernel
theorem d_M_init_141 : decode b_M_init 141 = .ok (.lastore, 1) := by decide +kernel
theorem d_M_init_142 : decode b_M_init 142 = .ok (.dup, 1) := by decide +kernel
theorem d_M_init_143 : decode b_M_init 143 = .ok (.bipush 15, 2) := by decide +kernel
theorem d_M_init_145 : decode b_M_init 145 = .ok (.lconst 1, 1) := by decide +kernel
theorem d_M_init_146 : decode b_M_init 146 = .ok (.lastore, 1) := by decide +kernel
theorem d_M_init_147 : decode b_M_init 147 = .ok (.putfield 36, 3) := by decide +kernel
theorem d_M_init_150 : decode b_M_init 150 = .ok (.aload_n 0, 1) := by decide +kernel
theorem d_M_init_151 : decode b_M_init 151 = .ok (.iconst 4, 1) := by decide +kernel
theorem d_M_init_152 : decode b_M_init 152 = .ok (.newarray .long, 2) := by decide +kernel
theorem d_M_init_154 : decode b_M_init 154 = .ok (.dup, 1) := by decide +kernel
theorem d_M_init_155 : decode b_M_init 155 = .ok (.iconst 0, 1) := by decide +kernel
theorem d_M_init_156 : decode b_M_init 156 = .ok (.ldc2_w 39, 3) := by decide +kernel
theorem d_M_init_159 : decode b_M_init 159 = .ok (.lastore, 1) := by decide +kernel
theorem d_M_init_160 : decode b_M_init 160 = .ok (.dup, 1) := by decide +kernel
theorem d_M_init_161 : decode b_M_init 161 = .ok (.iconst 1, 1) := by decide +kernel
theorem d_M_init_162 : decode b_M_init 162 = .ok (.ldc2_w 39, 3) := by decide +kernel
theorem d_M_init_165 : decode b_M_init 165 = .ok (.lastore, 1) := by decide +kernel
theorem d_M_init_166 : decode b_M_init 166 = .ok (.dup, 1) := by decide +kernel
theorem d_M_init_167 : decode b_M_init 167 = .ok (.iconst 2, 1) := by decide +kernel
theorem d_M_init_168 : decode b_M_init 168 = .ok (.ldc2_w 39, 3) := by decide +kernel
theorem d_M_init_171 : decode b_M_init 171 = .ok (.lastore, 1) := by decide +kernel
theorem d_M_init_172 : decode b_M_init 172 = .ok (.dup, 1) := by decide +kernel
theorem d_M_init_173 : decode b_M_init 173 = .ok (.iconst 3, 1) := by decide +kernel
theorem d_M_init_174 : decode b_M_init 174 = .ok (.ldc2_w 39, 3) := by decide +kernel
theorem d_M_init_177 : decode b_M_init 177 = .ok (.lastore, 1) := by decide +kernel
theorem d_M_init_178 : decode b_M_init 178 = .ok (.putfield 41, 3) := by decide +kernel
theorem d_M_init_181 : decode b_M_init 181 = .ok (.aload_n 0, 1) := by decide +kernel
theorem d_M_init_182 : decode b_M_init 182 = .ok (.sipush 160, 3) := by decide +kernel
theorem d_M_init_185 : decode b_M_init 185 = .ok (.newarray .int, 2) := by decide +kernel
theorem d_M_init_187 : decode b_M_init 187 = .ok (.putfield 44, 3) := by decide +kernel
theorem d_M_init_190 : decode b_M_init 190 = .ok (.aload_n 0, 1) := by decide +kernel
theorem d_M_init_191 : decode b_M_init 191 = .ok (.iconst 4, 1) := by decide +kernel
theorem d_M_init_192 : decode b_M_init 192 = .ok (.newarray .int, 2) := by decide +kernel
theorem d_M_init_194 : decode b_M_init 194 = .ok (.putfield 47, 3) := by decide +kernel
theorem d_M_init_197 : decode b_M_init 197 = .ok (.aload_n 0, 1) := by decide +kernel
theorem d_M_init_198 : decode b_M_init 198 = .ok (.iconst 4, 1) := by decide +kernel
theorem d_M_init_199 : decode b_M_init 199 = .ok (.newarray .long, 2) := by decide +kernel
theorem d_M_init_201 : decode b_M_init 201 = .ok (.dup, 1) := by decide +kernel
theorem d_M_init_202 : decode b_M_init 202 = .ok (.iconst 0, 1) := by decide +kernel
theorem d_M_init_203 : decode b_M_init 203 = .ok (.lconst 1, 1) := by decide +kernel
theorem d_M_init_204 : decode b_M_init 204 = .ok (.lastore, 1) := by decide +kernel
theorem d_M_init_205 : decode b_M_init 205 = .ok (.dup, 1) := by decide +kernel
theorem d_M_init_206 : decode b_M_init 206 = .ok (.iconst 1, 1) := by decide +kernel
theorem d_M_init_207 : decode b_M_init 207 = .ok (.lconst 1, 1) := by decide +kernel
theorem d_M_init_208 : decode b_M_init 208 = .ok (.lastore, 1) := by decide +kernel
theorem d_M_init_209 : decode b_M_init 209 = .ok (.dup, 1) := by decide +kernel
theorem d_M_init_210 : decode b_M_init 210 = .ok (.iconst 2, 1) := by decide +kernel
theorem d_M_init_211 : decode b_M_init 211 = .ok (.lconst 1, 1) := by decide +kernel
theorem d_M_init_212 : decode b_M_init 212 = .ok (.lastore, 1) := by decide +kernel
theorem d_M_init_213 : decode b_M_init 213 = .ok (.dup, 1) := by decide +kernel
theorem d_M_init_214 : decode b_M_init 214 = .ok (.iconst 3, 1) := by decide +kernel
theorem d_M_init_215 : decode b_M_init 215 = .ok (.lconst 1, 1) := by decide +kernel
theorem d_M_init_216 : decode b_M_init 216 = .ok (.lastore, 1) := by decide +kernel
theorem d_M_init_217 : decode b_M_init 217 = .ok (.putfield 50, 3) := by decide +kernel
theorem d_M_init_220 : decode b_M_init 220 = .ok (.aload_n 0, 1) := by decide +kernel
theorem d_M_init_221 : decode b_M_init 221 = .ok (.iconst 4, 1) := by decide +kernel
theorem d_M_init_222 : decode b_M_init 222 = .ok (.newarray .long, 2) := by decide +kernel
theorem d_M_init_224 : decode b_M_init 224 = .ok (.dup, 1) := by decide +kernel
theorem d_M_init_225 : decode b_M_init 225 = .ok (.iconst 0, 1) := by decide +kernel
theorem d_M_init_226 : decode b_M_init 226 = .ok (.lconst 1, 1) := by decide +kernel
theorem d_M_init_227 : decode b_M_init 227 = .ok (.lastore, 1) := by decide +kernel
theorem d_M_init_228 : decode b_M_init 228 = .ok (.dup, 1) := by decide +kernel
theorem d_M_init_229 : decode b_M_init 229 = .ok (.iconst 1, 1) := by decide +kernel
theorem d_M_init_230 : decode b_M_init 230 = .ok (.lconst 1, 1) := by decide +kernel
theorem d_M_init_231 : decode b_M_init 231 = .ok (.lastore, 1) := by decide +kernel
theorem d_M_init_232 : decode b_M_init 232 = .ok (.dup, 1) := by decide +kernel
theorem d_M_init_233 : decode b_M_init 233 = .ok (.iconst 2, 1) := by decide +kernel
theorem d_M_init_234 : decode b_M_init 234 = .ok (.lconst 1, 1) := by decide +kernel
theorem d_M_init_235 : decode b_M_init 235 = .ok (.lastore, 1) := by decide +kernel
theorem d_M_init_236 : decode b_M_init 236 = .ok (.dup, 1) := by decide +kernel
theorem d_M_init_237 : decode b_M_init 237 = .ok (.iconst 3, 1) := by decide +kernel
theorem d_M_init_238 : decode b_M_init 238 = .ok (.lconst 1, 1) := by decide +kernel
theorem d_M_init_239 : decode b_M_init 239 = .ok (.lastore, 1) := by decide +kernel
theorem d_M_init_240 : decode b_M_init 240 = .ok (.putfield 53, 3) := by decide +kernel
theorem d_M_init_243 : decode b_M_init 243 = .ok (.aload_n 0, 1) := by decide +kernel
theorem d_M_init_244 : decode b_M_init 244 = .ok (.sipush 1000, 3) := by decide +kernel
theorem d_M_init_247 : decode b_M_init 247 = .ok (.putfield 56, 3) := by decide +kernel
theorem d_M_init_250 : decode b_M_init 250 = .ok (.aload_n 0, 1) := by decide +kernel
theorem d_M_init_251 : decode b_M_init 251 = .ok (.iconst 4, 1) := by decide +kernel
theorem d_M_init_252 : decode b_M_init 252 = .ok (.putfield 60, 3) := by decide +kernel
theorem d_M_init_255 : decode b_M_init 255 = .ok (.aload_n 0, 1) := by decide +kernel
theorem d_M_init_256 : decode b_M_init 256 = .ok (.sipush 500, 3) := by decide +kernel
theorem d_M_init_259 : decode b_M_init 259 = .ok (.putfield 63, 3) := by decide +kernel
theorem d_M_init_262 : decode b_M_init 262 = .ok (.aload_n 0, 1) := by decide +kernel
theorem d_M_init_263 : decode b_M_init 263 = .ok (.sipush 600, 3) := by decide +kernel
theorem d_M_init_266 : decode b_M_init 266 = .ok (.putfield 66, 3) := by decide +kernel
theorem d_M_init_269 : decode b_M_init 269 = .ok (.aload_n 0, 1) := by decide +kernel
theorem d_M_init_270 : decode b_M_init 270 = .ok (.sipush 288, 3) := by decide +kernel
theorem d_M_init_273 : decode b_M_init 273 = .ok (.newarray .int, 2) := by decide +kernel
theorem d_M_init_275 : decode b_M_init 275 = .ok (.putfield 69, 3) := by decide +kernel
theorem d_M_init_278 : decode b_M_init 278 = .ok (.aload_n 0, 1) := by decide +kernel
theorem d_M_init_279 : decode b_M_init 279 = .ok (.bipush 12, 2) := by decide +kernel
theorem d_M_init_281 : decode b_M_init 281 = .ok (.newarray .int, 2) := by decide +kernel
theorem d_M_init_283 : decode b_M_init 283 = .ok (.putfield 72, 3) := by decide +kernel
theorem d_M_init_286 : decode b_M_init 286 = .ok (.aload_n 0, 1) := by decide +kernel
theorem d_M_init_287 : decode b_M_init 287 = .ok (.bipush 12, 2) := by decide +kernel
theorem d_M_init_289 : decode b_M_init 289 = .ok (.newarray .int, 2) := by decide +kernel
theorem d_M_init_291 : decode b_M_init 291 = .ok (.dup, 1) := by decide +kernel
theorem d_M_init_292 : decode b_M_init 292 = .ok (.iconst 0, 1) := by decide +kernel
theorem d_M_init_293 : decode b_M_init 293 = .ok (.iconst (-1), 1) := by decide +kernel
theorem d_M_init_294 : decode b_M_init 294 = .ok (.iastore, 1) := by decide +kernel
theorem d_M_init_295 : decode b_M_init 295 = .ok (.dup, 1) := by decide +kernel
theorem d_M_init_296 : decode b_M_init 296 = .ok (.iconst 1, 1) := by decide +kernel
theorem d_M_init_297 : decode b_M_init 297 = .ok (.iconst (-1), 1) := by decide +kernel
theorem d_M_init_298 : decode b_M_init 298 = .ok (.iastore, 1) := by decide +kernel
theorem d_M_init_299 : decode b_M_init 299 = .ok (.dup, 1) := by decide +kernel
theorem d_M_init_300 : decode b_M_init 300 = .ok (.iconst 2, 1) := by decide +kernel
theorem d_M_init_301 : decode b_M_init 301 = .ok (.iconst (-1), 1) := by decide +kernel
theorem d_M_init_302 : decode b_M_init 302 = .ok (.iastore, 1) := by decide +kernel
theorem d_M_init_303 : decode b_M_init 303 = .ok (.dup, 1) := by decide +kernel
theorem d_M_init_304 : decode b_M_init 304 = .ok (.iconst 3, 1) := by decide +kernel
theorem d_M_init_305 : decode b_M_init 305 = .ok (.iconst (-1), 1) := by decide +kernel
theorem d_M_init_306 : decode b_M_init 306 = .ok (.iastore, 1) := by decide +kernel
theorem d_M_init_307 : decode b_M_init 307 = .ok (.dup, 1) := by decide +kernel
theorem d_M_init_308 : decode b_M_init 308 = .ok (.iconst 4, 1) := by decide +kernel
theorem d_M_init_309 : decode b_M_init 309 = .ok (.iconst (-1), 1) := by decide +kernel
theorem d_M_init_310 : decode b_M_init 310 = .ok (.iastore, 1) := by decide +kernel
theorem d_M_init_311 : decode b_M_init 311 = .ok (.dup, 1) := by decide +kernel
theorem d_M_init_312 : decode b_M_init 312 = .ok (.iconst 5, 1) := by decide +kernel
theorem d_M_init_313 : decode b_M_init 313 = .ok (.iconst (-1), 1) := by decide +kernel
theorem d_M_init_314 : decode b_M_init 314 = .ok (.iastore, 1) := by decide +kernel
theorem d_M_init_315 : decode b_M_init 315 = .ok (.dup, 1) := by decide +kernel
theorem d_M_init_316 : decode b_M_init 316 = .ok (.bipush 6, 2) := by decide +kernel
theorem d_M_init_318 : decode b_M_init 318 = .ok (.iconst (-1), 1) := by decide +kernel
theorem d_M_init_319 : decode b_M_init 319 = .ok (.iastore, 1) := by decide +kernel
theorem d_M_init_320 : decode b_M_init 320 = .ok (.dup, 1) := by decide +kernel
theorem d_M_init_321 : decode b_M_init 321 = .ok (.bipush 7, 2) := by decide +kernel
theorem d_M_init_323 : decode b_M_init 323 = .ok (.iconst (-1), 1) := by decide +kernel
theorem d_M_init_324 : decode b_M_init 324 = .ok (.iastore, 1) := by decide +kernel
theorem d_M_init_325 : decode b_M_init 325 = .ok (.dup, 1) := by decide +kernel
theorem d_M_init_326 : decode b_M_init 326 = .ok (.bipush 8, 2) := by decide +kernel
theorem d_M_init_328 : decode b_M_init 328 = .ok (.iconst (-1), 1) := by decide +kernel
theorem d_M_init_329 : decode b_M_init 329 = .ok (.iastore, 1) := by decide +kernel
theorem d_M_init_330 : decode b_M_init 330 = .ok (.dup, 1) := by decide +kernel
theorem d_M_init_331 : decode b_M_init 331 = .ok (.bipush 9, 2) := by decide +kernel
theorem d_M_init_333 : decode b_M_init 333 = .ok (.iconst (-1), 1) := by decide +kernel
theorem d_M_init_334 : decode b_M_init 334 = .ok (.iastore, 1) := by decide +kernel
theorem d_M_init_335 : decode b_M_init 335 = .ok (.dup, 1) := by decide +kernel
theorem d_M_init_336 : decode b_M_init 336 = .ok (.bipush 10, 2) := by decide +kernel
theorem d_M_init_338 : decode b_M_init 338 = .ok (.iconst (-1), 1) := by decide +kernel
theorem d_M_init_339 : decode b_M_init 339 = .ok (.iastore, 1) := by decide +kernel
theorem d_M_init_340 : decode b_M_init 340 = .ok (.dup, 1) := by decide +kernel
theorem d_M_init_341 : decode b_M_init 341 = .ok (.bipush 11, 2) := by decide +kernel
theorem d_M_init_343 : decode b_M_init 343 = .ok (.iconst (-1), 1) := by decide +kernel
theorem d_M_init_344 : decode b_M_init 344 = .ok (.iastore, 1) := by decide +kernel
theorem d_M_init_345 : decode b_M_init 345 = .ok (.putfield 75, 3) := by decide +kernel
theorem d_M_init_348 : decode b_M_init 348 = .ok (.aload_n 0, 1) := by decide +kernel
theorem d_M_init_349 : decode b_M_init 349 = .ok (.bipush 16, 2) := by decide +kernel
theorem d_M_init_351 : decode b_M_init 351 = .ok (.newarray .int, 2) := by decide +kernel
theorem d_M_init_353 : decode b_M_init 353 = .ok (.putfield 78, 3) := by decide +kernel
theorem d_M_init_356 : decode b_M_init 356 = .ok (.aload_n 0, 1) := by decide +kernel
theorem d_M_init_357 : decode b_M_init 357 = .ok (.bipush 16, 2) := by decide +kernel
theorem d_M_init_359 : decode b_M_init 359 = .ok (.newarray .int, 2) := by decide +kernel
theorem d_M_init_361 : decode b_M_init 361 = .ok (.putfield 81, 3) := by decide +kernel
theorem d_M_init_364 : decode b_M_init 364 = .ok (.aload_n 0, 1) := by decide +kernel
theorem d_M_init_365 : decode b_M_init 365 = .ok (.iload_n 1, 1) := by decide +kernel
theorem d_M_init_366 : decode b_M_init 366 = .ok (.i2l, 1) := by decide +kernel
theorem d_M_init_367 : decode b_M_init 367 = .ok (.putfield 84, 3) := by decide +kernel
theorem d_M_init_370 : decode b_M_init 370 = .ok (.return_, 1) := by decide +kernel
theorem d_M_thrown_0 : decode b_M_thrown 0 = .ok (.aload_n 0, 1) := by decide +kernel
theorem d_M_thrown_1 : decode b_M_thrown 1 = .ok (.getfield 88, 3) := by decide +kernel
theorem d_M_thrown_4 : decode b_M_thrown 4 = .ok (.ireturn, 1) := by decide +kernel
theorem d_M_isIn_0 : decode b_M_isIn 0 = .ok (.lload_n 0, 1) := by decide +kernel
theorem d_M_isIn_1 : decode b_M_isIn 1 = .ok (.lload_n 2, 1) := by decide +kernel
theorem d_M_isIn_2 : decode b_M_isIn 2 = .ok (.lcmp, 1) := by decide +kernel
theorem d_M_isIn_3 : decode b_M_isIn 3 = .ok (.ifCond .lt 14, 3) := by decide +kernel
theorem d_M_isIn_6 : decode b_M_isIn 6 = .ok (.lload_n 0, 1) := by decide +kernel
theorem d_M_isIn_7 : decode b_M_isIn 7 = .ok (.lload 4, 2) := by decide +kernel
theorem d_M_isIn_9 : decode b_M_isIn 9 = .ok (.lcmp, 1) := by decide +kernel
theorem d_M_isIn_10 : decode b_M_isIn 10 = .ok (.ifCond .gt 7, 3) := by decide +kernel
theorem d_M_isIn_13 : decode b_M_isIn 13 = .ok (.iconst 1, 1) := by decide +kernel
theorem d_M_isIn_14 : decode b_M_isIn 14 = .ok (.goto 4, 3) := by decide +kernel
theorem d_M_isIn_17 : decode b_M_isIn 17 = .ok (.iconst 0, 1) := by decide +kernel
theorem d_M_isIn_18 : decode b_M_isIn 18 = .ok (.ireturn, 1) := by decide +kernel
theorem d_M_isFour_0 : decode b_M_isFour 0 = .ok (.iload_n 0, 1) := by decide +kernel
theorem d_M_isFour_1 : decode b_M_isFour 1 = .ok (.ifCond .lt 12, 3) := by decide +kernel
theorem d_M_isFour_4 : decode b_M_isFour 4 = .ok (.iload_n 0, 1) := by decide +kernel
theorem d_M_isFour_5 : decode b_M_isFour 5 = .ok (.iconst 4, 1) := by decide +kernel
theorem d_M_isFour_6 : decode b_M_isFour 6 = .ok (.if_icmp .ge 7, 3) := by decide +kernel
theorem d_M_isFour_9 : decode b_M_isFour 9 = .ok (.iconst 1, 1) := by decide +kernel
theorem d_M_isFour_10 : decode b_M_isFour 10 = .ok (.goto 4, 3) := by decide +kernel
theorem d_M_isFour_13 : decode b_M_isFour 13 = .ok (.iconst 0, 1) := by decide +kernel
theorem d_M_isFour_14 : decode b_M_isFour 14 = .ok (.ireturn, 1) := by decide +kernel
theorem d_M_noTool_0 : decode b_M_noTool 0 = .ok (.iload_n 1, 1) := by decide +kernel
theorem d_M_noTool_1 : decode b_M_noTool 1 = .ok (.ifCond .lt 11, 3) := by decide +kernel
theorem d_M_noTool_4 : decode b_M_noTool 4 = .ok (.iload_n 1, 1) := by decide +kernel
theorem d_M_noTool_5 : decode b_M_noTool 5 = .ok (.aload_n 0, 1) := by decide +kernel
theorem d_M_noTool_6 : decode b_M_noTool 6 = .ok (.getfield 91, 3) := by decide +kernel
theorem d_M_noTool_9 : decode b_M_noTool 9 = .ok (.if_icmp .lt 7, 3) := by decide +kernel
theorem d_M_noTool_12 : decode b_M_noTool 12 = .ok (.iconst 1, 1) := by decide +kernel
theorem d_M_noTool_13 : decode b_M_noTool 13 = .ok (.goto 4, 3) := by decide +kernel
theorem d_M_noTool_16 : decode b_M_noTool 16 = .ok (.iconst 0, 1) := by decide +kernel
theorem d_M_noTool_17 : decode b_M_noTool 17 = .ok (.ireturn, 1) := by decide +kernel
theorem d_M_tool_0 : decode b_M_tool 0 = .ok (.aload_n 0, 1) := by decide +kernel
theorem d_M_tool_1 : decode b_M_tool 1 = .ok (.iload_n 1, 1) := by decide +kernel
theorem d_M_tool_2 : decode b_M_tool 2 = .ok (.invokestatic 94, 3) := by decide +kernel
theorem d_M_tool_5 : decode b_M_tool 5 = .ok (.ifCond .ne 7, 3) := by decide +kernel
theorem d_M_tool_8 : decode b_M_tool 8 = .ok (.iconst 1, 1) := by decide +kernel
theorem d_M_tool_9 : decode b_M_tool 9 = .ok (.goto 38, 3) := by decide +kernel
theorem d_M_tool_12 : decode b_M_tool 12 = .ok (.iload_n 3, 1) := by decide +kernel
theorem d_M_tool_13 : decode b_M_tool 13 = .ok (.i2l, 1) := by decide +kernel
theorem d_M_tool_14 : decode b_M_tool 14 = .ok (.lconst 0, 1) := by decide +kernel
theorem d_M_tool_15 : decode b_M_tool 15 = .ok (.iload_n 2, 1) := by decide +kernel
theorem d_M_tool_16 : decode b_M_tool 16 = .ok (.i2l, 1) := by decide +kernel
theorem d_M_tool_17 : decode b_M_tool 17 = .ok (.invokestatic 98, 3) := by decide +kernel
theorem d_M_tool_20 : decode b_M_tool 20 = .ok (.ifCond .eq 9, 3) := by decide +kernel
theorem d_M_tool_23 : decode b_M_tool 23 = .ok (.iload_n 2, 1) := by decide +kernel
theorem d_M_tool_24 : decode b_M_tool 24 = .ok (.ldc 102, 2) := by decide +kernel
theorem d_M_tool_26 : decode b_M_tool 26 = .ok (.if_icmp .le 7, 3) := by decide +kernel
theorem d_M_tool_29 : decode b_M_tool 29 = .ok (.iconst 2, 1) := by decide +kernel
theorem d_M_tool_30 : decode b_M_tool 30 = .ok (.goto 17, 3) := by decide +kernel
theorem d_M_tool_33 : decode b_M_tool 33 = .ok (.aload_n 0, 1) := by decide +kernel
theorem d_M_tool_34 : decode b_M_tool 34 = .ok (.getfield 91, 3) := by decide +kernel
theorem d_M_tool_37 : decode b_M_tool 37 = .ok (.bipush 12, 2) := by decide +kernel
theorem d_M_tool_39 : decode b_M_tool 39 = .ok (.if_icmp .ne 7, 3) := by decide +kernel
theorem d_M_tool_42 : decode b_M_tool 42 = .ok (.iconst 3, 1) := by decide +kernel
theorem d_M_tool_43 : decode b_M_tool 43 = .ok (.goto 4, 3) := by decide +kernel
theorem d_M_tool_46 : decode b_M_tool 46 = .ok (.iconst 0, 1) := by decide +kernel
theorem d_M_tool_47 : decode b_M_tool 47 = .ok (.putfield 88, 3) := by decide +kernel
theorem d_M_tool_50 : decode b_M_tool 50 = .ok (.aload_n 0, 1) := by decide +kernel
theorem d_M_tool_51 : decode b_M_tool 51 = .ok (.getfield 88, 3) := by decide +kernel
theorem d_M_tool_54 : decode b_M_tool 54 = .ok (.ifCond .le 5, 3) := by decide +kernel
theorem d_M_tool_57 : decode b_M_tool 57 = .ok (.iconst 0, 1) := by decide +kernel
theorem d_M_tool_58 : decode b_M_tool 58 = .ok (.ireturn, 1) := by decide +kernel
theorem d_M_tool_59 : decode b_M_tool 59 = .ok (.aload_n 0, 1) := by decide +kernel
theorem d_M_tool_60 : decode b_M_tool 60 = .ok (.getfield 7, 3) := by decide +kernel
theorem d_M_tool_63 : decode b_M_tool 63 = .ok (.aload_n 0, 1) := by decide +kernel
theorem d_M_tool_64 : decode b_M_tool 64 = .ok (.getfield 91, 3) := by decide +kernel
theorem d_M_tool_67 : decode b_M_tool 67 = .ok (.iload_n 1, 1) := by decide +kernel
theorem d_M_tool_68 : decode b_M_tool 68 = .ok (.iastore, 1) := by decide +kernel
theorem d_M_tool_69 : decode b_M_tool 69 = .ok (.aload_n 0, 1) := by decide +kernel
theorem d_M_tool_70 : decode b_M_tool 70 = .ok (.getfield 13, 3) := by decide +kernel
theorem d_M_tool_73 : decode b_M_tool 73 = .ok (.aload_n 0, 1) := by decide +kernel
theorem d_M_tool_74 : decode b_M_tool 74 = .ok (.getfield 91, 3) := by decide +kernel
theorem d_M_tool_77 : decode b_M_tool 77 = .ok (.iload_n 2, 1) := by decide +kernel
theorem d_M_tool_78 : decode b_M_tool 78 = .ok (.iastore, 1) := by decide +kernel
theorem d_M_tool_79 : decode b_M_tool 79 = .ok (.aload_n 0, 1) := by decide +kernel
theorem d_M_tool_80 : decode b_M_tool 80 = .ok (.getfield 16, 3) := by decide +kernel
theorem d_M_tool_83 : decode b_M_tool 83 = .ok (.aload_n 0, 1) := by decide +kernel
theorem d_M_tool_84 : decode b_M_tool 84 = .ok (.getfield 91, 3) := by decide +kernel
theorem d_M_tool_87 : decode b_M_tool 87 = .ok (.iload_n 3, 1) := by decide +kernel
theorem d_M_tool_88 : decode b_M_tool 88 = .ok (.iastore, 1) := by decide +kernel
theorem d_M_tool_89 : decode b_M_tool 89 = .ok (.aload_n 0, 1) := by decide +kernel
theorem d_M_tool_90 : decode b_M_tool 90 = .ok (.dup, 1) := by decide +kernel
theorem d_M_tool_91 : decode b_M_tool 91 = .ok (.getfield 91, 3) := by decide +kernel
theorem d_M_tool_94 : decode b_M_tool 94 = .ok (.iconst 1, 1) := by decide +kernel
theorem d_M_tool_95 : decode b_M_tool 95 = .ok (.iadd, 1) := by decide +kernel
theorem d_M_tool_96 : decode b_M_tool 96 = .ok (.putfield 91, 3) := by decide +kernel
theorem d_M_tool_99 : decode b_M_tool 99 = .ok (.aload_n 0, 1) := by decide +kernel
theorem d_M_tool_100 : decode b_M_tool 100 = .ok (.getfield 91, 3) := by decide +kernel
theorem d_M_tool_103 : decode b_M_tool 103 = .ok (.iconst 1, 1) := by decide +kernel
theorem d_M_tool_104 : decode b_M_tool 104 = .ok (.isub, 1) := by decide +kernel
theorem d_M_tool_105 : decode b_M_tool 105 = .ok (.ireturn, 1) := by decide +kernel
theorem d_M_rate_0 : decode b_M_rate 0 = .ok (.aload_n 0, 1) := by decide +kernel
theorem d_M_rate_1 : decode b_M_rate 1 = .ok (.iload_n 1, 1) := by decide +kernel
theorem d_M_rate_2 : decode b_M_rate 2 = .ok (.invokestatic 94, 3) := by decide +kernel
theorem d_M_rate_5 : decode b_M_rate 5 = .ok (.ifCond .eq 10, 3) := by decide +kernel
theorem d_M_rate_8 : decode b_M_rate 8 = .ok (.iload_n 2, 1) := by decide +kernel
theorem d_M_rate_9 : decode b_M_rate 9 = .ok (.invokestatic 94, 3) := by decide +kernel
theorem d_M_rate_12 : decode b_M_rate 12 = .ok (.ifCond .ne 7, 3) := by decide +kernel
theorem d_M_rate_15 : decode b_M_rate 15 = .ok (.iconst 1, 1) := by decide +kernel
theorem d_M_rate_16 : decode b_M_rate 16 = .ok (.goto 20, 3) := by decide +kernel
theorem d_M_rate_19 : decode b_M_rate 19 = .ok (.iload_n 3, 1) := by decide +kernel
theorem d_M_rate_20 : decode b_M_rate 20 = .ok (.i2l, 1) := by decide +kernel
theorem d_M_rate_21 : decode b_M_rate 21 = .ok (.lconst 0, 1) := by decide +kernel
theorem d_M_rate_22 : decode b_M_rate 22 = .ok (.ldc2_w 39, 3) := by decide +kernel
theorem d_M_rate_25 : decode b_M_rate 25 = .ok (.invokestatic 98, 3) := by decide +kernel
theorem d_M_rate_28 : decode b_M_rate 28 = .ok (.ifCond .eq 7, 3) := by decide +kernel
theorem d_M_rate_31 : decode b_M_rate 31 = .ok (.iconst 0, 1) := by decide +kernel
theorem d_M_rate_32 : decode b_M_rate 32 = .ok (.goto 4, 3) := by decide +kernel
theorem d_M_rate_35 : decode b_M_rate 35 = .ok (.iconst 2, 1) := by decide +kernel
theorem d_M_rate_36 : decode b_M_rate 36 = .ok (.putfield 88, 3) := by decide +kernel
theorem d_M_rate_39 : decode b_M_rate 39 = .ok (.aload_n 0, 1) := by decide +kernel
theorem d_M_rate_40 : decode b_M_rate 40 = .ok (.getfield 88, 3) := by decide +kernel
theorem d_M_rate_43 : decode b_M_rate 43 = .ok (.ifCond .ne 15, 3) := by decide +kernel
theorem d_M_rate_46 : decode b_M_rate 46 = .ok (.aload_n 0, 1) := by decide +kernel
theorem d_M_rate_47 : decode b_M_rate 47 = .ok (.getfield 36, 3) := by decide +kernel
theorem d_M_rate_50 : decode b_M_rate 50 = .ok (.iconst 4, 1) := by decide +kernel
theorem d_M_rate_51 : decode b_M_rate 51 = .ok (.iload_n 1, 1) := by decide +kernel
theorem d_M_rate_52 : decode b_M_rate 52 = .ok (.imul, 1) := by decide +kernel
theorem d_M_rate_53 : decode b_M_rate 53 = .ok (.iload_n 2, 1) := by decide +kernel
theorem d_M_rate_54 : decode b_M_rate 54 = .ok (.iadd, 1) := by decide +kernel
theorem d_M_rate_55 : decode b_M_rate 55 = .ok (.iload_n 3, 1) := by decide +kernel
theorem d_M_rate_56 : decode b_M_rate 56 = .ok (.i2l, 1) := by decide +kernel
theorem d_M_rate_57 : decode b_M_rate 57 = .ok (.lastore, 1) := by decide +kernel
theorem d_M_rate_58 : decode b_M_rate 58 = .ok (.return_, 1) := by decide +kernel
theorem d_M_limit_0 : decode b_M_limit 0 = .ok (.aload_n 0, 1) := by decide +kernel
theorem d_M_limit_1 : decode b_M_limit 1 = .ok (.iload_n 1, 1) := by decide +kernel
theorem d_M_limit_2 : decode b_M_limit 2 = .ok (.invokestatic 94, 3) := by decide +kernel
theorem d_M_limit_5 : decode b_M_limit 5 = .ok (.ifCond .ne 7, 3) := by decide +kernel
theorem d_M_limit_8 : decode b_M_limit 8 = .ok (.iconst 1, 1) := by decide +kernel
theorem d_M_limit_9 : decode b_M_limit 9 = .ok (.goto 19, 3) := by decide +kernel
theorem d_M_limit_12 : decode b_M_limit 12 = .ok (.lload_n 2, 1) := by decide +kernel
theorem d_M_limit_13 : decode b_M_limit 13 = .ok (.lconst 1, 1) := by decide +kernel
theorem d_M_limit_14 : decode b_M_limit 14 = .ok (.ldc2_w 103, 3) := by decide +kernel
theorem d_M_limit_17 : decode b_M_limit 17 = .ok (.invokestatic 98, 3) := by decide +kernel
theorem d_M_limit_20 : decode b_M_limit 20 = .ok (.ifCond .eq 7, 3) := by decide +kernel
theorem d_M_limit_23 : decode b_M_limit 23 = .ok (.iconst 0, 1) := by decide +kernel
theorem d_M_limit_24 : decode b_M_limit 24 = .ok (.goto 4, 3) := by decide +kernel
theorem d_M_limit_27 : decode b_M_limit 27 = .ok (.iconst 2, 1) := by decide +kernel
theorem d_M_limit_28 : decode b_M_limit 28 = .ok (.putfield 88, 3) := by decide +kernel
theorem d_M_limit_31 : decode b_M_limit 31 = .ok (.aload_n 0, 1) := by decide +kernel
theorem d_M_limit_32 : decode b_M_limit 32 = .ok (.getfield 88, 3) := by decide +kernel
theorem d_M_limit_35 : decode b_M_limit 35 = .ok (.ifCond .ne 10, 3) := by decide +kernel
theorem d_M_limit_38 : decode b_M_limit 38 = .ok (.aload_n 0, 1) := by decide +kernel
theorem d_M_limit_39 : decode b_M_limit 39 = .ok (.getfield 41, 3) := by decide +kernel
theorem d_M_limit_42 : decode b_M_limit 42 = .ok (.iload_n 1, 1) := by decide +kernel
theorem d_M_limit_43 : decode b_M_limit 43 = .ok (.lload_n 2, 1) := by decide +kernel
theorem d_M_limit_44 : decode b_M_limit 44 = .ok (.lastore, 1) := by decide +kernel
theorem d_M_limit_45 : decode b_M_limit 45 = .ok (.return_, 1) := by decide +kernel
theorem d_M_isBlunt_0 : decode b_M_isBlunt 0 = .ok (.aload_n 0, 1) := by decide +kernel
theorem d_M_isBlunt_1 : decode b_M_isBlunt 1 = .ok (.getfield 19, 3) := by decide +kernel
theorem d_M_isBlunt_4 : decode b_M_isBlunt 4 = .ok (.iload_n 1, 1) := by decide +kernel
theorem d_M_isBlunt_5 : decode b_M_isBlunt 5 = .ok (.laload, 1) := by decide +kernel
theorem d_M_isBlunt_6 : decode b_M_isBlunt 6 = .ok (.aload_n 0, 1) := by decide +kernel
theorem d_M_isBlunt_7 : decode b_M_isBlunt 7 = .ok (.getfield 41, 3) := by decide +kernel
theorem d_M_isBlunt_10 : decode b_M_isBlunt 10 = .ok (.aload_n 0, 1) := by decide +kernel
theorem d_M_isBlunt_11 : decode b_M_isBlunt 11 = .ok (.getfield 7, 3) := by decide +kernel
theorem d_M_isBlunt_14 : decode b_M_isBlunt 14 = .ok (.iload_n 1, 1) := by decide +kernel
theorem d_M_isBlunt_15 : decode b_M_isBlunt 15 = .ok (.iaload, 1) := by decide +kernel
theorem d_M_isBlunt_16 : decode b_M_isBlunt 16 = .ok (.laload, 1) := by decide +kernel
theorem d_M_isBlunt_17 : decode b_M_isBlunt 17 = .ok (.lcmp, 1) := by decide +kernel
theorem d_M_isBlunt_18 : decode b_M_isBlunt 18 = .ok (.ifCond .le 7, 3) := by decide +kernel
theorem d_M_isBlunt_21 : decode b_M_isBlunt 21 = .ok (.iconst 1, 1) := by decide +kernel
theorem d_M_isBlunt_22 : decode b_M_isBlunt 22 = .ok (.goto 4, 3) := by decide +kernel
theorem d_M_isBlunt_25 : decode b_M_isBlunt 25 = .ok (.iconst 0, 1) := by decide +kernel
theorem d_M_isBlunt_26 : decode b_M_isBlunt 26 = .ok (.ireturn, 1) := by decide +kernel
theorem d_M_use_0 : decode b_M_use 0 = .ok (.aload_n 0, 1) := by decide +kernel
theorem d_M_use_1 : decode b_M_use 1 = .ok (.aload_n 0, 1) := by decide +kernel
theorem d_M_use_2 : decode b_M_use 2 = .ok (.iload_n 1, 1) := by decide +kernel
theorem d_M_use_3 : decode b_M_use 3 = .ok (.invokevirtual 105, 3) := by decide +kernel
theorem d_M_use_6 : decode b_M_use 6 = .ok (.ifCond .ne 18, 3) := by decide +kernel
theorem d_M_use_9 : decode b_M_use 9 = .ok (.iload_n 3, 1) := by decide +kernel
theorem d_M_use_10 : decode b_M_use 10 = .ok (.invokestatic 94, 3) := by decide +kernel
theorem d_M_use_13 : decode b_M_use 13 = .ok (.ifCond .eq 11, 3) := by decide +kernel
theorem d_M_use_16 : decode b_M_use 16 = .ok (.iload 4, 2) := by decide +kernel
theorem d_M_use_18 : decode b_M_use 18 = .ok (.invokestatic 94, 3) := by decide +kernel
theorem d_M_use_21 : decode b_M_use 21 = .ok (.ifCond .ne 7, 3) := by decide +kernel
theorem d_M_use_24 : decode b_M_use 24 = .ok (.iconst 1, 1) := by decide +kernel
theorem d_M_use_25 : decode b_M_use 25 = .ok (.goto 33, 3) := by decide +kernel
theorem d_M_use_28 : decode b_M_use 28 = .ok (.iload_n 2, 1) := by decide +kernel
theorem d_M_use_29 : decode b_M_use 29 = .ok (.i2l, 1) := by decide +kernel
theorem d_M_use_30 : decode b_M_use 30 = .ok (.lconst 0, 1) := by decide +kernel
theorem d_M_use_31 : decode b_M_use 31 = .ok (.ldc2_w 39, 3) := by decide +kernel
theorem d_M_use_34 : decode b_M_use 34 = .ok (.invokestatic 98, 3) := by decide +kernel
theorem d_M_use_37 : decode b_M_use 37 = .ok (.ifCond .ne 7, 3) := by decide +kernel
theorem d_M_use_40 : decode b_M_use 40 = .ok (.iconst 2, 1) := by decide +kernel
theorem d_M_use_41 : decode b_M_use 41 = .ok (.goto 17, 3) := by decide +kernel
theorem d_M_use_44 : decode b_M_use 44 = .ok (.aload_n 0, 1) := by decide +kernel
theorem d_M_use_45 : decode b_M_use 45 = .ok (.getfield 23, 3) := by decide +kernel
theorem d_M_use_48 : decode b_M_use 48 = .ok (.iload_n 1, 1) := by decide +kernel
theorem d_M_use_49 : decode b_M_use 49 = .ok (.baload, 1) := by decide +kernel
theorem d_M_use_50 : decode b_M_use 50 = .ok (.ifCond .eq 7, 3) := by decide +kernel
theorem d_M_use_53 : decode b_M_use 53 = .ok (.iconst 3, 1) := by decide +kernel
theorem d_M_use_54 : decode b_M_use 54 = .ok (.goto 4, 3) := by decide +kernel
theorem d_M_use_57 : decode b_M_use 57 = .ok (.iconst 0, 1) := by decide +kernel
theorem d_M_use_58 : decode b_M_use 58 = .ok (.putfield 88, 3) := by decide +kernel
theorem d_M_use_61 : decode b_M_use 61 = .ok (.aload_n 0, 1) := by decide +kernel
theorem d_M_use_62 : decode b_M_use 62 = .ok (.getfield 88, 3) := by decide +kernel
theorem d_M_use_65 : decode b_M_use 65 = .ok (.ifCond .le 5, 3) := by decide +kernel
theorem d_M_use_68 : decode b_M_use 68 = .ok (.iconst 0, 1) := by decide +kernel
theorem d_M_use_69 : decode b_M_use 69 = .ok (.ireturn, 1) := by decide +kernel
theorem d_M_use_70 : decode b_M_use 70 = .ok (.aload_n 0, 1) := by decide +kernel
theorem d_M_use_71 : decode b_M_use 71 = .ok (.getfield 19, 3) := by decide +kernel
theorem d_M_use_74 : decode b_M_use 74 = .ok (.iload_n 1, 1) := by decide +kernel
theorem d_M_use_75 : decode b_M_use 75 = .ok (.aload_n 0, 1) := by decide +kernel
theorem d_M_use_76 : decode b_M_use 76 = .ok (.getfield 19, 3) := by decide +kernel
theorem d_M_use_79 : decode b_M_use 79 = .ok (.iload_n 1, 1) := by decide +kernel
theorem d_M_use_80 : decode b_M_use 80 = .ok (.laload, 1) := by decide +kernel
theorem d_M_use_81 : decode b_M_use 81 = .ok (.iload_n 2, 1) := by decide +kernel
theorem d_M_use_82 : decode b_M_use 82 = .ok (.i2l, 1) := by decide +kernel
theorem d_M_use_83 : decode b_M_use 83 = .ok (.aload_n 0, 1) := by decide +kernel
theorem d_M_use_84 : decode b_M_use 84 = .ok (.getfield 36, 3) := by decide +kernel
theorem d_M_use_87 : decode b_M_use 87 = .ok (.iconst 4, 1) := by decide +kernel
theorem d_M_use_88 : decode b_M_use 88 = .ok (.iload_n 3, 1) := by decide +kernel
theorem d_M_use_89 : decode b_M_use 89 = .ok (.imul, 1) := by decide +kernel
theorem d_M_use_90 : decode b_M_use 90 = .ok (.iload 4, 2) := by decide +kernel
theorem d_M_use_92 : decode b_M_use 92 = .ok (.iadd, 1) := by decide +kernel
theorem d_M_use_93 : decode b_M_use 93 = .ok (.laload, 1) := by decide +kernel
theorem d_M_use_94 : decode b_M_use 94 = .ok (.lmul, 1) := by decide +kernel
theorem d_M_use_95 : decode b_M_use 95 = .ok (.ladd, 1) := by decide +kernel
theorem d_M_use_96 : decode b_M_use 96 = .ok (.lastore, 1) := by decide +kernel
theorem d_M_use_97 : decode b_M_use 97 = .ok (.aload_n 0, 1) := by decide +kernel
theorem d_M_use_98 : decode b_M_use 98 = .ok (.getfield 19, 3) := by decide +kernel
theorem d_M_use_101 : decode b_M_use 101 = .ok (.iload_n 1, 1) := by decide +kernel
theorem d_M_use_102 : decode b_M_use 102 = .ok (.aload_n 0, 1) := by decide +kernel
theorem d_M_use_103 : decode b_M_use 103 = .ok (.getfield 19, 3) := by decide +kernel
theorem d_M_use_106 : decode b_M_use 106 = .ok (.iload_n 1, 1) := by decide +kernel
theorem d_M_use_107 : decode b_M_use 107 = .ok (.laload, 1) := by decide +kernel
theorem d_M_use_108 : decode b_M_use 108 = .ok (.ldc2_w 108, 3) := by decide +kernel
theorem d_M_use_111 : decode b_M_use 111 = .ok (.lcmp, 1) := by decide +kernel
theorem d_M_use_112 : decode b_M_use 112 = .ok (.ifCond .le 9, 3) := by decide +kernel
theorem d_M_use_115 : decode b_M_use 115 = .ok (.ldc2_w 108, 3) := by decide +kernel
theorem d_M_use_118 : decode b_M_use 118 = .ok (.goto 9, 3) := by decide +kernel
theorem d_M_use_121 : decode b_M_use 121 = .ok (.aload_n 0, 1) := by decide +kernel
theorem d_M_use_122 : decode b_M_use 122 = .ok (.getfield 19, 3) := by decide +kernel
theorem d_M_use_125 : decode b_M_use 125 = .ok (.iload_n 1, 1) := by decide +kernel
theorem d_M_use_126 : decode b_M_use 126 = .ok (.laload, 1) := by decide +kernel
theorem d_M_use_127 : decode b_M_use 127 = .ok (.lastore, 1) := by decide +kernel
theorem d_M_use_128 : decode b_M_use 128 = .ok (.aload_n 0, 1) := by decide +kernel
theorem d_M_use_129 : decode b_M_use 129 = .ok (.getfield 30, 3) := by decide +kernel
theorem d_M_use_132 : decode b_M_use 132 = .ok (.iload_n 1, 1) := by decide +kernel
theorem d_M_use_133 : decode b_M_use 133 = .ok (.dup2, 1) := by decide +kernel
theorem d_M_use_134 : decode b_M_use 134 = .ok (.iaload, 1) := by decide +kernel
theorem d_M_use_135 : decode b_M_use 135 = .ok (.iconst 1, 1) := by decide +kernel
theorem d_M_use_136 : decode b_M_use 136 = .ok (.iadd, 1) := by decide +kernel
theorem d_M_use_137 : decode b_M_use 137 = .ok (.iastore, 1) := by decide +kernel
theorem d_M_use_138 : decode b_M_use 138 = .ok (.aload_n 0, 1) := by decide +kernel
theorem d_M_use_139 : decode b_M_use 139 = .ok (.iload_n 1, 1) := by decide +kernel
theorem d_M_use_140 : decode b_M_use 140 = .ok (.invokevirtual 110, 3) := by decide +kernel
theorem d_M_use_143 : decode b_M_use 143 = .ok (.ifCond .ne 7, 3) := by decide +kernel
theorem d_M_use_146 : decode b_M_use 146 = .ok (.iconst 1, 1) := by decide +kernel
theorem d_M_use_147 : decode b_M_use 147 = .ok (.goto 4, 3) := by decide +kernel
theorem d_M_use_150 : decode b_M_use 150 = .ok (.iconst 0, 1) := by decide +kernel
theorem d_M_use_151 : decode b_M_use 151 = .ok (.ireturn, 1) := by decide +kernel
theorem d_M_grind_0 : decode b_M_grind 0 = .ok (.aload_n 0, 1) := by decide +kernel
theorem d_M_grind_1 : decode b_M_grind 1 = .ok (.aload_n 0, 1) := by decide +kernel
theorem d_M_grind_2 : decode b_M_grind 2 = .ok (.iload_n 1, 1) := by decide +kernel
theorem d_M_grind_3 : decode b_M_grind 3 = .ok (.invokevirtual 105, 3) := by decide +kernel
theorem d_M_grind_6 : decode b_M_grind 6 = .ok (.ifCond .eq 7, 3) := by decide +kernel
theorem d_M_grind_9 : decode b_M_grind 9 = .ok (.iconst 1, 1) := by decide +kernel
theorem d_M_grind_10 : decode b_M_grind 10 = .ok (.goto 33, 3) := by decide +kernel
theorem d_M_grind_13 : decode b_M_grind 13 = .ok (.iload_n 2, 1) := by decide +kernel
theorem d_M_grind_14 : decode b_M_grind 14 = .ok (.i2l, 1) := by decide +kernel
theorem d_M_grind_15 : decode b_M_grind 15 = .ok (.lconst 1, 1) := by decide +kernel
theorem d_M_grind_16 : decode b_M_grind 16 = .ok (.ldc2_w 39, 3) := by decide +kernel
theorem d_M_grind_19 : decode b_M_grind 19 = .ok (.invokestatic 98, 3) := by decide +kernel
theorem d_M_grind_22 : decode b_M_grind 22 = .ok (.ifCond .ne 7, 3) := by decide +kernel
theorem d_M_grind_25 : decode b_M_grind 25 = .ok (.iconst 2, 1) := by decide +kernel
theorem d_M_grind_26 : decode b_M_grind 26 = .ok (.goto 17, 3) := by decide +kernel
theorem d_M_grind_29 : decode b_M_grind 29 = .ok (.aload_n 0, 1) := by decide +kernel
theorem d_M_grind_30 : decode b_M_grind 30 = .ok (.getfield 23, 3) := by decide +kernel
theorem d_M_grind_33 : decode b_M_grind 33 = .ok (.iload_n 1, 1) := by decide +kernel
theorem d_M_grind_34 : decode b_M_grind 34 = .ok (.baload, 1) := by decide +kernel
theorem d_M_grind_35 : decode b_M_grind 35 = .ok (.ifCond .eq 7, 3) := by decide +kernel
theorem d_M_grind_38 : decode b_M_grind 38 = .ok (.iconst 3, 1) := by decide +kernel
theorem d_M_grind_39 : decode b_M_grind 39 = .ok (.goto 4, 3) := by decide +kernel
theorem d_M_grind_42 : decode b_M_grind 42 = .ok (.iconst 0, 1) := by decide +kernel
theorem d_M_grind_43 : decode b_M_grind 43 = .ok (.putfield 88, 3) := by decide +kernel
theorem d_M_grind_46 : decode b_M_grind 46 = .ok (.aload_n 0, 1) := by decide +kernel
theorem d_M_grind_47 : decode b_M_grind 47 = .ok (.getfield 88, 3) := by decide +kernel
theorem d_M_grind_50 : decode b_M_grind 50 = .ok (.ifCond .le 5, 3) := by decide +kernel
theorem d_M_grind_53 : decode b_M_grind 53 = .ok (.iconst 0, 1) := by decide +kernel
theorem d_M_grind_54 : decode b_M_grind 54 = .ok (.ireturn, 1) := by decide +kernel
theorem d_M_grind_55 : decode b_M_grind 55 = .ok (.aload_n 0, 1) := by decide +kernel
theorem d_M_grind_56 : decode b_M_grind 56 = .ok (.getfield 13, 3) := by decide +kernel
theorem d_M_grind_59 : decode b_M_grind 59 = .ok (.iload_n 1, 1) := by decide +kernel
theorem d_M_grind_60 : decode b_M_grind 60 = .ok (.iaload, 1) := by decide +kernel
theorem d_M_grind_61 : decode b_M_grind 61 = .ok (.iload_n 2, 1) := by decide +kernel
theorem d_M_grind_62 : decode b_M_grind 62 = .ok (.isub, 1) := by decide +kernel
theorem d_M_grind_63 : decode b_M_grind 63 = .ok (.aload_n 0, 1) := by decide +kernel
theorem d_M_grind_64 : decode b_M_grind 64 = .ok (.getfield 16, 3) := by decide +kernel
theorem d_M_grind_67 : decode b_M_grind 67 = .ok (.iload_n 1, 1) := by decide +kernel
theorem d_M_grind_68 : decode b_M_grind 68 = .ok (.iaload, 1) := by decide +kernel
theorem d_M_grind_69 : decode b_M_grind 69 = .ok (.if_icmp .ge 12, 3) := by decide +kernel
theorem d_M_grind_72 : decode b_M_grind 72 = .ok (.aload_n 0, 1) := by decide +kernel
theorem d_M_grind_73 : decode b_M_grind 73 = .ok (.getfield 23, 3) := by decide +kernel
theorem d_M_grind_76 : decode b_M_grind 76 = .ok (.iload_n 1, 1) := by decide +kernel
theorem d_M_grind_77 : decode b_M_grind 77 = .ok (.iconst 1, 1) := by decide +kernel
theorem d_M_grind_78 : decode b_M_grind 78 = .ok (.bastore, 1) := by decide +kernel
theorem d_M_grind_79 : decode b_M_grind 79 = .ok (.iconst 0, 1) := by decide +kernel
theorem d_M_grind_80 : decode b_M_grind 80 = .ok (.ireturn, 1) := by decide +kernel
theorem d_M_grind_81 : decode b_M_grind 81 = .ok (.aload_n 0, 1) := by decide +kernel
theorem d_M_grind_82 : decode b_M_grind 82 = .ok (.getfield 13, 3) := by decide +kernel
theorem d_M_grind_85 : decode b_M_grind 85 = .ok (.iload_n 1, 1) := by decide +kernel
theorem d_M_grind_86 : decode b_M_grind 86 = .ok (.aload_n 0, 1) := by decide +kernel
theorem d_M_grind_87 : decode b_M_grind 87 = .ok (.getfield 13, 3) := by decide +kernel
theorem d_M_grind_90 : decode b_M_grind 90 = .ok (.iload_n 1, 1) := by decide +kernel
theorem d_M_grind_91 : decode b_M_grind 91 = .ok (.iaload, 1) := by decide +kernel
theorem d_M_grind_92 : decode b_M_grind 92 = .ok (.iload_n 2, 1) := by decide +kernel
theorem d_M_grind_93 : decode b_M_grind 93 = .ok (.isub, 1) := by decide +kernel
theorem d_M_grind_94 : decode b_M_grind 94 = .ok (.iastore, 1) := by decide +kernel
theorem d_M_grind_95 : decode b_M_grind 95 = .ok (.aload_n 0, 1) := by decide +kernel
theorem d_M_grind_96 : decode b_M_grind 96 = .ok (.getfield 19, 3) := by decide +kernel
theorem d_M_grind_99 : decode b_M_grind 99 = .ok (.iload_n 1, 1) := by decide +kernel
theorem d_M_grind_100 : decode b_M_grind 100 = .ok (.lconst 0, 1) := by decide +kernel
theorem d_M_grind_101 : decode b_M_grind 101 = .ok (.lastore, 1) := by decide +kernel
theorem d_M_grind_102 : decode b_M_grind 102 = .ok (.aload_n 0, 1) := by decide +kernel
theorem d_M_grind_103 : decode b_M_grind 103 = .ok (.getfield 33, 3) := by decide +kernel
theorem d_M_grind_106 : decode b_M_grind 106 = .ok (.iload_n 1, 1) := by decide +kernel
theorem d_M_grind_107 : decode b_M_grind 107 = .ok (.dup2, 1) := by decide +kernel
theorem d_M_grind_108 : decode b_M_grind 108 = .ok (.iaload, 1) := by decide +kernel
theorem d_M_grind_109 : decode b_M_grind 109 = .ok (.iconst 1, 1) := by decide +kernel
theorem d_M_grind_110 : decode b_M_grind 110 = .ok (.iadd, 1) := by decide +kernel
theorem d_M_grind_111 : decode b_M_grind 111 = .ok (.iastore, 1) := by decide +kernel
theorem d_M_grind_112 : decode b_M_grind 112 = .ok (.iconst 1, 1) := by decide +kernel
theorem d_M_grind_113 : decode b_M_grind 113 = .ok (.ireturn, 1) := by decide +kernel
theorem d_M_about_0 : decode b_M_about 0 = .ok (.aload_n 0, 1) := by decide +kernel
theorem d_M_about_1 : decode b_M_about 1 = .ok (.aload_n 0, 1) := by decide +kernel
theorem d_M_about_2 : decode b_M_about 2 = .ok (.iload_n 1, 1) := by decide +kernel
theorem d_M_about_3 : decode b_M_about 3 = .ok (.invokevirtual 105, 3) := by decide +kernel
theorem d_M_about_6 : decode b_M_about 6 = .ok (.ifCond .ne 15, 3) := by decide +kernel
theorem d_M_about_9 : decode b_M_about 9 = .ok (.iload_n 2, 1) := by decide +kernel
theorem d_M_about_10 : decode b_M_about 10 = .ok (.i2l, 1) := by decide +kernel
theorem d_M_about_11 : decode b_M_about 11 = .ok (.lconst 0, 1) := by decide +kernel
theorem d_M_about_12 : decode b_M_about 12 = .ok (.ldc2_w 113, 3) := by decide +kernel
theorem d_M_about_15 : decode b_M_about 15 = .ok (.invokestatic 98, 3) := by decide +kernel
theorem d_M_about_18 : decode b_M_about 18 = .ok (.ifCond .ne 7, 3) := by decide +kernel
theorem d_M_about_21 : decode b_M_about 21 = .ok (.iconst 1, 1) := by decide +kernel
theorem d_M_about_22 : decode b_M_about 22 = .ok (.goto 4, 3) := by decide +kernel
theorem d_M_about_25 : decode b_M_about 25 = .ok (.iconst 0, 1) := by decide +kernel
theorem d_M_about_26 : decode b_M_about 26 = .ok (.putfield 88, 3) := by decide +kernel
theorem d_M_about_29 : decode b_M_about 29 = .ok (.aload_n 0, 1) := by decide +kernel
theorem d_M_about_30 : decode b_M_about 30 = .ok (.getfield 88, 3) := by decide +kernel
theorem d_M_about_33 : decode b_M_about 33 = .ok (.ifCond .le 5, 3) := by decide +kernel
theorem d_M_about_36 : decode b_M_about 36 = .ok (.lconst 0, 1) := by decide +kernel
theorem d_M_about_37 : decode b_M_about 37 = .ok (.lreturn, 1) := by decide +kernel
theorem d_M_about_38 : decode b_M_about 38 = .ok (.iload_n 2, 1) := by decide +kernel
theorem d_M_about_39 : decode b_M_about 39 = .ok (.iconst 3, 1) := by decide +kernel
theorem d_M_about_40 : decode b_M_about 40 = .ok (.if_icmp .ge 39, 3) := by decide +kernel
theorem d_M_about_43 : decode b_M_about 43 = .ok (.iload_n 2, 1) := by decide +kernel
theorem d_M_about_44 : decode b_M_about 44 = .ok (.ifCond .ne 12, 3) := by decide +kernel
theorem d_M_about_47 : decode b_M_about 47 = .ok (.aload_n 0, 1) := by decide +kernel
theorem d_M_about_48 : decode b_M_about 48 = .ok (.getfield 19, 3) := by decide +kernel
theorem d_M_about_51 : decode b_M_about 51 = .ok (.iload_n 1, 1) := by decide +kernel
theorem d_M_about_52 : decode b_M_about 52 = .ok (.laload, 1) := by decide +kernel
theorem d_M_about_53 : decode b_M_about 53 = .ok (.goto 25, 3) := by decide +kernel
theorem d_M_about_56 : decode b_M_about 56 = .ok (.iload_n 2, 1) := by decide +kernel
theorem d_M_about_57 : decode b_M_about 57 = .ok (.iconst 1, 1) := by decide +kernel
theorem d_M_about_58 : decode b_M_about 58 = .ok (.if_icmp .ne 13, 3) := by decide +kernel
theorem d_M_about_61 : decode b_M_about 61 = .ok (.aload_n 0, 1) := by decide +kernel
theorem d_M_about_62 : decode b_M_about 62 = .ok (.getfield 13, 3) := by decide +kernel
theorem d_M_about_65 : decode b_M_about 65 = .ok (.iload_n 1, 1) := by decide +kernel
theorem d_M_about_66 : decode b_M_about 66 = .ok (.iaload, 1) := by decide +kernel
theorem d_M_about_67 : decode b_M_about 67 = .ok (.i2l, 1) := by decide +kernel
theorem d_M_about_68 : decode b_M_about 68 = .ok (.goto 10, 3) := by decide +kernel
theorem d_M_about_71 : decode b_M_about 71 = .ok (.aload_n 0, 1) := by decide +kernel
theorem d_M_about_72 : decode b_M_about 72 = .ok (.getfield 7, 3) := by decide +kernel
theorem d_M_about_75 : decode b_M_about 75 = .ok (.iload_n 1, 1) := by decide +kernel
theorem d_M_about_76 : decode b_M_about 76 = .ok (.iaload, 1) := by decide +kernel
theorem d_M_about_77 : decode b_M_about 77 = .ok (.i2l, 1) := by decide +kernel
theorem d_M_about_78 : decode b_M_about 78 = .ok (.lreturn, 1) := by decide +kernel
theorem d_M_about_79 : decode b_M_about 79 = .ok (.iload_n 2, 1) := by decide +kernel
theorem d_M_about_80 : decode b_M_about 80 = .ok (.iconst 3, 1) := by decide +kernel
theorem d_M_about_81 : decode b_M_about 81 = .ok (.if_icmp .ne 50, 3) := by decide +kernel
theorem d_M_about_84 : decode b_M_about 84 = .ok (.aload_n 0, 1) := by decide +kernel
theorem d_M_about_85 : decode b_M_about 85 = .ok (.getfield 23, 3) := by decide +kernel
theorem d_M_about_88 : decode b_M_about 88 = .ok (.iload_n 1, 1) := by decide +kernel
theorem d_M_about_89 : decode b_M_about 89 = .ok (.baload, 1) := by decide +kernel
theorem d_M_about_90 : decode b_M_about 90 = .ok (.ifCond .eq 7, 3) := by decide +kernel
theorem d_M_about_93 : decode b_M_about 93 = .ok (.iconst 1, 1) := by decide +kernel
theorem d_M_about_94 : decode b_M_about 94 = .ok (.goto 4, 3) := by decide +kernel
theorem d_M_about_97 : decode b_M_about 97 = .ok (.iconst 0, 1) := by decide +kernel
theorem d_M_about_98 : decode b_M_about 98 = .ok (.aload_n 0, 1) := by decide +kernel
theorem d_M_about_99 : decode b_M_about 99 = .ok (.iload_n 1, 1) := by decide +kernel
theorem d_M_about_100 : decode b_M_about 100 = .ok (.invokevirtual 110, 3) := by decide +kernel
theorem d_M_about_103 : decode b_M_about 103 = .ok (.ifCond .eq 7, 3) := by decide +kernel
theorem d_M_about_106 : decode b_M_about 106 = .ok (.iconst 2, 1) := by decide +kernel
theorem d_M_about_107 : decode b_M_about 107 = .ok (.goto 4, 3) := by decide +kernel
theorem d_M_about_110 : decode b_M_about 110 = .ok (.iconst 0, 1) := by decide +kernel
theorem d_M_about_111 : decode b_M_about 111 = .ok (.iadd, 1) := by decide +kernel
theorem d_M_about_112 : decode b_M_about 112 = .ok (.aload_n 0, 1) := by decide +kernel
theorem d_M_about_113 : decode b_M_about 113 = .ok (.getfield 27, 3) := by decide +kernel
theorem d_M_about_116 : decode b_M_about 116 = .ok (.iload_n 1, 1) := by decide +kernel
theorem d_M_about_117 : decode b_M_about 117 = .ok (.baload, 1) := by decide +kernel
theorem d_M_about_118 : decode b_M_about 118 = .ok (.ifCond .eq 7, 3) := by decide +kernel
theorem d_M_about_121 : decode b_M_about 121 = .ok (.iconst 4, 1) := by decide +kernel
theorem d_M_about_122 : decode b_M_about 122 = .ok (.goto 4, 3) := by decide +kernel
theorem d_M_about_125 : decode b_M_about 125 = .ok (.iconst 0, 1) := by decide +kernel
theorem d_M_about_126 : decode b_M_about 126 = .ok (.iadd, 1) := by decide +kernel
theorem d_M_about_127 : decode b_M_about 127 = .ok (.i2l, 1) := by decide +kernel
theorem d_M_about_128 : decode b_M_about 128 = .ok (.goto 25, 3) := by decide +kernel
theorem d_M_about_131 : decode b_M_about 131 = .ok (.iload_n 2, 1) := by decide +kernel
theorem d_M_about_132 : decode b_M_about 132 = .ok (.iconst 4, 1) := by decide +kernel
theorem d_M_about_133 : decode b_M_about 133 = .ok (.if_icmp .ne 13, 3) := by decide +kernel
theorem d_M_about_136 : decode b_M_about 136 = .ok (.aload_n 0, 1) := by decide +kernel
theorem d_M_about_137 : decode b_M_about 137 = .ok (.getfield 30, 3) := by decide +kernel
theorem d_M_about_140 : decode b_M_about 140 = .ok (.iload_n 1, 1) := by decide +kernel
theorem d_M_about_141 : decode b_M_about 141 = .ok (.iaload, 1) := by decide +kernel
theorem d_M_about_142 : decode b_M_about 142 = .ok (.i2l, 1) := by decide +kernel
theorem d_M_about_143 : decode b_M_about 143 = .ok (.goto 10, 3) := by decide +kernel
theorem d_M_about_146 : decode b_M_about 146 = .ok (.aload_n 0, 1) := by decide +kernel
theorem d_M_about_147 : decode b_M_about 147 = .ok (.getfield 33, 3) := by decide +kernel
theorem d_M_about_150 : decode b_M_about 150 = .ok (.iload_n 1, 1) := by decide +kernel
theorem d_M_about_151 : decode b_M_about 151 = .ok (.iaload, 1) := by decide +kernel
theorem d_M_about_152 : decode b_M_about 152 = .ok (.i2l, 1) := by decide +kernel
theorem d_M_about_153 : decode b_M_about 153 = .ok (.lreturn, 1) := by decide +kernel
theorem d_M_isSpare_0 : decode b_M_isSpare 0 = .ok (.aload_n 0, 1) := by decide +kernel
theorem d_M_isSpare_1 : decode b_M_isSpare 1 = .ok (.getfield 7, 3) := by decide +kernel
theorem d_M_isSpare_4 : decode b_M_isSpare 4 = .ok (.iload_n 1, 1) := by decide +kernel
theorem d_M_isSpare_5 : decode b_M_isSpare 5 = .ok (.iaload, 1) := by decide +kernel
theorem d_M_isSpare_6 : decode b_M_isSpare 6 = .ok (.iload_n 2, 1) := by decide +kernel
theorem d_M_isSpare_7 : decode b_M_isSpare 7 = .ok (.if_icmp .ne 36, 3) := by decide +kernel
theorem d_M_isSpare_10 : decode b_M_isSpare 10 = .ok (.aload_n 0, 1) := by decide +kernel
theorem d_M_isSpare_11 : decode b_M_isSpare 11 = .ok (.getfield 23, 3) := by decide +kernel
theorem d_M_isSpare_14 : decode b_M_isSpare 14 = .ok (.iload_n 1, 1) := by decide +kernel
theorem d_M_isSpare_15 : decode b_M_isSpare 15 = .ok (.baload, 1) := by decide +kernel
theorem d_M_isSpare_16 : decode b_M_isSpare 16 = .ok (.ifCond .ne 27, 3) := by decide +kernel
theorem d_M_isSpare_19 : decode b_M_isSpare 19 = .ok (.aload_n 0, 1) := by decide +kernel
theorem d_M_isSpare_20 : decode b_M_isSpare 20 = .ok (.getfield 19, 3) := by decide +kernel
theorem d_M_isSpare_23 : decode b_M_isSpare 23 = .ok (.iload_n 1, 1) := by decide +kernel
theorem d_M_isSpare_24 : decode b_M_isSpare 24 = .ok (.laload, 1) := by decide +kernel
theorem d_M_isSpare_25 : decode b_M_isSpare 25 = .ok (.lconst 0, 1) := by decide +kernel
theorem d_M_isSpare_26 : decode b_M_isSpare 26 = .ok (.lcmp, 1) := by decide +kernel
theorem d_M_isSpare_27 : decode b_M_isSpare 27 = .ok (.ifCond .ne 16, 3) := by decide +kernel
theorem d_M_isSpare_30 : decode b_M_isSpare 30 = .ok (.aload_n 0, 1) := by decide +kernel
theorem d_M_isSpare_31 : decode b_M_isSpare 31 = .ok (.getfield 27, 3) := by decide +kernel
theorem d_M_isSpare_34 : decode b_M_isSpare 34 = .ok (.iload_n 1, 1) := by decide +kernel
theorem d_M_isSpare_35 : decode b_M_isSpare 35 = .ok (.baload, 1) := by decide +kernel
theorem d_M_isSpare_36 : decode b_M_isSpare 36 = .ok (.ifCond .ne 7, 3) := by decide +kernel
theorem d_M_isSpare_39 : decode b_M_isSpare 39 = .ok (.iconst 1, 1) := by decide +kernel
theorem d_M_isSpare_40 : decode b_M_isSpare 40 = .ok (.goto 4, 3) := by decide +kernel
theorem d_M_isSpare_43 : decode b_M_isSpare 43 = .ok (.iconst 0, 1) := by decide +kernel
theorem d_M_isSpare_44 : decode b_M_isSpare 44 = .ok (.ireturn, 1) := by decide +kernel
theorem d_M_spare_0 : decode b_M_spare 0 = .ok (.aload_n 0, 1) := by decide +kernel
theorem d_M_spare_1 : decode b_M_spare 1 = .ok (.iload_n 1, 1) := by decide +kernel
theorem d_M_spare_2 : decode b_M_spare 2 = .ok (.invokestatic 94, 3) := by decide +kernel
theorem d_M_spare_5 : decode b_M_spare 5 = .ok (.ifCond .eq 7, 3) := by decide +kernel
theorem d_M_spare_8 : decode b_M_spare 8 = .ok (.iconst 0, 1) := by decide +kernel
theorem d_M_spare_9 : decode b_M_spare 9 = .ok (.goto 4, 3) := by decide +kernel
theorem d_M_spare_12 : decode b_M_spare 12 = .ok (.iconst 1, 1) := by decide +kernel
theorem d_M_spare_13 : decode b_M_spare 13 = .ok (.putfield 88, 3) := by decide +kernel
theorem d_M_spare_16 : decode b_M_spare 16 = .ok (.iconst 0, 1) := by decide +kernel
theorem d_M_spare_17 : decode b_M_spare 17 = .ok (.istore_n 2, 1) := by decide +kernel
theorem d_M_spare_18 : decode b_M_spare 18 = .ok (.iconst 0, 1) := by decide +kernel
theorem d_M_spare_19 : decode b_M_spare 19 = .ok (.istore_n 3, 1) := by decide +kernel
theorem d_M_spare_20 : decode b_M_spare 20 = .ok (.iload_n 3, 1) := by decide +kernel
theorem d_M_spare_21 : decode b_M_spare 21 = .ok (.aload_n 0, 1) := by decide +kernel
theorem d_M_spare_22 : decode b_M_spare 22 = .ok (.getfield 91, 3) := by decide +kernel
theorem d_M_spare_25 : decode b_M_spare 25 = .ok (.if_icmp .ge 33, 3) := by decide +kernel
theorem d_M_spare_28 : decode b_M_spare 28 = .ok (.aload_n 0, 1) := by decide +kernel
theorem d_M_spare_29 : decode b_M_spare 29 = .ok (.getfield 88, 3) := by decide +kernel
theorem d_M_spare_32 : decode b_M_spare 32 = .ok (.ifCond .ne 26, 3) := by decide +kernel
theorem d_M_spare_35 : decode b_M_spare 35 = .ok (.aload_n 0, 1) := by decide +kernel
theorem d_M_spare_36 : decode b_M_spare 36 = .ok (.iload_n 3, 1) := by decide +kernel
theorem d_M_spare_37 : decode b_M_spare 37 = .ok (.iload_n 1, 1) := by decide +kernel
theorem d_M_spare_38 : decode b_M_spare 38 = .ok (.invokevirtual 115, 3) := by decide +kernel
theorem d_M_spare_41 : decode b_M_spare 41 = .ok (.ifCond .eq 9, 3) := by decide +kernel
theorem d_M_spare_44 : decode b_M_spare 44 = .ok (.iload_n 2, 1) := by decide +kernel
theorem d_M_spare_45 : decode b_M_spare 45 = .ok (.iconst 1, 1) := by decide +kernel
theorem d_M_spare_46 : decode b_M_spare 46 = .ok (.iadd, 1) := by decide +kernel
theorem d_M_spare_47 : decode b_M_spare 47 = .ok (.goto 4, 3) := by decide +kernel
theorem d_M_spare_50 : decode b_M_spare 50 = .ok (.iload_n 2, 1) := by decide +kernel
theorem d_M_spare_51 : decode b_M_spare 51 = .ok (.istore_n 2, 1) := by decide +kernel
theorem d_M_spare_52 : decode b_M_spare 52 = .ok (.iinc 3 1, 3) := by decide +kernel
theorem d_M_spare_55 : decode b_M_spare 55 = .ok (.goto (-35), 3) := by decide +kernel
theorem d_M_spare_58 : decode b_M_spare 58 = .ok (.iload_n 2, 1) := by decide +kernel
theorem d_M_spare_59 : decode b_M_spare 59 = .ok (.ireturn, 1) := by decide +kernel
theorem d_M_take_0 : decode b_M_take 0 = .ok (.aload_n 0, 1) := by decide +kernel
theorem d_M_take_1 : decode b_M_take 1 = .ok (.iload_n 1, 1) := by decide +kernel
theorem d_M_take_2 : decode b_M_take 2 = .ok (.invokestatic 94, 3) := by decide +kernel
theorem d_M_take_5 : decode b_M_take 5 = .ok (.ifCond .eq 7, 3) := by decide +kernel
theorem d_M_take_8 : decode b_M_take 8 = .ok (.iconst 0, 1) := by decide +kernel
theorem d_M_take_9 : decode b_M_take 9 = .ok (.goto 4, 3) := by decide +kernel
theorem d_M_take_12 : decode b_M_take 12 = .ok (.iconst 1, 1) := by decide +kernel
theorem d_M_take_13 : decode b_M_take 13 = .ok (.putfield 88, 3) := by decide +kernel
theorem d_M_take_16 : decode b_M_take 16 = .ok (.iconst (-1), 1) := by decide +kernel
theorem d_M_take_17 : decode b_M_take 17 = .ok (.istore_n 2, 1) := by decide +kernel
theorem d_M_take_18 : decode b_M_take 18 = .ok (.iconst 0, 1) := by decide +kernel
theorem d_M_take_19 : decode b_M_take 19 = .ok (.istore_n 3, 1) := by decide +kernel
theorem d_M_take_20 : decode b_M_take 20 = .ok (.iload_n 3, 1) := by decide +kernel
theorem d_M_take_21 : decode b_M_take 21 = .ok (.aload_n 0, 1) := by decide +kernel
theorem d_M_take_22 : decode b_M_take 22 = .ok (.getfield 91, 3) := by decide +kernel
theorem d_M_take_25 : decode b_M_take 25 = .ok (.if_icmp .ge 51, 3) := by decide +kernel
theorem d_M_take_28 : decode b_M_take 28 = .ok (.aload_n 0, 1) := by decide +kernel
theorem d_M_take_29 : decode b_M_take 29 = .ok (.getfield 88, 3) := by decide +kernel
theorem d_M_take_32 : decode b_M_take 32 = .ok (.ifCond .ne 44, 3) := by decide +kernel
theorem d_M_take_35 : decode b_M_take 35 = .ok (.aload_n 0, 1) := by decide +kernel
theorem d_M_take_36 : decode b_M_take 36 = .ok (.iload_n 3, 1) := by decide +kernel
theorem d_M_take_37 : decode b_M_take 37 = .ok (.iload_n 1, 1) := by decide +kernel
theorem d_M_take_38 : decode b_M_take 38 = .ok (.invokevirtual 115, 3) := by decide +kernel
theorem d_M_take_41 : decode b_M_take 41 = .ok (.ifCond .eq 27, 3) := by decide +kernel
theorem d_M_take_44 : decode b_M_take 44 = .ok (.iload_n 2, 1) := by decide +kernel
theorem d_M_take_45 : decode b_M_take 45 = .ok (.iconst (-1), 1) := by decide +kernel
theorem d_M_take_46 : decode b_M_take 46 = .ok (.if_icmp .eq 18, 3) := by decide +kernel
theorem d_M_take_49 : decode b_M_take 49 = .ok (.aload_n 0, 1) := by decide +kernel
theorem d_M_take_50 : decode b_M_take 50 = .ok (.getfield 13, 3) := by decide +kernel
theorem d_M_take_53 : decode b_M_take 53 = .ok (.iload_n 3, 1) := by decide +kernel
theorem d_M_take_54 : decode b_M_take 54 = .ok (.iaload, 1) := by decide +kernel
theorem d_M_take_55 : decode b_M_take 55 = .ok (.aload_n 0, 1) := by decide +kernel
theorem d_M_take_56 : decode b_M_take 56 = .ok (.getfield 13, 3) := by decide +kernel
theorem d_M_take_59 : decode b_M_take 59 = .ok (.iload_n 2, 1) := by decide +kernel
theorem d_M_take_60 : decode b_M_take 60 = .ok (.iaload, 1) := by decide +kernel
theorem d_M_take_61 : decode b_M_take 61 = .ok (.if_icmp .ge 7, 3) := by decide +kernel
theorem d_M_take_64 : decode b_M_take 64 = .ok (.iload_n 3, 1) := by decide +kernel
theorem d_M_take_65 : decode b_M_take 65 = .ok (.goto 4, 3) := by decide +kernel
theorem d_M_take_68 : decode b_M_take 68 = .ok (.iload_n 2, 1) := by decide +kernel
theorem d_M_take_69 : decode b_M_take 69 = .ok (.istore_n 2, 1) := by decide +kernel
theorem d_M_take_70 : decode b_M_take 70 = .ok (.iinc 3 1, 3) := by decide +kernel
theorem d_M_take_73 : decode b_M_take 73 = .ok (.goto (-53), 3) := by decide +kernel
theorem d_M_take_76 : decode b_M_take 76 = .ok (.iload_n 2, 1) := by decide +kernel
theorem d_M_take_77 : decode b_M_take 77 = .ok (.iconst (-1), 1) := by decide +kernel
theorem d_M_take_78 : decode b_M_take 78 = .ok (.if_icmp .eq 10, 3) := by decide +kernel
theorem d_M_take_81 : decode b_M_take 81 = .ok (.aload_n 0, 1) := by decide +kernel
theorem d_M_take_82 : decode b_M_take 82 = .ok (.getfield 27, 3) := by decide +kernel
theorem d_M_take_85 : decode b_M_take 85 = .ok (.iload_n 2, 1) := by decide +kernel
theorem d_M_take_86 : decode b_M_take 86 = .ok (.iconst 1, 1) := by decide +kernel
theorem d_M_take_87 : decode b_M_take 87 = .ok (.bastore, 1) := by decide +kernel
theorem d_M_take_88 : decode b_M_take 88 = .ok (.aload_n 0, 1) := by decide +kernel
theorem d_M_take_89 : decode b_M_take 89 = .ok (.getfield 88, 3) := by decide +kernel
theorem d_M_take_92 : decode b_M_take 92 = .ok (.ifCond .le 7, 3) := by decide +kernel
theorem d_M_take_95 : decode b_M_take 95 = .ok (.iconst 0, 1) := by decide +kernel
theorem d_M_take_96 : decode b_M_take 96 = .ok (.goto 4, 3) := by decide +kernel
theorem d_M_take_99 : decode b_M_take 99 = .ok (.iload_n 2, 1) := by decide +kernel
theorem d_M_take_100 : decode b_M_take 100 = .ok (.ireturn, 1) := by decide +kernel
theorem d_M_bring_0 : decode b_M_bring 0 = .ok (.aload_n 0, 1) := by decide +kernel
theorem d_M_bring_1 : decode b_M_bring 1 = .ok (.aload_n 0, 1) := by decide +kernel
theorem d_M_bring_2 : decode b_M_bring 2 = .ok (.iload_n 1, 1) := by decide +kernel
theorem d_M_bring_3 : decode b_M_bring 3 = .ok (.invokevirtual 105, 3) := by decide +kernel
theorem d_M_bring_6 : decode b_M_bring 6 = .ok (.ifCond .eq 7, 3) := by decide +kernel
theorem d_M_bring_9 : decode b_M_bring 9 = .ok (.iconst 1, 1) := by decide +kernel
theorem d_M_bring_10 : decode b_M_bring 10 = .ok (.goto 4, 3) := by decide +kernel
theorem d_M_bring_13 : decode b_M_bring 13 = .ok (.iconst 0, 1) := by decide +kernel
theorem d_M_bring_14 : decode b_M_bring 14 = .ok (.putfield 88, 3) := by decide +kernel
theorem d_M_bring_17 : decode b_M_bring 17 = .ok (.aload_n 0, 1) := by decide +kernel
theorem d_M_bring_18 : decode b_M_bring 18 = .ok (.getfield 88, 3) := by decide +kernel
theorem d_M_bring_21 : decode b_M_bring 21 = .ok (.ifCond .le 5, 3) := by decide +kernel
theorem d_M_bring_24 : decode b_M_bring 24 = .ok (.iconst 0, 1) := by decide +kernel
theorem d_M_bring_25 : decode b_M_bring 25 = .ok (.ireturn, 1) := by decide +kernel
theorem d_M_bring_26 : decode b_M_bring 26 = .ok (.aload_n 0, 1) := by decide +kernel
theorem d_M_bring_27 : decode b_M_bring 27 = .ok (.getfield 27, 3) := by decide +kernel
theorem d_M_bring_30 : decode b_M_bring 30 = .ok (.iload_n 1, 1) := by decide +kernel
theorem d_M_bring_31 : decode b_M_bring 31 = .ok (.baload, 1) := by decide +kernel
theorem d_M_bring_32 : decode b_M_bring 32 = .ok (.istore_n 2, 1) := by decide +kernel
theorem d_M_bring_33 : decode b_M_bring 33 = .ok (.aload_n 0, 1) := by decide +kernel
theorem d_M_bring_34 : decode b_M_bring 34 = .ok (.getfield 27, 3) := by decide +kernel
theorem d_M_bring_37 : decode b_M_bring 37 = .ok (.iload_n 1, 1) := by decide +kernel
theorem d_M_bring_38 : decode b_M_bring 38 = .ok (.iconst 0, 1) := by decide +kernel
theorem d_M_bring_39 : decode b_M_bring 39 = .ok (.bastore, 1) := by decide +kernel
theorem d_M_bring_40 : decode b_M_bring 40 = .ok (.iload_n 2, 1) := by decide +kernel
theorem d_M_bring_41 : decode b_M_bring 41 = .ok (.ireturn, 1) := by decide +kernel
theorem d_M_life_0 : decode b_M_life 0 = .ok (.aload_n 0, 1) := by decide +kernel
theorem d_M_life_1 : decode b_M_life 1 = .ok (.iload_n 1, 1) := by decide +kernel
theorem d_M_life_2 : decode b_M_life 2 = .ok (.invokestatic 94, 3) := by decide +kernel
theorem d_M_life_5 : decode b_M_life 5 = .ok (.ifCond .ne 7, 3) := by decide +kernel
theorem d_M_life_8 : decode b_M_life 8 = .ok (.iconst 1, 1) := by decide +kernel
theorem d_M_life_9 : decode b_M_life 9 = .ok (.goto 35, 3) := by decide +kernel
theorem d_M_life_12 : decode b_M_life 12 = .ok (.iload_n 2, 1) := by decide +kernel
theorem d_M_life_13 : decode b_M_life 13 = .ok (.i2l, 1) := by decide +kernel
theorem d_M_life_14 : decode b_M_life 14 = .ok (.lconst 1, 1) := by decide +kernel
theorem d_M_life_15 : decode b_M_life 15 = .ok (.ldc2_w 119, 3) := by decide +kernel
theorem d_M_life_18 : decode b_M_life 18 = .ok (.invokestatic 98, 3) := by decide +kernel
theorem d_M_life_21 : decode b_M_life 21 = .ok (.ifCond .ne 7, 3) := by decide +kernel
theorem d_M_life_24 : decode b_M_life 24 = .ok (.iconst 2, 1) := by decide +kernel
theorem d_M_life_25 : decode b_M_life 25 = .ok (.goto 19, 3) := by decide +kernel
theorem d_M_life_28 : decode b_M_life 28 = .ok (.aload_n 0, 1) := by decide +kernel
theorem d_M_life_29 : decode b_M_life 29 = .ok (.getfield 47, 3) := by decide +kernel
theorem d_M_life_32 : decode b_M_life 32 = .ok (.iload_n 1, 1) := by decide +kernel
theorem d_M_life_33 : decode b_M_life 33 = .ok (.iaload, 1) := by decide +kernel
theorem d_M_life_34 : decode b_M_life 34 = .ok (.bipush 40, 2) := by decide +kernel
theorem d_M_life_36 : decode b_M_life 36 = .ok (.if_icmp .ne 7, 3) := by decide +kernel
theorem d_M_life_39 : decode b_M_life 39 = .ok (.iconst 3, 1) := by decide +kernel
theorem d_M_life_40 : decode b_M_life 40 = .ok (.goto 4, 3) := by decide +kernel
theorem d_M_life_43 : decode b_M_life 43 = .ok (.iconst 0, 1) := by decide +kernel
theorem d_M_life_44 : decode b_M_life 44 = .ok (.putfield 88, 3) := by decide +kernel
theorem d_M_life_47 : decode b_M_life 47 = .ok (.aload_n 0, 1) := by decide +kernel
theorem d_M_life_48 : decode b_M_life 48 = .ok (.getfield 88, 3) := by decide +kernel
theorem d_M_life_51 : decode b_M_life 51 = .ok (.ifCond .le 5, 3) := by decide +kernel
theorem d_M_life_54 : decode b_M_life 54 = .ok (.iconst 0, 1) := by decide +kernel
theorem d_M_life_55 : decode b_M_life 55 = .ok (.ireturn, 1) := by decide +kernel
theorem d_M_life_56 : decode b_M_life 56 = .ok (.aload_n 0, 1) := by decide +kernel
theorem d_M_life_57 : decode b_M_life 57 = .ok (.getfield 44, 3) := by decide +kernel
theorem d_M_life_60 : decode b_M_life 60 = .ok (.bipush 40, 2) := by decide +kernel
theorem d_M_life_62 : decode b_M_life 62 = .ok (.iload_n 1, 1) := by decide +kernel
theorem d_M_life_63 : decode b_M_life 63 = .ok (.imul, 1) := by decide +kernel
theorem d_M_life_64 : decode b_M_life 64 = .ok (.aload_n 0, 1) := by decide +kernel
theorem d_M_life_65 : decode b_M_life 65 = .ok (.getfield 47, 3) := by decide +kernel
theorem d_M_life_68 : decode b_M_life 68 = .ok (.iload_n 1, 1) := by decide +kernel
theorem d_M_life_69 : decode b_M_life 69 = .ok (.iaload, 1) := by decide +kernel
theorem d_M_life_70 : decode b_M_life 70 = .ok (.iadd, 1) := by decide +kernel
theorem d_M_life_71 : decode b_M_life 71 = .ok (.iload_n 2, 1) := by decide +kernel
theorem d_M_life_72 : decode b_M_life 72 = .ok (.iastore, 1) := by decide +kernel
theorem d_M_life_73 : decode b_M_life 73 = .ok (.aload_n 0, 1) := by decide +kernel
theorem d_M_life_74 : decode b_M_life 74 = .ok (.getfield 47, 3) := by decide +kernel
theorem d_M_life_77 : decode b_M_life 77 = .ok (.iload_n 1, 1) := by decide +kernel
theorem d_M_life_78 : decode b_M_life 78 = .ok (.dup2, 1) := by decide +kernel
theorem d_M_life_79 : decode b_M_life 79 = .ok (.iaload, 1) := by decide +kernel
theorem d_M_life_80 : decode b_M_life 80 = .ok (.iconst 1, 1) := by decide +kernel
theorem d_M_life_81 : decode b_M_life 81 = .ok (.iadd, 1) := by decide +kernel
theorem d_M_life_82 : decode b_M_life 82 = .ok (.iastore, 1) := by decide +kernel
theorem d_M_life_83 : decode b_M_life 83 = .ok (.aload_n 0, 1) := by decide +kernel
theorem d_M_life_84 : decode b_M_life 84 = .ok (.getfield 47, 3) := by decide +kernel
theorem d_M_life_87 : decode b_M_life 87 = .ok (.iload_n 1, 1) := by decide +kernel
theorem d_M_life_88 : decode b_M_life 88 = .ok (.iaload, 1) := by decide +kernel
theorem d_M_life_89 : decode b_M_life 89 = .ok (.ireturn, 1) := by decide +kernel
theorem d_M_cost_0 : decode b_M_cost 0 = .ok (.aload_n 0, 1) := by decide +kernel
theorem d_M_cost_1 : decode b_M_cost 1 = .ok (.iload_n 1, 1) := by decide +kernel
theorem d_M_cost_2 : decode b_M_cost 2 = .ok (.invokestatic 94, 3) := by decide +kernel
theorem d_M_cost_5 : decode b_M_cost 5 = .ok (.ifCond .ne 7, 3) := by decide +kernel
theorem d_M_cost_8 : decode b_M_cost 8 = .ok (.iconst 1, 1) := by decide +kernel
theorem d_M_cost_9 : decode b_M_cost 9 = .ok (.goto 32, 3) := by decide +kernel
theorem d_M_cost_12 : decode b_M_cost 12 = .ok (.iload_n 2, 1) := by decide +kernel
theorem d_M_cost_13 : decode b_M_cost 13 = .ok (.i2l, 1) := by decide +kernel
theorem d_M_cost_14 : decode b_M_cost 14 = .ok (.lconst 0, 1) := by decide +kernel
theorem d_M_cost_15 : decode b_M_cost 15 = .ok (.ldc2_w 39, 3) := by decide +kernel
theorem d_M_cost_18 : decode b_M_cost 18 = .ok (.invokestatic 98, 3) := by decide +kernel
theorem d_M_cost_21 : decode b_M_cost 21 = .ok (.ifCond .eq 19, 3) := by decide +kernel
theorem d_M_cost_24 : decode b_M_cost 24 = .ok (.iload_n 3, 1) := by decide +kernel
theorem d_M_cost_25 : decode b_M_cost 25 = .ok (.i2l, 1) := by decide +kernel
theorem d_M_cost_26 : decode b_M_cost 26 = .ok (.lconst 0, 1) := by decide +kernel
theorem d_M_cost_27 : decode b_M_cost 27 = .ok (.ldc2_w 39, 3) := by decide +kernel
theorem d_M_cost_30 : decode b_M_cost 30 = .ok (.invokestatic 98, 3) := by decide +kernel
theorem d_M_cost_33 : decode b_M_cost 33 = .ok (.ifCond .eq 7, 3) := by decide +kernel
theorem d_M_cost_36 : decode b_M_cost 36 = .ok (.iconst 0, 1) := by decide +kernel
theorem d_M_cost_37 : decode b_M_cost 37 = .ok (.goto 4, 3) := by decide +kernel
theorem d_M_cost_40 : decode b_M_cost 40 = .ok (.iconst 2, 1) := by decide +kernel
theorem d_M_cost_41 : decode b_M_cost 41 = .ok (.putfield 88, 3) := by decide +kernel
theorem d_M_cost_44 : decode b_M_cost 44 = .ok (.aload_n 0, 1) := by decide +kernel
theorem d_M_cost_45 : decode b_M_cost 45 = .ok (.getfield 88, 3) := by decide +kernel
theorem d_M_cost_48 : decode b_M_cost 48 = .ok (.ifCond .ne 19, 3) := by decide +kernel
theorem d_M_cost_51 : decode b_M_cost 51 = .ok (.aload_n 0, 1) := by decide +kernel
theorem d_M_cost_52 : decode b_M_cost 52 = .ok (.getfield 50, 3) := by decide +kernel
theorem d_M_cost_55 : decode b_M_cost 55 = .ok (.iload_n 1, 1) := by decide +kernel
theorem d_M_cost_56 : decode b_M_cost 56 = .ok (.iload_n 2, 1) := by decide +kernel
theorem d_M_cost_57 : decode b_M_cost 57 = .ok (.i2l, 1) := by decide +kernel
theorem d_M_cost_58 : decode b_M_cost 58 = .ok (.lastore, 1) := by decide +kernel
theorem d_M_cost_59 : decode b_M_cost 59 = .ok (.aload_n 0, 1) := by decide +kernel
theorem d_M_cost_60 : decode b_M_cost 60 = .ok (.getfield 53, 3) := by decide +kernel
theorem d_M_cost_63 : decode b_M_cost 63 = .ok (.iload_n 1, 1) := by decide +kernel
theorem d_M_cost_64 : decode b_M_cost 64 = .ok (.iload_n 3, 1) := by decide +kernel
theorem d_M_cost_65 : decode b_M_cost 65 = .ok (.i2l, 1) := by decide +kernel
theorem d_M_cost_66 : decode b_M_cost 66 = .ok (.lastore, 1) := by decide +kernel
theorem d_M_cost_67 : decode b_M_cost 67 = .ok (.return_, 1) := by decide +kernel
theorem d_M_costs_0 : decode b_M_costs 0 = .ok (.lconst 0, 1) := by decide +kernel
theorem d_M_costs_1 : decode b_M_costs 1 = .ok (.lstore_n 3, 1) := by decide +kernel
theorem d_M_costs_2 : decode b_M_costs 2 = .ok (.iconst 0, 1) := by decide +kernel
theorem d_M_costs_3 : decode b_M_costs 3 = .ok (.istore 5, 2) := by decide +kernel
theorem d_M_costs_5 : decode b_M_costs 5 = .ok (.iload 5, 2) := by decide +kernel
theorem d_M_costs_7 : decode b_M_costs 7 = .ok (.aload_n 0, 1) := by decide +kernel
theorem d_M_costs_8 : decode b_M_costs 8 = .ok (.getfield 47, 3) := by decide +kernel
theorem d_M_costs_11 : decode b_M_costs 11 = .ok (.iload_n 1, 1) := by decide +kernel
theorem d_M_costs_12 : decode b_M_costs 12 = .ok (.iaload, 1) := by decide +kernel
theorem d_M_costs_13 : decode b_M_costs 13 = .ok (.if_icmp .ge 43, 3) := by decide +kernel
theorem d_M_costs_16 : decode b_M_costs 16 = .ok (.lload_n 3, 1) := by decide +kernel
theorem d_M_costs_17 : decode b_M_costs 17 = .ok (.aload_n 0, 1) := by decide +kernel
theorem d_M_costs_18 : decode b_M_costs 18 = .ok (.getfield 44, 3) := by decide +kernel
theorem d_M_costs_21 : decode b_M_costs 21 = .ok (.bipush 40, 2) := by decide +kernel
theorem d_M_costs_23 : decode b_M_costs 23 = .ok (.iload_n 1, 1) := by decide +kernel
theorem d_M_costs_24 : decode b_M_costs 24 = .ok (.imul, 1) := by decide +kernel
theorem d_M_costs_25 : decode b_M_costs 25 = .ok (.iload 5, 2) := by decide +kernel
theorem d_M_costs_27 : decode b_M_costs 27 = .ok (.iadd, 1) := by decide +kernel
theorem d_M_costs_28 : decode b_M_costs 28 = .ok (.iaload, 1) := by decide +kernel
theorem d_M_costs_29 : decode b_M_costs 29 = .ok (.iload_n 2, 1) := by decide +kernel
theorem d_M_costs_30 : decode b_M_costs 30 = .ok (.if_icmp .ge 12, 3) := by decide +kernel
theorem d_M_costs_33 : decode b_M_costs 33 = .ok (.aload_n 0, 1) := by decide +kernel
theorem d_M_costs_34 : decode b_M_costs 34 = .ok (.getfield 53, 3) := by decide +kernel
theorem d_M_costs_37 : decode b_M_costs 37 = .ok (.iload_n 1, 1) := by decide +kernel
theorem d_M_costs_38 : decode b_M_costs 38 = .ok (.laload, 1) := by decide +kernel
theorem d_M_costs_39 : decode b_M_costs 39 = .ok (.goto 9, 3) := by decide +kernel
theorem d_M_costs_42 : decode b_M_costs 42 = .ok (.aload_n 0, 1) := by decide +kernel
theorem d_M_costs_43 : decode b_M_costs 43 = .ok (.getfield 50, 3) := by decide +kernel
theorem d_M_costs_46 : decode b_M_costs 46 = .ok (.iload_n 1, 1) := by decide +kernel
theorem d_M_costs_47 : decode b_M_costs 47 = .ok (.laload, 1) := by decide +kernel
theorem d_M_costs_48 : decode b_M_costs 48 = .ok (.ladd, 1) := by decide +kernel
theorem d_M_costs_49 : decode b_M_costs 49 = .ok (.lstore_n 3, 1) := by decide +kernel
theorem d_M_costs_50 : decode b_M_costs 50 = .ok (.iinc 5 1, 3) := by decide +kernel
theorem d_M_costs_53 : decode b_M_costs 53 = .ok (.goto (-48), 3) := by decide +kernel
theorem d_M_costs_56 : decode b_M_costs 56 = .ok (.lload_n 3, 1) := by decide +kernel
theorem d_M_costs_57 : decode b_M_costs 57 = .ok (.lreturn, 1) := by decide +kernel
theorem d_M_brings_0 : decode b_M_brings 0 = .ok (.lconst 0, 1) := by decide +kernel
theorem d_M_brings_1 : decode b_M_brings 1 = .ok (.lstore_n 3, 1) := by decide +kernel
theorem d_M_brings_2 : decode b_M_brings 2 = .ok (.iconst 0, 1) := by decide +kernel
theorem d_M_brings_3 : decode b_M_brings 3 = .ok (.istore 5, 2) := by decide +kernel
theorem d_M_brings_5 : decode b_M_brings 5 = .ok (.iload 5, 2) := by decide +kernel
theorem d_M_brings_7 : decode b_M_brings 7 = .ok (.aload_n 0, 1) := by decide +kernel
theorem d_M_brings_8 : decode b_M_brings 8 = .ok (.getfield 47, 3) := by decide +kernel
theorem d_M_brings_11 : decode b_M_brings 11 = .ok (.iload_n 1, 1) := by decide +kernel
theorem d_M_brings_12 : decode b_M_brings 12 = .ok (.iaload, 1) := by decide +kernel
theorem d_M_brings_13 : decode b_M_brings 13 = .ok (.if_icmp .ge 39, 3) := by decide +kernel
theorem d_M_brings_16 : decode b_M_brings 16 = .ok (.aload_n 0, 1) := by decide +kernel
theorem d_M_brings_17 : decode b_M_brings 17 = .ok (.getfield 44, 3) := by decide +kernel
theorem d_M_brings_20 : decode b_M_brings 20 = .ok (.bipush 40, 2) := by decide +kernel
theorem d_M_brings_22 : decode b_M_brings 22 = .ok (.iload_n 1, 1) := by decide +kernel
theorem d_M_brings_23 : decode b_M_brings 23 = .ok (.imul, 1) := by decide +kernel
theorem d_M_brings_24 : decode b_M_brings 24 = .ok (.iload 5, 2) := by decide +kernel
theorem d_M_brings_26 : decode b_M_brings 26 = .ok (.iadd, 1) := by decide +kernel
theorem d_M_brings_27 : decode b_M_brings 27 = .ok (.iaload, 1) := by decide +kernel
theorem d_M_brings_28 : decode b_M_brings 28 = .ok (.istore 6, 2) := by decide +kernel
theorem d_M_brings_30 : decode b_M_brings 30 = .ok (.lload_n 3, 1) := by decide +kernel
theorem d_M_brings_31 : decode b_M_brings 31 = .ok (.iload 6, 2) := by decide +kernel
theorem d_M_brings_33 : decode b_M_brings 33 = .ok (.iload_n 2, 1) := by decide +kernel
theorem d_M_brings_34 : decode b_M_brings 34 = .ok (.if_icmp .ge 8, 3) := by decide +kernel
theorem d_M_brings_37 : decode b_M_brings 37 = .ok (.iload 6, 2) := by decide +kernel
theorem d_M_brings_39 : decode b_M_brings 39 = .ok (.goto 4, 3) := by decide +kernel
theorem d_M_brings_42 : decode b_M_brings 42 = .ok (.iload_n 2, 1) := by decide +kernel
theorem d_M_brings_43 : decode b_M_brings 43 = .ok (.i2l, 1) := by decide +kernel
theorem d_M_brings_44 : decode b_M_brings 44 = .ok (.ladd, 1) := by decide +kernel
theorem d_M_brings_45 : decode b_M_brings 45 = .ok (.lstore_n 3, 1) := by decide +kernel
theorem d_M_brings_46 : decode b_M_brings 46 = .ok (.iinc 5 1, 3) := by decide +kernel
theorem d_M_brings_49 : decode b_M_brings 49 = .ok (.goto (-44), 3) := by decide +kernel
theorem d_M_brings_52 : decode b_M_brings 52 = .ok (.lload_n 3, 1) := by decide +kernel
theorem d_M_brings_53 : decode b_M_brings 53 = .ok (.lreturn, 1) := by decide +kernel
theorem d_M_greatest_0 : decode b_M_greatest 0 = .ok (.iconst 0, 1) := by decide +kernel
theorem d_M_greatest_1 : decode b_M_greatest 1 = .ok (.istore_n 2, 1) := by decide +kernel
theorem d_M_greatest_2 : decode b_M_greatest 2 = .ok (.iconst 0, 1) := by decide +kernel
theorem d_M_greatest_3 : decode b_M_greatest 3 = .ok (.istore_n 3, 1) := by decide +kernel
theorem d_M_greatest_4 : decode b_M_greatest 4 = .ok (.iload_n 3, 1) := by decide +kernel
theorem d_M_greatest_5 : decode b_M_greatest 5 = .ok (.aload_n 0, 1) := by decide +kernel
theorem d_M_greatest_6 : decode b_M_greatest 6 = .ok (.getfield 47, 3) := by decide +kernel
theorem d_M_greatest_9 : decode b_M_greatest 9 = .ok (.iload_n 1, 1) := by decide +kernel
theorem d_M_greatest_10 : decode b_M_greatest 10 = .ok (.iaload, 1) := by decide +kernel
theorem d_M_greatest_11 : decode b_M_greatest 11 = .ok (.if_icmp .ge 35, 3) := by decide +kernel
theorem d_M_greatest_14 : decode b_M_greatest 14 = .ok (.aload_n 0, 1) := by decide +kernel
theorem d_M_greatest_15 : decode b_M_greatest 15 = .ok (.getfield 44, 3) := by decide +kernel
theorem d_M_greatest_18 : decode b_M_greatest 18 = .ok (.bipush 40, 2) := by decide +kernel
theorem d_M_greatest_20 : decode b_M_greatest 20 = .ok (.iload_n 1, 1) := by decide +kernel
theorem d_M_greatest_21 : decode b_M_greatest 21 = .ok (.imul, 1) := by decide +kernel
theorem d_M_greatest_22 : decode b_M_greatest 22 = .ok (.iload_n 3, 1) := by decide +kernel
theorem d_M_greatest_23 : decode b_M_greatest 23 = .ok (.iadd, 1) := by decide +kernel
theorem d_M_greatest_24 : decode b_M_greatest 24 = .ok (.iaload, 1) := by decide +kernel
theorem d_M_greatest_25 : decode b_M_greatest 25 = .ok (.istore 4, 2) := by decide +kernel
theorem d_M_greatest_27 : decode b_M_greatest 27 = .ok (.iload 4, 2) := by decide +kernel
theorem d_M_greatest_29 : decode b_M_greatest 29 = .ok (.iload_n 2, 1) := by decide +kernel
theorem d_M_greatest_30 : decode b_M_greatest 30 = .ok (.if_icmp .le 8, 3) := by decide +kernel
theorem d_M_greatest_33 : decode b_M_greatest 33 = .ok (.iload 4, 2) := by decide +kernel
theorem d_M_greatest_35 : decode b_M_greatest 35 = .ok (.goto 4, 3) := by decide +kernel
theorem d_M_greatest_38 : decode b_M_greatest 38 = .ok (.iload_n 2, 1) := by decide +kernel
theorem d_M_greatest_39 : decode b_M_greatest 39 = .ok (.istore_n 2, 1) := by decide +kernel
theorem d_M_greatest_40 : decode b_M_greatest 40 = .ok (.iinc 3 1, 3) := by decide +kernel
theorem d_M_greatest_43 : decode b_M_greatest 43 = .ok (.goto (-39), 3) := by decide +kernel
theorem d_M_greatest_46 : decode b_M_greatest 46 = .ok (.iload_n 2, 1) := by decide +kernel
theorem d_M_greatest_47 : decode b_M_greatest 47 = .ok (.ireturn, 1) := by decide +kernel
theorem d_M_change_0 : decode b_M_change 0 = .ok (.aload_n 0, 1) := by decide +kernel
theorem d_M_change_1 : decode b_M_change 1 = .ok (.iload_n 1, 1) := by decide +kernel
theorem d_M_change_2 : decode b_M_change 2 = .ok (.invokestatic 94, 3) := by decide +kernel
theorem d_M_change_5 : decode b_M_change 5 = .ok (.ifCond .ne 7, 3) := by decide +kernel
theorem d_M_change_8 : decode b_M_change 8 = .ok (.iconst 1, 1) := by decide +kernel
theorem d_M_change_9 : decode b_M_change 9 = .ok (.goto 17, 3) := by decide +kernel
theorem d_M_change_12 : decode b_M_change 12 = .ok (.aload_n 0, 1) := by decide +kernel
theorem d_M_change_13 : decode b_M_change 13 = .ok (.getfield 47, 3) := by decide +kernel
theorem d_M_change_16 : decode b_M_change 16 = .ok (.iload_n 1, 1) := by decide +kernel
theorem d_M_change_17 : decode b_M_change 17 = .ok (.iaload, 1) := by decide +kernel
theorem d_M_change_18 : decode b_M_change 18 = .ok (.ifCond .ne 7, 3) := by decide +kernel
theorem d_M_change_21 : decode b_M_change 21 = .ok (.iconst 2, 1) := by decide +kernel
theorem d_M_change_22 : decode b_M_change 22 = .ok (.goto 4, 3) := by decide +kernel
theorem d_M_change_25 : decode b_M_change 25 = .ok (.iconst 0, 1) := by decide +kernel
theorem d_M_change_26 : decode b_M_change 26 = .ok (.putfield 88, 3) := by decide +kernel
theorem d_M_change_29 : decode b_M_change 29 = .ok (.aload_n 0, 1) := by decide +kernel
theorem d_M_change_30 : decode b_M_change 30 = .ok (.getfield 88, 3) := by decide +kernel
theorem d_M_change_33 : decode b_M_change 33 = .ok (.ifCond .le 5, 3) := by decide +kernel
theorem d_M_change_36 : decode b_M_change 36 = .ok (.iconst 0, 1) := by decide +kernel
theorem d_M_change_37 : decode b_M_change 37 = .ok (.ireturn, 1) := by decide +kernel
theorem d_M_change_38 : decode b_M_change 38 = .ok (.iconst 1, 1) := by decide +kernel
theorem d_M_change_39 : decode b_M_change 39 = .ok (.istore_n 2, 1) := by decide +kernel
theorem d_M_change_40 : decode b_M_change 40 = .ok (.iconst 2, 1) := by decide +kernel
theorem d_M_change_41 : decode b_M_change 41 = .ok (.istore_n 3, 1) := by decide +kernel
theorem d_M_change_42 : decode b_M_change 42 = .ok (.iload_n 3, 1) := by decide +kernel
theorem d_M_change_43 : decode b_M_change 43 = .ok (.aload_n 0, 1) := by decide +kernel
theorem d_M_change_44 : decode b_M_change 44 = .ok (.iload_n 1, 1) := by decide +kernel
theorem d_M_change_45 : decode b_M_change 45 = .ok (.invokevirtual 121, 3) := by decide +kernel
theorem d_M_change_48 : decode b_M_change 48 = .ok (.if_icmp .gt 45, 3) := by decide +kernel
theorem d_M_change_51 : decode b_M_change 51 = .ok (.aload_n 0, 1) := by decide +kernel
theorem d_M_change_52 : decode b_M_change 52 = .ok (.iload_n 1, 1) := by decide +kernel
theorem d_M_change_53 : decode b_M_change 53 = .ok (.iload_n 3, 1) := by decide +kernel
theorem d_M_change_54 : decode b_M_change 54 = .ok (.invokevirtual 125, 3) := by decide +kernel
theorem d_M_change_57 : decode b_M_change 57 = .ok (.aload_n 0, 1) := by decide +kernel
theorem d_M_change_58 : decode b_M_change 58 = .ok (.iload_n 1, 1) := by decide +kernel
theorem d_M_change_59 : decode b_M_change 59 = .ok (.iload_n 2, 1) := by decide +kernel
theorem d_M_change_60 : decode b_M_change 60 = .ok (.invokevirtual 129, 3) := by decide +kernel
theorem d_M_change_63 : decode b_M_change 63 = .ok (.lmul, 1) := by decide +kernel
theorem d_M_change_64 : decode b_M_change 64 = .ok (.aload_n 0, 1) := by decide +kernel
theorem d_M_change_65 : decode b_M_change 65 = .ok (.iload_n 1, 1) := by decide +kernel
theorem d_M_change_66 : decode b_M_change 66 = .ok (.iload_n 2, 1) := by decide +kernel
theorem d_M_change_67 : decode b_M_change 67 = .ok (.invokevirtual 125, 3) := by decide +kernel
theorem d_M_change_70 : decode b_M_change 70 = .ok (.aload_n 0, 1) := by decide +kernel
theorem d_M_change_71 : decode b_M_change 71 = .ok (.iload_n 1, 1) := by decide +kernel
theorem d_M_change_72 : decode b_M_change 72 = .ok (.iload_n 3, 1) := by decide +kernel
theorem d_M_change_73 : decode b_M_change 73 = .ok (.invokevirtual 129, 3) := by decide +kernel
theorem d_M_change_76 : decode b_M_change 76 = .ok (.lmul, 1) := by decide +kernel
theorem d_M_change_77 : decode b_M_change 77 = .ok (.lcmp, 1) := by decide +kernel
theorem d_M_change_78 : decode b_M_change 78 = .ok (.ifCond .gt 7, 3) := by decide +kernel
theorem d_M_change_81 : decode b_M_change 81 = .ok (.iload_n 3, 1) := by decide +kernel
theorem d_M_change_82 : decode b_M_change 82 = .ok (.goto 4, 3) := by decide +kernel
theorem d_M_change_85 : decode b_M_change 85 = .ok (.iload_n 2, 1) := by decide +kernel
theorem d_M_change_86 : decode b_M_change 86 = .ok (.istore_n 2, 1) := by decide +kernel
theorem d_M_change_87 : decode b_M_change 87 = .ok (.iinc 3 1, 3) := by decide +kernel
theorem d_M_change_90 : decode b_M_change 90 = .ok (.goto (-48), 3) := by decide +kernel
theorem d_M_change_93 : decode b_M_change 93 = .ok (.iload_n 2, 1) := by decide +kernel
theorem d_M_change_94 : decode b_M_change 94 = .ok (.ireturn, 1) := by decide +kernel
theorem d_M_changed_0 : decode b_M_changed 0 = .ok (.aload_n 0, 1) := by decide +kernel
theorem d_M_changed_1 : decode b_M_changed 1 = .ok (.iload_n 1, 1) := by decide +kernel
theorem d_M_changed_2 : decode b_M_changed 2 = .ok (.invokestatic 94, 3) := by decide +kernel
theorem d_M_changed_5 : decode b_M_changed 5 = .ok (.ifCond .eq 13, 3) := by decide +kernel
theorem d_M_changed_8 : decode b_M_changed 8 = .ok (.iload_n 3, 1) := by decide +kernel
theorem d_M_changed_9 : decode b_M_changed 9 = .ok (.i2l, 1) := by decide +kernel
theorem d_M_changed_10 : decode b_M_changed 10 = .ok (.lconst 0, 1) := by decide +kernel
theorem d_M_changed_11 : decode b_M_changed 11 = .ok (.lconst 1, 1) := by decide +kernel
theorem d_M_changed_12 : decode b_M_changed 12 = .ok (.invokestatic 98, 3) := by decide +kernel
theorem d_M_changed_15 : decode b_M_changed 15 = .ok (.ifCond .ne 7, 3) := by decide +kernel
theorem d_M_changed_18 : decode b_M_changed 18 = .ok (.iconst 1, 1) := by decide +kernel
theorem d_M_changed_19 : decode b_M_changed 19 = .ok (.goto 26, 3) := by decide +kernel
theorem d_M_changed_22 : decode b_M_changed 22 = .ok (.iload_n 2, 1) := by decide +kernel
theorem d_M_changed_23 : decode b_M_changed 23 = .ok (.iconst 1, 1) := by decide +kernel
theorem d_M_changed_24 : decode b_M_changed 24 = .ok (.if_icmp .ge 7, 3) := by decide +kernel
theorem d_M_changed_27 : decode b_M_changed 27 = .ok (.iconst 2, 1) := by decide +kernel
theorem d_M_changed_28 : decode b_M_changed 28 = .ok (.goto 17, 3) := by decide +kernel
theorem d_M_changed_31 : decode b_M_changed 31 = .ok (.iload_n 2, 1) := by decide +kernel
theorem d_M_changed_32 : decode b_M_changed 32 = .ok (.aload_n 0, 1) := by decide +kernel
theorem d_M_changed_33 : decode b_M_changed 33 = .ok (.iload_n 1, 1) := by decide +kernel
theorem d_M_changed_34 : decode b_M_changed 34 = .ok (.invokevirtual 121, 3) := by decide +kernel
theorem d_M_changed_37 : decode b_M_changed 37 = .ok (.if_icmp .le 7, 3) := by decide +kernel
theorem d_M_changed_40 : decode b_M_changed 40 = .ok (.iconst 3, 1) := by decide +kernel
theorem d_M_changed_41 : decode b_M_changed 41 = .ok (.goto 4, 3) := by decide +kernel
theorem d_M_changed_44 : decode b_M_changed 44 = .ok (.iconst 0, 1) := by decide +kernel
theorem d_M_changed_45 : decode b_M_changed 45 = .ok (.putfield 88, 3) := by decide +kernel
theorem d_M_changed_48 : decode b_M_changed 48 = .ok (.aload_n 0, 1) := by decide +kernel
theorem d_M_changed_49 : decode b_M_changed 49 = .ok (.getfield 88, 3) := by decide +kernel
theorem d_M_changed_52 : decode b_M_changed 52 = .ok (.ifCond .le 7, 3) := by decide +kernel
theorem d_M_changed_55 : decode b_M_changed 55 = .ok (.lconst 0, 1) := by decide +kernel
theorem d_M_changed_56 : decode b_M_changed 56 = .ok (.goto 22, 3) := by decide +kernel
theorem d_M_changed_59 : decode b_M_changed 59 = .ok (.iload_n 3, 1) := by decide +kernel
theorem d_M_changed_60 : decode b_M_changed 60 = .ok (.ifCond .ne 12, 3) := by decide +kernel
theorem d_M_changed_63 : decode b_M_changed 63 = .ok (.aload_n 0, 1) := by decide +kernel
theorem d_M_changed_64 : decode b_M_changed 64 = .ok (.iload_n 1, 1) := by decide +kernel
theorem d_M_changed_65 : decode b_M_changed 65 = .ok (.iload_n 2, 1) := by decide +kernel
theorem d_M_changed_66 : decode b_M_changed 66 = .ok (.invokevirtual 125, 3) := by decide +kernel
theorem d_M_changed_69 : decode b_M_changed 69 = .ok (.goto 9, 3) := by decide +kernel
theorem d_M_changed_72 : decode b_M_changed 72 = .ok (.aload_n 0, 1) := by decide +kernel
theorem d_M_changed_73 : decode b_M_changed 73 = .ok (.iload_n 1, 1) := by decide +kernel
theorem d_M_changed_74 : decode b_M_changed 74 = .ok (.iload_n 2, 1) := by decide +kernel
theorem d_M_changed_75 : decode b_M_changed 75 = .ok (.invokevirtual 129, 3) := by decide +kernel
theorem d_M_changed_78 : decode b_M_changed 78 = .ok (.lreturn, 1) := by decide +kernel
theorem d_M_breaks_0 : decode b_M_breaks 0 = .ok (.aload_n 0, 1) := by decide +kernel
theorem d_M_breaks_1 : decode b_M_breaks 1 = .ok (.iload_n 1, 1) := by decide +kernel
theorem d_M_breaks_2 : decode b_M_breaks 2 = .ok (.invokestatic 94, 3) := by decide +kernel
theorem d_M_breaks_5 : decode b_M_breaks 5 = .ok (.ifCond .ne 7, 3) := by decide +kernel
theorem d_M_breaks_8 : decode b_M_breaks 8 = .ok (.iconst 1, 1) := by decide +kernel
theorem d_M_breaks_9 : decode b_M_breaks 9 = .ok (.goto 25, 3) := by decide +kernel
theorem d_M_breaks_12 : decode b_M_breaks 12 = .ok (.iload_n 2, 1) := by decide +kernel
theorem d_M_breaks_13 : decode b_M_breaks 13 = .ok (.ifCond .ge 7, 3) := by decide +kernel
theorem d_M_breaks_16 : decode b_M_breaks 16 = .ok (.iconst 2, 1) := by decide +kernel
theorem d_M_breaks_17 : decode b_M_breaks 17 = .ok (.goto 17, 3) := by decide +kernel
theorem d_M_breaks_20 : decode b_M_breaks 20 = .ok (.aload_n 0, 1) := by decide +kernel
theorem d_M_breaks_21 : decode b_M_breaks 21 = .ok (.getfield 47, 3) := by decide +kernel
theorem d_M_breaks_24 : decode b_M_breaks 24 = .ok (.iload_n 1, 1) := by decide +kernel
theorem d_M_breaks_25 : decode b_M_breaks 25 = .ok (.iaload, 1) := by decide +kernel
theorem d_M_breaks_26 : decode b_M_breaks 26 = .ok (.ifCond .ne 7, 3) := by decide +kernel
theorem d_M_breaks_29 : decode b_M_breaks 29 = .ok (.iconst 3, 1) := by decide +kernel
theorem d_M_breaks_30 : decode b_M_breaks 30 = .ok (.goto 4, 3) := by decide +kernel
theorem d_M_breaks_33 : decode b_M_breaks 33 = .ok (.iconst 0, 1) := by decide +kernel
theorem d_M_breaks_34 : decode b_M_breaks 34 = .ok (.putfield 88, 3) := by decide +kernel
theorem d_M_breaks_37 : decode b_M_breaks 37 = .ok (.aload_n 0, 1) := by decide +kernel
theorem d_M_breaks_38 : decode b_M_breaks 38 = .ok (.getfield 88, 3) := by decide +kernel
theorem d_M_breaks_41 : decode b_M_breaks 41 = .ok (.ifCond .le 5, 3) := by decide +kernel
theorem d_M_breaks_44 : decode b_M_breaks 44 = .ok (.iconst 0, 1) := by decide +kernel
theorem d_M_breaks_45 : decode b_M_breaks 45 = .ok (.ireturn, 1) := by decide +kernel
theorem d_M_breaks_46 : decode b_M_breaks 46 = .ok (.aload_n 0, 1) := by decide +kernel
theorem d_M_breaks_47 : decode b_M_breaks 47 = .ok (.getfield 84, 3) := by decide +kernel
theorem d_M_breaks_50 : decode b_M_breaks 50 = .ok (.ldc2_w 132, 3) := by decide +kernel
theorem d_M_breaks_53 : decode b_M_breaks 53 = .ok (.iload_n 2, 1) := by decide +kernel
theorem d_M_breaks_54 : decode b_M_breaks 54 = .ok (.i2l, 1) := by decide +kernel
theorem d_M_breaks_55 : decode b_M_breaks 55 = .ok (.lmul, 1) := by decide +kernel
theorem d_M_breaks_56 : decode b_M_breaks 56 = .ok (.iload_n 1, 1) := by decide +kernel
theorem d_M_breaks_57 : decode b_M_breaks 57 = .ok (.i2l, 1) := by decide +kernel
theorem d_M_breaks_58 : decode b_M_breaks 58 = .ok (.ladd, 1) := by decide +kernel
theorem d_M_breaks_59 : decode b_M_breaks 59 = .ok (.lconst 1, 1) := by decide +kernel
theorem d_M_breaks_60 : decode b_M_breaks 60 = .ok (.ladd, 1) := by decide +kernel
theorem d_M_breaks_61 : decode b_M_breaks 61 = .ok (.ldc2_w 134, 3) := by decide +kernel
theorem d_M_breaks_64 : decode b_M_breaks 64 = .ok (.lmul, 1) := by decide +kernel
theorem d_M_breaks_65 : decode b_M_breaks 65 = .ok (.ladd, 1) := by decide +kernel
theorem d_M_breaks_66 : decode b_M_breaks 66 = .ok (.lstore_n 3, 1) := by decide +kernel
theorem d_M_breaks_67 : decode b_M_breaks 67 = .ok (.lload_n 3, 1) := by decide +kernel
theorem d_M_breaks_68 : decode b_M_breaks 68 = .ok (.lload_n 3, 1) := by decide +kernel
theorem d_M_breaks_69 : decode b_M_breaks 69 = .ok (.bipush 30, 2) := by decide +kernel
theorem d_M_breaks_71 : decode b_M_breaks 71 = .ok (.lushr, 1) := by decide +kernel
theorem d_M_breaks_72 : decode b_M_breaks 72 = .ok (.lxor, 1) := by decide +kernel
theorem d_M_breaks_73 : decode b_M_breaks 73 = .ok (.ldc2_w 136, 3) := by decide +kernel
theorem d_M_breaks_76 : decode b_M_breaks 76 = .ok (.lmul, 1) := by decide +kernel
theorem d_M_breaks_77 : decode b_M_breaks 77 = .ok (.lstore_n 3, 1) := by decide +kernel
theorem d_M_breaks_78 : decode b_M_breaks 78 = .ok (.lload_n 3, 1) := by decide +kernel
theorem d_M_breaks_79 : decode b_M_breaks 79 = .ok (.lload_n 3, 1) := by decide +kernel
theorem d_M_breaks_80 : decode b_M_breaks 80 = .ok (.bipush 27, 2) := by decide +kernel
theorem d_M_breaks_82 : decode b_M_breaks 82 = .ok (.lushr, 1) := by decide +kernel
theorem d_M_breaks_83 : decode b_M_breaks 83 = .ok (.lxor, 1) := by decide +kernel
theorem d_M_breaks_84 : decode b_M_breaks 84 = .ok (.ldc2_w 138, 3) := by decide +kernel
theorem d_M_breaks_87 : decode b_M_breaks 87 = .ok (.lmul, 1) := by decide +kernel
theorem d_M_breaks_88 : decode b_M_breaks 88 = .ok (.lstore_n 3, 1) := by decide +kernel
theorem d_M_breaks_89 : decode b_M_breaks 89 = .ok (.lload_n 3, 1) := by decide +kernel
theorem d_M_breaks_90 : decode b_M_breaks 90 = .ok (.lload_n 3, 1) := by decide +kernel
theorem d_M_breaks_91 : decode b_M_breaks 91 = .ok (.bipush 31, 2) := by decide +kernel
theorem d_M_breaks_93 : decode b_M_breaks 93 = .ok (.lushr, 1) := by decide +kernel
theorem d_M_breaks_94 : decode b_M_breaks 94 = .ok (.lxor, 1) := by decide +kernel
theorem d_M_breaks_95 : decode b_M_breaks 95 = .ok (.lstore_n 3, 1) := by decide +kernel
theorem d_M_breaks_96 : decode b_M_breaks 96 = .ok (.aload_n 0, 1) := by decide +kernel
theorem d_M_breaks_97 : decode b_M_breaks 97 = .ok (.getfield 44, 3) := by decide +kernel
theorem d_M_breaks_100 : decode b_M_breaks 100 = .ok (.bipush 40, 2) := by decide +kernel
theorem d_M_breaks_102 : decode b_M_breaks 102 = .ok (.iload_n 1, 1) := by decide +kernel
theorem d_M_breaks_103 : decode b_M_breaks 103 = .ok (.imul, 1) := by decide +kernel
theorem d_M_breaks_104 : decode b_M_breaks 104 = .ok (.lload_n 3, 1) := by decide +kernel
theorem d_M_breaks_105 : decode b_M_breaks 105 = .ok (.iconst 1, 1) := by decide +kernel
theorem d_M_breaks_106 : decode b_M_breaks 106 = .ok (.lushr, 1) := by decide +kernel
theorem d_M_breaks_107 : decode b_M_breaks 107 = .ok (.aload_n 0, 1) := by decide +kernel
theorem d_M_breaks_108 : decode b_M_breaks 108 = .ok (.getfield 47, 3) := by decide +kernel
theorem d_M_breaks_111 : decode b_M_breaks 111 = .ok (.iload_n 1, 1) := by decide +kernel
theorem d_M_breaks_112 : decode b_M_breaks 112 = .ok (.iaload, 1) := by decide +kernel
theorem d_M_breaks_113 : decode b_M_breaks 113 = .ok (.i2l, 1) := by decide +kernel
theorem d_M_breaks_114 : decode b_M_breaks 114 = .ok (.lrem, 1) := by decide +kernel
theorem d_M_breaks_115 : decode b_M_breaks 115 = .ok (.l2i, 1) := by decide +kernel
theorem d_M_breaks_116 : decode b_M_breaks 116 = .ok (.iadd, 1) := by decide +kernel
theorem d_M_breaks_117 : decode b_M_breaks 117 = .ok (.iaload, 1) := by decide +kernel
theorem d_M_breaks_118 : decode b_M_breaks 118 = .ok (.ireturn, 1) := by decide +kernel
theorem d_M_rules_0 : decode b_M_rules 0 = .ok (.iload_n 1, 1) := by decide +kernel
theorem d_M_rules_1 : decode b_M_rules 1 = .ok (.i2l, 1) := by decide +kernel
theorem d_M_rules_2 : decode b_M_rules 2 = .ok (.lconst 0, 1) := by decide +kernel
theorem d_M_rules_3 : decode b_M_rules 3 = .ok (.ldc2_w 39, 3) := by decide +kernel
theorem d_M_rules_6 : decode b_M_rules 6 = .ok (.invokestatic 98, 3) := by decide +kernel
theorem d_M_rules_9 : decode b_M_rules 9 = .ok (.ifCond .eq 46, 3) := by decide +kernel
theorem d_M_rules_12 : decode b_M_rules 12 = .ok (.iload_n 3, 1) := by decide +kernel
theorem d_M_rules_13 : decode b_M_rules 13 = .ok (.i2l, 1) := by decide +kernel
theorem d_M_rules_14 : decode b_M_rules 14 = .ok (.lconst 0, 1) := by decide +kernel
theorem d_M_rules_15 : decode b_M_rules 15 = .ok (.ldc2_w 39, 3) := by decide +kernel
theorem d_M_rules_18 : decode b_M_rules 18 = .ok (.invokestatic 98, 3) := by decide +kernel
theorem d_M_rules_21 : decode b_M_rules 21 = .ok (.ifCond .eq 34, 3) := by decide +kernel
theorem d_M_rules_24 : decode b_M_rules 24 = .ok (.iload 4, 2) := by decide +kernel
theorem d_M_rules_26 : decode b_M_rules 26 = .ok (.i2l, 1) := by decide +kernel
theorem d_M_rules_27 : decode b_M_rules 27 = .ok (.lconst 0, 1) := by decide +kernel
theorem d_M_rules_28 : decode b_M_rules 28 = .ok (.ldc2_w 39, 3) := by decide +kernel
theorem d_M_rules_31 : decode b_M_rules 31 = .ok (.invokestatic 98, 3) := by decide +kernel
theorem d_M_rules_34 : decode b_M_rules 34 = .ok (.ifCond .eq 21, 3) := by decide +kernel
theorem d_M_rules_37 : decode b_M_rules 37 = .ok (.iload_n 2, 1) := by decide +kernel
theorem d_M_rules_38 : decode b_M_rules 38 = .ok (.i2l, 1) := by decide +kernel
theorem d_M_rules_39 : decode b_M_rules 39 = .ok (.ldc2_w 140, 3) := by decide +kernel
theorem d_M_rules_42 : decode b_M_rules 42 = .ok (.ldc2_w 142, 3) := by decide +kernel
theorem d_M_rules_45 : decode b_M_rules 45 = .ok (.invokestatic 98, 3) := by decide +kernel
theorem d_M_rules_48 : decode b_M_rules 48 = .ok (.ifCond .eq 7, 3) := by decide +kernel
theorem d_M_rules_51 : decode b_M_rules 51 = .ok (.iconst 1, 1) := by decide +kernel
theorem d_M_rules_52 : decode b_M_rules 52 = .ok (.goto 4, 3) := by decide +kernel
theorem d_M_rules_55 : decode b_M_rules 55 = .ok (.iconst 0, 1) := by decide +kernel
theorem d_M_rules_56 : decode b_M_rules 56 = .ok (.istore 5, 2) := by decide +kernel
theorem d_M_rules_58 : decode b_M_rules 58 = .ok (.aload_n 0, 1) := by decide +kernel
theorem d_M_rules_59 : decode b_M_rules 59 = .ok (.iload 5, 2) := by decide +kernel
theorem d_M_rules_61 : decode b_M_rules 61 = .ok (.ifCond .eq 7, 3) := by decide +kernel
theorem d_M_rules_64 : decode b_M_rules 64 = .ok (.iconst 0, 1) := by decide +kernel
theorem d_M_rules_65 : decode b_M_rules 65 = .ok (.goto 4, 3) := by decide +kernel
theorem d_M_rules_68 : decode b_M_rules 68 = .ok (.iconst 1, 1) := by decide +kernel
theorem d_M_rules_69 : decode b_M_rules 69 = .ok (.putfield 88, 3) := by decide +kernel
theorem d_M_rules_72 : decode b_M_rules 72 = .ok (.iload 5, 2) := by decide +kernel
theorem d_M_rules_74 : decode b_M_rules 74 = .ok (.ifCond .eq 24, 3) := by decide +kernel
theorem d_M_rules_77 : decode b_M_rules 77 = .ok (.aload_n 0, 1) := by decide +kernel
theorem d_M_rules_78 : decode b_M_rules 78 = .ok (.iload_n 1, 1) := by decide +kernel
theorem d_M_rules_79 : decode b_M_rules 79 = .ok (.putfield 56, 3) := by decide +kernel
theorem d_M_rules_82 : decode b_M_rules 82 = .ok (.aload_n 0, 1) := by decide +kernel
theorem d_M_rules_83 : decode b_M_rules 83 = .ok (.iload_n 2, 1) := by decide +kernel
theorem d_M_rules_84 : decode b_M_rules 84 = .ok (.putfield 60, 3) := by decide +kernel
theorem d_M_rules_87 : decode b_M_rules 87 = .ok (.aload_n 0, 1) := by decide +kernel
theorem d_M_rules_88 : decode b_M_rules 88 = .ok (.iload_n 3, 1) := by decide +kernel
theorem d_M_rules_89 : decode b_M_rules 89 = .ok (.putfield 63, 3) := by decide +kernel
theorem d_M_rules_92 : decode b_M_rules 92 = .ok (.aload_n 0, 1) := by decide +kernel
theorem d_M_rules_93 : decode b_M_rules 93 = .ok (.iload 4, 2) := by decide +kernel
theorem d_M_rules_95 : decode b_M_rules 95 = .ok (.putfield 66, 3) := by decide +kernel
theorem d_M_rules_98 : decode b_M_rules 98 = .ok (.return_, 1) := by decide +kernel
theorem d_M_reading_0 : decode b_M_reading 0 = .ok (.aload_n 0, 1) := by decide +kernel
theorem d_M_reading_1 : decode b_M_reading 1 = .ok (.getfield 69, 3) := by decide +kernel
theorem d_M_reading_4 : decode b_M_reading 4 = .ok (.bipush 24, 2) := by decide +kernel
theorem d_M_reading_6 : decode b_M_reading 6 = .ok (.iload_n 1, 1) := by decide +kernel
theorem d_M_reading_7 : decode b_M_reading 7 = .ok (.imul, 1) := by decide +kernel
theorem d_M_reading_8 : decode b_M_reading 8 = .ok (.iload_n 2, 1) := by decide +kernel
theorem d_M_reading_9 : decode b_M_reading 9 = .ok (.iadd, 1) := by decide +kernel
theorem d_M_reading_10 : decode b_M_reading 10 = .ok (.iaload, 1) := by decide +kernel
theorem d_M_reading_11 : decode b_M_reading 11 = .ok (.ireturn, 1) := by decide +kernel
theorem d_M_apart_0 : decode b_M_apart 0 = .ok (.iload_n 0, 1) := by decide +kernel
theorem d_M_apart_1 : decode b_M_apart 1 = .ok (.iload_n 1, 1) := by decide +kernel
theorem d_M_apart_2 : decode b_M_apart 2 = .ok (.if_icmp .ge 9, 3) := by decide +kernel
theorem d_M_apart_5 : decode b_M_apart 5 = .ok (.iload_n 1, 1) := by decide +kernel
theorem d_M_apart_6 : decode b_M_apart 6 = .ok (.iload_n 0, 1) := by decide +kernel
theorem d_M_apart_7 : decode b_M_apart 7 = .ok (.isub, 1) := by decide +kernel
theorem d_M_apart_8 : decode b_M_apart 8 = .ok (.goto 6, 3) := by decide +kernel
theorem d_M_apart_11 : decode b_M_apart 11 = .ok (.iload_n 0, 1) := by decide +kernel
theorem d_M_apart_12 : decode b_M_apart 12 = .ok (.iload_n 1, 1) := by decide +kernel
theorem d_M_apart_13 : decode b_M_apart 13 = .ok (.isub, 1) := by decide +kernel
theorem d_M_apart_14 : decode b_M_apart 14 = .ok (.ireturn, 1) := by decide +kernel
theorem d_M_fired_0 : decode b_M_fired 0 = .ok (.aload_n 0, 1) := by decide +kernel
theorem d_M_fired_1 : decode b_M_fired 1 = .ok (.iload_n 1, 1) := by decide +kernel
theorem d_M_fired_2 : decode b_M_fired 2 = .ok (.iconst 0, 1) := by decide +kernel
theorem d_M_fired_3 : decode b_M_fired 3 = .ok (.invokevirtual 144, 3) := by decide +kernel
theorem d_M_fired_6 : decode b_M_fired 6 = .ok (.aload_n 0, 1) := by decide +kernel
theorem d_M_fired_7 : decode b_M_fired 7 = .ok (.getfield 56, 3) := by decide +kernel
theorem d_M_fired_10 : decode b_M_fired 10 = .ok (.if_icmp .le 5, 3) := by decide +kernel
theorem d_M_fired_13 : decode b_M_fired 13 = .ok (.iconst 0, 1) := by decide +kernel
theorem d_M_fired_14 : decode b_M_fired 14 = .ok (.ireturn, 1) := by decide +kernel
theorem d_M_fired_15 : decode b_M_fired 15 = .ok (.aload_n 0, 1) := by decide +kernel
theorem d_M_fired_16 : decode b_M_fired 16 = .ok (.getfield 72, 3) := by decide +kernel
theorem d_M_fired_19 : decode b_M_fired 19 = .ok (.iload_n 1, 1) := by decide +kernel
theorem d_M_fired_20 : decode b_M_fired 20 = .ok (.iaload, 1) := by decide +kernel
theorem d_M_fired_21 : decode b_M_fired 21 = .ok (.aload_n 0, 1) := by decide +kernel
theorem d_M_fired_22 : decode b_M_fired 22 = .ok (.getfield 60, 3) := by decide +kernel
theorem d_M_fired_25 : decode b_M_fired 25 = .ok (.if_icmp .lt 7, 3) := by decide +kernel
theorem d_M_fired_28 : decode b_M_fired 28 = .ok (.iconst 1, 1) := by decide +kernel
theorem d_M_fired_29 : decode b_M_fired 29 = .ok (.goto 4, 3) := by decide +kernel
theorem d_M_fired_32 : decode b_M_fired 32 = .ok (.iconst 0, 1) := by decide +kernel
theorem d_M_fired_33 : decode b_M_fired 33 = .ok (.istore_n 2, 1) := by decide +kernel
theorem d_M_fired_34 : decode b_M_fired 34 = .ok (.aload_n 0, 1) := by decide +kernel
theorem d_M_fired_35 : decode b_M_fired 35 = .ok (.getfield 72, 3) := by decide +kernel
theorem d_M_fired_38 : decode b_M_fired 38 = .ok (.iload_n 1, 1) := by decide +kernel
theorem d_M_fired_39 : decode b_M_fired 39 = .ok (.iaload, 1) := by decide +kernel
theorem d_M_fired_40 : decode b_M_fired 40 = .ok (.aload_n 0, 1) := by decide +kernel
theorem d_M_fired_41 : decode b_M_fired 41 = .ok (.getfield 60, 3) := by decide +kernel
theorem d_M_fired_44 : decode b_M_fired 44 = .ok (.if_icmp .lt 7, 3) := by decide +kernel
theorem d_M_fired_47 : decode b_M_fired 47 = .ok (.iconst 1, 1) := by decide +kernel
theorem d_M_fired_48 : decode b_M_fired 48 = .ok (.goto 4, 3) := by decide +kernel
theorem d_M_fired_51 : decode b_M_fired 51 = .ok (.iconst 0, 1) := by decide +kernel
theorem d_M_fired_52 : decode b_M_fired 52 = .ok (.istore_n 3, 1) := by decide +kernel
theorem d_M_fired_53 : decode b_M_fired 53 = .ok (.iconst 0, 1) := by decide +kernel
theorem d_M_fired_54 : decode b_M_fired 54 = .ok (.istore 4, 2) := by decide +kernel
theorem d_M_fired_56 : decode b_M_fired 56 = .ok (.iload 4, 2) := by decide +kernel
theorem d_M_fired_58 : decode b_M_fired 58 = .ok (.aload_n 0, 1) := by decide +kernel
theorem d_M_fired_59 : decode b_M_fired 59 = .ok (.getfield 60, 3) := by decide +kernel
theorem d_M_fired_62 : decode b_M_fired 62 = .ok (.if_icmp .ge 84, 3) := by decide +kernel
theorem d_M_fired_65 : decode b_M_fired 65 = .ok (.iload 4, 2) := by decide +kernel
theorem d_M_fired_67 : decode b_M_fired 67 = .ok (.aload_n 0, 1) := by decide +kernel
theorem d_M_fired_68 : decode b_M_fired 68 = .ok (.getfield 72, 3) := by decide +kernel
theorem d_M_fired_71 : decode b_M_fired 71 = .ok (.iload_n 1, 1) := by decide +kernel
theorem d_M_fired_72 : decode b_M_fired 72 = .ok (.iaload, 1) := by decide +kernel
theorem d_M_fired_73 : decode b_M_fired 73 = .ok (.if_icmp .ge 73, 3) := by decide +kernel
theorem d_M_fired_76 : decode b_M_fired 76 = .ok (.iload_n 2, 1) := by decide +kernel
theorem d_M_fired_77 : decode b_M_fired 77 = .ok (.ifCond .eq 37, 3) := by decide +kernel
theorem d_M_fired_80 : decode b_M_fired 80 = .ok (.iload 4, 2) := by decide +kernel
theorem d_M_fired_82 : decode b_M_fired 82 = .ok (.aload_n 0, 1) := by decide +kernel
theorem d_M_fired_83 : decode b_M_fired 83 = .ok (.getfield 60, 3) := by decide +kernel
theorem d_M_fired_86 : decode b_M_fired 86 = .ok (.iconst 1, 1) := by decide +kernel
theorem d_M_fired_87 : decode b_M_fired 87 = .ok (.isub, 1) := by decide +kernel
theorem d_M_fired_88 : decode b_M_fired 88 = .ok (.if_icmp .eq 22, 3) := by decide +kernel
theorem d_M_fired_91 : decode b_M_fired 91 = .ok (.aload_n 0, 1) := by decide +kernel
theorem d_M_fired_92 : decode b_M_fired 92 = .ok (.iload_n 1, 1) := by decide +kernel
theorem d_M_fired_93 : decode b_M_fired 93 = .ok (.iload 4, 2) := by decide +kernel
theorem d_M_fired_95 : decode b_M_fired 95 = .ok (.invokevirtual 144, 3) := by decide +kernel
theorem d_M_fired_98 : decode b_M_fired 98 = .ok (.aload_n 0, 1) := by decide +kernel
theorem d_M_fired_99 : decode b_M_fired 99 = .ok (.iload_n 1, 1) := by decide +kernel
theorem d_M_fired_100 : decode b_M_fired 100 = .ok (.iload 4, 2) := by decide +kernel
theorem d_M_fired_102 : decode b_M_fired 102 = .ok (.iconst 1, 1) := by decide +kernel
theorem d_M_fired_103 : decode b_M_fired 103 = .ok (.iadd, 1) := by decide +kernel
theorem d_M_fired_104 : decode b_M_fired 104 = .ok (.invokevirtual 144, 3) := by decide +kernel
theorem d_M_fired_107 : decode b_M_fired 107 = .ok (.if_icmp .le 7, 3) := by decide +kernel
theorem d_M_fired_110 : decode b_M_fired 110 = .ok (.iconst 1, 1) := by decide +kernel
theorem d_M_fired_111 : decode b_M_fired 111 = .ok (.goto 4, 3) := by decide +kernel
theorem d_M_fired_114 : decode b_M_fired 114 = .ok (.iconst 0, 1) := by decide +kernel
theorem d_M_fired_115 : decode b_M_fired 115 = .ok (.istore_n 2, 1) := by decide +kernel
theorem d_M_fired_116 : decode b_M_fired 116 = .ok (.iload_n 3, 1) := by decide +kernel
theorem d_M_fired_117 : decode b_M_fired 117 = .ok (.ifCond .eq 21, 3) := by decide +kernel
theorem d_M_fired_120 : decode b_M_fired 120 = .ok (.aload_n 0, 1) := by decide +kernel
theorem d_M_fired_121 : decode b_M_fired 121 = .ok (.iload_n 1, 1) := by decide +kernel
theorem d_M_fired_122 : decode b_M_fired 122 = .ok (.iload 4, 2) := by decide +kernel
theorem d_M_fired_124 : decode b_M_fired 124 = .ok (.invokevirtual 144, 3) := by decide +kernel
theorem d_M_fired_127 : decode b_M_fired 127 = .ok (.aload_n 0, 1) := by decide +kernel
theorem d_M_fired_128 : decode b_M_fired 128 = .ok (.getfield 63, 3) := by decide +kernel
theorem d_M_fired_131 : decode b_M_fired 131 = .ok (.if_icmp .le 7, 3) := by decide +kernel
theorem d_M_fired_134 : decode b_M_fired 134 = .ok (.iconst 1, 1) := by decide +kernel
theorem d_M_fired_135 : decode b_M_fired 135 = .ok (.goto 4, 3) := by decide +kernel
theorem d_M_fired_138 : decode b_M_fired 138 = .ok (.iconst 0, 1) := by decide +kernel
theorem d_M_fired_139 : decode b_M_fired 139 = .ok (.istore_n 3, 1) := by decide +kernel
theorem d_M_fired_140 : decode b_M_fired 140 = .ok (.iinc 4 1, 3) := by decide +kernel
theorem d_M_fired_143 : decode b_M_fired 143 = .ok (.goto (-87), 3) := by decide +kernel
theorem d_M_fired_146 : decode b_M_fired 146 = .ok (.iload_n 2, 1) := by decide +kernel
theorem d_M_fired_147 : decode b_M_fired 147 = .ok (.ifCond .ne 7, 3) := by decide +kernel
theorem d_M_fired_150 : decode b_M_fired 150 = .ok (.iload_n 3, 1) := by decide +kernel
theorem d_M_fired_151 : decode b_M_fired 151 = .ok (.ifCond .eq 13, 3) := by decide +kernel
theorem d_M_fired_154 : decode b_M_fired 154 = .ok (.iload_n 2, 1) := by decide +kernel
theorem d_M_fired_155 : decode b_M_fired 155 = .ok (.ifCond .eq 7, 3) := by decide +kernel
theorem d_M_fired_158 : decode b_M_fired 158 = .ok (.iconst 1, 1) := by decide +kernel
theorem d_M_fired_159 : decode b_M_fired 159 = .ok (.goto 4, 3) := by decide +kernel
theorem d_M_fired_162 : decode b_M_fired 162 = .ok (.iconst 2, 1) := by decide +kernel
theorem d_M_fired_163 : decode b_M_fired 163 = .ok (.ireturn, 1) := by decide +kernel
theorem d_M_fired_164 : decode b_M_fired 164 = .ok (.aload_n 0, 1) := by decide +kernel
theorem d_M_fired_165 : decode b_M_fired 165 = .ok (.getfield 72, 3) := by decide +kernel
theorem d_M_fired_168 : decode b_M_fired 168 = .ok (.iload_n 1, 1) := by decide +kernel
theorem d_M_fired_169 : decode b_M_fired 169 = .ok (.iaload, 1) := by decide +kernel
theorem d_M_fired_170 : decode b_M_fired 170 = .ok (.iconst 2, 1) := by decide +kernel
theorem d_M_fired_171 : decode b_M_fired 171 = .ok (.if_icmp .le 45, 3) := by decide +kernel
theorem d_M_fired_174 : decode b_M_fired 174 = .ok (.aload_n 0, 1) := by decide +kernel
theorem d_M_fired_175 : decode b_M_fired 175 = .ok (.iload_n 1, 1) := by decide +kernel
theorem d_M_fired_176 : decode b_M_fired 176 = .ok (.iconst 0, 1) := by decide +kernel
theorem d_M_fired_177 : decode b_M_fired 177 = .ok (.invokevirtual 144, 3) := by decide +kernel
theorem d_M_fired_180 : decode b_M_fired 180 = .ok (.aload_n 0, 1) := by decide +kernel
theorem d_M_fired_181 : decode b_M_fired 181 = .ok (.iload_n 1, 1) := by decide +kernel
theorem d_M_fired_182 : decode b_M_fired 182 = .ok (.iconst 1, 1) := by decide +kernel
theorem d_M_fired_183 : decode b_M_fired 183 = .ok (.invokevirtual 144, 3) := by decide +kernel
theorem d_M_fired_186 : decode b_M_fired 186 = .ok (.invokestatic 148, 3) := by decide +kernel
theorem d_M_fired_189 : decode b_M_fired 189 = .ok (.aload_n 0, 1) := by decide +kernel
theorem d_M_fired_190 : decode b_M_fired 190 = .ok (.iload_n 1, 1) := by decide +kernel
theorem d_M_fired_191 : decode b_M_fired 191 = .ok (.iconst 1, 1) := by decide +kernel
theorem d_M_fired_192 : decode b_M_fired 192 = .ok (.invokevirtual 144, 3) := by decide +kernel
theorem d_M_fired_195 : decode b_M_fired 195 = .ok (.aload_n 0, 1) := by decide +kernel
theorem d_M_fired_196 : decode b_M_fired 196 = .ok (.iload_n 1, 1) := by decide +kernel
theorem d_M_fired_197 : decode b_M_fired 197 = .ok (.iconst 2, 1) := by decide +kernel
theorem d_M_fired_198 : decode b_M_fired 198 = .ok (.invokevirtual 144, 3) := by decide +kernel
theorem d_M_fired_201 : decode b_M_fired 201 = .ok (.invokestatic 148, 3) := by decide +kernel
theorem d_M_fired_204 : decode b_M_fired 204 = .ok (.iadd, 1) := by decide +kernel
theorem d_M_fired_205 : decode b_M_fired 205 = .ok (.aload_n 0, 1) := by decide +kernel
theorem d_M_fired_206 : decode b_M_fired 206 = .ok (.getfield 66, 3) := by decide +kernel
theorem d_M_fired_209 : decode b_M_fired 209 = .ok (.if_icmp .le 7, 3) := by decide +kernel
theorem d_M_fired_212 : decode b_M_fired 212 = .ok (.iconst 1, 1) := by decide +kernel
theorem d_M_fired_213 : decode b_M_fired 213 = .ok (.goto 4, 3) := by decide +kernel
theorem d_M_fired_216 : decode b_M_fired 216 = .ok (.iconst 0, 1) := by decide +kernel
theorem d_M_fired_217 : decode b_M_fired 217 = .ok (.istore 4, 2) := by decide +kernel
theorem d_M_fired_219 : decode b_M_fired 219 = .ok (.iload 4, 2) := by decide +kernel
theorem d_M_fired_221 : decode b_M_fired 221 = .ok (.ifCond .eq 7, 3) := by decide +kernel
theorem d_M_fired_224 : decode b_M_fired 224 = .ok (.iconst 3, 1) := by decide +kernel
theorem d_M_fired_225 : decode b_M_fired 225 = .ok (.goto 4, 3) := by decide +kernel
theorem d_M_fired_228 : decode b_M_fired 228 = .ok (.iconst (-1), 1) := by decide +kernel
theorem d_M_fired_229 : decode b_M_fired 229 = .ok (.ireturn, 1) := by decide +kernel
theorem d_M_power_0 : decode b_M_power 0 = .ok (.aload_n 0, 1) := by decide +kernel
theorem d_M_power_1 : decode b_M_power 1 = .ok (.aload_n 0, 1) := by decide +kernel
theorem d_M_power_2 : decode b_M_power 2 = .ok (.iload_n 1, 1) := by decide +kernel
theorem d_M_power_3 : decode b_M_power 3 = .ok (.invokevirtual 105, 3) := by decide +kernel
theorem d_M_power_6 : decode b_M_power 6 = .ok (.ifCond .eq 7, 3) := by decide +kernel
theorem d_M_power_9 : decode b_M_power 9 = .ok (.iconst 1, 1) := by decide +kernel
theorem d_M_power_10 : decode b_M_power 10 = .ok (.goto 30, 3) := by decide +kernel
theorem d_M_power_13 : decode b_M_power 13 = .ok (.iload_n 3, 1) := by decide +kernel
theorem d_M_power_14 : decode b_M_power 14 = .ok (.i2l, 1) := by decide +kernel
theorem d_M_power_15 : decode b_M_power 15 = .ok (.lconst 0, 1) := by decide +kernel
theorem d_M_power_16 : decode b_M_power 16 = .ok (.ldc2_w 39, 3) := by decide +kernel
theorem d_M_power_19 : decode b_M_power 19 = .ok (.invokestatic 98, 3) := by decide +kernel
theorem d_M_power_22 : decode b_M_power 22 = .ok (.ifCond .eq 13, 3) := by decide +kernel
theorem d_M_power_25 : decode b_M_power 25 = .ok (.iload_n 2, 1) := by decide +kernel
theorem d_M_power_26 : decode b_M_power 26 = .ok (.aload_n 0, 1) := by decide +kernel
theorem d_M_power_27 : decode b_M_power 27 = .ok (.getfield 75, 3) := by decide +kernel
theorem d_M_power_30 : decode b_M_power 30 = .ok (.iload_n 1, 1) := by decide +kernel
theorem d_M_power_31 : decode b_M_power 31 = .ok (.iaload, 1) := by decide +kernel
theorem d_M_power_32 : decode b_M_power 32 = .ok (.if_icmp .gt 7, 3) := by decide +kernel
theorem d_M_power_35 : decode b_M_power 35 = .ok (.iconst 2, 1) := by decide +kernel
theorem d_M_power_36 : decode b_M_power 36 = .ok (.goto 4, 3) := by decide +kernel
theorem d_M_power_39 : decode b_M_power 39 = .ok (.iconst 0, 1) := by decide +kernel
theorem d_M_power_40 : decode b_M_power 40 = .ok (.putfield 88, 3) := by decide +kernel
theorem d_M_power_43 : decode b_M_power 43 = .ok (.aload_n 0, 1) := by decide +kernel
theorem d_M_power_44 : decode b_M_power 44 = .ok (.getfield 88, 3) := by decide +kernel
theorem d_M_power_47 : decode b_M_power 47 = .ok (.ifCond .le 5, 3) := by decide +kernel
theorem d_M_power_50 : decode b_M_power 50 = .ok (.iconst 0, 1) := by decide +kernel
theorem d_M_power_51 : decode b_M_power 51 = .ok (.ireturn, 1) := by decide +kernel
theorem d_M_power_52 : decode b_M_power 52 = .ok (.aload_n 0, 1) := by decide +kernel
theorem d_M_power_53 : decode b_M_power 53 = .ok (.getfield 75, 3) := by decide +kernel
theorem d_M_power_56 : decode b_M_power 56 = .ok (.iload_n 1, 1) := by decide +kernel
theorem d_M_power_57 : decode b_M_power 57 = .ok (.iload_n 2, 1) := by decide +kernel
theorem d_M_power_58 : decode b_M_power 58 = .ok (.iastore, 1) := by decide +kernel
theorem d_M_power_59 : decode b_M_power 59 = .ok (.bipush 23, 2) := by decide +kernel
theorem d_M_power_61 : decode b_M_power 61 = .ok (.istore 4, 2) := by decide +kernel
theorem d_M_power_63 : decode b_M_power 63 = .ok (.iload 4, 2) := by decide +kernel
theorem d_M_power_65 : decode b_M_power 65 = .ok (.ifCond .le 35, 3) := by decide +kernel
theorem d_M_power_68 : decode b_M_power 68 = .ok (.aload_n 0, 1) := by decide +kernel
theorem d_M_power_69 : decode b_M_power 69 = .ok (.getfield 69, 3) := by decide +kernel
theorem d_M_power_72 : decode b_M_power 72 = .ok (.bipush 24, 2) := by decide +kernel
theorem d_M_power_74 : decode b_M_power 74 = .ok (.iload_n 1, 1) := by decide +kernel
theorem d_M_power_75 : decode b_M_power 75 = .ok (.imul, 1) := by decide +kernel
theorem d_M_power_76 : decode b_M_power 76 = .ok (.iload 4, 2) := by decide +kernel
theorem d_M_power_78 : decode b_M_power 78 = .ok (.iadd, 1) := by decide +kernel
theorem d_M_power_79 : decode b_M_power 79 = .ok (.aload_n 0, 1) := by decide +kernel
theorem d_M_power_80 : decode b_M_power 80 = .ok (.getfield 69, 3) := by decide +kernel
theorem d_M_power_83 : decode b_M_power 83 = .ok (.bipush 24, 2) := by decide +kernel
theorem d_M_power_85 : decode b_M_power 85 = .ok (.iload_n 1, 1) := by decide +kernel
theorem d_M_power_86 : decode b_M_power 86 = .ok (.imul, 1) := by decide +kernel
theorem d_M_power_87 : decode b_M_power 87 = .ok (.iload 4, 2) := by decide +kernel
theorem d_M_power_89 : decode b_M_power 89 = .ok (.iadd, 1) := by decide +kernel
theorem d_M_power_90 : decode b_M_power 90 = .ok (.iconst 1, 1) := by decide +kernel
theorem d_M_power_91 : decode b_M_power 91 = .ok (.isub, 1) := by decide +kernel
theorem d_M_power_92 : decode b_M_power 92 = .ok (.iaload, 1) := by decide +kernel
theorem d_M_power_93 : decode b_M_power 93 = .ok (.iastore, 1) := by decide +kernel
theorem d_M_power_94 : decode b_M_power 94 = .ok (.iinc 4 (-1), 3) := by decide +kernel
theorem d_M_power_97 : decode b_M_power 97 = .ok (.goto (-34), 3) := by decide +kernel
theorem d_M_power_100 : decode b_M_power 100 = .ok (.aload_n 0, 1) := by decide +kernel
theorem d_M_power_101 : decode b_M_power 101 = .ok (.getfield 69, 3) := by decide +kernel
theorem d_M_power_104 : decode b_M_power 104 = .ok (.bipush 24, 2) := by decide +kernel
theorem d_M_power_106 : decode b_M_power 106 = .ok (.iload_n 1, 1) := by decide +kernel
theorem d_M_power_107 : decode b_M_power 107 = .ok (.imul, 1) := by decide +kernel
theorem d_M_power_108 : decode b_M_power 108 = .ok (.iload_n 3, 1) := by decide +kernel
theorem d_M_power_109 : decode b_M_power 109 = .ok (.iastore, 1) := by decide +kernel
theorem d_M_power_110 : decode b_M_power 110 = .ok (.aload_n 0, 1) := by decide +kernel
theorem d_M_power_111 : decode b_M_power 111 = .ok (.getfield 72, 3) := by decide +kernel
theorem d_M_power_114 : decode b_M_power 114 = .ok (.iload_n 1, 1) := by decide +kernel
theorem d_M_power_115 : decode b_M_power 115 = .ok (.aload_n 0, 1) := by decide +kernel
theorem d_M_power_116 : decode b_M_power 116 = .ok (.getfield 72, 3) := by decide +kernel
theorem d_M_power_119 : decode b_M_power 119 = .ok (.iload_n 1, 1) := by decide +kernel
theorem d_M_power_120 : decode b_M_power 120 = .ok (.iaload, 1) := by decide +kernel
theorem d_M_power_121 : decode b_M_power 121 = .ok (.bipush 24, 2) := by decide +kernel
theorem d_M_power_123 : decode b_M_power 123 = .ok (.if_icmp .ge 14, 3) := by decide +kernel
theorem d_M_power_126 : decode b_M_power 126 = .ok (.aload_n 0, 1) := by decide +kernel
theorem d_M_power_127 : decode b_M_power 127 = .ok (.getfield 72, 3) := by decide +kernel
theorem d_M_power_130 : decode b_M_power 130 = .ok (.iload_n 1, 1) := by decide +kernel
theorem d_M_power_131 : decode b_M_power 131 = .ok (.iaload, 1) := by decide +kernel
theorem d_M_power_132 : decode b_M_power 132 = .ok (.iconst 1, 1) := by decide +kernel
theorem d_M_power_133 : decode b_M_power 133 = .ok (.iadd, 1) := by decide +kernel
theorem d_M_power_134 : decode b_M_power 134 = .ok (.goto 5, 3) := by decide +kernel
theorem d_M_power_137 : decode b_M_power 137 = .ok (.bipush 24, 2) := by decide +kernel
theorem d_M_power_139 : decode b_M_power 139 = .ok (.iastore, 1) := by decide +kernel
theorem d_M_power_140 : decode b_M_power 140 = .ok (.aload_n 0, 1) := by decide +kernel
theorem d_M_power_141 : decode b_M_power 141 = .ok (.iload_n 1, 1) := by decide +kernel
theorem d_M_power_142 : decode b_M_power 142 = .ok (.invokevirtual 151, 3) := by decide +kernel
theorem d_M_power_145 : decode b_M_power 145 = .ok (.ireturn, 1) := by decide +kernel
theorem d_M_order_0 : decode b_M_order 0 = .ok (.aload_n 0, 1) := by decide +kernel
theorem d_M_order_1 : decode b_M_order 1 = .ok (.aload_n 0, 1) := by decide +kernel
theorem d_M_order_2 : decode b_M_order 2 = .ok (.iload_n 1, 1) := by decide +kernel
theorem d_M_order_3 : decode b_M_order 3 = .ok (.invokevirtual 105, 3) := by decide +kernel
theorem d_M_order_6 : decode b_M_order 6 = .ok (.ifCond .eq 7, 3) := by decide +kernel
theorem d_M_order_9 : decode b_M_order 9 = .ok (.iconst 1, 1) := by decide +kernel
theorem d_M_order_10 : decode b_M_order 10 = .ok (.goto 20, 3) := by decide +kernel
theorem d_M_order_13 : decode b_M_order 13 = .ok (.iload_n 2, 1) := by decide +kernel
theorem d_M_order_14 : decode b_M_order 14 = .ok (.i2l, 1) := by decide +kernel
theorem d_M_order_15 : decode b_M_order 15 = .ok (.lconst 0, 1) := by decide +kernel
theorem d_M_order_16 : decode b_M_order 16 = .ok (.ldc2_w 154, 3) := by decide +kernel
theorem d_M_order_19 : decode b_M_order 19 = .ok (.invokestatic 98, 3) := by decide +kernel
theorem d_M_order_22 : decode b_M_order 22 = .ok (.ifCond .eq 7, 3) := by decide +kernel
theorem d_M_order_25 : decode b_M_order 25 = .ok (.iconst 0, 1) := by decide +kernel
theorem d_M_order_26 : decode b_M_order 26 = .ok (.goto 4, 3) := by decide +kernel
theorem d_M_order_29 : decode b_M_order 29 = .ok (.iconst 2, 1) := by decide +kernel
theorem d_M_order_30 : decode b_M_order 30 = .ok (.putfield 88, 3) := by decide +kernel
theorem d_M_order_33 : decode b_M_order 33 = .ok (.aload_n 0, 1) := by decide +kernel
theorem d_M_order_34 : decode b_M_order 34 = .ok (.getfield 88, 3) := by decide +kernel
theorem d_M_order_37 : decode b_M_order 37 = .ok (.ifCond .gt 12, 3) := by decide +kernel
theorem d_M_order_40 : decode b_M_order 40 = .ok (.aload_n 0, 1) := by decide +kernel
theorem d_M_order_41 : decode b_M_order 41 = .ok (.getfield 156, 3) := by decide +kernel
theorem d_M_order_44 : decode b_M_order 44 = .ok (.bipush 16, 2) := by decide +kernel
theorem d_M_order_46 : decode b_M_order 46 = .ok (.if_icmp .ne 5, 3) := by decide +kernel
theorem d_M_order_49 : decode b_M_order 49 = .ok (.iconst 0, 1) := by decide +kernel
theorem d_M_order_50 : decode b_M_order 50 = .ok (.ireturn, 1) := by decide +kernel
theorem d_M_order_51 : decode b_M_order 51 = .ok (.aload_n 0, 1) := by decide +kernel
theorem d_M_order_52 : decode b_M_order 52 = .ok (.getfield 78, 3) := by decide +kernel
theorem d_M_order_55 : decode b_M_order 55 = .ok (.aload_n 0, 1) := by decide +kernel
theorem d_M_order_56 : decode b_M_order 56 = .ok (.getfield 159, 3) := by decide +kernel
theorem d_M_order_59 : decode b_M_order 59 = .ok (.iload_n 1, 1) := by decide +kernel
theorem d_M_order_60 : decode b_M_order 60 = .ok (.iastore, 1) := by decide +kernel
theorem d_M_order_61 : decode b_M_order 61 = .ok (.aload_n 0, 1) := by decide +kernel
theorem d_M_order_62 : decode b_M_order 62 = .ok (.getfield 81, 3) := by decide +kernel
theorem d_M_order_65 : decode b_M_order 65 = .ok (.aload_n 0, 1) := by decide +kernel
theorem d_M_order_66 : decode b_M_order 66 = .ok (.getfield 159, 3) := by decide +kernel
theorem d_M_order_69 : decode b_M_order 69 = .ok (.iload_n 2, 1) := by decide +kernel
theorem d_M_order_70 : decode b_M_order 70 = .ok (.iastore, 1) := by decide +kernel
theorem d_M_order_71 : decode b_M_order 71 = .ok (.aload_n 0, 1) := by decide +kernel
theorem d_M_order_72 : decode b_M_order 72 = .ok (.dup, 1) := by decide +kernel
theorem d_M_order_73 : decode b_M_order 73 = .ok (.getfield 159, 3) := by decide +kernel
theorem d_M_order_76 : decode b_M_order 76 = .ok (.iconst 1, 1) := by decide +kernel
theorem d_M_order_77 : decode b_M_order 77 = .ok (.iadd, 1) := by decide +kernel
theorem d_M_order_78 : decode b_M_order 78 = .ok (.putfield 159, 3) := by decide +kernel
theorem d_M_order_81 : decode b_M_order 81 = .ok (.aload_n 0, 1) := by decide +kernel
theorem d_M_order_82 : decode b_M_order 82 = .ok (.dup, 1) := by decide +kernel
theorem d_M_order_83 : decode b_M_order 83 = .ok (.getfield 156, 3) := by decide +kernel
theorem d_M_order_86 : decode b_M_order 86 = .ok (.iconst 1, 1) := by decide +kernel
theorem d_M_order_87 : decode b_M_order 87 = .ok (.iadd, 1) := by decide +kernel
theorem d_M_order_88 : decode b_M_order 88 = .ok (.putfield 156, 3) := by decide +kernel
theorem d_M_order_91 : decode b_M_order 91 = .ok (.iconst 1, 1) := by decide +kernel
theorem d_M_order_92 : decode b_M_order 92 = .ok (.ireturn, 1) := by decide +kernel
theorem d_M_isDue_0 : decode b_M_isDue 0 = .ok (.aload_n 0, 1) := by decide +kernel
theorem d_M_isDue_1 : decode b_M_isDue 1 = .ok (.getfield 7, 3) := by decide +kernel
theorem d_M_isDue_4 : decode b_M_isDue 4 = .ok (.aload_n 0, 1) := by decide +kernel
theorem d_M_isDue_5 : decode b_M_isDue 5 = .ok (.getfield 78, 3) := by decide +kernel
theorem d_M_isDue_8 : decode b_M_isDue 8 = .ok (.iload_n 1, 1) := by decide +kernel
theorem d_M_isDue_9 : decode b_M_isDue 9 = .ok (.iaload, 1) := by decide +kernel
theorem d_M_isDue_10 : decode b_M_isDue 10 = .ok (.iaload, 1) := by decide +kernel
theorem d_M_isDue_11 : decode b_M_isDue 11 = .ok (.iload_n 2, 1) := by decide +kernel
theorem d_M_isDue_12 : decode b_M_isDue 12 = .ok (.if_icmp .ne 17, 3) := by decide +kernel
theorem d_M_isDue_15 : decode b_M_isDue 15 = .ok (.aload_n 0, 1) := by decide +kernel
theorem d_M_isDue_16 : decode b_M_isDue 16 = .ok (.getfield 81, 3) := by decide +kernel
theorem d_M_isDue_19 : decode b_M_isDue 19 = .ok (.iload_n 1, 1) := by decide +kernel
theorem d_M_isDue_20 : decode b_M_isDue 20 = .ok (.iaload, 1) := by decide +kernel
theorem d_M_isDue_21 : decode b_M_isDue 21 = .ok (.iload_n 3, 1) := by decide +kernel
theorem d_M_isDue_22 : decode b_M_isDue 22 = .ok (.if_icmp .ge 7, 3) := by decide +kernel
theorem d_M_isDue_25 : decode b_M_isDue 25 = .ok (.iconst 1, 1) := by decide +kernel
theorem d_M_isDue_26 : decode b_M_isDue 26 = .ok (.goto 4, 3) := by decide +kernel
theorem d_M_isDue_29 : decode b_M_isDue 29 = .ok (.iconst 0, 1) := by decide +kernel
theorem d_M_isDue_30 : decode b_M_isDue 30 = .ok (.ireturn, 1) := by decide +kernel
theorem d_M_joined_0 : decode b_M_joined 0 = .ok (.aload_n 0, 1) := by decide +kernel
theorem d_M_joined_1 : decode b_M_joined 1 = .ok (.iload_n 1, 1) := by decide +kernel
theorem d_M_joined_2 : decode b_M_joined 2 = .ok (.invokestatic 94, 3) := by decide +kernel
theorem d_M_joined_5 : decode b_M_joined 5 = .ok (.ifCond .ne 7, 3) := by decide +kernel
theorem d_M_joined_8 : decode b_M_joined 8 = .ok (.iconst 1, 1) := by decide +kernel
theorem d_M_joined_9 : decode b_M_joined 9 = .ok (.goto 20, 3) := by decide +kernel
theorem d_M_joined_12 : decode b_M_joined 12 = .ok (.iload_n 2, 1) := by decide +kernel
theorem d_M_joined_13 : decode b_M_joined 13 = .ok (.i2l, 1) := by decide +kernel
theorem d_M_joined_14 : decode b_M_joined 14 = .ok (.lconst 0, 1) := by decide +kernel
theorem d_M_joined_15 : decode b_M_joined 15 = .ok (.ldc2_w 154, 3) := by decide +kernel
theorem d_M_joined_18 : decode b_M_joined 18 = .ok (.invokestatic 98, 3) := by decide +kernel
theorem d_M_joined_21 : decode b_M_joined 21 = .ok (.ifCond .eq 7, 3) := by decide +kernel
theorem d_M_joined_24 : decode b_M_joined 24 = .ok (.iconst 0, 1) := by decide +kernel
theorem d_M_joined_25 : decode b_M_joined 25 = .ok (.goto 4, 3) := by decide +kernel
theorem d_M_joined_28 : decode b_M_joined 28 = .ok (.iconst 2, 1) := by decide +kernel
theorem d_M_joined_29 : decode b_M_joined 29 = .ok (.putfield 88, 3) := by decide +kernel
theorem d_M_joined_32 : decode b_M_joined 32 = .ok (.aload_n 0, 1) := by decide +kernel
theorem d_M_joined_33 : decode b_M_joined 33 = .ok (.getfield 88, 3) := by decide +kernel
theorem d_M_joined_36 : decode b_M_joined 36 = .ok (.ifCond .le 5, 3) := by decide +kernel
theorem d_M_joined_39 : decode b_M_joined 39 = .ok (.iconst 0, 1) := by decide +kernel
theorem d_M_joined_40 : decode b_M_joined 40 = .ok (.ireturn, 1) := by decide +kernel
theorem d_M_joined_41 : decode b_M_joined 41 = .ok (.iconst 0, 1) := by decide +kernel
theorem d_M_joined_42 : decode b_M_joined 42 = .ok (.istore_n 3, 1) := by decide +kernel
theorem d_M_joined_43 : decode b_M_joined 43 = .ok (.iconst 0, 1) := by decide +kernel
theorem d_M_joined_44 : decode b_M_joined 44 = .ok (.istore 4, 2) := by decide +kernel
theorem d_M_joined_46 : decode b_M_joined 46 = .ok (.iload 4, 2) := by decide +kernel
theorem d_M_joined_48 : decode b_M_joined 48 = .ok (.aload_n 0, 1) := by decide +kernel
theorem d_M_joined_49 : decode b_M_joined 49 = .ok (.getfield 159, 3) := by decide +kernel
theorem d_M_joined_52 : decode b_M_joined 52 = .ok (.if_icmp .ge 32, 3) := by decide +kernel
theorem d_M_joined_55 : decode b_M_joined 55 = .ok (.iload_n 3, 1) := by decide +kernel
theorem d_M_joined_56 : decode b_M_joined 56 = .ok (.ifCond .ne 16, 3) := by decide +kernel
theorem d_M_joined_59 : decode b_M_joined 59 = .ok (.aload_n 0, 1) := by decide +kernel
theorem d_M_joined_60 : decode b_M_joined 60 = .ok (.iload 4, 2) := by decide +kernel
theorem d_M_joined_62 : decode b_M_joined 62 = .ok (.iload_n 1, 1) := by decide +kernel
theorem d_M_joined_63 : decode b_M_joined 63 = .ok (.iload_n 2, 1) := by decide +kernel
theorem d_M_joined_64 : decode b_M_joined 64 = .ok (.iconst 2, 1) := by decide +kernel
theorem d_M_joined_65 : decode b_M_joined 65 = .ok (.iadd, 1) := by decide +kernel
theorem d_M_joined_66 : decode b_M_joined 66 = .ok (.invokevirtual 162, 3) := by decide +kernel
theorem d_M_joined_69 : decode b_M_joined 69 = .ok (.ifCond .eq 7, 3) := by decide +kernel
theorem d_M_joined_72 : decode b_M_joined 72 = .ok (.iconst 1, 1) := by decide +kernel
theorem d_M_joined_73 : decode b_M_joined 73 = .ok (.goto 4, 3) := by decide +kernel
theorem d_M_joined_76 : decode b_M_joined 76 = .ok (.iconst 0, 1) := by decide +kernel
theorem d_M_joined_77 : decode b_M_joined 77 = .ok (.istore_n 3, 1) := by decide +kernel
theorem d_M_joined_78 : decode b_M_joined 78 = .ok (.iinc 4 1, 3) := by decide +kernel
theorem d_M_joined_81 : decode b_M_joined 81 = .ok (.goto (-35), 3) := by decide +kernel
theorem d_M_joined_84 : decode b_M_joined 84 = .ok (.iconst 0, 1) := by decide +kernel
theorem d_M_joined_85 : decode b_M_joined 85 = .ok (.istore 4, 2) := by decide +kernel
theorem d_M_joined_87 : decode b_M_joined 87 = .ok (.iconst 0, 1) := by decide +kernel
theorem d_M_joined_88 : decode b_M_joined 88 = .ok (.istore 5, 2) := by decide +kernel
theorem d_M_joined_90 : decode b_M_joined 90 = .ok (.iload 5, 2) := by decide +kernel
theorem d_M_joined_92 : decode b_M_joined 92 = .ok (.aload_n 0, 1) := by decide +kernel
theorem d_M_joined_93 : decode b_M_joined 93 = .ok (.getfield 159, 3) := by decide +kernel
theorem d_M_joined_96 : decode b_M_joined 96 = .ok (.if_icmp .ge 58, 3) := by decide +kernel
theorem d_M_joined_99 : decode b_M_joined 99 = .ok (.iload_n 3, 1) := by decide +kernel
theorem d_M_joined_100 : decode b_M_joined 100 = .ok (.ifCond .eq 17, 3) := by decide +kernel
theorem d_M_joined_103 : decode b_M_joined 103 = .ok (.aload_n 0, 1) := by decide +kernel
theorem d_M_joined_104 : decode b_M_joined 104 = .ok (.iload 5, 2) := by decide +kernel
theorem d_M_joined_106 : decode b_M_joined 106 = .ok (.iload_n 1, 1) := by decide +kernel
theorem d_M_joined_107 : decode b_M_joined 107 = .ok (.iload_n 2, 1) := by decide +kernel
theorem d_M_joined_108 : decode b_M_joined 108 = .ok (.bipush 7, 2) := by decide +kernel
theorem d_M_joined_110 : decode b_M_joined 110 = .ok (.iadd, 1) := by decide +kernel
theorem d_M_joined_111 : decode b_M_joined 111 = .ok (.invokevirtual 162, 3) := by decide +kernel
theorem d_M_joined_114 : decode b_M_joined 114 = .ok (.ifCond .ne 34, 3) := by decide +kernel
theorem d_M_joined_117 : decode b_M_joined 117 = .ok (.aload_n 0, 1) := by decide +kernel
theorem d_M_joined_118 : decode b_M_joined 118 = .ok (.getfield 78, 3) := by decide +kernel
theorem d_M_joined_121 : decode b_M_joined 121 = .ok (.iload 4, 2) := by decide +kernel
theorem d_M_joined_123 : decode b_M_joined 123 = .ok (.aload_n 0, 1) := by decide +kernel
theorem d_M_joined_124 : decode b_M_joined 124 = .ok (.getfield 78, 3) := by decide +kernel
theorem d_M_joined_127 : decode b_M_joined 127 = .ok (.iload 5, 2) := by decide +kernel
theorem d_M_joined_129 : decode b_M_joined 129 = .ok (.iaload, 1) := by decide +kernel
theorem d_M_joined_130 : decode b_M_joined 130 = .ok (.iastore, 1) := by decide +kernel
theorem d_M_joined_131 : decode b_M_joined 131 = .ok (.aload_n 0, 1) := by decide +kernel
theorem d_M_joined_132 : decode b_M_joined 132 = .ok (.getfield 81, 3) := by decide +kernel
theorem d_M_joined_135 : decode b_M_joined 135 = .ok (.iload 4, 2) := by decide +kernel
theorem d_M_joined_137 : decode b_M_joined 137 = .ok (.aload_n 0, 1) := by decide +kernel
theorem d_M_joined_138 : decode b_M_joined 138 = .ok (.getfield 81, 3) := by decide +kernel
theorem d_M_joined_141 : decode b_M_joined 141 = .ok (.iload 5, 2) := by decide +kernel
theorem d_M_joined_143 : decode b_M_joined 143 = .ok (.iaload, 1) := by decide +kernel
theorem d_M_joined_144 : decode b_M_joined 144 = .ok (.iastore, 1) := by decide +kernel
theorem d_M_joined_145 : decode b_M_joined 145 = .ok (.iinc 4 1, 3) := by decide +kernel
theorem d_M_joined_148 : decode b_M_joined 148 = .ok (.iinc 5 1, 3) := by decide +kernel
theorem d_M_joined_151 : decode b_M_joined 151 = .ok (.goto (-61), 3) := by decide +kernel
theorem d_M_joined_154 : decode b_M_joined 154 = .ok (.aload_n 0, 1) := by decide +kernel
theorem d_M_joined_155 : decode b_M_joined 155 = .ok (.getfield 159, 3) := by decide +kernel
theorem d_M_joined_158 : decode b_M_joined 158 = .ok (.iload 4, 2) := by decide +kernel
theorem d_M_joined_160 : decode b_M_joined 160 = .ok (.isub, 1) := by decide +kernel
theorem d_M_joined_161 : decode b_M_joined 161 = .ok (.istore 5, 2) := by decide +kernel
theorem d_M_joined_163 : decode b_M_joined 163 = .ok (.aload_n 0, 1) := by decide +kernel
theorem d_M_joined_164 : decode b_M_joined 164 = .ok (.iload 4, 2) := by decide +kernel
theorem d_M_joined_166 : decode b_M_joined 166 = .ok (.putfield 159, 3) := by decide +kernel
theorem d_M_joined_169 : decode b_M_joined 169 = .ok (.iload 5, 2) := by decide +kernel
theorem d_M_joined_171 : decode b_M_joined 171 = .ok (.ireturn, 1) := by decide +kernel
theorem d_M_open_0 : decode b_M_open 0 = .ok (.aload_n 0, 1) := by decide +kernel
theorem d_M_open_1 : decode b_M_open 1 = .ok (.iconst 0, 1) := by decide +kernel
theorem d_M_open_2 : decode b_M_open 2 = .ok (.putfield 88, 3) := by decide +kernel
theorem d_M_open_5 : decode b_M_open 5 = .ok (.aload_n 0, 1) := by decide +kernel
theorem d_M_open_6 : decode b_M_open 6 = .ok (.getfield 159, 3) := by decide +kernel
theorem d_M_open_9 : decode b_M_open 9 = .ok (.ireturn, 1) := by decide +kernel
theorem d_M_chip_0 : decode b_M_chip 0 = .ok (.iload_n 1, 1) := by decide +kernel
theorem d_M_chip_1 : decode b_M_chip 1 = .ok (.i2l, 1) := by decide +kernel
theorem d_M_chip_2 : decode b_M_chip 2 = .ok (.lconst 0, 1) := by decide +kernel
theorem d_M_chip_3 : decode b_M_chip 3 = .ok (.ldc2_w 39, 3) := by decide +kernel
theorem d_M_chip_6 : decode b_M_chip 6 = .ok (.invokestatic 98, 3) := by decide +kernel
theorem d_M_chip_9 : decode b_M_chip 9 = .ok (.ifCond .eq 30, 3) := by decide +kernel
theorem d_M_chip_12 : decode b_M_chip 12 = .ok (.iload_n 3, 1) := by decide +kernel
theorem d_M_chip_13 : decode b_M_chip 13 = .ok (.i2l, 1) := by decide +kernel
theorem d_M_chip_14 : decode b_M_chip 14 = .ok (.lconst 1, 1) := by decide +kernel
theorem d_M_chip_15 : decode b_M_chip 15 = .ok (.ldc2_w 119, 3) := by decide +kernel
theorem d_M_chip_18 : decode b_M_chip 18 = .ok (.invokestatic 98, 3) := by decide +kernel
theorem d_M_chip_21 : decode b_M_chip 21 = .ok (.ifCond .eq 18, 3) := by decide +kernel
theorem d_M_chip_24 : decode b_M_chip 24 = .ok (.iload_n 2, 1) := by decide +kernel
theorem d_M_chip_25 : decode b_M_chip 25 = .ok (.i2l, 1) := by decide +kernel
theorem d_M_chip_26 : decode b_M_chip 26 = .ok (.lconst 0, 1) := by decide +kernel
theorem d_M_chip_27 : decode b_M_chip 27 = .ok (.iload_n 3, 1) := by decide +kernel
theorem d_M_chip_28 : decode b_M_chip 28 = .ok (.i2l, 1) := by decide +kernel
theorem d_M_chip_29 : decode b_M_chip 29 = .ok (.invokestatic 98, 3) := by decide +kernel
theorem d_M_chip_32 : decode b_M_chip 32 = .ok (.ifCond .eq 7, 3) := by decide +kernel
theorem d_M_chip_35 : decode b_M_chip 35 = .ok (.iconst 1, 1) := by decide +kernel
theorem d_M_chip_36 : decode b_M_chip 36 = .ok (.goto 4, 3) := by decide +kernel
theorem d_M_chip_39 : decode b_M_chip 39 = .ok (.iconst 0, 1) := by decide +kernel
theorem d_M_chip_40 : decode b_M_chip 40 = .ok (.istore 5, 2) := by decide +kernel
theorem d_M_chip_42 : decode b_M_chip 42 = .ok (.aload_n 0, 1) := by decide +kernel
theorem d_M_chip_43 : decode b_M_chip 43 = .ok (.iload 4, 2) := by decide +kernel
theorem d_M_chip_45 : decode b_M_chip 45 = .ok (.ifCond .eq 13, 3) := by decide +kernel
theorem d_M_chip_48 : decode b_M_chip 48 = .ok (.iload 4, 2) := by decide +kernel
theorem d_M_chip_50 : decode b_M_chip 50 = .ok (.iconst 1, 1) := by decide +kernel
theorem d_M_chip_51 : decode b_M_chip 51 = .ok (.if_icmp .eq 7, 3) := by decide +kernel
theorem d_M_chip_54 : decode b_M_chip 54 = .ok (.iconst 1, 1) := by decide +kernel
theorem d_M_chip_55 : decode b_M_chip 55 = .ok (.goto 13, 3) := by decide +kernel
theorem d_M_chip_58 : decode b_M_chip 58 = .ok (.iload 5, 2) := by decide +kernel
theorem d_M_chip_60 : decode b_M_chip 60 = .ok (.ifCond .eq 7, 3) := by decide +kernel
theorem d_M_chip_63 : decode b_M_chip 63 = .ok (.iconst 0, 1) := by decide +kernel
theorem d_M_chip_64 : decode b_M_chip 64 = .ok (.goto 4, 3) := by decide +kernel
theorem d_M_chip_67 : decode b_M_chip 67 = .ok (.iconst 2, 1) := by decide +kernel
theorem d_M_chip_68 : decode b_M_chip 68 = .ok (.putfield 88, 3) := by decide +kernel
theorem d_M_chip_71 : decode b_M_chip 71 = .ok (.aload_n 0, 1) := by decide +kernel
theorem d_M_chip_72 : decode b_M_chip 72 = .ok (.getfield 88, 3) := by decide +kernel
theorem d_M_chip_75 : decode b_M_chip 75 = .ok (.ifCond .le 5, 3) := by decide +kernel
theorem d_M_chip_78 : decode b_M_chip 78 = .ok (.iconst 0, 1) := by decide +kernel
theorem d_M_chip_79 : decode b_M_chip 79 = .ok (.ireturn, 1) := by decide +kernel
theorem d_M_chip_80 : decode b_M_chip 80 = .ok (.ldc2_w 132, 3) := by decide +kernel
theorem d_M_chip_83 : decode b_M_chip 83 = .ok (.iload_n 1, 1) := by decide +kernel
theorem d_M_chip_84 : decode b_M_chip 84 = .ok (.i2l, 1) := by decide +kernel
theorem d_M_chip_85 : decode b_M_chip 85 = .ok (.lmul, 1) := by decide +kernel
theorem d_M_chip_86 : decode b_M_chip 86 = .ok (.iload_n 1, 1) := by decide +kernel
theorem d_M_chip_87 : decode b_M_chip 87 = .ok (.i2l, 1) := by decide +kernel
theorem d_M_chip_88 : decode b_M_chip 88 = .ok (.lmul, 1) := by decide +kernel
theorem d_M_chip_89 : decode b_M_chip 89 = .ok (.iload_n 2, 1) := by decide +kernel
theorem d_M_chip_90 : decode b_M_chip 90 = .ok (.i2l, 1) := by decide +kernel
theorem d_M_chip_91 : decode b_M_chip 91 = .ok (.lmul, 1) := by decide +kernel
theorem d_M_chip_92 : decode b_M_chip 92 = .ok (.iload_n 3, 1) := by decide +kernel
theorem d_M_chip_93 : decode b_M_chip 93 = .ok (.iload_n 2, 1) := by decide +kernel
theorem d_M_chip_94 : decode b_M_chip 94 = .ok (.isub, 1) := by decide +kernel
theorem d_M_chip_95 : decode b_M_chip 95 = .ok (.i2l, 1) := by decide +kernel
theorem d_M_chip_96 : decode b_M_chip 96 = .ok (.lmul, 1) := by decide +kernel
theorem d_M_chip_97 : decode b_M_chip 97 = .ok (.lstore 6, 2) := by decide +kernel
theorem d_M_chip_99 : decode b_M_chip 99 = .ok (.iload_n 3, 1) := by decide +kernel
theorem d_M_chip_100 : decode b_M_chip 100 = .ok (.i2l, 1) := by decide +kernel
theorem d_M_chip_101 : decode b_M_chip 101 = .ok (.iload_n 3, 1) := by decide +kernel
theorem d_M_chip_102 : decode b_M_chip 102 = .ok (.i2l, 1) := by decide +kernel
theorem d_M_chip_103 : decode b_M_chip 103 = .ok (.lmul, 1) := by decide +kernel
theorem d_M_chip_104 : decode b_M_chip 104 = .ok (.lstore 8, 2) := by decide +kernel
theorem d_M_chip_106 : decode b_M_chip 106 = .ok (.lconst 0, 1) := by decide +kernel
theorem d_M_chip_107 : decode b_M_chip 107 = .ok (.lstore 10, 2) := by decide +kernel
theorem d_M_chip_109 : decode b_M_chip 109 = .ok (.ldc2_w 166, 3) := by decide +kernel
theorem d_M_chip_112 : decode b_M_chip 112 = .ok (.lstore 12, 2) := by decide +kernel
theorem d_M_chip_114 : decode b_M_chip 114 = .ok (.lload 12, 2) := by decide +kernel
theorem d_M_chip_116 : decode b_M_chip 116 = .ok (.lload 10, 2) := by decide +kernel
theorem d_M_chip_118 : decode b_M_chip 118 = .ok (.lsub, 1) := by decide +kernel
theorem d_M_chip_119 : decode b_M_chip 119 = .ok (.lconst 1, 1) := by decide +kernel
theorem d_M_chip_120 : decode b_M_chip 120 = .ok (.lcmp, 1) := by decide +kernel
theorem d_M_chip_121 : decode b_M_chip 121 = .ok (.ifCond .le 42, 3) := by decide +kernel
theorem d_M_chip_124 : decode b_M_chip 124 = .ok (.lload 10, 2) := by decide +kernel
theorem d_M_chip_126 : decode b_M_chip 126 = .ok (.lload 12, 2) := by decide +kernel
theorem d_M_chip_128 : decode b_M_chip 128 = .ok (.ladd, 1) := by decide +kernel
theorem d_M_chip_129 : decode b_M_chip 129 = .ok (.ldc2_w 140, 3) := by decide +kernel
theorem d_M_chip_132 : decode b_M_chip 132 = .ok (.ldiv, 1) := by decide +kernel
theorem d_M_chip_133 : decode b_M_chip 133 = .ok (.lstore 14, 2) := by decide +kernel
theorem d_M_chip_135 : decode b_M_chip 135 = .ok (.lload 14, 2) := by decide +kernel
theorem d_M_chip_137 : decode b_M_chip 137 = .ok (.lload 14, 2) := by decide +kernel
theorem d_M_chip_139 : decode b_M_chip 139 = .ok (.lmul, 1) := by decide +kernel
theorem d_M_chip_140 : decode b_M_chip 140 = .ok (.lload 8, 2) := by decide +kernel
theorem d_M_chip_142 : decode b_M_chip 142 = .ok (.lmul, 1) := by decide +kernel
theorem d_M_chip_143 : decode b_M_chip 143 = .ok (.lload 6, 2) := by decide +kernel
theorem d_M_chip_145 : decode b_M_chip 145 = .ok (.lcmp, 1) := by decide +kernel
theorem d_M_chip_146 : decode b_M_chip 146 = .ok (.ifCond .gt 10, 3) := by decide +kernel
theorem d_M_chip_149 : decode b_M_chip 149 = .ok (.lload 14, 2) := by decide +kernel
theorem d_M_chip_151 : decode b_M_chip 151 = .ok (.lstore 10, 2) := by decide +kernel
theorem d_M_chip_153 : decode b_M_chip 153 = .ok (.goto 7, 3) := by decide +kernel
theorem d_M_chip_156 : decode b_M_chip 156 = .ok (.lload 14, 2) := by decide +kernel
theorem d_M_chip_158 : decode b_M_chip 158 = .ok (.lstore 12, 2) := by decide +kernel
theorem d_M_chip_160 : decode b_M_chip 160 = .ok (.goto (-46), 3) := by decide +kernel
theorem d_M_chip_163 : decode b_M_chip 163 = .ok (.iload 4, 2) := by decide +kernel
theorem d_M_chip_165 : decode b_M_chip 165 = .ok (.ifCond .eq 17, 3) := by decide +kernel
theorem d_M_chip_168 : decode b_M_chip 168 = .ok (.lload 10, 2) := by decide +kernel
theorem d_M_chip_170 : decode b_M_chip 170 = .ok (.lload 10, 2) := by decide +kernel
theorem d_M_chip_172 : decode b_M_chip 172 = .ok (.lmul, 1) := by decide +kernel
theorem d_M_chip_173 : decode b_M_chip 173 = .ok (.lload 8, 2) := by decide +kernel
theorem d_M_chip_175 : decode b_M_chip 175 = .ok (.lmul, 1) := by decide +kernel
theorem d_M_chip_176 : decode b_M_chip 176 = .ok (.lload 6, 2) := by decide +kernel
theorem d_M_chip_178 : decode b_M_chip 178 = .ok (.lcmp, 1) := by decide +kernel
theorem d_M_chip_179 : decode b_M_chip 179 = .ok (.ifCond .ne 8, 3) := by decide +kernel
theorem d_M_chip_182 : decode b_M_chip 182 = .ok (.lload 10, 2) := by decide +kernel
theorem d_M_chip_184 : decode b_M_chip 184 = .ok (.goto 7, 3) := by decide +kernel
theorem d_M_chip_187 : decode b_M_chip 187 = .ok (.lload 10, 2) := by decide +kernel
theorem d_M_chip_189 : decode b_M_chip 189 = .ok (.lconst 1, 1) := by decide +kernel
theorem d_M_chip_190 : decode b_M_chip 190 = .ok (.ladd, 1) := by decide +kernel
theorem d_M_chip_191 : decode b_M_chip 191 = .ok (.l2i, 1) := by decide +kernel
theorem d_M_chip_192 : decode b_M_chip 192 = .ok (.ireturn, 1) := by decide +kernel
