theorem d_L_law_0 : decode code 0 = .ok (.new 8, 3) := by decide +kernel
theorem d_L_law_3 : decode code 3 = .ok (.dup, 1) := by decide +kernel
theorem d_L_law_4 : decode code 4 = .ok (.aload_n 0, 1) := by decide +kernel
theorem d_L_law_5 : decode code 5 = .ok (.iconst 0, 1) := by decide +kernel
theorem d_L_law_6 : decode code 6 = .ok (.invokestatic 84, 3) := by decide +kernel
theorem d_L_law_9 : decode code 9 = .ok (.invokespecial 90, 3) := by decide +kernel
theorem d_L_law_12 : decode code 12 = .ok (.astore_n 1, 1) := by decide +kernel
theorem d_L_law_13 : decode code 13 = .ok (.new 93, 3) := by decide +kernel
theorem d_L_law_16 : decode code 16 = .ok (.dup, 1) := by decide +kernel
theorem d_L_law_17 : decode code 17 = .ok (.aload_n 0, 1) := by decide +kernel
theorem d_L_law_18 : decode code 18 = .ok (.iconst 0, 1) := by decide +kernel
theorem d_L_law_19 : decode code 19 = .ok (.invokestatic 84, 3) := by decide +kernel
theorem d_L_law_22 : decode code 22 = .ok (.invokespecial 95, 3) := by decide +kernel
theorem d_L_law_25 : decode code 25 = .ok (.astore_n 2, 1) := by decide +kernel
theorem d_L_law_26 : decode code 26 = .ok (.iconst 1, 1) := by decide +kernel
theorem d_L_law_27 : decode code 27 = .ok (.newarray .long, 2) := by decide +kernel
theorem d_L_law_29 : decode code 29 = .ok (.astore_n 3, 1) := by decide +kernel
theorem d_L_law_30 : decode code 30 = .ok (.iconst 1, 1) := by decide +kernel
theorem d_L_law_31 : decode code 31 = .ok (.istore 4, 2) := by decide +kernel
theorem d_L_law_33 : decode code 33 = .ok (.iload 4, 2) := by decide +kernel
theorem d_L_law_35 : decode code 35 = .ok (.aload_n 0, 1) := by decide +kernel
theorem d_L_law_36 : decode code 36 = .ok (.arraylength, 1) := by decide +kernel
theorem d_L_law_37 : decode code 37 = .ok (.iconst 5, 1) := by decide +kernel
theorem d_L_law_38 : decode code 38 = .ok (.isub, 1) := by decide +kernel
theorem d_L_law_39 : decode code 39 = .ok (.if_icmp .gt 1478, 3) := by decide +kernel
theorem d_L_law_42 : decode code 42 = .ok (.aload_n 0, 1) := by decide +kernel
theorem d_L_law_43 : decode code 43 = .ok (.iload 4, 2) := by decide +kernel
theorem d_L_law_45 : decode code 45 = .ok (.iaload, 1) := by decide +kernel
theorem d_L_law_46 : decode code 46 = .ok (.bipush 31, 2) := by decide +kernel
theorem d_L_law_48 : decode code 48 = .ok (.iand, 1) := by decide +kernel
theorem d_L_law_49 : decode code 49 = .ok (.tableswitch 1462 0 19 #[95, 175, 235, 315, 414, 489, 556, 612, 668, 731, 799, 859, 915, 994, 1062, 1134, 1214, 1289, 1357, 1370], 95) := by decide +kernel
theorem d_L_law_144 : decode code 144 = .ok (.aload_n 1, 1) := by decide +kernel
theorem d_L_law_145 : decode code 145 = .ok (.aload_n 0, 1) := by decide +kernel
theorem d_L_law_146 : decode code 146 = .ok (.iload 4, 2) := by decide +kernel
theorem d_L_law_148 : decode code 148 = .ok (.iconst 1, 1) := by decide +kernel
theorem d_L_law_149 : decode code 149 = .ok (.iadd, 1) := by decide +kernel
theorem d_L_law_150 : decode code 150 = .ok (.iaload, 1) := by decide +kernel
theorem d_L_law_151 : decode code 151 = .ok (.aload_n 0, 1) := by decide +kernel
theorem d_L_law_152 : decode code 152 = .ok (.iload 4, 2) := by decide +kernel
theorem d_L_law_154 : decode code 154 = .ok (.iconst 2, 1) := by decide +kernel
theorem d_L_law_155 : decode code 155 = .ok (.iadd, 1) := by decide +kernel
theorem d_L_law_156 : decode code 156 = .ok (.iaload, 1) := by decide +kernel
theorem d_L_law_157 : decode code 157 = .ok (.aload_n 0, 1) := by decide +kernel
theorem d_L_law_158 : decode code 158 = .ok (.iload 4, 2) := by decide +kernel
theorem d_L_law_160 : decode code 160 = .ok (.iconst 3, 1) := by decide +kernel
theorem d_L_law_161 : decode code 161 = .ok (.iadd, 1) := by decide +kernel
theorem d_L_law_162 : decode code 162 = .ok (.iaload, 1) := by decide +kernel
theorem d_L_law_163 : decode code 163 = .ok (.aload_n 3, 1) := by decide +kernel
theorem d_L_law_164 : decode code 164 = .ok (.invokestatic 96, 3) := by decide +kernel
theorem d_L_law_167 : decode code 167 = .ok (.istore 5, 2) := by decide +kernel
theorem d_L_law_169 : decode code 169 = .ok (.aload_n 2, 1) := by decide +kernel
theorem d_L_law_170 : decode code 170 = .ok (.aload_n 0, 1) := by decide +kernel
theorem d_L_law_171 : decode code 171 = .ok (.iload 4, 2) := by decide +kernel
theorem d_L_law_173 : decode code 173 = .ok (.iconst 1, 1) := by decide +kernel
theorem d_L_law_174 : decode code 174 = .ok (.iadd, 1) := by decide +kernel
theorem d_L_law_175 : decode code 175 = .ok (.iaload, 1) := by decide +kernel
theorem d_L_law_176 : decode code 176 = .ok (.aload_n 0, 1) := by decide +kernel
theorem d_L_law_177 : decode code 177 = .ok (.iload 4, 2) := by decide +kernel
theorem d_L_law_179 : decode code 179 = .ok (.iconst 2, 1) := by decide +kernel
theorem d_L_law_180 : decode code 180 = .ok (.iadd, 1) := by decide +kernel
theorem d_L_law_181 : decode code 181 = .ok (.iaload, 1) := by decide +kernel
theorem d_L_law_182 : decode code 182 = .ok (.aload_n 0, 1) := by decide +kernel
theorem d_L_law_183 : decode code 183 = .ok (.iload 4, 2) := by decide +kernel
theorem d_L_law_185 : decode code 185 = .ok (.iconst 3, 1) := by decide +kernel
theorem d_L_law_186 : decode code 186 = .ok (.iadd, 1) := by decide +kernel
theorem d_L_law_187 : decode code 187 = .ok (.iaload, 1) := by decide +kernel
theorem d_L_law_188 : decode code 188 = .ok (.invokevirtual 99, 3) := by decide +kernel
theorem d_L_law_191 : decode code 191 = .ok (.istore 6, 2) := by decide +kernel
theorem d_L_law_193 : decode code 193 = .ok (.aload_n 2, 1) := by decide +kernel
theorem d_L_law_194 : decode code 194 = .ok (.invokevirtual 100, 3) := by decide +kernel
theorem d_L_law_197 : decode code 197 = .ok (.iload 5, 2) := by decide +kernel
theorem d_L_law_199 : decode code 199 = .ok (.if_icmp .eq 5, 3) := by decide +kernel
theorem d_L_law_202 : decode code 202 = .ok (.iconst 0, 1) := by decide +kernel
theorem d_L_law_203 : decode code 203 = .ok (.ireturn, 1) := by decide +kernel
theorem d_L_law_204 : decode code 204 = .ok (.iload 5, 2) := by decide +kernel
theorem d_L_law_206 : decode code 206 = .ok (.ifCond .ne 15, 3) := by decide +kernel
theorem d_L_law_209 : decode code 209 = .ok (.aload_n 3, 1) := by decide +kernel
theorem d_L_law_210 : decode code 210 = .ok (.iconst 0, 1) := by decide +kernel
theorem d_L_law_211 : decode code 211 = .ok (.laload, 1) := by decide +kernel
theorem d_L_law_212 : decode code 212 = .ok (.iload 6, 2) := by decide +kernel
theorem d_L_law_214 : decode code 214 = .ok (.i2l, 1) := by decide +kernel
theorem d_L_law_215 : decode code 215 = .ok (.lcmp, 1) := by decide +kernel
theorem d_L_law_216 : decode code 216 = .ok (.ifCond .eq 5, 3) := by decide +kernel
theorem d_L_law_219 : decode code 219 = .ok (.iconst 0, 1) := by decide +kernel
theorem d_L_law_220 : decode code 220 = .ok (.ireturn, 1) := by decide +kernel
theorem d_L_law_221 : decode code 221 = .ok (.goto 1290, 3) := by decide +kernel
theorem d_L_law_224 : decode code 224 = .ok (.aload_n 1, 1) := by decide +kernel
theorem d_L_law_225 : decode code 225 = .ok (.aload_n 0, 1) := by decide +kernel
theorem d_L_law_226 : decode code 226 = .ok (.iload 4, 2) := by decide +kernel
theorem d_L_law_228 : decode code 228 = .ok (.iconst 1, 1) := by decide +kernel
theorem d_L_law_229 : decode code 229 = .ok (.iadd, 1) := by decide +kernel
theorem d_L_law_230 : decode code 230 = .ok (.iaload, 1) := by decide +kernel
theorem d_L_law_231 : decode code 231 = .ok (.aload_n 0, 1) := by decide +kernel
theorem d_L_law_232 : decode code 232 = .ok (.iload 4, 2) := by decide +kernel
theorem d_L_law_234 : decode code 234 = .ok (.iconst 2, 1) := by decide +kernel
theorem d_L_law_235 : decode code 235 = .ok (.iadd, 1) := by decide +kernel
theorem d_L_law_236 : decode code 236 = .ok (.iaload, 1) := by decide +kernel
theorem d_L_law_237 : decode code 237 = .ok (.aload_n 0, 1) := by decide +kernel
theorem d_L_law_238 : decode code 238 = .ok (.iload 4, 2) := by decide +kernel
theorem d_L_law_240 : decode code 240 = .ok (.iconst 3, 1) := by decide +kernel
theorem d_L_law_241 : decode code 241 = .ok (.iadd, 1) := by decide +kernel
theorem d_L_law_242 : decode code 242 = .ok (.iaload, 1) := by decide +kernel
theorem d_L_law_243 : decode code 243 = .ok (.invokestatic 104, 3) := by decide +kernel
theorem d_L_law_246 : decode code 246 = .ok (.istore 5, 2) := by decide +kernel
theorem d_L_law_248 : decode code 248 = .ok (.aload_n 2, 1) := by decide +kernel
theorem d_L_law_249 : decode code 249 = .ok (.aload_n 0, 1) := by decide +kernel
theorem d_L_law_250 : decode code 250 = .ok (.iload 4, 2) := by decide +kernel
theorem d_L_law_252 : decode code 252 = .ok (.iconst 1, 1) := by decide +kernel
theorem d_L_law_253 : decode code 253 = .ok (.iadd, 1) := by decide +kernel
theorem d_L_law_254 : decode code 254 = .ok (.iaload, 1) := by decide +kernel
theorem d_L_law_255 : decode code 255 = .ok (.aload_n 0, 1) := by decide +kernel
theorem d_L_law_256 : decode code 256 = .ok (.iload 4, 2) := by decide +kernel
theorem d_L_law_258 : decode code 258 = .ok (.iconst 2, 1) := by decide +kernel
theorem d_L_law_259 : decode code 259 = .ok (.iadd, 1) := by decide +kernel
theorem d_L_law_260 : decode code 260 = .ok (.iaload, 1) := by decide +kernel
theorem d_L_law_261 : decode code 261 = .ok (.aload_n 0, 1) := by decide +kernel
theorem d_L_law_262 : decode code 262 = .ok (.iload 4, 2) := by decide +kernel
theorem d_L_law_264 : decode code 264 = .ok (.iconst 3, 1) := by decide +kernel
theorem d_L_law_265 : decode code 265 = .ok (.iadd, 1) := by decide +kernel
theorem d_L_law_266 : decode code 266 = .ok (.iaload, 1) := by decide +kernel
theorem d_L_law_267 : decode code 267 = .ok (.invokevirtual 107, 3) := by decide +kernel
theorem d_L_law_270 : decode code 270 = .ok (.aload_n 2, 1) := by decide +kernel
theorem d_L_law_271 : decode code 271 = .ok (.invokevirtual 100, 3) := by decide +kernel
theorem d_L_law_274 : decode code 274 = .ok (.iload 5, 2) := by decide +kernel
theorem d_L_law_276 : decode code 276 = .ok (.if_icmp .eq 5, 3) := by decide +kernel
theorem d_L_law_279 : decode code 279 = .ok (.iconst 0, 1) := by decide +kernel
theorem d_L_law_280 : decode code 280 = .ok (.ireturn, 1) := by decide +kernel
theorem d_L_law_281 : decode code 281 = .ok (.goto 1230, 3) := by decide +kernel
theorem d_L_law_284 : decode code 284 = .ok (.aload_n 1, 1) := by decide +kernel
theorem d_L_law_285 : decode code 285 = .ok (.aload_n 0, 1) := by decide +kernel
theorem d_L_law_286 : decode code 286 = .ok (.iload 4, 2) := by decide +kernel
theorem d_L_law_288 : decode code 288 = .ok (.iconst 1, 1) := by decide +kernel
theorem d_L_law_289 : decode code 289 = .ok (.iadd, 1) := by decide +kernel
theorem d_L_law_290 : decode code 290 = .ok (.iaload, 1) := by decide +kernel
theorem d_L_law_291 : decode code 291 = .ok (.aload_n 0, 1) := by decide +kernel
theorem d_L_law_292 : decode code 292 = .ok (.iload 4, 2) := by decide +kernel
theorem d_L_law_294 : decode code 294 = .ok (.iconst 2, 1) := by decide +kernel
theorem d_L_law_295 : decode code 295 = .ok (.iadd, 1) := by decide +kernel
theorem d_L_law_296 : decode code 296 = .ok (.iaload, 1) := by decide +kernel
theorem d_L_law_297 : decode code 297 = .ok (.i2l, 1) := by decide +kernel
theorem d_L_law_298 : decode code 298 = .ok (.bipush 32, 2) := by decide +kernel
theorem d_L_law_300 : decode code 300 = .ok (.lshl, 1) := by decide +kernel
theorem d_L_law_301 : decode code 301 = .ok (.aload_n 0, 1) := by decide +kernel
theorem d_L_law_302 : decode code 302 = .ok (.iload 4, 2) := by decide +kernel
theorem d_L_law_304 : decode code 304 = .ok (.iconst 3, 1) := by decide +kernel
theorem d_L_law_305 : decode code 305 = .ok (.iadd, 1) := by decide +kernel
theorem d_L_law_306 : decode code 306 = .ok (.iaload, 1) := by decide +kernel
theorem d_L_law_307 : decode code 307 = .ok (.i2l, 1) := by decide +kernel
theorem d_L_law_308 : decode code 308 = .ok (.ldc2_w 108, 3) := by decide +kernel
theorem d_L_law_311 : decode code 311 = .ok (.land, 1) := by decide +kernel
theorem d_L_law_312 : decode code 312 = .ok (.lor, 1) := by decide +kernel
theorem d_L_law_313 : decode code 313 = .ok (.invokestatic 110, 3) := by decide +kernel
theorem d_L_law_316 : decode code 316 = .ok (.istore 5, 2) := by decide +kernel
theorem d_L_law_318 : decode code 318 = .ok (.aload_n 2, 1) := by decide +kernel
theorem d_L_law_319 : decode code 319 = .ok (.aload_n 0, 1) := by decide +kernel
theorem d_L_law_320 : decode code 320 = .ok (.iload 4, 2) := by decide +kernel
theorem d_L_law_322 : decode code 322 = .ok (.iconst 1, 1) := by decide +kernel
theorem d_L_law_323 : decode code 323 = .ok (.iadd, 1) := by decide +kernel
theorem d_L_law_324 : decode code 324 = .ok (.iaload, 1) := by decide +kernel
theorem d_L_law_325 : decode code 325 = .ok (.aload_n 0, 1) := by decide +kernel
