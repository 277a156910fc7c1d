/-! the instructions of the law, decoded. Written by wip/whole/names.py -/
theorem d_L_law_0 : decode b_L_law 0 = .ok (.new 8, 3) := by decide +kernel
theorem d_L_law_3 : decode b_L_law 3 = .ok (.dup, 1) := by decide +kernel
theorem d_L_law_4 : decode b_L_law 4 = .ok (.invokespecial 65, 3) := by decide +kernel
theorem d_L_law_7 : decode b_L_law 7 = .ok (.astore_n 1, 1) := by decide +kernel
theorem d_L_law_8 : decode b_L_law 8 = .ok (.new 66, 3) := by decide +kernel
theorem d_L_law_11 : decode b_L_law 11 = .ok (.dup, 1) := by decide +kernel
theorem d_L_law_12 : decode b_L_law 12 = .ok (.invokespecial 68, 3) := by decide +kernel
theorem d_L_law_15 : decode b_L_law 15 = .ok (.astore_n 2, 1) := by decide +kernel
theorem d_L_law_16 : decode b_L_law 16 = .ok (.iconst 1, 1) := by decide +kernel
theorem d_L_law_17 : decode b_L_law 17 = .ok (.newarray .long, 2) := by decide +kernel
theorem d_L_law_19 : decode b_L_law 19 = .ok (.astore_n 3, 1) := by decide +kernel
theorem d_L_law_20 : decode b_L_law 20 = .ok (.iconst 0, 1) := by decide +kernel
theorem d_L_law_21 : decode b_L_law 21 = .ok (.istore 4, 2) := by decide +kernel
theorem d_L_law_23 : decode b_L_law 23 = .ok (.iload 4, 2) := by decide +kernel
theorem d_L_law_25 : decode b_L_law 25 = .ok (.aload_n 0, 1) := by decide +kernel
theorem d_L_law_26 : decode b_L_law 26 = .ok (.arraylength, 1) := by decide +kernel
theorem d_L_law_27 : decode b_L_law 27 = .ok (.bipush 7, 2) := by decide +kernel
theorem d_L_law_29 : decode b_L_law 29 = .ok (.isub, 1) := by decide +kernel
theorem d_L_law_30 : decode b_L_law 30 = .ok (.if_icmp .gt 1213, 3) := by decide +kernel
theorem d_L_law_33 : decode b_L_law 33 = .ok (.aload_n 0, 1) := by decide +kernel
theorem d_L_law_34 : decode b_L_law 34 = .ok (.iload 4, 2) := by decide +kernel
theorem d_L_law_36 : decode b_L_law 36 = .ok (.iaload, 1) := by decide +kernel
theorem d_L_law_37 : decode b_L_law 37 = .ok (.bipush 15, 2) := by decide +kernel
theorem d_L_law_39 : decode b_L_law 39 = .ok (.iand, 1) := by decide +kernel
theorem d_L_law_40 : decode b_L_law 40 = .ok (.tableswitch 1197 0 14 #[76, 132, 270, 374, 442, 498, 554, 621, 709, 765, 833, 889, 969, 1037, 1117], 76) := by decide +kernel
theorem d_L_law_116 : decode b_L_law 116 = .ok (.aload_n 1, 1) := by decide +kernel
theorem d_L_law_117 : decode b_L_law 117 = .ok (.aload_n 0, 1) := by decide +kernel
theorem d_L_law_118 : decode b_L_law 118 = .ok (.iload 4, 2) := by decide +kernel
theorem d_L_law_120 : decode b_L_law 120 = .ok (.iconst 1, 1) := by decide +kernel
theorem d_L_law_121 : decode b_L_law 121 = .ok (.iadd, 1) := by decide +kernel
theorem d_L_law_122 : decode b_L_law 122 = .ok (.iaload, 1) := by decide +kernel
theorem d_L_law_123 : decode b_L_law 123 = .ok (.aload_n 3, 1) := by decide +kernel
theorem d_L_law_124 : decode b_L_law 124 = .ok (.invokestatic 69, 3) := by decide +kernel
theorem d_L_law_127 : decode b_L_law 127 = .ok (.istore 5, 2) := by decide +kernel
theorem d_L_law_129 : decode b_L_law 129 = .ok (.aload_n 2, 1) := by decide +kernel
theorem d_L_law_130 : decode b_L_law 130 = .ok (.aload_n 0, 1) := by decide +kernel
theorem d_L_law_131 : decode b_L_law 131 = .ok (.iload 4, 2) := by decide +kernel
theorem d_L_law_133 : decode b_L_law 133 = .ok (.iconst 1, 1) := by decide +kernel
theorem d_L_law_134 : decode b_L_law 134 = .ok (.iadd, 1) := by decide +kernel
theorem d_L_law_135 : decode b_L_law 135 = .ok (.iaload, 1) := by decide +kernel
theorem d_L_law_136 : decode b_L_law 136 = .ok (.invokevirtual 74, 3) := by decide +kernel
theorem d_L_law_139 : decode b_L_law 139 = .ok (.istore 6, 2) := by decide +kernel
theorem d_L_law_141 : decode b_L_law 141 = .ok (.aload_n 2, 1) := by decide +kernel
theorem d_L_law_142 : decode b_L_law 142 = .ok (.invokevirtual 75, 3) := by decide +kernel
theorem d_L_law_145 : decode b_L_law 145 = .ok (.iload 5, 2) := by decide +kernel
theorem d_L_law_147 : decode b_L_law 147 = .ok (.if_icmp .eq 5, 3) := by decide +kernel
theorem d_L_law_150 : decode b_L_law 150 = .ok (.iconst 0, 1) := by decide +kernel
theorem d_L_law_151 : decode b_L_law 151 = .ok (.ireturn, 1) := by decide +kernel
theorem d_L_law_152 : decode b_L_law 152 = .ok (.iload 5, 2) := by decide +kernel
theorem d_L_law_154 : decode b_L_law 154 = .ok (.ifCond .ne 15, 3) := by decide +kernel
theorem d_L_law_157 : decode b_L_law 157 = .ok (.aload_n 3, 1) := by decide +kernel
theorem d_L_law_158 : decode b_L_law 158 = .ok (.iconst 0, 1) := by decide +kernel
theorem d_L_law_159 : decode b_L_law 159 = .ok (.laload, 1) := by decide +kernel
theorem d_L_law_160 : decode b_L_law 160 = .ok (.iload 6, 2) := by decide +kernel
theorem d_L_law_162 : decode b_L_law 162 = .ok (.i2l, 1) := by decide +kernel
theorem d_L_law_163 : decode b_L_law 163 = .ok (.lcmp, 1) := by decide +kernel
theorem d_L_law_164 : decode b_L_law 164 = .ok (.ifCond .eq 5, 3) := by decide +kernel
theorem d_L_law_167 : decode b_L_law 167 = .ok (.iconst 0, 1) := by decide +kernel
theorem d_L_law_168 : decode b_L_law 168 = .ok (.ireturn, 1) := by decide +kernel
theorem d_L_law_169 : decode b_L_law 169 = .ok (.goto 1068, 3) := by decide +kernel
theorem d_L_law_172 : decode b_L_law 172 = .ok (.aload_n 1, 1) := by decide +kernel
theorem d_L_law_173 : decode b_L_law 173 = .ok (.aload_n 0, 1) := by decide +kernel
theorem d_L_law_174 : decode b_L_law 174 = .ok (.iload 4, 2) := by decide +kernel
theorem d_L_law_176 : decode b_L_law 176 = .ok (.iconst 1, 1) := by decide +kernel
theorem d_L_law_177 : decode b_L_law 177 = .ok (.iadd, 1) := by decide +kernel
theorem d_L_law_178 : decode b_L_law 178 = .ok (.iaload, 1) := by decide +kernel
theorem d_L_law_179 : decode b_L_law 179 = .ok (.aload_n 0, 1) := by decide +kernel
theorem d_L_law_180 : decode b_L_law 180 = .ok (.iload 4, 2) := by decide +kernel
theorem d_L_law_182 : decode b_L_law 182 = .ok (.iconst 2, 1) := by decide +kernel
theorem d_L_law_183 : decode b_L_law 183 = .ok (.iadd, 1) := by decide +kernel
theorem d_L_law_184 : decode b_L_law 184 = .ok (.iaload, 1) := by decide +kernel
theorem d_L_law_185 : decode b_L_law 185 = .ok (.aload_n 0, 1) := by decide +kernel
theorem d_L_law_186 : decode b_L_law 186 = .ok (.iload 4, 2) := by decide +kernel
theorem d_L_law_188 : decode b_L_law 188 = .ok (.iconst 3, 1) := by decide +kernel
theorem d_L_law_189 : decode b_L_law 189 = .ok (.iadd, 1) := by decide +kernel
theorem d_L_law_190 : decode b_L_law 190 = .ok (.iaload, 1) := by decide +kernel
theorem d_L_law_191 : decode b_L_law 191 = .ok (.i2l, 1) := by decide +kernel
theorem d_L_law_192 : decode b_L_law 192 = .ok (.bipush 32, 2) := by decide +kernel
theorem d_L_law_194 : decode b_L_law 194 = .ok (.lshl, 1) := by decide +kernel
theorem d_L_law_195 : decode b_L_law 195 = .ok (.aload_n 0, 1) := by decide +kernel
theorem d_L_law_196 : decode b_L_law 196 = .ok (.iload 4, 2) := by decide +kernel
theorem d_L_law_198 : decode b_L_law 198 = .ok (.iconst 4, 1) := by decide +kernel
theorem d_L_law_199 : decode b_L_law 199 = .ok (.iadd, 1) := by decide +kernel
theorem d_L_law_200 : decode b_L_law 200 = .ok (.iaload, 1) := by decide +kernel
theorem d_L_law_201 : decode b_L_law 201 = .ok (.i2l, 1) := by decide +kernel
theorem d_L_law_202 : decode b_L_law 202 = .ok (.ldc2_w 79, 3) := by decide +kernel
theorem d_L_law_205 : decode b_L_law 205 = .ok (.land, 1) := by decide +kernel
theorem d_L_law_206 : decode b_L_law 206 = .ok (.lor, 1) := by decide +kernel
theorem d_L_law_207 : decode b_L_law 207 = .ok (.aload_n 0, 1) := by decide +kernel
theorem d_L_law_208 : decode b_L_law 208 = .ok (.iload 4, 2) := by decide +kernel
theorem d_L_law_210 : decode b_L_law 210 = .ok (.iconst 5, 1) := by decide +kernel
theorem d_L_law_211 : decode b_L_law 211 = .ok (.iadd, 1) := by decide +kernel
theorem d_L_law_212 : decode b_L_law 212 = .ok (.iaload, 1) := by decide +kernel
theorem d_L_law_213 : decode b_L_law 213 = .ok (.i2l, 1) := by decide +kernel
theorem d_L_law_214 : decode b_L_law 214 = .ok (.bipush 32, 2) := by decide +kernel
theorem d_L_law_216 : decode b_L_law 216 = .ok (.lshl, 1) := by decide +kernel
theorem d_L_law_217 : decode b_L_law 217 = .ok (.aload_n 0, 1) := by decide +kernel
theorem d_L_law_218 : decode b_L_law 218 = .ok (.iload 4, 2) := by decide +kernel
theorem d_L_law_220 : decode b_L_law 220 = .ok (.bipush 6, 2) := by decide +kernel
theorem d_L_law_222 : decode b_L_law 222 = .ok (.iadd, 1) := by decide +kernel
theorem d_L_law_223 : decode b_L_law 223 = .ok (.iaload, 1) := by decide +kernel
theorem d_L_law_224 : decode b_L_law 224 = .ok (.i2l, 1) := by decide +kernel
theorem d_L_law_225 : decode b_L_law 225 = .ok (.ldc2_w 79, 3) := by decide +kernel
theorem d_L_law_228 : decode b_L_law 228 = .ok (.land, 1) := by decide +kernel
theorem d_L_law_229 : decode b_L_law 229 = .ok (.lor, 1) := by decide +kernel
theorem d_L_law_230 : decode b_L_law 230 = .ok (.invokestatic 81, 3) := by decide +kernel
theorem d_L_law_233 : decode b_L_law 233 = .ok (.istore 5, 2) := by decide +kernel
theorem d_L_law_235 : decode b_L_law 235 = .ok (.aload_n 2, 1) := by decide +kernel
theorem d_L_law_236 : decode b_L_law 236 = .ok (.aload_n 0, 1) := by decide +kernel
theorem d_L_law_237 : decode b_L_law 237 = .ok (.iload 4, 2) := by decide +kernel
theorem d_L_law_239 : decode b_L_law 239 = .ok (.iconst 1, 1) := by decide +kernel
theorem d_L_law_240 : decode b_L_law 240 = .ok (.iadd, 1) := by decide +kernel
theorem d_L_law_241 : decode b_L_law 241 = .ok (.iaload, 1) := by decide +kernel
theorem d_L_law_242 : decode b_L_law 242 = .ok (.aload_n 0, 1) := by decide +kernel
theorem d_L_law_243 : decode b_L_law 243 = .ok (.iload 4, 2) := by decide +kernel
theorem d_L_law_245 : decode b_L_law 245 = .ok (.iconst 2, 1) := by decide +kernel
theorem d_L_law_246 : decode b_L_law 246 = .ok (.iadd, 1) := by decide +kernel
theorem d_L_law_247 : decode b_L_law 247 = .ok (.iaload, 1) := by decide +kernel
theorem d_L_law_248 : decode b_L_law 248 = .ok (.aload_n 0, 1) := by decide +kernel
theorem d_L_law_249 : decode b_L_law 249 = .ok (.iload 4, 2) := by decide +kernel
theorem d_L_law_251 : decode b_L_law 251 = .ok (.iconst 3, 1) := by decide +kernel
theorem d_L_law_252 : decode b_L_law 252 = .ok (.iadd, 1) := by decide +kernel
theorem d_L_law_253 : decode b_L_law 253 = .ok (.iaload, 1) := by decide +kernel
theorem d_L_law_254 : decode b_L_law 254 = .ok (.i2l, 1) := by decide +kernel
theorem d_L_law_255 : decode b_L_law 255 = .ok (.bipush 32, 2) := by decide +kernel
theorem d_L_law_257 : decode b_L_law 257 = .ok (.lshl, 1) := by decide +kernel
theorem d_L_law_258 : decode b_L_law 258 = .ok (.aload_n 0, 1) := by decide +kernel
theorem d_L_law_259 : decode b_L_law 259 = .ok (.iload 4, 2) := by decide +kernel
theorem d_L_law_261 : decode b_L_law 261 = .ok (.iconst 4, 1) := by decide +kernel
theorem d_L_law_262 : decode b_L_law 262 = .ok (.iadd, 1) := by decide +kernel
theorem d_L_law_263 : decode b_L_law 263 = .ok (.iaload, 1) := by decide +kernel
theorem d_L_law_264 : decode b_L_law 264 = .ok (.i2l, 1) := by decide +kernel
theorem d_L_law_265 : decode b_L_law 265 = .ok (.ldc2_w 79, 3) := by decide +kernel
theorem d_L_law_268 : decode b_L_law 268 = .ok (.land, 1) := by decide +kernel
theorem d_L_law_269 : decode b_L_law 269 = .ok (.lor, 1) := by decide +kernel
theorem d_L_law_270 : decode b_L_law 270 = .ok (.aload_n 0, 1) := by decide +kernel
theorem d_L_law_271 : decode b_L_law 271 = .ok (.iload 4, 2) := by decide +kernel
theorem d_L_law_273 : decode b_L_law 273 = .ok (.iconst 5, 1) := by decide +kernel
theorem d_L_law_274 : decode b_L_law 274 = .ok (.iadd, 1) := by decide +kernel
theorem d_L_law_275 : decode b_L_law 275 = .ok (.iaload, 1) := by decide +kernel
theorem d_L_law_276 : decode b_L_law 276 = .ok (.i2l, 1) := by decide +kernel
theorem d_L_law_277 : decode b_L_law 277 = .ok (.bipush 32, 2) := by decide +kernel
theorem d_L_law_279 : decode b_L_law 279 = .ok (.lshl, 1) := by decide +kernel
theorem d_L_law_280 : decode b_L_law 280 = .ok (.aload_n 0, 1) := by decide +kernel
theorem d_L_law_281 : decode b_L_law 281 = .ok (.iload 4, 2) := by decide +kernel
theorem d_L_law_283 : decode b_L_law 283 = .ok (.bipush 6, 2) := by decide +kernel
theorem d_L_law_285 : decode b_L_law 285 = .ok (.iadd, 1) := by decide +kernel
theorem d_L_law_286 : decode b_L_law 286 = .ok (.iaload, 1) := by decide +kernel
theorem d_L_law_287 : decode b_L_law 287 = .ok (.i2l, 1) := by decide +kernel
theorem d_L_law_288 : decode b_L_law 288 = .ok (.ldc2_w 79, 3) := by decide +kernel
theorem d_L_law_291 : decode b_L_law 291 = .ok (.land, 1) := by decide +kernel
theorem d_L_law_292 : decode b_L_law 292 = .ok (.lor, 1) := by decide +kernel
theorem d_L_law_293 : decode b_L_law 293 = .ok (.invokevirtual 84, 3) := by decide +kernel
theorem d_L_law_296 : decode b_L_law 296 = .ok (.aload_n 2, 1) := by decide +kernel
theorem d_L_law_297 : decode b_L_law 297 = .ok (.invokevirtual 75, 3) := by decide +kernel
theorem d_L_law_300 : decode b_L_law 300 = .ok (.iload 5, 2) := by decide +kernel
theorem d_L_law_302 : decode b_L_law 302 = .ok (.if_icmp .eq 5, 3) := by decide +kernel
theorem d_L_law_305 : decode b_L_law 305 = .ok (.iconst 0, 1) := by decide +kernel
theorem d_L_law_306 : decode b_L_law 306 = .ok (.ireturn, 1) := by decide +kernel
theorem d_L_law_307 : decode b_L_law 307 = .ok (.goto 930, 3) := by decide +kernel
theorem d_L_law_310 : decode b_L_law 310 = .ok (.aload_n 1, 1) := by decide +kernel
theorem d_L_law_311 : decode b_L_law 311 = .ok (.aload_n 0, 1) := by decide +kernel
theorem d_L_law_312 : decode b_L_law 312 = .ok (.iload 4, 2) := by decide +kernel
theorem d_L_law_314 : decode b_L_law 314 = .ok (.iconst 1, 1) := by decide +kernel
theorem d_L_law_315 : decode b_L_law 315 = .ok (.iadd, 1) := by decide +kernel
theorem d_L_law_316 : decode b_L_law 316 = .ok (.iaload, 1) := by decide +kernel
theorem d_L_law_317 : decode b_L_law 317 = .ok (.aload_n 0, 1) := by decide +kernel
theorem d_L_law_318 : decode b_L_law 318 = .ok (.iload 4, 2) := by decide +kernel
theorem d_L_law_320 : decode b_L_law 320 = .ok (.iconst 2, 1) := by decide +kernel
theorem d_L_law_321 : decode b_L_law 321 = .ok (.iadd, 1) := by decide +kernel
theorem d_L_law_322 : decode b_L_law 322 = .ok (.iaload, 1) := by decide +kernel
theorem d_L_law_323 : decode b_L_law 323 = .ok (.aload_n 0, 1) := by decide +kernel
theorem d_L_law_324 : decode b_L_law 324 = .ok (.iload 4, 2) := by decide +kernel
theorem d_L_law_326 : decode b_L_law 326 = .ok (.iconst 3, 1) := by decide +kernel
theorem d_L_law_327 : decode b_L_law 327 = .ok (.iadd, 1) := by decide +kernel
theorem d_L_law_328 : decode b_L_law 328 = .ok (.iaload, 1) := by decide +kernel
theorem d_L_law_329 : decode b_L_law 329 = .ok (.aload_n 0, 1) := by decide +kernel
theorem d_L_law_330 : decode b_L_law 330 = .ok (.iload 4, 2) := by decide +kernel
theorem d_L_law_332 : decode b_L_law 332 = .ok (.iconst 4, 1) := by decide +kernel
theorem d_L_law_333 : decode b_L_law 333 = .ok (.iadd, 1) := by decide +kernel
theorem d_L_law_334 : decode b_L_law 334 = .ok (.iaload, 1) := by decide +kernel
theorem d_L_law_335 : decode b_L_law 335 = .ok (.i2l, 1) := by decide +kernel
theorem d_L_law_336 : decode b_L_law 336 = .ok (.bipush 32, 2) := by decide +kernel
theorem d_L_law_338 : decode b_L_law 338 = .ok (.lshl, 1) := by decide +kernel
theorem d_L_law_339 : decode b_L_law 339 = .ok (.aload_n 0, 1) := by decide +kernel
theorem d_L_law_340 : decode b_L_law 340 = .ok (.iload 4, 2) := by decide +kernel
theorem d_L_law_342 : decode b_L_law 342 = .ok (.iconst 5, 1) := by decide +kernel
theorem d_L_law_343 : decode b_L_law 343 = .ok (.iadd, 1) := by decide +kernel
theorem d_L_law_344 : decode b_L_law 344 = .ok (.iaload, 1) := by decide +kernel
theorem d_L_law_345 : decode b_L_law 345 = .ok (.i2l, 1) := by decide +kernel
theorem d_L_law_346 : decode b_L_law 346 = .ok (.ldc2_w 79, 3) := by decide +kernel
theorem d_L_law_349 : decode b_L_law 349 = .ok (.land, 1) := by decide +kernel
theorem d_L_law_350 : decode b_L_law 350 = .ok (.lor, 1) := by decide +kernel
theorem d_L_law_351 : decode b_L_law 351 = .ok (.invokestatic 85, 3) := by decide +kernel
theorem d_L_law_354 : decode b_L_law 354 = .ok (.istore 5, 2) := by decide +kernel
theorem d_L_law_356 : decode b_L_law 356 = .ok (.aload_n 2, 1) := by decide +kernel
theorem d_L_law_357 : decode b_L_law 357 = .ok (.aload_n 0, 1) := by decide +kernel
theorem d_L_law_358 : decode b_L_law 358 = .ok (.iload 4, 2) := by decide +kernel
theorem d_L_law_360 : decode b_L_law 360 = .ok (.iconst 1, 1) := by decide +kernel
theorem d_L_law_361 : decode b_L_law 361 = .ok (.iadd, 1) := by decide +kernel
theorem d_L_law_362 : decode b_L_law 362 = .ok (.iaload, 1) := by decide +kernel
theorem d_L_law_363 : decode b_L_law 363 = .ok (.aload_n 0, 1) := by decide +kernel
theorem d_L_law_364 : decode b_L_law 364 = .ok (.iload 4, 2) := by decide +kernel
theorem d_L_law_366 : decode b_L_law 366 = .ok (.iconst 2, 1) := by decide +kernel
theorem d_L_law_367 : decode b_L_law 367 = .ok (.iadd, 1) := by decide +kernel
theorem d_L_law_368 : decode b_L_law 368 = .ok (.iaload, 1) := by decide +kernel
theorem d_L_law_369 : decode b_L_law 369 = .ok (.aload_n 0, 1) := by decide +kernel
theorem d_L_law_370 : decode b_L_law 370 = .ok (.iload 4, 2) := by decide +kernel
theorem d_L_law_372 : decode b_L_law 372 = .ok (.iconst 3, 1) := by decide +kernel
theorem d_L_law_373 : decode b_L_law 373 = .ok (.iadd, 1) := by decide +kernel
theorem d_L_law_374 : decode b_L_law 374 = .ok (.iaload, 1) := by decide +kernel
theorem d_L_law_375 : decode b_L_law 375 = .ok (.aload_n 0, 1) := by decide +kernel
theorem d_L_law_376 : decode b_L_law 376 = .ok (.iload 4, 2) := by decide +kernel
theorem d_L_law_378 : decode b_L_law 378 = .ok (.iconst 4, 1) := by decide +kernel
theorem d_L_law_379 : decode b_L_law 379 = .ok (.iadd, 1) := by decide +kernel
theorem d_L_law_380 : decode b_L_law 380 = .ok (.iaload, 1) := by decide +kernel
theorem d_L_law_381 : decode b_L_law 381 = .ok (.i2l, 1) := by decide +kernel
theorem d_L_law_382 : decode b_L_law 382 = .ok (.bipush 32, 2) := by decide +kernel
theorem d_L_law_384 : decode b_L_law 384 = .ok (.lshl, 1) := by decide +kernel
theorem d_L_law_385 : decode b_L_law 385 = .ok (.aload_n 0, 1) := by decide +kernel
theorem d_L_law_386 : decode b_L_law 386 = .ok (.iload 4, 2) := by decide +kernel
theorem d_L_law_388 : decode b_L_law 388 = .ok (.iconst 5, 1) := by decide +kernel
theorem d_L_law_389 : decode b_L_law 389 = .ok (.iadd, 1) := by decide +kernel
theorem d_L_law_390 : decode b_L_law 390 = .ok (.iaload, 1) := by decide +kernel
theorem d_L_law_391 : decode b_L_law 391 = .ok (.i2l, 1) := by decide +kernel
theorem d_L_law_392 : decode b_L_law 392 = .ok (.ldc2_w 79, 3) := by decide +kernel
theorem d_L_law_395 : decode b_L_law 395 = .ok (.land, 1) := by decide +kernel
theorem d_L_law_396 : decode b_L_law 396 = .ok (.lor, 1) := by decide +kernel
theorem d_L_law_397 : decode b_L_law 397 = .ok (.invokevirtual 88, 3) := by decide +kernel
theorem d_L_law_400 : decode b_L_law 400 = .ok (.aload_n 2, 1) := by decide +kernel
theorem d_L_law_401 : decode b_L_law 401 = .ok (.invokevirtual 75, 3) := by decide +kernel
theorem d_L_law_404 : decode b_L_law 404 = .ok (.iload 5, 2) := by decide +kernel
theorem d_L_law_406 : decode b_L_law 406 = .ok (.if_icmp .eq 5, 3) := by decide +kernel
theorem d_L_law_409 : decode b_L_law 409 = .ok (.iconst 0, 1) := by decide +kernel
theorem d_L_law_410 : decode b_L_law 410 = .ok (.ireturn, 1) := by decide +kernel
theorem d_L_law_411 : decode b_L_law 411 = .ok (.goto 826, 3) := by decide +kernel
theorem d_L_law_414 : decode b_L_law 414 = .ok (.aload_n 1, 1) := by decide +kernel
theorem d_L_law_415 : decode b_L_law 415 = .ok (.aload_n 0, 1) := by decide +kernel
theorem d_L_law_416 : decode b_L_law 416 = .ok (.iload 4, 2) := by decide +kernel
theorem d_L_law_418 : decode b_L_law 418 = .ok (.iconst 1, 1) := by decide +kernel
theorem d_L_law_419 : decode b_L_law 419 = .ok (.iadd, 1) := by decide +kernel
theorem d_L_law_420 : decode b_L_law 420 = .ok (.iaload, 1) := by decide +kernel
theorem d_L_law_421 : decode b_L_law 421 = .ok (.aload_n 0, 1) := by decide +kernel
theorem d_L_law_422 : decode b_L_law 422 = .ok (.iload 4, 2) := by decide +kernel
theorem d_L_law_424 : decode b_L_law 424 = .ok (.iconst 2, 1) := by decide +kernel
theorem d_L_law_425 : decode b_L_law 425 = .ok (.iadd, 1) := by decide +kernel
theorem d_L_law_426 : decode b_L_law 426 = .ok (.iaload, 1) := by decide +kernel
theorem d_L_law_427 : decode b_L_law 427 = .ok (.aload_n 3, 1) := by decide +kernel
theorem d_L_law_428 : decode b_L_law 428 = .ok (.invokestatic 89, 3) := by decide +kernel
theorem d_L_law_431 : decode b_L_law 431 = .ok (.istore 5, 2) := by decide +kernel
theorem d_L_law_433 : decode b_L_law 433 = .ok (.aload_n 2, 1) := by decide +kernel
theorem d_L_law_434 : decode b_L_law 434 = .ok (.aload_n 0, 1) := by decide +kernel
theorem d_L_law_435 : decode b_L_law 435 = .ok (.iload 4, 2) := by decide +kernel
theorem d_L_law_437 : decode b_L_law 437 = .ok (.iconst 1, 1) := by decide +kernel
theorem d_L_law_438 : decode b_L_law 438 = .ok (.iadd, 1) := by decide +kernel
theorem d_L_law_439 : decode b_L_law 439 = .ok (.iaload, 1) := by decide +kernel
theorem d_L_law_440 : decode b_L_law 440 = .ok (.aload_n 0, 1) := by decide +kernel
theorem d_L_law_441 : decode b_L_law 441 = .ok (.iload 4, 2) := by decide +kernel
theorem d_L_law_443 : decode b_L_law 443 = .ok (.iconst 2, 1) := by decide +kernel
theorem d_L_law_444 : decode b_L_law 444 = .ok (.iadd, 1) := by decide +kernel
theorem d_L_law_445 : decode b_L_law 445 = .ok (.iaload, 1) := by decide +kernel
theorem d_L_law_446 : decode b_L_law 446 = .ok (.invokevirtual 92, 3) := by decide +kernel
theorem d_L_law_449 : decode b_L_law 449 = .ok (.istore 6, 2) := by decide +kernel
theorem d_L_law_451 : decode b_L_law 451 = .ok (.aload_n 2, 1) := by decide +kernel
theorem d_L_law_452 : decode b_L_law 452 = .ok (.invokevirtual 75, 3) := by decide +kernel
theorem d_L_law_455 : decode b_L_law 455 = .ok (.iload 5, 2) := by decide +kernel
theorem d_L_law_457 : decode b_L_law 457 = .ok (.if_icmp .eq 5, 3) := by decide +kernel
theorem d_L_law_460 : decode b_L_law 460 = .ok (.iconst 0, 1) := by decide +kernel
theorem d_L_law_461 : decode b_L_law 461 = .ok (.ireturn, 1) := by decide +kernel
theorem d_L_law_462 : decode b_L_law 462 = .ok (.iload 5, 2) := by decide +kernel
theorem d_L_law_464 : decode b_L_law 464 = .ok (.ifCond .ne 15, 3) := by decide +kernel
theorem d_L_law_467 : decode b_L_law 467 = .ok (.aload_n 3, 1) := by decide +kernel
theorem d_L_law_468 : decode b_L_law 468 = .ok (.iconst 0, 1) := by decide +kernel
theorem d_L_law_469 : decode b_L_law 469 = .ok (.laload, 1) := by decide +kernel
theorem d_L_law_470 : decode b_L_law 470 = .ok (.iload 6, 2) := by decide +kernel
theorem d_L_law_472 : decode b_L_law 472 = .ok (.i2l, 1) := by decide +kernel
theorem d_L_law_473 : decode b_L_law 473 = .ok (.lcmp, 1) := by decide +kernel
theorem d_L_law_474 : decode b_L_law 474 = .ok (.ifCond .eq 5, 3) := by decide +kernel
theorem d_L_law_477 : decode b_L_law 477 = .ok (.iconst 0, 1) := by decide +kernel
theorem d_L_law_478 : decode b_L_law 478 = .ok (.ireturn, 1) := by decide +kernel
theorem d_L_law_479 : decode b_L_law 479 = .ok (.goto 758, 3) := by decide +kernel
theorem d_L_law_482 : decode b_L_law 482 = .ok (.aload_n 1, 1) := by decide +kernel
theorem d_L_law_483 : decode b_L_law 483 = .ok (.aload_n 0, 1) := by decide +kernel
theorem d_L_law_484 : decode b_L_law 484 = .ok (.iload 4, 2) := by decide +kernel
theorem d_L_law_486 : decode b_L_law 486 = .ok (.iconst 1, 1) := by decide +kernel
theorem d_L_law_487 : decode b_L_law 487 = .ok (.iadd, 1) := by decide +kernel
theorem d_L_law_488 : decode b_L_law 488 = .ok (.iaload, 1) := by decide +kernel
theorem d_L_law_489 : decode b_L_law 489 = .ok (.aload_n 3, 1) := by decide +kernel
theorem d_L_law_490 : decode b_L_law 490 = .ok (.invokestatic 93, 3) := by decide +kernel
theorem d_L_law_493 : decode b_L_law 493 = .ok (.istore 5, 2) := by decide +kernel
theorem d_L_law_495 : decode b_L_law 495 = .ok (.aload_n 2, 1) := by decide +kernel
theorem d_L_law_496 : decode b_L_law 496 = .ok (.aload_n 0, 1) := by decide +kernel
theorem d_L_law_497 : decode b_L_law 497 = .ok (.iload 4, 2) := by decide +kernel
theorem d_L_law_499 : decode b_L_law 499 = .ok (.iconst 1, 1) := by decide +kernel
theorem d_L_law_500 : decode b_L_law 500 = .ok (.iadd, 1) := by decide +kernel
theorem d_L_law_501 : decode b_L_law 501 = .ok (.iaload, 1) := by decide +kernel
theorem d_L_law_502 : decode b_L_law 502 = .ok (.invokevirtual 95, 3) := by decide +kernel
theorem d_L_law_505 : decode b_L_law 505 = .ok (.istore 6, 2) := by decide +kernel
theorem d_L_law_507 : decode b_L_law 507 = .ok (.aload_n 2, 1) := by decide +kernel
theorem d_L_law_508 : decode b_L_law 508 = .ok (.invokevirtual 75, 3) := by decide +kernel
theorem d_L_law_511 : decode b_L_law 511 = .ok (.iload 5, 2) := by decide +kernel
theorem d_L_law_513 : decode b_L_law 513 = .ok (.if_icmp .eq 5, 3) := by decide +kernel
theorem d_L_law_516 : decode b_L_law 516 = .ok (.iconst 0, 1) := by decide +kernel
theorem d_L_law_517 : decode b_L_law 517 = .ok (.ireturn, 1) := by decide +kernel
theorem d_L_law_518 : decode b_L_law 518 = .ok (.iload 5, 2) := by decide +kernel
theorem d_L_law_520 : decode b_L_law 520 = .ok (.ifCond .ne 15, 3) := by decide +kernel
theorem d_L_law_523 : decode b_L_law 523 = .ok (.aload_n 3, 1) := by decide +kernel
theorem d_L_law_524 : decode b_L_law 524 = .ok (.iconst 0, 1) := by decide +kernel
theorem d_L_law_525 : decode b_L_law 525 = .ok (.laload, 1) := by decide +kernel
theorem d_L_law_526 : decode b_L_law 526 = .ok (.iload 6, 2) := by decide +kernel
theorem d_L_law_528 : decode b_L_law 528 = .ok (.i2l, 1) := by decide +kernel
theorem d_L_law_529 : decode b_L_law 529 = .ok (.lcmp, 1) := by decide +kernel
theorem d_L_law_530 : decode b_L_law 530 = .ok (.ifCond .eq 5, 3) := by decide +kernel
theorem d_L_law_533 : decode b_L_law 533 = .ok (.iconst 0, 1) := by decide +kernel
theorem d_L_law_534 : decode b_L_law 534 = .ok (.ireturn, 1) := by decide +kernel
theorem d_L_law_535 : decode b_L_law 535 = .ok (.goto 702, 3) := by decide +kernel
theorem d_L_law_538 : decode b_L_law 538 = .ok (.aload_n 1, 1) := by decide +kernel
theorem d_L_law_539 : decode b_L_law 539 = .ok (.aload_n 0, 1) := by decide +kernel
theorem d_L_law_540 : decode b_L_law 540 = .ok (.iload 4, 2) := by decide +kernel
theorem d_L_law_542 : decode b_L_law 542 = .ok (.iconst 1, 1) := by decide +kernel
theorem d_L_law_543 : decode b_L_law 543 = .ok (.iadd, 1) := by decide +kernel
theorem d_L_law_544 : decode b_L_law 544 = .ok (.iaload, 1) := by decide +kernel
theorem d_L_law_545 : decode b_L_law 545 = .ok (.aload_n 3, 1) := by decide +kernel
theorem d_L_law_546 : decode b_L_law 546 = .ok (.invokestatic 96, 3) := by decide +kernel
theorem d_L_law_549 : decode b_L_law 549 = .ok (.istore 5, 2) := by decide +kernel
theorem d_L_law_551 : decode b_L_law 551 = .ok (.aload_n 2, 1) := by decide +kernel
theorem d_L_law_552 : decode b_L_law 552 = .ok (.aload_n 0, 1) := by decide +kernel
theorem d_L_law_553 : decode b_L_law 553 = .ok (.iload 4, 2) := by decide +kernel
theorem d_L_law_555 : decode b_L_law 555 = .ok (.iconst 1, 1) := by decide +kernel
theorem d_L_law_556 : decode b_L_law 556 = .ok (.iadd, 1) := by decide +kernel
theorem d_L_law_557 : decode b_L_law 557 = .ok (.iaload, 1) := by decide +kernel
theorem d_L_law_558 : decode b_L_law 558 = .ok (.invokevirtual 98, 3) := by decide +kernel
theorem d_L_law_561 : decode b_L_law 561 = .ok (.istore 6, 2) := by decide +kernel
theorem d_L_law_563 : decode b_L_law 563 = .ok (.aload_n 2, 1) := by decide +kernel
theorem d_L_law_564 : decode b_L_law 564 = .ok (.invokevirtual 75, 3) := by decide +kernel
theorem d_L_law_567 : decode b_L_law 567 = .ok (.iload 5, 2) := by decide +kernel
theorem d_L_law_569 : decode b_L_law 569 = .ok (.if_icmp .eq 5, 3) := by decide +kernel
theorem d_L_law_572 : decode b_L_law 572 = .ok (.iconst 0, 1) := by decide +kernel
theorem d_L_law_573 : decode b_L_law 573 = .ok (.ireturn, 1) := by decide +kernel
theorem d_L_law_574 : decode b_L_law 574 = .ok (.iload 5, 2) := by decide +kernel
theorem d_L_law_576 : decode b_L_law 576 = .ok (.ifCond .ne 15, 3) := by decide +kernel
theorem d_L_law_579 : decode b_L_law 579 = .ok (.aload_n 3, 1) := by decide +kernel
theorem d_L_law_580 : decode b_L_law 580 = .ok (.iconst 0, 1) := by decide +kernel
theorem d_L_law_581 : decode b_L_law 581 = .ok (.laload, 1) := by decide +kernel
theorem d_L_law_582 : decode b_L_law 582 = .ok (.iload 6, 2) := by decide +kernel
theorem d_L_law_584 : decode b_L_law 584 = .ok (.i2l, 1) := by decide +kernel
theorem d_L_law_585 : decode b_L_law 585 = .ok (.lcmp, 1) := by decide +kernel
theorem d_L_law_586 : decode b_L_law 586 = .ok (.ifCond .eq 5, 3) := by decide +kernel
theorem d_L_law_589 : decode b_L_law 589 = .ok (.iconst 0, 1) := by decide +kernel
theorem d_L_law_590 : decode b_L_law 590 = .ok (.ireturn, 1) := by decide +kernel
theorem d_L_law_591 : decode b_L_law 591 = .ok (.goto 646, 3) := by decide +kernel
theorem d_L_law_594 : decode b_L_law 594 = .ok (.aload_n 1, 1) := by decide +kernel
theorem d_L_law_595 : decode b_L_law 595 = .ok (.aload_n 0, 1) := by decide +kernel
theorem d_L_law_596 : decode b_L_law 596 = .ok (.iload 4, 2) := by decide +kernel
theorem d_L_law_598 : decode b_L_law 598 = .ok (.iconst 1, 1) := by decide +kernel
theorem d_L_law_599 : decode b_L_law 599 = .ok (.iadd, 1) := by decide +kernel
theorem d_L_law_600 : decode b_L_law 600 = .ok (.iaload, 1) := by decide +kernel
theorem d_L_law_601 : decode b_L_law 601 = .ok (.aload_n 0, 1) := by decide +kernel
theorem d_L_law_602 : decode b_L_law 602 = .ok (.iload 4, 2) := by decide +kernel
theorem d_L_law_604 : decode b_L_law 604 = .ok (.iconst 2, 1) := by decide +kernel
theorem d_L_law_605 : decode b_L_law 605 = .ok (.iadd, 1) := by decide +kernel
theorem d_L_law_606 : decode b_L_law 606 = .ok (.iaload, 1) := by decide +kernel
theorem d_L_law_607 : decode b_L_law 607 = .ok (.aload_n 3, 1) := by decide +kernel
theorem d_L_law_608 : decode b_L_law 608 = .ok (.invokestatic 99, 3) := by decide +kernel
theorem d_L_law_611 : decode b_L_law 611 = .ok (.istore 5, 2) := by decide +kernel
theorem d_L_law_613 : decode b_L_law 613 = .ok (.aload_n 2, 1) := by decide +kernel
theorem d_L_law_614 : decode b_L_law 614 = .ok (.aload_n 0, 1) := by decide +kernel
theorem d_L_law_615 : decode b_L_law 615 = .ok (.iload 4, 2) := by decide +kernel
theorem d_L_law_617 : decode b_L_law 617 = .ok (.iconst 1, 1) := by decide +kernel
theorem d_L_law_618 : decode b_L_law 618 = .ok (.iadd, 1) := by decide +kernel
theorem d_L_law_619 : decode b_L_law 619 = .ok (.iaload, 1) := by decide +kernel
theorem d_L_law_620 : decode b_L_law 620 = .ok (.aload_n 0, 1) := by decide +kernel
theorem d_L_law_621 : decode b_L_law 621 = .ok (.iload 4, 2) := by decide +kernel
theorem d_L_law_623 : decode b_L_law 623 = .ok (.iconst 2, 1) := by decide +kernel
theorem d_L_law_624 : decode b_L_law 624 = .ok (.iadd, 1) := by decide +kernel
theorem d_L_law_625 : decode b_L_law 625 = .ok (.iaload, 1) := by decide +kernel
theorem d_L_law_626 : decode b_L_law 626 = .ok (.invokevirtual 101, 3) := by decide +kernel
theorem d_L_law_629 : decode b_L_law 629 = .ok (.lstore 6, 2) := by decide +kernel
theorem d_L_law_631 : decode b_L_law 631 = .ok (.aload_n 2, 1) := by decide +kernel
theorem d_L_law_632 : decode b_L_law 632 = .ok (.invokevirtual 75, 3) := by decide +kernel
theorem d_L_law_635 : decode b_L_law 635 = .ok (.iload 5, 2) := by decide +kernel
theorem d_L_law_637 : decode b_L_law 637 = .ok (.if_icmp .eq 5, 3) := by decide +kernel
theorem d_L_law_640 : decode b_L_law 640 = .ok (.iconst 0, 1) := by decide +kernel
theorem d_L_law_641 : decode b_L_law 641 = .ok (.ireturn, 1) := by decide +kernel
theorem d_L_law_642 : decode b_L_law 642 = .ok (.iload 5, 2) := by decide +kernel
theorem d_L_law_644 : decode b_L_law 644 = .ok (.ifCond .ne 14, 3) := by decide +kernel
theorem d_L_law_647 : decode b_L_law 647 = .ok (.aload_n 3, 1) := by decide +kernel
theorem d_L_law_648 : decode b_L_law 648 = .ok (.iconst 0, 1) := by decide +kernel
theorem d_L_law_649 : decode b_L_law 649 = .ok (.laload, 1) := by decide +kernel
theorem d_L_law_650 : decode b_L_law 650 = .ok (.lload 6, 2) := by decide +kernel
theorem d_L_law_652 : decode b_L_law 652 = .ok (.lcmp, 1) := by decide +kernel
theorem d_L_law_653 : decode b_L_law 653 = .ok (.ifCond .eq 5, 3) := by decide +kernel
theorem d_L_law_656 : decode b_L_law 656 = .ok (.iconst 0, 1) := by decide +kernel
theorem d_L_law_657 : decode b_L_law 657 = .ok (.ireturn, 1) := by decide +kernel
theorem d_L_law_658 : decode b_L_law 658 = .ok (.goto 579, 3) := by decide +kernel
theorem d_L_law_661 : decode b_L_law 661 = .ok (.aload_n 1, 1) := by decide +kernel
theorem d_L_law_662 : decode b_L_law 662 = .ok (.aload_n 0, 1) := by decide +kernel
theorem d_L_law_663 : decode b_L_law 663 = .ok (.iload 4, 2) := by decide +kernel
theorem d_L_law_665 : decode b_L_law 665 = .ok (.iconst 1, 1) := by decide +kernel
theorem d_L_law_666 : decode b_L_law 666 = .ok (.iadd, 1) := by decide +kernel
theorem d_L_law_667 : decode b_L_law 667 = .ok (.iaload, 1) := by decide +kernel
theorem d_L_law_668 : decode b_L_law 668 = .ok (.i2l, 1) := by decide +kernel
theorem d_L_law_669 : decode b_L_law 669 = .ok (.bipush 32, 2) := by decide +kernel
theorem d_L_law_671 : decode b_L_law 671 = .ok (.lshl, 1) := by decide +kernel
theorem d_L_law_672 : decode b_L_law 672 = .ok (.aload_n 0, 1) := by decide +kernel
theorem d_L_law_673 : decode b_L_law 673 = .ok (.iload 4, 2) := by decide +kernel
theorem d_L_law_675 : decode b_L_law 675 = .ok (.iconst 2, 1) := by decide +kernel
theorem d_L_law_676 : decode b_L_law 676 = .ok (.iadd, 1) := by decide +kernel
theorem d_L_law_677 : decode b_L_law 677 = .ok (.iaload, 1) := by decide +kernel
theorem d_L_law_678 : decode b_L_law 678 = .ok (.i2l, 1) := by decide +kernel
theorem d_L_law_679 : decode b_L_law 679 = .ok (.ldc2_w 79, 3) := by decide +kernel
theorem d_L_law_682 : decode b_L_law 682 = .ok (.land, 1) := by decide +kernel
theorem d_L_law_683 : decode b_L_law 683 = .ok (.lor, 1) := by decide +kernel
theorem d_L_law_684 : decode b_L_law 684 = .ok (.aload_n 3, 1) := by decide +kernel
theorem d_L_law_685 : decode b_L_law 685 = .ok (.invokestatic 102, 3) := by decide +kernel
theorem d_L_law_688 : decode b_L_law 688 = .ok (.istore 5, 2) := by decide +kernel
theorem d_L_law_690 : decode b_L_law 690 = .ok (.aload_n 2, 1) := by decide +kernel
theorem d_L_law_691 : decode b_L_law 691 = .ok (.aload_n 0, 1) := by decide +kernel
theorem d_L_law_692 : decode b_L_law 692 = .ok (.iload 4, 2) := by decide +kernel
theorem d_L_law_694 : decode b_L_law 694 = .ok (.iconst 1, 1) := by decide +kernel
theorem d_L_law_695 : decode b_L_law 695 = .ok (.iadd, 1) := by decide +kernel
theorem d_L_law_696 : decode b_L_law 696 = .ok (.iaload, 1) := by decide +kernel
theorem d_L_law_697 : decode b_L_law 697 = .ok (.i2l, 1) := by decide +kernel
theorem d_L_law_698 : decode b_L_law 698 = .ok (.bipush 32, 2) := by decide +kernel
theorem d_L_law_700 : decode b_L_law 700 = .ok (.lshl, 1) := by decide +kernel
theorem d_L_law_701 : decode b_L_law 701 = .ok (.aload_n 0, 1) := by decide +kernel
theorem d_L_law_702 : decode b_L_law 702 = .ok (.iload 4, 2) := by decide +kernel
theorem d_L_law_704 : decode b_L_law 704 = .ok (.iconst 2, 1) := by decide +kernel
theorem d_L_law_705 : decode b_L_law 705 = .ok (.iadd, 1) := by decide +kernel
theorem d_L_law_706 : decode b_L_law 706 = .ok (.iaload, 1) := by decide +kernel
theorem d_L_law_707 : decode b_L_law 707 = .ok (.i2l, 1) := by decide +kernel
theorem d_L_law_708 : decode b_L_law 708 = .ok (.ldc2_w 79, 3) := by decide +kernel
theorem d_L_law_711 : decode b_L_law 711 = .ok (.land, 1) := by decide +kernel
theorem d_L_law_712 : decode b_L_law 712 = .ok (.lor, 1) := by decide +kernel
theorem d_L_law_713 : decode b_L_law 713 = .ok (.invokevirtual 105, 3) := by decide +kernel
theorem d_L_law_716 : decode b_L_law 716 = .ok (.istore 6, 2) := by decide +kernel
theorem d_L_law_718 : decode b_L_law 718 = .ok (.aload_n 2, 1) := by decide +kernel
theorem d_L_law_719 : decode b_L_law 719 = .ok (.invokevirtual 75, 3) := by decide +kernel
theorem d_L_law_722 : decode b_L_law 722 = .ok (.iload 5, 2) := by decide +kernel
theorem d_L_law_724 : decode b_L_law 724 = .ok (.if_icmp .eq 5, 3) := by decide +kernel
theorem d_L_law_727 : decode b_L_law 727 = .ok (.iconst 0, 1) := by decide +kernel
theorem d_L_law_728 : decode b_L_law 728 = .ok (.ireturn, 1) := by decide +kernel
theorem d_L_law_729 : decode b_L_law 729 = .ok (.iload 5, 2) := by decide +kernel
theorem d_L_law_731 : decode b_L_law 731 = .ok (.ifCond .ne 15, 3) := by decide +kernel
theorem d_L_law_734 : decode b_L_law 734 = .ok (.aload_n 3, 1) := by decide +kernel
theorem d_L_law_735 : decode b_L_law 735 = .ok (.iconst 0, 1) := by decide +kernel
theorem d_L_law_736 : decode b_L_law 736 = .ok (.laload, 1) := by decide +kernel
theorem d_L_law_737 : decode b_L_law 737 = .ok (.iload 6, 2) := by decide +kernel
theorem d_L_law_739 : decode b_L_law 739 = .ok (.i2l, 1) := by decide +kernel
theorem d_L_law_740 : decode b_L_law 740 = .ok (.lcmp, 1) := by decide +kernel
theorem d_L_law_741 : decode b_L_law 741 = .ok (.ifCond .eq 5, 3) := by decide +kernel
theorem d_L_law_744 : decode b_L_law 744 = .ok (.iconst 0, 1) := by decide +kernel
theorem d_L_law_745 : decode b_L_law 745 = .ok (.ireturn, 1) := by decide +kernel
theorem d_L_law_746 : decode b_L_law 746 = .ok (.goto 491, 3) := by decide +kernel
theorem d_L_law_749 : decode b_L_law 749 = .ok (.aload_n 1, 1) := by decide +kernel
theorem d_L_law_750 : decode b_L_law 750 = .ok (.aload_n 0, 1) := by decide +kernel
theorem d_L_law_751 : decode b_L_law 751 = .ok (.iload 4, 2) := by decide +kernel
theorem d_L_law_753 : decode b_L_law 753 = .ok (.iconst 1, 1) := by decide +kernel
theorem d_L_law_754 : decode b_L_law 754 = .ok (.iadd, 1) := by decide +kernel
theorem d_L_law_755 : decode b_L_law 755 = .ok (.iaload, 1) := by decide +kernel
theorem d_L_law_756 : decode b_L_law 756 = .ok (.aload_n 3, 1) := by decide +kernel
theorem d_L_law_757 : decode b_L_law 757 = .ok (.invokestatic 106, 3) := by decide +kernel
theorem d_L_law_760 : decode b_L_law 760 = .ok (.istore 5, 2) := by decide +kernel
theorem d_L_law_762 : decode b_L_law 762 = .ok (.aload_n 2, 1) := by decide +kernel
theorem d_L_law_763 : decode b_L_law 763 = .ok (.aload_n 0, 1) := by decide +kernel
theorem d_L_law_764 : decode b_L_law 764 = .ok (.iload 4, 2) := by decide +kernel
theorem d_L_law_766 : decode b_L_law 766 = .ok (.iconst 1, 1) := by decide +kernel
theorem d_L_law_767 : decode b_L_law 767 = .ok (.iadd, 1) := by decide +kernel
theorem d_L_law_768 : decode b_L_law 768 = .ok (.iaload, 1) := by decide +kernel
theorem d_L_law_769 : decode b_L_law 769 = .ok (.invokevirtual 108, 3) := by decide +kernel
theorem d_L_law_772 : decode b_L_law 772 = .ok (.istore 6, 2) := by decide +kernel
theorem d_L_law_774 : decode b_L_law 774 = .ok (.aload_n 2, 1) := by decide +kernel
theorem d_L_law_775 : decode b_L_law 775 = .ok (.invokevirtual 75, 3) := by decide +kernel
theorem d_L_law_778 : decode b_L_law 778 = .ok (.iload 5, 2) := by decide +kernel
theorem d_L_law_780 : decode b_L_law 780 = .ok (.if_icmp .eq 5, 3) := by decide +kernel
theorem d_L_law_783 : decode b_L_law 783 = .ok (.iconst 0, 1) := by decide +kernel
theorem d_L_law_784 : decode b_L_law 784 = .ok (.ireturn, 1) := by decide +kernel
theorem d_L_law_785 : decode b_L_law 785 = .ok (.iload 5, 2) := by decide +kernel
theorem d_L_law_787 : decode b_L_law 787 = .ok (.ifCond .ne 15, 3) := by decide +kernel
theorem d_L_law_790 : decode b_L_law 790 = .ok (.aload_n 3, 1) := by decide +kernel
theorem d_L_law_791 : decode b_L_law 791 = .ok (.iconst 0, 1) := by decide +kernel
theorem d_L_law_792 : decode b_L_law 792 = .ok (.laload, 1) := by decide +kernel
theorem d_L_law_793 : decode b_L_law 793 = .ok (.iload 6, 2) := by decide +kernel
theorem d_L_law_795 : decode b_L_law 795 = .ok (.i2l, 1) := by decide +kernel
theorem d_L_law_796 : decode b_L_law 796 = .ok (.lcmp, 1) := by decide +kernel
theorem d_L_law_797 : decode b_L_law 797 = .ok (.ifCond .eq 5, 3) := by decide +kernel
theorem d_L_law_800 : decode b_L_law 800 = .ok (.iconst 0, 1) := by decide +kernel
theorem d_L_law_801 : decode b_L_law 801 = .ok (.ireturn, 1) := by decide +kernel
theorem d_L_law_802 : decode b_L_law 802 = .ok (.goto 435, 3) := by decide +kernel
theorem d_L_law_805 : decode b_L_law 805 = .ok (.aload_n 1, 1) := by decide +kernel
theorem d_L_law_806 : decode b_L_law 806 = .ok (.aload_n 0, 1) := by decide +kernel
theorem d_L_law_807 : decode b_L_law 807 = .ok (.iload 4, 2) := by decide +kernel
theorem d_L_law_809 : decode b_L_law 809 = .ok (.iconst 1, 1) := by decide +kernel
theorem d_L_law_810 : decode b_L_law 810 = .ok (.iadd, 1) := by decide +kernel
theorem d_L_law_811 : decode b_L_law 811 = .ok (.iaload, 1) := by decide +kernel
theorem d_L_law_812 : decode b_L_law 812 = .ok (.aload_n 0, 1) := by decide +kernel
theorem d_L_law_813 : decode b_L_law 813 = .ok (.iload 4, 2) := by decide +kernel
theorem d_L_law_815 : decode b_L_law 815 = .ok (.iconst 2, 1) := by decide +kernel
theorem d_L_law_816 : decode b_L_law 816 = .ok (.iadd, 1) := by decide +kernel
theorem d_L_law_817 : decode b_L_law 817 = .ok (.iaload, 1) := by decide +kernel
theorem d_L_law_818 : decode b_L_law 818 = .ok (.aload_n 3, 1) := by decide +kernel
theorem d_L_law_819 : decode b_L_law 819 = .ok (.invokestatic 109, 3) := by decide +kernel
theorem d_L_law_822 : decode b_L_law 822 = .ok (.istore 5, 2) := by decide +kernel
theorem d_L_law_824 : decode b_L_law 824 = .ok (.aload_n 2, 1) := by decide +kernel
theorem d_L_law_825 : decode b_L_law 825 = .ok (.aload_n 0, 1) := by decide +kernel
theorem d_L_law_826 : decode b_L_law 826 = .ok (.iload 4, 2) := by decide +kernel
theorem d_L_law_828 : decode b_L_law 828 = .ok (.iconst 1, 1) := by decide +kernel
theorem d_L_law_829 : decode b_L_law 829 = .ok (.iadd, 1) := by decide +kernel
theorem d_L_law_830 : decode b_L_law 830 = .ok (.iaload, 1) := by decide +kernel
theorem d_L_law_831 : decode b_L_law 831 = .ok (.aload_n 0, 1) := by decide +kernel
theorem d_L_law_832 : decode b_L_law 832 = .ok (.iload 4, 2) := by decide +kernel
theorem d_L_law_834 : decode b_L_law 834 = .ok (.iconst 2, 1) := by decide +kernel
theorem d_L_law_835 : decode b_L_law 835 = .ok (.iadd, 1) := by decide +kernel
theorem d_L_law_836 : decode b_L_law 836 = .ok (.iaload, 1) := by decide +kernel
theorem d_L_law_837 : decode b_L_law 837 = .ok (.invokevirtual 111, 3) := by decide +kernel
theorem d_L_law_840 : decode b_L_law 840 = .ok (.istore 6, 2) := by decide +kernel
theorem d_L_law_842 : decode b_L_law 842 = .ok (.aload_n 2, 1) := by decide +kernel
theorem d_L_law_843 : decode b_L_law 843 = .ok (.invokevirtual 75, 3) := by decide +kernel
theorem d_L_law_846 : decode b_L_law 846 = .ok (.iload 5, 2) := by decide +kernel
theorem d_L_law_848 : decode b_L_law 848 = .ok (.if_icmp .eq 5, 3) := by decide +kernel
theorem d_L_law_851 : decode b_L_law 851 = .ok (.iconst 0, 1) := by decide +kernel
theorem d_L_law_852 : decode b_L_law 852 = .ok (.ireturn, 1) := by decide +kernel
theorem d_L_law_853 : decode b_L_law 853 = .ok (.iload 5, 2) := by decide +kernel
theorem d_L_law_855 : decode b_L_law 855 = .ok (.ifCond .ne 15, 3) := by decide +kernel
theorem d_L_law_858 : decode b_L_law 858 = .ok (.aload_n 3, 1) := by decide +kernel
theorem d_L_law_859 : decode b_L_law 859 = .ok (.iconst 0, 1) := by decide +kernel
theorem d_L_law_860 : decode b_L_law 860 = .ok (.laload, 1) := by decide +kernel
theorem d_L_law_861 : decode b_L_law 861 = .ok (.iload 6, 2) := by decide +kernel
theorem d_L_law_863 : decode b_L_law 863 = .ok (.i2l, 1) := by decide +kernel
theorem d_L_law_864 : decode b_L_law 864 = .ok (.lcmp, 1) := by decide +kernel
theorem d_L_law_865 : decode b_L_law 865 = .ok (.ifCond .eq 5, 3) := by decide +kernel
theorem d_L_law_868 : decode b_L_law 868 = .ok (.iconst 0, 1) := by decide +kernel
theorem d_L_law_869 : decode b_L_law 869 = .ok (.ireturn, 1) := by decide +kernel
theorem d_L_law_870 : decode b_L_law 870 = .ok (.goto 367, 3) := by decide +kernel
theorem d_L_law_873 : decode b_L_law 873 = .ok (.aload_n 1, 1) := by decide +kernel
theorem d_L_law_874 : decode b_L_law 874 = .ok (.aload_n 0, 1) := by decide +kernel
theorem d_L_law_875 : decode b_L_law 875 = .ok (.iload 4, 2) := by decide +kernel
theorem d_L_law_877 : decode b_L_law 877 = .ok (.iconst 1, 1) := by decide +kernel
theorem d_L_law_878 : decode b_L_law 878 = .ok (.iadd, 1) := by decide +kernel
theorem d_L_law_879 : decode b_L_law 879 = .ok (.iaload, 1) := by decide +kernel
theorem d_L_law_880 : decode b_L_law 880 = .ok (.aload_n 3, 1) := by decide +kernel
theorem d_L_law_881 : decode b_L_law 881 = .ok (.invokestatic 112, 3) := by decide +kernel
theorem d_L_law_884 : decode b_L_law 884 = .ok (.istore 5, 2) := by decide +kernel
theorem d_L_law_886 : decode b_L_law 886 = .ok (.aload_n 2, 1) := by decide +kernel
theorem d_L_law_887 : decode b_L_law 887 = .ok (.aload_n 0, 1) := by decide +kernel
theorem d_L_law_888 : decode b_L_law 888 = .ok (.iload 4, 2) := by decide +kernel
theorem d_L_law_890 : decode b_L_law 890 = .ok (.iconst 1, 1) := by decide +kernel
theorem d_L_law_891 : decode b_L_law 891 = .ok (.iadd, 1) := by decide +kernel
theorem d_L_law_892 : decode b_L_law 892 = .ok (.iaload, 1) := by decide +kernel
theorem d_L_law_893 : decode b_L_law 893 = .ok (.invokevirtual 114, 3) := by decide +kernel
theorem d_L_law_896 : decode b_L_law 896 = .ok (.istore 6, 2) := by decide +kernel
theorem d_L_law_898 : decode b_L_law 898 = .ok (.aload_n 2, 1) := by decide +kernel
theorem d_L_law_899 : decode b_L_law 899 = .ok (.invokevirtual 75, 3) := by decide +kernel
theorem d_L_law_902 : decode b_L_law 902 = .ok (.iload 5, 2) := by decide +kernel
theorem d_L_law_904 : decode b_L_law 904 = .ok (.if_icmp .eq 5, 3) := by decide +kernel
theorem d_L_law_907 : decode b_L_law 907 = .ok (.iconst 0, 1) := by decide +kernel
theorem d_L_law_908 : decode b_L_law 908 = .ok (.ireturn, 1) := by decide +kernel
theorem d_L_law_909 : decode b_L_law 909 = .ok (.iload 5, 2) := by decide +kernel
theorem d_L_law_911 : decode b_L_law 911 = .ok (.ifCond .ne 15, 3) := by decide +kernel
theorem d_L_law_914 : decode b_L_law 914 = .ok (.aload_n 3, 1) := by decide +kernel
theorem d_L_law_915 : decode b_L_law 915 = .ok (.iconst 0, 1) := by decide +kernel
theorem d_L_law_916 : decode b_L_law 916 = .ok (.laload, 1) := by decide +kernel
theorem d_L_law_917 : decode b_L_law 917 = .ok (.iload 6, 2) := by decide +kernel
theorem d_L_law_919 : decode b_L_law 919 = .ok (.i2l, 1) := by decide +kernel
theorem d_L_law_920 : decode b_L_law 920 = .ok (.lcmp, 1) := by decide +kernel
theorem d_L_law_921 : decode b_L_law 921 = .ok (.ifCond .eq 5, 3) := by decide +kernel
theorem d_L_law_924 : decode b_L_law 924 = .ok (.iconst 0, 1) := by decide +kernel
theorem d_L_law_925 : decode b_L_law 925 = .ok (.ireturn, 1) := by decide +kernel
theorem d_L_law_926 : decode b_L_law 926 = .ok (.goto 311, 3) := by decide +kernel
theorem d_L_law_929 : decode b_L_law 929 = .ok (.aload_n 1, 1) := by decide +kernel
theorem d_L_law_930 : decode b_L_law 930 = .ok (.aload_n 0, 1) := by decide +kernel
theorem d_L_law_931 : decode b_L_law 931 = .ok (.iload 4, 2) := by decide +kernel
theorem d_L_law_933 : decode b_L_law 933 = .ok (.iconst 1, 1) := by decide +kernel
theorem d_L_law_934 : decode b_L_law 934 = .ok (.iadd, 1) := by decide +kernel
theorem d_L_law_935 : decode b_L_law 935 = .ok (.iaload, 1) := by decide +kernel
theorem d_L_law_936 : decode b_L_law 936 = .ok (.aload_n 0, 1) := by decide +kernel
theorem d_L_law_937 : decode b_L_law 937 = .ok (.iload 4, 2) := by decide +kernel
theorem d_L_law_939 : decode b_L_law 939 = .ok (.iconst 2, 1) := by decide +kernel
theorem d_L_law_940 : decode b_L_law 940 = .ok (.iadd, 1) := by decide +kernel
theorem d_L_law_941 : decode b_L_law 941 = .ok (.iaload, 1) := by decide +kernel
theorem d_L_law_942 : decode b_L_law 942 = .ok (.aload_n 0, 1) := by decide +kernel
theorem d_L_law_943 : decode b_L_law 943 = .ok (.iload 4, 2) := by decide +kernel
theorem d_L_law_945 : decode b_L_law 945 = .ok (.iconst 3, 1) := by decide +kernel
theorem d_L_law_946 : decode b_L_law 946 = .ok (.iadd, 1) := by decide +kernel
theorem d_L_law_947 : decode b_L_law 947 = .ok (.iaload, 1) := by decide +kernel
theorem d_L_law_948 : decode b_L_law 948 = .ok (.aload_n 3, 1) := by decide +kernel
theorem d_L_law_949 : decode b_L_law 949 = .ok (.invokestatic 115, 3) := by decide +kernel
theorem d_L_law_952 : decode b_L_law 952 = .ok (.istore 5, 2) := by decide +kernel
theorem d_L_law_954 : decode b_L_law 954 = .ok (.aload_n 2, 1) := by decide +kernel
theorem d_L_law_955 : decode b_L_law 955 = .ok (.aload_n 0, 1) := by decide +kernel
theorem d_L_law_956 : decode b_L_law 956 = .ok (.iload 4, 2) := by decide +kernel
theorem d_L_law_958 : decode b_L_law 958 = .ok (.iconst 1, 1) := by decide +kernel
theorem d_L_law_959 : decode b_L_law 959 = .ok (.iadd, 1) := by decide +kernel
theorem d_L_law_960 : decode b_L_law 960 = .ok (.iaload, 1) := by decide +kernel
theorem d_L_law_961 : decode b_L_law 961 = .ok (.aload_n 0, 1) := by decide +kernel
theorem d_L_law_962 : decode b_L_law 962 = .ok (.iload 4, 2) := by decide +kernel
theorem d_L_law_964 : decode b_L_law 964 = .ok (.iconst 2, 1) := by decide +kernel
theorem d_L_law_965 : decode b_L_law 965 = .ok (.iadd, 1) := by decide +kernel
theorem d_L_law_966 : decode b_L_law 966 = .ok (.iaload, 1) := by decide +kernel
theorem d_L_law_967 : decode b_L_law 967 = .ok (.aload_n 0, 1) := by decide +kernel
theorem d_L_law_968 : decode b_L_law 968 = .ok (.iload 4, 2) := by decide +kernel
theorem d_L_law_970 : decode b_L_law 970 = .ok (.iconst 3, 1) := by decide +kernel
theorem d_L_law_971 : decode b_L_law 971 = .ok (.iadd, 1) := by decide +kernel
theorem d_L_law_972 : decode b_L_law 972 = .ok (.iaload, 1) := by decide +kernel
theorem d_L_law_973 : decode b_L_law 973 = .ok (.invokevirtual 118, 3) := by decide +kernel
theorem d_L_law_976 : decode b_L_law 976 = .ok (.istore 6, 2) := by decide +kernel
theorem d_L_law_978 : decode b_L_law 978 = .ok (.aload_n 2, 1) := by decide +kernel
theorem d_L_law_979 : decode b_L_law 979 = .ok (.invokevirtual 75, 3) := by decide +kernel
theorem d_L_law_982 : decode b_L_law 982 = .ok (.iload 5, 2) := by decide +kernel
theorem d_L_law_984 : decode b_L_law 984 = .ok (.if_icmp .eq 5, 3) := by decide +kernel
theorem d_L_law_987 : decode b_L_law 987 = .ok (.iconst 0, 1) := by decide +kernel
theorem d_L_law_988 : decode b_L_law 988 = .ok (.ireturn, 1) := by decide +kernel
theorem d_L_law_989 : decode b_L_law 989 = .ok (.iload 5, 2) := by decide +kernel
theorem d_L_law_991 : decode b_L_law 991 = .ok (.ifCond .ne 15, 3) := by decide +kernel
theorem d_L_law_994 : decode b_L_law 994 = .ok (.aload_n 3, 1) := by decide +kernel
theorem d_L_law_995 : decode b_L_law 995 = .ok (.iconst 0, 1) := by decide +kernel
theorem d_L_law_996 : decode b_L_law 996 = .ok (.laload, 1) := by decide +kernel
theorem d_L_law_997 : decode b_L_law 997 = .ok (.iload 6, 2) := by decide +kernel
theorem d_L_law_999 : decode b_L_law 999 = .ok (.i2l, 1) := by decide +kernel
theorem d_L_law_1000 : decode b_L_law 1000 = .ok (.lcmp, 1) := by decide +kernel
theorem d_L_law_1001 : decode b_L_law 1001 = .ok (.ifCond .eq 5, 3) := by decide +kernel
theorem d_L_law_1004 : decode b_L_law 1004 = .ok (.iconst 0, 1) := by decide +kernel
theorem d_L_law_1005 : decode b_L_law 1005 = .ok (.ireturn, 1) := by decide +kernel
theorem d_L_law_1006 : decode b_L_law 1006 = .ok (.goto 231, 3) := by decide +kernel
theorem d_L_law_1009 : decode b_L_law 1009 = .ok (.aload_n 1, 1) := by decide +kernel
theorem d_L_law_1010 : decode b_L_law 1010 = .ok (.aload_n 0, 1) := by decide +kernel
theorem d_L_law_1011 : decode b_L_law 1011 = .ok (.iload 4, 2) := by decide +kernel
theorem d_L_law_1013 : decode b_L_law 1013 = .ok (.iconst 1, 1) := by decide +kernel
theorem d_L_law_1014 : decode b_L_law 1014 = .ok (.iadd, 1) := by decide +kernel
theorem d_L_law_1015 : decode b_L_law 1015 = .ok (.iaload, 1) := by decide +kernel
theorem d_L_law_1016 : decode b_L_law 1016 = .ok (.aload_n 0, 1) := by decide +kernel
theorem d_L_law_1017 : decode b_L_law 1017 = .ok (.iload 4, 2) := by decide +kernel
theorem d_L_law_1019 : decode b_L_law 1019 = .ok (.iconst 2, 1) := by decide +kernel
theorem d_L_law_1020 : decode b_L_law 1020 = .ok (.iadd, 1) := by decide +kernel
theorem d_L_law_1021 : decode b_L_law 1021 = .ok (.iaload, 1) := by decide +kernel
theorem d_L_law_1022 : decode b_L_law 1022 = .ok (.aload_n 3, 1) := by decide +kernel
theorem d_L_law_1023 : decode b_L_law 1023 = .ok (.invokestatic 119, 3) := by decide +kernel
theorem d_L_law_1026 : decode b_L_law 1026 = .ok (.istore 5, 2) := by decide +kernel
theorem d_L_law_1028 : decode b_L_law 1028 = .ok (.aload_n 2, 1) := by decide +kernel
theorem d_L_law_1029 : decode b_L_law 1029 = .ok (.aload_n 0, 1) := by decide +kernel
theorem d_L_law_1030 : decode b_L_law 1030 = .ok (.iload 4, 2) := by decide +kernel
theorem d_L_law_1032 : decode b_L_law 1032 = .ok (.iconst 1, 1) := by decide +kernel
theorem d_L_law_1033 : decode b_L_law 1033 = .ok (.iadd, 1) := by decide +kernel
theorem d_L_law_1034 : decode b_L_law 1034 = .ok (.iaload, 1) := by decide +kernel
theorem d_L_law_1035 : decode b_L_law 1035 = .ok (.aload_n 0, 1) := by decide +kernel
theorem d_L_law_1036 : decode b_L_law 1036 = .ok (.iload 4, 2) := by decide +kernel
theorem d_L_law_1038 : decode b_L_law 1038 = .ok (.iconst 2, 1) := by decide +kernel
theorem d_L_law_1039 : decode b_L_law 1039 = .ok (.iadd, 1) := by decide +kernel
theorem d_L_law_1040 : decode b_L_law 1040 = .ok (.iaload, 1) := by decide +kernel
theorem d_L_law_1041 : decode b_L_law 1041 = .ok (.invokevirtual 121, 3) := by decide +kernel
theorem d_L_law_1044 : decode b_L_law 1044 = .ok (.istore 6, 2) := by decide +kernel
theorem d_L_law_1046 : decode b_L_law 1046 = .ok (.aload_n 2, 1) := by decide +kernel
theorem d_L_law_1047 : decode b_L_law 1047 = .ok (.invokevirtual 75, 3) := by decide +kernel
theorem d_L_law_1050 : decode b_L_law 1050 = .ok (.iload 5, 2) := by decide +kernel
theorem d_L_law_1052 : decode b_L_law 1052 = .ok (.if_icmp .eq 5, 3) := by decide +kernel
theorem d_L_law_1055 : decode b_L_law 1055 = .ok (.iconst 0, 1) := by decide +kernel
theorem d_L_law_1056 : decode b_L_law 1056 = .ok (.ireturn, 1) := by decide +kernel
theorem d_L_law_1057 : decode b_L_law 1057 = .ok (.iload 5, 2) := by decide +kernel
theorem d_L_law_1059 : decode b_L_law 1059 = .ok (.ifCond .ne 15, 3) := by decide +kernel
theorem d_L_law_1062 : decode b_L_law 1062 = .ok (.aload_n 3, 1) := by decide +kernel
theorem d_L_law_1063 : decode b_L_law 1063 = .ok (.iconst 0, 1) := by decide +kernel
theorem d_L_law_1064 : decode b_L_law 1064 = .ok (.laload, 1) := by decide +kernel
theorem d_L_law_1065 : decode b_L_law 1065 = .ok (.iload 6, 2) := by decide +kernel
theorem d_L_law_1067 : decode b_L_law 1067 = .ok (.i2l, 1) := by decide +kernel
theorem d_L_law_1068 : decode b_L_law 1068 = .ok (.lcmp, 1) := by decide +kernel
theorem d_L_law_1069 : decode b_L_law 1069 = .ok (.ifCond .eq 5, 3) := by decide +kernel
theorem d_L_law_1072 : decode b_L_law 1072 = .ok (.iconst 0, 1) := by decide +kernel
theorem d_L_law_1073 : decode b_L_law 1073 = .ok (.ireturn, 1) := by decide +kernel
theorem d_L_law_1074 : decode b_L_law 1074 = .ok (.goto 163, 3) := by decide +kernel
theorem d_L_law_1077 : decode b_L_law 1077 = .ok (.aload_n 1, 1) := by decide +kernel
theorem d_L_law_1078 : decode b_L_law 1078 = .ok (.aload_n 0, 1) := by decide +kernel
theorem d_L_law_1079 : decode b_L_law 1079 = .ok (.iload 4, 2) := by decide +kernel
theorem d_L_law_1081 : decode b_L_law 1081 = .ok (.iconst 1, 1) := by decide +kernel
theorem d_L_law_1082 : decode b_L_law 1082 = .ok (.iadd, 1) := by decide +kernel
theorem d_L_law_1083 : decode b_L_law 1083 = .ok (.iaload, 1) := by decide +kernel
theorem d_L_law_1084 : decode b_L_law 1084 = .ok (.aload_n 0, 1) := by decide +kernel
theorem d_L_law_1085 : decode b_L_law 1085 = .ok (.iload 4, 2) := by decide +kernel
theorem d_L_law_1087 : decode b_L_law 1087 = .ok (.iconst 2, 1) := by decide +kernel
theorem d_L_law_1088 : decode b_L_law 1088 = .ok (.iadd, 1) := by decide +kernel
theorem d_L_law_1089 : decode b_L_law 1089 = .ok (.iaload, 1) := by decide +kernel
theorem d_L_law_1090 : decode b_L_law 1090 = .ok (.aload_n 0, 1) := by decide +kernel
theorem d_L_law_1091 : decode b_L_law 1091 = .ok (.iload 4, 2) := by decide +kernel
theorem d_L_law_1093 : decode b_L_law 1093 = .ok (.iconst 3, 1) := by decide +kernel
theorem d_L_law_1094 : decode b_L_law 1094 = .ok (.iadd, 1) := by decide +kernel
theorem d_L_law_1095 : decode b_L_law 1095 = .ok (.iaload, 1) := by decide +kernel
theorem d_L_law_1096 : decode b_L_law 1096 = .ok (.aload_n 3, 1) := by decide +kernel
theorem d_L_law_1097 : decode b_L_law 1097 = .ok (.invokestatic 122, 3) := by decide +kernel
theorem d_L_law_1100 : decode b_L_law 1100 = .ok (.istore 5, 2) := by decide +kernel
theorem d_L_law_1102 : decode b_L_law 1102 = .ok (.aload_n 2, 1) := by decide +kernel
theorem d_L_law_1103 : decode b_L_law 1103 = .ok (.aload_n 0, 1) := by decide +kernel
theorem d_L_law_1104 : decode b_L_law 1104 = .ok (.iload 4, 2) := by decide +kernel
theorem d_L_law_1106 : decode b_L_law 1106 = .ok (.iconst 1, 1) := by decide +kernel
theorem d_L_law_1107 : decode b_L_law 1107 = .ok (.iadd, 1) := by decide +kernel
theorem d_L_law_1108 : decode b_L_law 1108 = .ok (.iaload, 1) := by decide +kernel
theorem d_L_law_1109 : decode b_L_law 1109 = .ok (.aload_n 0, 1) := by decide +kernel
theorem d_L_law_1110 : decode b_L_law 1110 = .ok (.iload 4, 2) := by decide +kernel
theorem d_L_law_1112 : decode b_L_law 1112 = .ok (.iconst 2, 1) := by decide +kernel
theorem d_L_law_1113 : decode b_L_law 1113 = .ok (.iadd, 1) := by decide +kernel
theorem d_L_law_1114 : decode b_L_law 1114 = .ok (.iaload, 1) := by decide +kernel
theorem d_L_law_1115 : decode b_L_law 1115 = .ok (.aload_n 0, 1) := by decide +kernel
theorem d_L_law_1116 : decode b_L_law 1116 = .ok (.iload 4, 2) := by decide +kernel
theorem d_L_law_1118 : decode b_L_law 1118 = .ok (.iconst 3, 1) := by decide +kernel
theorem d_L_law_1119 : decode b_L_law 1119 = .ok (.iadd, 1) := by decide +kernel
theorem d_L_law_1120 : decode b_L_law 1120 = .ok (.iaload, 1) := by decide +kernel
theorem d_L_law_1121 : decode b_L_law 1121 = .ok (.invokevirtual 124, 3) := by decide +kernel
theorem d_L_law_1124 : decode b_L_law 1124 = .ok (.istore 6, 2) := by decide +kernel
theorem d_L_law_1126 : decode b_L_law 1126 = .ok (.aload_n 2, 1) := by decide +kernel
theorem d_L_law_1127 : decode b_L_law 1127 = .ok (.invokevirtual 75, 3) := by decide +kernel
theorem d_L_law_1130 : decode b_L_law 1130 = .ok (.iload 5, 2) := by decide +kernel
theorem d_L_law_1132 : decode b_L_law 1132 = .ok (.if_icmp .eq 5, 3) := by decide +kernel
theorem d_L_law_1135 : decode b_L_law 1135 = .ok (.iconst 0, 1) := by decide +kernel
theorem d_L_law_1136 : decode b_L_law 1136 = .ok (.ireturn, 1) := by decide +kernel
theorem d_L_law_1137 : decode b_L_law 1137 = .ok (.iload 5, 2) := by decide +kernel
theorem d_L_law_1139 : decode b_L_law 1139 = .ok (.ifCond .ne 15, 3) := by decide +kernel
theorem d_L_law_1142 : decode b_L_law 1142 = .ok (.aload_n 3, 1) := by decide +kernel
theorem d_L_law_1143 : decode b_L_law 1143 = .ok (.iconst 0, 1) := by decide +kernel
theorem d_L_law_1144 : decode b_L_law 1144 = .ok (.laload, 1) := by decide +kernel
theorem d_L_law_1145 : decode b_L_law 1145 = .ok (.iload 6, 2) := by decide +kernel
theorem d_L_law_1147 : decode b_L_law 1147 = .ok (.i2l, 1) := by decide +kernel
theorem d_L_law_1148 : decode b_L_law 1148 = .ok (.lcmp, 1) := by decide +kernel
theorem d_L_law_1149 : decode b_L_law 1149 = .ok (.ifCond .eq 5, 3) := by decide +kernel
theorem d_L_law_1152 : decode b_L_law 1152 = .ok (.iconst 0, 1) := by decide +kernel
theorem d_L_law_1153 : decode b_L_law 1153 = .ok (.ireturn, 1) := by decide +kernel
theorem d_L_law_1154 : decode b_L_law 1154 = .ok (.goto 83, 3) := by decide +kernel
theorem d_L_law_1157 : decode b_L_law 1157 = .ok (.aload_n 1, 1) := by decide +kernel
theorem d_L_law_1158 : decode b_L_law 1158 = .ok (.aload_n 0, 1) := by decide +kernel
theorem d_L_law_1159 : decode b_L_law 1159 = .ok (.iload 4, 2) := by decide +kernel
theorem d_L_law_1161 : decode b_L_law 1161 = .ok (.iconst 1, 1) := by decide +kernel
theorem d_L_law_1162 : decode b_L_law 1162 = .ok (.iadd, 1) := by decide +kernel
theorem d_L_law_1163 : decode b_L_law 1163 = .ok (.iaload, 1) := by decide +kernel
theorem d_L_law_1164 : decode b_L_law 1164 = .ok (.aload_n 0, 1) := by decide +kernel
theorem d_L_law_1165 : decode b_L_law 1165 = .ok (.iload 4, 2) := by decide +kernel
theorem d_L_law_1167 : decode b_L_law 1167 = .ok (.iconst 2, 1) := by decide +kernel
theorem d_L_law_1168 : decode b_L_law 1168 = .ok (.iadd, 1) := by decide +kernel
theorem d_L_law_1169 : decode b_L_law 1169 = .ok (.iaload, 1) := by decide +kernel
theorem d_L_law_1170 : decode b_L_law 1170 = .ok (.aload_n 0, 1) := by decide +kernel
theorem d_L_law_1171 : decode b_L_law 1171 = .ok (.iload 4, 2) := by decide +kernel
theorem d_L_law_1173 : decode b_L_law 1173 = .ok (.iconst 3, 1) := by decide +kernel
theorem d_L_law_1174 : decode b_L_law 1174 = .ok (.iadd, 1) := by decide +kernel
theorem d_L_law_1175 : decode b_L_law 1175 = .ok (.iaload, 1) := by decide +kernel
theorem d_L_law_1176 : decode b_L_law 1176 = .ok (.aload_n 3, 1) := by decide +kernel
theorem d_L_law_1177 : decode b_L_law 1177 = .ok (.invokestatic 125, 3) := by decide +kernel
theorem d_L_law_1180 : decode b_L_law 1180 = .ok (.istore 5, 2) := by decide +kernel
theorem d_L_law_1182 : decode b_L_law 1182 = .ok (.aload_n 2, 1) := by decide +kernel
theorem d_L_law_1183 : decode b_L_law 1183 = .ok (.aload_n 0, 1) := by decide +kernel
theorem d_L_law_1184 : decode b_L_law 1184 = .ok (.iload 4, 2) := by decide +kernel
theorem d_L_law_1186 : decode b_L_law 1186 = .ok (.iconst 1, 1) := by decide +kernel
theorem d_L_law_1187 : decode b_L_law 1187 = .ok (.iadd, 1) := by decide +kernel
theorem d_L_law_1188 : decode b_L_law 1188 = .ok (.iaload, 1) := by decide +kernel
theorem d_L_law_1189 : decode b_L_law 1189 = .ok (.aload_n 0, 1) := by decide +kernel
theorem d_L_law_1190 : decode b_L_law 1190 = .ok (.iload 4, 2) := by decide +kernel
theorem d_L_law_1192 : decode b_L_law 1192 = .ok (.iconst 2, 1) := by decide +kernel
theorem d_L_law_1193 : decode b_L_law 1193 = .ok (.iadd, 1) := by decide +kernel
theorem d_L_law_1194 : decode b_L_law 1194 = .ok (.iaload, 1) := by decide +kernel
theorem d_L_law_1195 : decode b_L_law 1195 = .ok (.aload_n 0, 1) := by decide +kernel
theorem d_L_law_1196 : decode b_L_law 1196 = .ok (.iload 4, 2) := by decide +kernel
theorem d_L_law_1198 : decode b_L_law 1198 = .ok (.iconst 3, 1) := by decide +kernel
theorem d_L_law_1199 : decode b_L_law 1199 = .ok (.iadd, 1) := by decide +kernel
theorem d_L_law_1200 : decode b_L_law 1200 = .ok (.iaload, 1) := by decide +kernel
theorem d_L_law_1201 : decode b_L_law 1201 = .ok (.invokevirtual 127, 3) := by decide +kernel
theorem d_L_law_1204 : decode b_L_law 1204 = .ok (.istore 6, 2) := by decide +kernel
theorem d_L_law_1206 : decode b_L_law 1206 = .ok (.aload_n 2, 1) := by decide +kernel
theorem d_L_law_1207 : decode b_L_law 1207 = .ok (.invokevirtual 75, 3) := by decide +kernel
theorem d_L_law_1210 : decode b_L_law 1210 = .ok (.iload 5, 2) := by decide +kernel
theorem d_L_law_1212 : decode b_L_law 1212 = .ok (.if_icmp .eq 5, 3) := by decide +kernel
theorem d_L_law_1215 : decode b_L_law 1215 = .ok (.iconst 0, 1) := by decide +kernel
theorem d_L_law_1216 : decode b_L_law 1216 = .ok (.ireturn, 1) := by decide +kernel
theorem d_L_law_1217 : decode b_L_law 1217 = .ok (.iload 5, 2) := by decide +kernel
theorem d_L_law_1219 : decode b_L_law 1219 = .ok (.ifCond .ne 15, 3) := by decide +kernel
theorem d_L_law_1222 : decode b_L_law 1222 = .ok (.aload_n 3, 1) := by decide +kernel
theorem d_L_law_1223 : decode b_L_law 1223 = .ok (.iconst 0, 1) := by decide +kernel
theorem d_L_law_1224 : decode b_L_law 1224 = .ok (.laload, 1) := by decide +kernel
theorem d_L_law_1225 : decode b_L_law 1225 = .ok (.iload 6, 2) := by decide +kernel
theorem d_L_law_1227 : decode b_L_law 1227 = .ok (.i2l, 1) := by decide +kernel
theorem d_L_law_1228 : decode b_L_law 1228 = .ok (.lcmp, 1) := by decide +kernel
theorem d_L_law_1229 : decode b_L_law 1229 = .ok (.ifCond .eq 5, 3) := by decide +kernel
theorem d_L_law_1232 : decode b_L_law 1232 = .ok (.iconst 0, 1) := by decide +kernel
theorem d_L_law_1233 : decode b_L_law 1233 = .ok (.ireturn, 1) := by decide +kernel
theorem d_L_law_1234 : decode b_L_law 1234 = .ok (.goto 3, 3) := by decide +kernel
theorem d_L_law_1237 : decode b_L_law 1237 = .ok (.iinc 4 7, 3) := by decide +kernel
theorem d_L_law_1240 : decode b_L_law 1240 = .ok (.goto (-1217), 3) := by decide +kernel
theorem d_L_law_1243 : decode b_L_law 1243 = .ok (.iconst 1, 1) := by decide +kernel
theorem d_L_law_1244 : decode b_L_law 1244 = .ok (.ireturn, 1) := by decide +kernel
