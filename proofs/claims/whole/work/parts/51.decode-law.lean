theorem d_L_law_0 : decode b_L_law 0 = .ok (.new 8, 3) := by decide +kernel
theorem d_L_law_3 : decode b_L_law 3 = .ok (.dup, 1) := by decide +kernel
theorem d_L_law_4 : decode b_L_law 4 = .ok (.invokespecial 68, 3) := by decide +kernel
theorem d_L_law_7 : decode b_L_law 7 = .ok (.astore_n 1, 1) := by decide +kernel
theorem d_L_law_8 : decode b_L_law 8 = .ok (.new 69, 3) := by decide +kernel
theorem d_L_law_11 : decode b_L_law 11 = .ok (.dup, 1) := by decide +kernel
theorem d_L_law_12 : decode b_L_law 12 = .ok (.invokespecial 71, 3) := by decide +kernel
theorem d_L_law_15 : decode b_L_law 15 = .ok (.astore_n 2, 1) := by decide +kernel
theorem d_L_law_16 : decode b_L_law 16 = .ok (.iconst 1, 1) := by decide +kernel
theorem d_L_law_17 : decode b_L_law 17 = .ok (.newarray .long, 2) := by decide +kernel
theorem d_L_law_19 : decode b_L_law 19 = .ok (.astore_n 3, 1) := by decide +kernel
theorem d_L_law_20 : decode b_L_law 20 = .ok (.iconst 0, 1) := by decide +kernel
theorem d_L_law_21 : decode b_L_law 21 = .ok (.istore 4, 2) := by decide +kernel
theorem d_L_law_23 : decode b_L_law 23 = .ok (.iload 4, 2) := by decide +kernel
theorem d_L_law_25 : decode b_L_law 25 = .ok (.aload_n 0, 1) := by decide +kernel
theorem d_L_law_26 : decode b_L_law 26 = .ok (.arraylength, 1) := by decide +kernel
theorem d_L_law_27 : decode b_L_law 27 = .ok (.bipush 6, 2) := by decide +kernel
theorem d_L_law_29 : decode b_L_law 29 = .ok (.isub, 1) := by decide +kernel
theorem d_L_law_30 : decode b_L_law 30 = .ok (.if_icmp .gt 1048, 3) := by decide +kernel
theorem d_L_law_33 : decode b_L_law 33 = .ok (.aload_n 0, 1) := by decide +kernel
theorem d_L_law_34 : decode b_L_law 34 = .ok (.iload 4, 2) := by decide +kernel
theorem d_L_law_36 : decode b_L_law 36 = .ok (.iaload, 1) := by decide +kernel
theorem d_L_law_37 : decode b_L_law 37 = .ok (.bipush 31, 2) := by decide +kernel
theorem d_L_law_39 : decode b_L_law 39 = .ok (.iand, 1) := by decide +kernel
theorem d_L_law_40 : decode b_L_law 40 = .ok (.tableswitch 1032 0 17 #[88, 124, 192, 264, 324, 412, 532, 568, 628, 684, 740, 800, 868, 881, 894, 907, 963, 976], 88) := by decide +kernel
theorem d_L_law_128 : decode b_L_law 128 = .ok (.aload_n 1, 1) := by decide +kernel
theorem d_L_law_129 : decode b_L_law 129 = .ok (.aload_n 0, 1) := by decide +kernel
theorem d_L_law_130 : decode b_L_law 130 = .ok (.iload 4, 2) := by decide +kernel
theorem d_L_law_132 : decode b_L_law 132 = .ok (.iconst 1, 1) := by decide +kernel
theorem d_L_law_133 : decode b_L_law 133 = .ok (.iadd, 1) := by decide +kernel
theorem d_L_law_134 : decode b_L_law 134 = .ok (.iaload, 1) := by decide +kernel
theorem d_L_law_135 : decode b_L_law 135 = .ok (.invokestatic 72, 3) := by decide +kernel
theorem d_L_law_138 : decode b_L_law 138 = .ok (.istore 5, 2) := by decide +kernel
theorem d_L_law_140 : decode b_L_law 140 = .ok (.aload_n 2, 1) := by decide +kernel
theorem d_L_law_141 : decode b_L_law 141 = .ok (.aload_n 0, 1) := by decide +kernel
theorem d_L_law_142 : decode b_L_law 142 = .ok (.iload 4, 2) := by decide +kernel
theorem d_L_law_144 : decode b_L_law 144 = .ok (.iconst 1, 1) := by decide +kernel
theorem d_L_law_145 : decode b_L_law 145 = .ok (.iadd, 1) := by decide +kernel
theorem d_L_law_146 : decode b_L_law 146 = .ok (.iaload, 1) := by decide +kernel
theorem d_L_law_147 : decode b_L_law 147 = .ok (.invokevirtual 77, 3) := by decide +kernel
theorem d_L_law_150 : decode b_L_law 150 = .ok (.aload_n 2, 1) := by decide +kernel
theorem d_L_law_151 : decode b_L_law 151 = .ok (.invokevirtual 78, 3) := by decide +kernel
theorem d_L_law_154 : decode b_L_law 154 = .ok (.iload 5, 2) := by decide +kernel
theorem d_L_law_156 : decode b_L_law 156 = .ok (.if_icmp .eq 5, 3) := by decide +kernel
theorem d_L_law_159 : decode b_L_law 159 = .ok (.iconst 0, 1) := by decide +kernel
theorem d_L_law_160 : decode b_L_law 160 = .ok (.ireturn, 1) := by decide +kernel
theorem d_L_law_161 : decode b_L_law 161 = .ok (.goto 911, 3) := by decide +kernel
theorem d_L_law_164 : decode b_L_law 164 = .ok (.aload_n 1, 1) := by decide +kernel
theorem d_L_law_165 : decode b_L_law 165 = .ok (.aload_n 0, 1) := by decide +kernel
theorem d_L_law_166 : decode b_L_law 166 = .ok (.iload 4, 2) := by decide +kernel
theorem d_L_law_168 : decode b_L_law 168 = .ok (.iconst 1, 1) := by decide +kernel
theorem d_L_law_169 : decode b_L_law 169 = .ok (.iadd, 1) := by decide +kernel
theorem d_L_law_170 : decode b_L_law 170 = .ok (.iaload, 1) := by decide +kernel
theorem d_L_law_171 : decode b_L_law 171 = .ok (.aload_n 0, 1) := by decide +kernel
theorem d_L_law_172 : decode b_L_law 172 = .ok (.iload 4, 2) := by decide +kernel
theorem d_L_law_174 : decode b_L_law 174 = .ok (.iconst 2, 1) := by decide +kernel
theorem d_L_law_175 : decode b_L_law 175 = .ok (.iadd, 1) := by decide +kernel
theorem d_L_law_176 : decode b_L_law 176 = .ok (.iaload, 1) := by decide +kernel
theorem d_L_law_177 : decode b_L_law 177 = .ok (.aload_n 3, 1) := by decide +kernel
theorem d_L_law_178 : decode b_L_law 178 = .ok (.invokestatic 82, 3) := by decide +kernel
theorem d_L_law_181 : decode b_L_law 181 = .ok (.istore 5, 2) := by decide +kernel
theorem d_L_law_183 : decode b_L_law 183 = .ok (.aload_n 2, 1) := by decide +kernel
theorem d_L_law_184 : decode b_L_law 184 = .ok (.aload_n 0, 1) := by decide +kernel
theorem d_L_law_185 : decode b_L_law 185 = .ok (.iload 4, 2) := by decide +kernel
theorem d_L_law_187 : decode b_L_law 187 = .ok (.iconst 1, 1) := by decide +kernel
theorem d_L_law_188 : decode b_L_law 188 = .ok (.iadd, 1) := by decide +kernel
theorem d_L_law_189 : decode b_L_law 189 = .ok (.iaload, 1) := by decide +kernel
theorem d_L_law_190 : decode b_L_law 190 = .ok (.aload_n 0, 1) := by decide +kernel
theorem d_L_law_191 : decode b_L_law 191 = .ok (.iload 4, 2) := by decide +kernel
theorem d_L_law_193 : decode b_L_law 193 = .ok (.iconst 2, 1) := by decide +kernel
theorem d_L_law_194 : decode b_L_law 194 = .ok (.iadd, 1) := by decide +kernel
theorem d_L_law_195 : decode b_L_law 195 = .ok (.iaload, 1) := by decide +kernel
theorem d_L_law_196 : decode b_L_law 196 = .ok (.invokevirtual 85, 3) := by decide +kernel
theorem d_L_law_199 : decode b_L_law 199 = .ok (.istore 6, 2) := by decide +kernel
theorem d_L_law_201 : decode b_L_law 201 = .ok (.aload_n 2, 1) := by decide +kernel
theorem d_L_law_202 : decode b_L_law 202 = .ok (.invokevirtual 78, 3) := by decide +kernel
theorem d_L_law_205 : decode b_L_law 205 = .ok (.iload 5, 2) := by decide +kernel
theorem d_L_law_207 : decode b_L_law 207 = .ok (.if_icmp .eq 5, 3) := by decide +kernel
theorem d_L_law_210 : decode b_L_law 210 = .ok (.iconst 0, 1) := by decide +kernel
theorem d_L_law_211 : decode b_L_law 211 = .ok (.ireturn, 1) := by decide +kernel
theorem d_L_law_212 : decode b_L_law 212 = .ok (.iload 5, 2) := by decide +kernel
theorem d_L_law_214 : decode b_L_law 214 = .ok (.ifCond .ne 15, 3) := by decide +kernel
theorem d_L_law_217 : decode b_L_law 217 = .ok (.aload_n 3, 1) := by decide +kernel
theorem d_L_law_218 : decode b_L_law 218 = .ok (.iconst 0, 1) := by decide +kernel
theorem d_L_law_219 : decode b_L_law 219 = .ok (.laload, 1) := by decide +kernel
theorem d_L_law_220 : decode b_L_law 220 = .ok (.iload 6, 2) := by decide +kernel
theorem d_L_law_222 : decode b_L_law 222 = .ok (.i2l, 1) := by decide +kernel
theorem d_L_law_223 : decode b_L_law 223 = .ok (.lcmp, 1) := by decide +kernel
theorem d_L_law_224 : decode b_L_law 224 = .ok (.ifCond .eq 5, 3) := by decide +kernel
theorem d_L_law_227 : decode b_L_law 227 = .ok (.iconst 0, 1) := by decide +kernel
theorem d_L_law_228 : decode b_L_law 228 = .ok (.ireturn, 1) := by decide +kernel
theorem d_L_law_229 : decode b_L_law 229 = .ok (.goto 843, 3) := by decide +kernel
theorem d_L_law_232 : decode b_L_law 232 = .ok (.aload_n 1, 1) := by decide +kernel
theorem d_L_law_233 : decode b_L_law 233 = .ok (.aload_n 0, 1) := by decide +kernel
theorem d_L_law_234 : decode b_L_law 234 = .ok (.iload 4, 2) := by decide +kernel
theorem d_L_law_236 : decode b_L_law 236 = .ok (.iconst 1, 1) := by decide +kernel
theorem d_L_law_237 : decode b_L_law 237 = .ok (.iadd, 1) := by decide +kernel
theorem d_L_law_238 : decode b_L_law 238 = .ok (.iaload, 1) := by decide +kernel
theorem d_L_law_239 : decode b_L_law 239 = .ok (.aload_n 0, 1) := by decide +kernel
theorem d_L_law_240 : decode b_L_law 240 = .ok (.iload 4, 2) := by decide +kernel
theorem d_L_law_242 : decode b_L_law 242 = .ok (.iconst 2, 1) := by decide +kernel
theorem d_L_law_243 : decode b_L_law 243 = .ok (.iadd, 1) := by decide +kernel
theorem d_L_law_244 : decode b_L_law 244 = .ok (.iaload, 1) := by decide +kernel
theorem d_L_law_245 : decode b_L_law 245 = .ok (.aload_n 0, 1) := by decide +kernel
theorem d_L_law_246 : decode b_L_law 246 = .ok (.iload 4, 2) := by decide +kernel
theorem d_L_law_248 : decode b_L_law 248 = .ok (.iconst 3, 1) := by decide +kernel
theorem d_L_law_249 : decode b_L_law 249 = .ok (.iadd, 1) := by decide +kernel
theorem d_L_law_250 : decode b_L_law 250 = .ok (.iaload, 1) := by decide +kernel
theorem d_L_law_251 : decode b_L_law 251 = .ok (.aload_n 0, 1) := by decide +kernel
theorem d_L_law_252 : decode b_L_law 252 = .ok (.iload 4, 2) := by decide +kernel
theorem d_L_law_254 : decode b_L_law 254 = .ok (.iconst 4, 1) := by decide +kernel
theorem d_L_law_255 : decode b_L_law 255 = .ok (.iadd, 1) := by decide +kernel
theorem d_L_law_256 : decode b_L_law 256 = .ok (.iaload, 1) := by decide +kernel
theorem d_L_law_257 : decode b_L_law 257 = .ok (.invokestatic 86, 3) := by decide +kernel
theorem d_L_law_260 : decode b_L_law 260 = .ok (.istore 5, 2) := by decide +kernel
theorem d_L_law_262 : decode b_L_law 262 = .ok (.aload_n 2, 1) := by decide +kernel
theorem d_L_law_263 : decode b_L_law 263 = .ok (.aload_n 0, 1) := by decide +kernel
theorem d_L_law_264 : decode b_L_law 264 = .ok (.iload 4, 2) := by decide +kernel
theorem d_L_law_266 : decode b_L_law 266 = .ok (.iconst 1, 1) := by decide +kernel
theorem d_L_law_267 : decode b_L_law 267 = .ok (.iadd, 1) := by decide +kernel
theorem d_L_law_268 : decode b_L_law 268 = .ok (.iaload, 1) := by decide +kernel
theorem d_L_law_269 : decode b_L_law 269 = .ok (.aload_n 0, 1) := by decide +kernel
theorem d_L_law_270 : decode b_L_law 270 = .ok (.iload 4, 2) := by decide +kernel
theorem d_L_law_272 : decode b_L_law 272 = .ok (.iconst 2, 1) := by decide +kernel
theorem d_L_law_273 : decode b_L_law 273 = .ok (.iadd, 1) := by decide +kernel
theorem d_L_law_274 : decode b_L_law 274 = .ok (.iaload, 1) := by decide +kernel
theorem d_L_law_275 : decode b_L_law 275 = .ok (.aload_n 0, 1) := by decide +kernel
theorem d_L_law_276 : decode b_L_law 276 = .ok (.iload 4, 2) := by decide +kernel
theorem d_L_law_278 : decode b_L_law 278 = .ok (.iconst 3, 1) := by decide +kernel
theorem d_L_law_279 : decode b_L_law 279 = .ok (.iadd, 1) := by decide +kernel
theorem d_L_law_280 : decode b_L_law 280 = .ok (.iaload, 1) := by decide +kernel
theorem d_L_law_281 : decode b_L_law 281 = .ok (.aload_n 0, 1) := by decide +kernel
theorem d_L_law_282 : decode b_L_law 282 = .ok (.iload 4, 2) := by decide +kernel
theorem d_L_law_284 : decode b_L_law 284 = .ok (.iconst 4, 1) := by decide +kernel
theorem d_L_law_285 : decode b_L_law 285 = .ok (.iadd, 1) := by decide +kernel
theorem d_L_law_286 : decode b_L_law 286 = .ok (.iaload, 1) := by decide +kernel
theorem d_L_law_287 : decode b_L_law 287 = .ok (.invokevirtual 89, 3) := by decide +kernel
theorem d_L_law_290 : decode b_L_law 290 = .ok (.aload_n 2, 1) := by decide +kernel
theorem d_L_law_291 : decode b_L_law 291 = .ok (.invokevirtual 78, 3) := by decide +kernel
theorem d_L_law_294 : decode b_L_law 294 = .ok (.iload 5, 2) := by decide +kernel
theorem d_L_law_296 : decode b_L_law 296 = .ok (.if_icmp .eq 5, 3) := by decide +kernel
theorem d_L_law_299 : decode b_L_law 299 = .ok (.iconst 0, 1) := by decide +kernel
theorem d_L_law_300 : decode b_L_law 300 = .ok (.ireturn, 1) := by decide +kernel
theorem d_L_law_301 : decode b_L_law 301 = .ok (.goto 771, 3) := by decide +kernel
theorem d_L_law_304 : decode b_L_law 304 = .ok (.aload_n 1, 1) := by decide +kernel
theorem d_L_law_305 : decode b_L_law 305 = .ok (.aload_n 0, 1) := by decide +kernel
theorem d_L_law_306 : decode b_L_law 306 = .ok (.iload 4, 2) := by decide +kernel
theorem d_L_law_308 : decode b_L_law 308 = .ok (.iconst 1, 1) := by decide +kernel
theorem d_L_law_309 : decode b_L_law 309 = .ok (.iadd, 1) := by decide +kernel
theorem d_L_law_310 : decode b_L_law 310 = .ok (.iaload, 1) := by decide +kernel
theorem d_L_law_311 : decode b_L_law 311 = .ok (.aload_n 0, 1) := by decide +kernel
theorem d_L_law_312 : decode b_L_law 312 = .ok (.iload 4, 2) := by decide +kernel
theorem d_L_law_314 : decode b_L_law 314 = .ok (.iconst 2, 1) := by decide +kernel
theorem d_L_law_315 : decode b_L_law 315 = .ok (.iadd, 1) := by decide +kernel
theorem d_L_law_316 : decode b_L_law 316 = .ok (.iaload, 1) := by decide +kernel
theorem d_L_law_317 : decode b_L_law 317 = .ok (.aload_n 0, 1) := by decide +kernel
theorem d_L_law_318 : decode b_L_law 318 = .ok (.iload 4, 2) := by decide +kernel
theorem d_L_law_320 : decode b_L_law 320 = .ok (.iconst 3, 1) := by decide +kernel
theorem d_L_law_321 : decode b_L_law 321 = .ok (.iadd, 1) := by decide +kernel
theorem d_L_law_322 : decode b_L_law 322 = .ok (.iaload, 1) := by decide +kernel
theorem d_L_law_323 : decode b_L_law 323 = .ok (.invokestatic 90, 3) := by decide +kernel
theorem d_L_law_326 : decode b_L_law 326 = .ok (.istore 5, 2) := by decide +kernel
theorem d_L_law_328 : decode b_L_law 328 = .ok (.aload_n 2, 1) := by decide +kernel
theorem d_L_law_329 : decode b_L_law 329 = .ok (.aload_n 0, 1) := by decide +kernel
theorem d_L_law_330 : decode b_L_law 330 = .ok (.iload 4, 2) := by decide +kernel
theorem d_L_law_332 : decode b_L_law 332 = .ok (.iconst 1, 1) := by decide +kernel
theorem d_L_law_333 : decode b_L_law 333 = .ok (.iadd, 1) := by decide +kernel
theorem d_L_law_334 : decode b_L_law 334 = .ok (.iaload, 1) := by decide +kernel
theorem d_L_law_335 : decode b_L_law 335 = .ok (.aload_n 0, 1) := by decide +kernel
theorem d_L_law_336 : decode b_L_law 336 = .ok (.iload 4, 2) := by decide +kernel
theorem d_L_law_338 : decode b_L_law 338 = .ok (.iconst 2, 1) := by decide +kernel
theorem d_L_law_339 : decode b_L_law 339 = .ok (.iadd, 1) := by decide +kernel
theorem d_L_law_340 : decode b_L_law 340 = .ok (.iaload, 1) := by decide +kernel
theorem d_L_law_341 : decode b_L_law 341 = .ok (.aload_n 0, 1) := by decide +kernel
theorem d_L_law_342 : decode b_L_law 342 = .ok (.iload 4, 2) := by decide +kernel
theorem d_L_law_344 : decode b_L_law 344 = .ok (.iconst 3, 1) := by decide +kernel
theorem d_L_law_345 : decode b_L_law 345 = .ok (.iadd, 1) := by decide +kernel
theorem d_L_law_346 : decode b_L_law 346 = .ok (.iaload, 1) := by decide +kernel
theorem d_L_law_347 : decode b_L_law 347 = .ok (.invokevirtual 93, 3) := by decide +kernel
theorem d_L_law_350 : decode b_L_law 350 = .ok (.aload_n 2, 1) := by decide +kernel
theorem d_L_law_351 : decode b_L_law 351 = .ok (.invokevirtual 78, 3) := by decide +kernel
theorem d_L_law_354 : decode b_L_law 354 = .ok (.iload 5, 2) := by decide +kernel
theorem d_L_law_356 : decode b_L_law 356 = .ok (.if_icmp .eq 5, 3) := by decide +kernel
theorem d_L_law_359 : decode b_L_law 359 = .ok (.iconst 0, 1) := by decide +kernel
theorem d_L_law_360 : decode b_L_law 360 = .ok (.ireturn, 1) := by decide +kernel
theorem d_L_law_361 : decode b_L_law 361 = .ok (.goto 711, 3) := by decide +kernel
theorem d_L_law_364 : decode b_L_law 364 = .ok (.aload_n 1, 1) := by decide +kernel
theorem d_L_law_365 : decode b_L_law 365 = .ok (.aload_n 0, 1) := by decide +kernel
theorem d_L_law_366 : decode b_L_law 366 = .ok (.iload 4, 2) := by decide +kernel
theorem d_L_law_368 : decode b_L_law 368 = .ok (.iconst 1, 1) := by decide +kernel
theorem d_L_law_369 : decode b_L_law 369 = .ok (.iadd, 1) := by decide +kernel
theorem d_L_law_370 : decode b_L_law 370 = .ok (.iaload, 1) := by decide +kernel
theorem d_L_law_371 : decode b_L_law 371 = .ok (.aload_n 0, 1) := by decide +kernel
theorem d_L_law_372 : decode b_L_law 372 = .ok (.iload 4, 2) := by decide +kernel
theorem d_L_law_374 : decode b_L_law 374 = .ok (.iconst 2, 1) := by decide +kernel
theorem d_L_law_375 : decode b_L_law 375 = .ok (.iadd, 1) := by decide +kernel
theorem d_L_law_376 : decode b_L_law 376 = .ok (.iaload, 1) := by decide +kernel
theorem d_L_law_377 : decode b_L_law 377 = .ok (.aload_n 0, 1) := by decide +kernel
theorem d_L_law_378 : decode b_L_law 378 = .ok (.iload 4, 2) := by decide +kernel
theorem d_L_law_380 : decode b_L_law 380 = .ok (.iconst 3, 1) := by decide +kernel
theorem d_L_law_381 : decode b_L_law 381 = .ok (.iadd, 1) := by decide +kernel
theorem d_L_law_382 : decode b_L_law 382 = .ok (.iaload, 1) := by decide +kernel
theorem d_L_law_383 : decode b_L_law 383 = .ok (.aload_n 0, 1) := by decide +kernel
theorem d_L_law_384 : decode b_L_law 384 = .ok (.iload 4, 2) := by decide +kernel
theorem d_L_law_386 : decode b_L_law 386 = .ok (.iconst 4, 1) := by decide +kernel
theorem d_L_law_387 : decode b_L_law 387 = .ok (.iadd, 1) := by decide +kernel
theorem d_L_law_388 : decode b_L_law 388 = .ok (.iaload, 1) := by decide +kernel
theorem d_L_law_389 : decode b_L_law 389 = .ok (.ifCond .eq 7, 3) := by decide +kernel
theorem d_L_law_392 : decode b_L_law 392 = .ok (.iconst 1, 1) := by decide +kernel
theorem d_L_law_393 : decode b_L_law 393 = .ok (.goto 4, 3) := by decide +kernel
theorem d_L_law_396 : decode b_L_law 396 = .ok (.iconst 0, 1) := by decide +kernel
theorem d_L_law_397 : decode b_L_law 397 = .ok (.invokestatic 94, 3) := by decide +kernel
theorem d_L_law_400 : decode b_L_law 400 = .ok (.istore 5, 2) := by decide +kernel
theorem d_L_law_402 : decode b_L_law 402 = .ok (.aload_n 2, 1) := by decide +kernel
theorem d_L_law_403 : decode b_L_law 403 = .ok (.aload_n 0, 1) := by decide +kernel
theorem d_L_law_404 : decode b_L_law 404 = .ok (.iload 4, 2) := by decide +kernel
theorem d_L_law_406 : decode b_L_law 406 = .ok (.iconst 1, 1) := by decide +kernel
theorem d_L_law_407 : decode b_L_law 407 = .ok (.iadd, 1) := by decide +kernel
theorem d_L_law_408 : decode b_L_law 408 = .ok (.iaload, 1) := by decide +kernel
theorem d_L_law_409 : decode b_L_law 409 = .ok (.aload_n 0, 1) := by decide +kernel
theorem d_L_law_410 : decode b_L_law 410 = .ok (.iload 4, 2) := by decide +kernel
theorem d_L_law_412 : decode b_L_law 412 = .ok (.iconst 2, 1) := by decide +kernel
theorem d_L_law_413 : decode b_L_law 413 = .ok (.iadd, 1) := by decide +kernel
theorem d_L_law_414 : decode b_L_law 414 = .ok (.iaload, 1) := by decide +kernel
theorem d_L_law_415 : decode b_L_law 415 = .ok (.aload_n 0, 1) := by decide +kernel
theorem d_L_law_416 : decode b_L_law 416 = .ok (.iload 4, 2) := by decide +kernel
theorem d_L_law_418 : decode b_L_law 418 = .ok (.iconst 3, 1) := by decide +kernel
theorem d_L_law_419 : decode b_L_law 419 = .ok (.iadd, 1) := by decide +kernel
theorem d_L_law_420 : decode b_L_law 420 = .ok (.iaload, 1) := by decide +kernel
theorem d_L_law_421 : decode b_L_law 421 = .ok (.aload_n 0, 1) := by decide +kernel
theorem d_L_law_422 : decode b_L_law 422 = .ok (.iload 4, 2) := by decide +kernel
theorem d_L_law_424 : decode b_L_law 424 = .ok (.iconst 4, 1) := by decide +kernel
theorem d_L_law_425 : decode b_L_law 425 = .ok (.iadd, 1) := by decide +kernel
theorem d_L_law_426 : decode b_L_law 426 = .ok (.iaload, 1) := by decide +kernel
theorem d_L_law_427 : decode b_L_law 427 = .ok (.ifCond .eq 7, 3) := by decide +kernel
theorem d_L_law_430 : decode b_L_law 430 = .ok (.iconst 1, 1) := by decide +kernel
theorem d_L_law_431 : decode b_L_law 431 = .ok (.goto 4, 3) := by decide +kernel
theorem d_L_law_434 : decode b_L_law 434 = .ok (.iconst 0, 1) := by decide +kernel
theorem d_L_law_435 : decode b_L_law 435 = .ok (.invokevirtual 97, 3) := by decide +kernel
theorem d_L_law_438 : decode b_L_law 438 = .ok (.aload_n 2, 1) := by decide +kernel
theorem d_L_law_439 : decode b_L_law 439 = .ok (.invokevirtual 78, 3) := by decide +kernel
theorem d_L_law_442 : decode b_L_law 442 = .ok (.iload 5, 2) := by decide +kernel
theorem d_L_law_444 : decode b_L_law 444 = .ok (.if_icmp .eq 5, 3) := by decide +kernel
theorem d_L_law_447 : decode b_L_law 447 = .ok (.iconst 0, 1) := by decide +kernel
theorem d_L_law_448 : decode b_L_law 448 = .ok (.ireturn, 1) := by decide +kernel
theorem d_L_law_449 : decode b_L_law 449 = .ok (.goto 623, 3) := by decide +kernel
theorem d_L_law_452 : decode b_L_law 452 = .ok (.aload_n 1, 1) := by decide +kernel
theorem d_L_law_453 : decode b_L_law 453 = .ok (.aload_n 0, 1) := by decide +kernel
theorem d_L_law_454 : decode b_L_law 454 = .ok (.iload 4, 2) := by decide +kernel
theorem d_L_law_456 : decode b_L_law 456 = .ok (.iconst 1, 1) := by decide +kernel
theorem d_L_law_457 : decode b_L_law 457 = .ok (.iadd, 1) := by decide +kernel
theorem d_L_law_458 : decode b_L_law 458 = .ok (.iaload, 1) := by decide +kernel
theorem d_L_law_459 : decode b_L_law 459 = .ok (.aload_n 0, 1) := by decide +kernel
theorem d_L_law_460 : decode b_L_law 460 = .ok (.iload 4, 2) := by decide +kernel
theorem d_L_law_462 : decode b_L_law 462 = .ok (.iconst 2, 1) := by decide +kernel
theorem d_L_law_463 : decode b_L_law 463 = .ok (.iadd, 1) := by decide +kernel
theorem d_L_law_464 : decode b_L_law 464 = .ok (.iaload, 1) := by decide +kernel
theorem d_L_law_465 : decode b_L_law 465 = .ok (.aload_n 0, 1) := by decide +kernel
theorem d_L_law_466 : decode b_L_law 466 = .ok (.iload 4, 2) := by decide +kernel
theorem d_L_law_468 : decode b_L_law 468 = .ok (.iconst 3, 1) := by decide +kernel
theorem d_L_law_469 : decode b_L_law 469 = .ok (.iadd, 1) := by decide +kernel
theorem d_L_law_470 : decode b_L_law 470 = .ok (.iaload, 1) := by decide +kernel
theorem d_L_law_471 : decode b_L_law 471 = .ok (.aload_n 0, 1) := by decide +kernel
theorem d_L_law_472 : decode b_L_law 472 = .ok (.iload 4, 2) := by decide +kernel
theorem d_L_law_474 : decode b_L_law 474 = .ok (.iconst 4, 1) := by decide +kernel
theorem d_L_law_475 : decode b_L_law 475 = .ok (.iadd, 1) := by decide +kernel
theorem d_L_law_476 : decode b_L_law 476 = .ok (.iaload, 1) := by decide +kernel
theorem d_L_law_477 : decode b_L_law 477 = .ok (.ifCond .eq 7, 3) := by decide +kernel
theorem d_L_law_480 : decode b_L_law 480 = .ok (.iconst 1, 1) := by decide +kernel
theorem d_L_law_481 : decode b_L_law 481 = .ok (.goto 4, 3) := by decide +kernel
theorem d_L_law_484 : decode b_L_law 484 = .ok (.iconst 0, 1) := by decide +kernel
theorem d_L_law_485 : decode b_L_law 485 = .ok (.aload_n 0, 1) := by decide +kernel
theorem d_L_law_486 : decode b_L_law 486 = .ok (.iload 4, 2) := by decide +kernel
theorem d_L_law_488 : decode b_L_law 488 = .ok (.iconst 5, 1) := by decide +kernel
theorem d_L_law_489 : decode b_L_law 489 = .ok (.iadd, 1) := by decide +kernel
theorem d_L_law_490 : decode b_L_law 490 = .ok (.iaload, 1) := by decide +kernel
theorem d_L_law_491 : decode b_L_law 491 = .ok (.aload_n 3, 1) := by decide +kernel
theorem d_L_law_492 : decode b_L_law 492 = .ok (.invokestatic 98, 3) := by decide +kernel
theorem d_L_law_495 : decode b_L_law 495 = .ok (.istore 5, 2) := by decide +kernel
theorem d_L_law_497 : decode b_L_law 497 = .ok (.aload_n 2, 1) := by decide +kernel
theorem d_L_law_498 : decode b_L_law 498 = .ok (.aload_n 0, 1) := by decide +kernel
theorem d_L_law_499 : decode b_L_law 499 = .ok (.iload 4, 2) := by decide +kernel
theorem d_L_law_501 : decode b_L_law 501 = .ok (.iconst 1, 1) := by decide +kernel
theorem d_L_law_502 : decode b_L_law 502 = .ok (.iadd, 1) := by decide +kernel
theorem d_L_law_503 : decode b_L_law 503 = .ok (.iaload, 1) := by decide +kernel
theorem d_L_law_504 : decode b_L_law 504 = .ok (.aload_n 0, 1) := by decide +kernel
theorem d_L_law_505 : decode b_L_law 505 = .ok (.iload 4, 2) := by decide +kernel
theorem d_L_law_507 : decode b_L_law 507 = .ok (.iconst 2, 1) := by decide +kernel
theorem d_L_law_508 : decode b_L_law 508 = .ok (.iadd, 1) := by decide +kernel
theorem d_L_law_509 : decode b_L_law 509 = .ok (.iaload, 1) := by decide +kernel
theorem d_L_law_510 : decode b_L_law 510 = .ok (.aload_n 0, 1) := by decide +kernel
theorem d_L_law_511 : decode b_L_law 511 = .ok (.iload 4, 2) := by decide +kernel
theorem d_L_law_513 : decode b_L_law 513 = .ok (.iconst 3, 1) := by decide +kernel
theorem d_L_law_514 : decode b_L_law 514 = .ok (.iadd, 1) := by decide +kernel
theorem d_L_law_515 : decode b_L_law 515 = .ok (.iaload, 1) := by decide +kernel
theorem d_L_law_516 : decode b_L_law 516 = .ok (.aload_n 0, 1) := by decide +kernel
theorem d_L_law_517 : decode b_L_law 517 = .ok (.iload 4, 2) := by decide +kernel
theorem d_L_law_519 : decode b_L_law 519 = .ok (.iconst 4, 1) := by decide +kernel
theorem d_L_law_520 : decode b_L_law 520 = .ok (.iadd, 1) := by decide +kernel
theorem d_L_law_521 : decode b_L_law 521 = .ok (.iaload, 1) := by decide +kernel
theorem d_L_law_522 : decode b_L_law 522 = .ok (.ifCond .eq 7, 3) := by decide +kernel
theorem d_L_law_525 : decode b_L_law 525 = .ok (.iconst 1, 1) := by decide +kernel
theorem d_L_law_526 : decode b_L_law 526 = .ok (.goto 4, 3) := by decide +kernel
theorem d_L_law_529 : decode b_L_law 529 = .ok (.iconst 0, 1) := by decide +kernel
theorem d_L_law_530 : decode b_L_law 530 = .ok (.aload_n 0, 1) := by decide +kernel
theorem d_L_law_531 : decode b_L_law 531 = .ok (.iload 4, 2) := by decide +kernel
theorem d_L_law_533 : decode b_L_law 533 = .ok (.iconst 5, 1) := by decide +kernel
theorem d_L_law_534 : decode b_L_law 534 = .ok (.iadd, 1) := by decide +kernel
theorem d_L_law_535 : decode b_L_law 535 = .ok (.iaload, 1) := by decide +kernel
theorem d_L_law_536 : decode b_L_law 536 = .ok (.invokevirtual 101, 3) := by decide +kernel
theorem d_L_law_539 : decode b_L_law 539 = .ok (.istore 6, 2) := by decide +kernel
theorem d_L_law_541 : decode b_L_law 541 = .ok (.aload_n 2, 1) := by decide +kernel
theorem d_L_law_542 : decode b_L_law 542 = .ok (.invokevirtual 78, 3) := by decide +kernel
theorem d_L_law_545 : decode b_L_law 545 = .ok (.iload 5, 2) := by decide +kernel
theorem d_L_law_547 : decode b_L_law 547 = .ok (.if_icmp .eq 5, 3) := by decide +kernel
theorem d_L_law_550 : decode b_L_law 550 = .ok (.iconst 0, 1) := by decide +kernel
theorem d_L_law_551 : decode b_L_law 551 = .ok (.ireturn, 1) := by decide +kernel
theorem d_L_law_552 : decode b_L_law 552 = .ok (.iload 5, 2) := by decide +kernel
theorem d_L_law_554 : decode b_L_law 554 = .ok (.ifCond .ne 15, 3) := by decide +kernel
theorem d_L_law_557 : decode b_L_law 557 = .ok (.aload_n 3, 1) := by decide +kernel
theorem d_L_law_558 : decode b_L_law 558 = .ok (.iconst 0, 1) := by decide +kernel
theorem d_L_law_559 : decode b_L_law 559 = .ok (.laload, 1) := by decide +kernel
theorem d_L_law_560 : decode b_L_law 560 = .ok (.iload 6, 2) := by decide +kernel
theorem d_L_law_562 : decode b_L_law 562 = .ok (.i2l, 1) := by decide +kernel
theorem d_L_law_563 : decode b_L_law 563 = .ok (.lcmp, 1) := by decide +kernel
theorem d_L_law_564 : decode b_L_law 564 = .ok (.ifCond .eq 5, 3) := by decide +kernel
theorem d_L_law_567 : decode b_L_law 567 = .ok (.iconst 0, 1) := by decide +kernel
theorem d_L_law_568 : decode b_L_law 568 = .ok (.ireturn, 1) := by decide +kernel
theorem d_L_law_569 : decode b_L_law 569 = .ok (.goto 503, 3) := by decide +kernel
theorem d_L_law_572 : decode b_L_law 572 = .ok (.aload_n 1, 1) := by decide +kernel
theorem d_L_law_573 : decode b_L_law 573 = .ok (.aload_n 0, 1) := by decide +kernel
theorem d_L_law_574 : decode b_L_law 574 = .ok (.iload 4, 2) := by decide +kernel
theorem d_L_law_576 : decode b_L_law 576 = .ok (.iconst 1, 1) := by decide +kernel
theorem d_L_law_577 : decode b_L_law 577 = .ok (.iadd, 1) := by decide +kernel
theorem d_L_law_578 : decode b_L_law 578 = .ok (.iaload, 1) := by decide +kernel
theorem d_L_law_579 : decode b_L_law 579 = .ok (.invokestatic 102, 3) := by decide +kernel
theorem d_L_law_582 : decode b_L_law 582 = .ok (.istore 5, 2) := by decide +kernel
theorem d_L_law_584 : decode b_L_law 584 = .ok (.aload_n 2, 1) := by decide +kernel
theorem d_L_law_585 : decode b_L_law 585 = .ok (.aload_n 0, 1) := by decide +kernel
theorem d_L_law_586 : decode b_L_law 586 = .ok (.iload 4, 2) := by decide +kernel
theorem d_L_law_588 : decode b_L_law 588 = .ok (.iconst 1, 1) := by decide +kernel
theorem d_L_law_589 : decode b_L_law 589 = .ok (.iadd, 1) := by decide +kernel
theorem d_L_law_590 : decode b_L_law 590 = .ok (.iaload, 1) := by decide +kernel
theorem d_L_law_591 : decode b_L_law 591 = .ok (.invokevirtual 104, 3) := by decide +kernel
theorem d_L_law_594 : decode b_L_law 594 = .ok (.aload_n 2, 1) := by decide +kernel
theorem d_L_law_595 : decode b_L_law 595 = .ok (.invokevirtual 78, 3) := by decide +kernel
theorem d_L_law_598 : decode b_L_law 598 = .ok (.iload 5, 2) := by decide +kernel
theorem d_L_law_600 : decode b_L_law 600 = .ok (.if_icmp .eq 5, 3) := by decide +kernel
theorem d_L_law_603 : decode b_L_law 603 = .ok (.iconst 0, 1) := by decide +kernel
theorem d_L_law_604 : decode b_L_law 604 = .ok (.ireturn, 1) := by decide +kernel
theorem d_L_law_605 : decode b_L_law 605 = .ok (.goto 467, 3) := by decide +kernel
theorem d_L_law_608 : decode b_L_law 608 = .ok (.aload_n 1, 1) := by decide +kernel
theorem d_L_law_609 : decode b_L_law 609 = .ok (.aload_n 0, 1) := by decide +kernel
theorem d_L_law_610 : decode b_L_law 610 = .ok (.iload 4, 2) := by decide +kernel
theorem d_L_law_612 : decode b_L_law 612 = .ok (.iconst 1, 1) := by decide +kernel
theorem d_L_law_613 : decode b_L_law 613 = .ok (.iadd, 1) := by decide +kernel
theorem d_L_law_614 : decode b_L_law 614 = .ok (.iaload, 1) := by decide +kernel
theorem d_L_law_615 : decode b_L_law 615 = .ok (.aload_n 0, 1) := by decide +kernel
theorem d_L_law_616 : decode b_L_law 616 = .ok (.iload 4, 2) := by decide +kernel
theorem d_L_law_618 : decode b_L_law 618 = .ok (.iconst 2, 1) := by decide +kernel
theorem d_L_law_619 : decode b_L_law 619 = .ok (.iadd, 1) := by decide +kernel
theorem d_L_law_620 : decode b_L_law 620 = .ok (.iaload, 1) := by decide +kernel
theorem d_L_law_621 : decode b_L_law 621 = .ok (.aload_n 0, 1) := by decide +kernel
theorem d_L_law_622 : decode b_L_law 622 = .ok (.iload 4, 2) := by decide +kernel
theorem d_L_law_624 : decode b_L_law 624 = .ok (.iconst 3, 1) := by decide +kernel
theorem d_L_law_625 : decode b_L_law 625 = .ok (.iadd, 1) := by decide +kernel
theorem d_L_law_626 : decode b_L_law 626 = .ok (.iaload, 1) := by decide +kernel
theorem d_L_law_627 : decode b_L_law 627 = .ok (.invokestatic 105, 3) := by decide +kernel
theorem d_L_law_630 : decode b_L_law 630 = .ok (.istore 5, 2) := by decide +kernel
theorem d_L_law_632 : decode b_L_law 632 = .ok (.aload_n 2, 1) := by decide +kernel
theorem d_L_law_633 : decode b_L_law 633 = .ok (.aload_n 0, 1) := by decide +kernel
theorem d_L_law_634 : decode b_L_law 634 = .ok (.iload 4, 2) := by decide +kernel
theorem d_L_law_636 : decode b_L_law 636 = .ok (.iconst 1, 1) := by decide +kernel
theorem d_L_law_637 : decode b_L_law 637 = .ok (.iadd, 1) := by decide +kernel
theorem d_L_law_638 : decode b_L_law 638 = .ok (.iaload, 1) := by decide +kernel
theorem d_L_law_639 : decode b_L_law 639 = .ok (.aload_n 0, 1) := by decide +kernel
theorem d_L_law_640 : decode b_L_law 640 = .ok (.iload 4, 2) := by decide +kernel
theorem d_L_law_642 : decode b_L_law 642 = .ok (.iconst 2, 1) := by decide +kernel
theorem d_L_law_643 : decode b_L_law 643 = .ok (.iadd, 1) := by decide +kernel
theorem d_L_law_644 : decode b_L_law 644 = .ok (.iaload, 1) := by decide +kernel
theorem d_L_law_645 : decode b_L_law 645 = .ok (.aload_n 0, 1) := by decide +kernel
theorem d_L_law_646 : decode b_L_law 646 = .ok (.iload 4, 2) := by decide +kernel
theorem d_L_law_648 : decode b_L_law 648 = .ok (.iconst 3, 1) := by decide +kernel
theorem d_L_law_649 : decode b_L_law 649 = .ok (.iadd, 1) := by decide +kernel
theorem d_L_law_650 : decode b_L_law 650 = .ok (.iaload, 1) := by decide +kernel
theorem d_L_law_651 : decode b_L_law 651 = .ok (.invokevirtual 107, 3) := by decide +kernel
theorem d_L_law_654 : decode b_L_law 654 = .ok (.aload_n 2, 1) := by decide +kernel
theorem d_L_law_655 : decode b_L_law 655 = .ok (.invokevirtual 78, 3) := by decide +kernel
theorem d_L_law_658 : decode b_L_law 658 = .ok (.iload 5, 2) := by decide +kernel
theorem d_L_law_660 : decode b_L_law 660 = .ok (.if_icmp .eq 5, 3) := by decide +kernel
theorem d_L_law_663 : decode b_L_law 663 = .ok (.iconst 0, 1) := by decide +kernel
theorem d_L_law_664 : decode b_L_law 664 = .ok (.ireturn, 1) := by decide +kernel
theorem d_L_law_665 : decode b_L_law 665 = .ok (.goto 407, 3) := by decide +kernel
theorem d_L_law_668 : decode b_L_law 668 = .ok (.aload_n 1, 1) := by decide +kernel
theorem d_L_law_669 : decode b_L_law 669 = .ok (.aload_n 0, 1) := by decide +kernel
theorem d_L_law_670 : decode b_L_law 670 = .ok (.iload 4, 2) := by decide +kernel
theorem d_L_law_672 : decode b_L_law 672 = .ok (.iconst 1, 1) := by decide +kernel
theorem d_L_law_673 : decode b_L_law 673 = .ok (.iadd, 1) := by decide +kernel
theorem d_L_law_674 : decode b_L_law 674 = .ok (.iaload, 1) := by decide +kernel
theorem d_L_law_675 : decode b_L_law 675 = .ok (.aload_n 3, 1) := by decide +kernel
theorem d_L_law_676 : decode b_L_law 676 = .ok (.invokestatic 108, 3) := by decide +kernel
theorem d_L_law_679 : decode b_L_law 679 = .ok (.istore 5, 2) := by decide +kernel
theorem d_L_law_681 : decode b_L_law 681 = .ok (.aload_n 2, 1) := by decide +kernel
theorem d_L_law_682 : decode b_L_law 682 = .ok (.aload_n 0, 1) := by decide +kernel
theorem d_L_law_683 : decode b_L_law 683 = .ok (.iload 4, 2) := by decide +kernel
theorem d_L_law_685 : decode b_L_law 685 = .ok (.iconst 1, 1) := by decide +kernel
theorem d_L_law_686 : decode b_L_law 686 = .ok (.iadd, 1) := by decide +kernel
theorem d_L_law_687 : decode b_L_law 687 = .ok (.iaload, 1) := by decide +kernel
theorem d_L_law_688 : decode b_L_law 688 = .ok (.invokevirtual 111, 3) := by decide +kernel
theorem d_L_law_691 : decode b_L_law 691 = .ok (.istore 6, 2) := by decide +kernel
theorem d_L_law_693 : decode b_L_law 693 = .ok (.aload_n 2, 1) := by decide +kernel
theorem d_L_law_694 : decode b_L_law 694 = .ok (.invokevirtual 78, 3) := by decide +kernel
theorem d_L_law_697 : decode b_L_law 697 = .ok (.iload 5, 2) := by decide +kernel
theorem d_L_law_699 : decode b_L_law 699 = .ok (.if_icmp .eq 5, 3) := by decide +kernel
theorem d_L_law_702 : decode b_L_law 702 = .ok (.iconst 0, 1) := by decide +kernel
theorem d_L_law_703 : decode b_L_law 703 = .ok (.ireturn, 1) := by decide +kernel
theorem d_L_law_704 : decode b_L_law 704 = .ok (.iload 5, 2) := by decide +kernel
theorem d_L_law_706 : decode b_L_law 706 = .ok (.ifCond .ne 15, 3) := by decide +kernel
theorem d_L_law_709 : decode b_L_law 709 = .ok (.aload_n 3, 1) := by decide +kernel
theorem d_L_law_710 : decode b_L_law 710 = .ok (.iconst 0, 1) := by decide +kernel
theorem d_L_law_711 : decode b_L_law 711 = .ok (.laload, 1) := by decide +kernel
theorem d_L_law_712 : decode b_L_law 712 = .ok (.iload 6, 2) := by decide +kernel
theorem d_L_law_714 : decode b_L_law 714 = .ok (.i2l, 1) := by decide +kernel
theorem d_L_law_715 : decode b_L_law 715 = .ok (.lcmp, 1) := by decide +kernel
theorem d_L_law_716 : decode b_L_law 716 = .ok (.ifCond .eq 5, 3) := by decide +kernel
theorem d_L_law_719 : decode b_L_law 719 = .ok (.iconst 0, 1) := by decide +kernel
theorem d_L_law_720 : decode b_L_law 720 = .ok (.ireturn, 1) := by decide +kernel
theorem d_L_law_721 : decode b_L_law 721 = .ok (.goto 351, 3) := by decide +kernel
theorem d_L_law_724 : decode b_L_law 724 = .ok (.aload_n 1, 1) := by decide +kernel
theorem d_L_law_725 : decode b_L_law 725 = .ok (.aload_n 0, 1) := by decide +kernel
theorem d_L_law_726 : decode b_L_law 726 = .ok (.iload 4, 2) := by decide +kernel
theorem d_L_law_728 : decode b_L_law 728 = .ok (.iconst 1, 1) := by decide +kernel
theorem d_L_law_729 : decode b_L_law 729 = .ok (.iadd, 1) := by decide +kernel
theorem d_L_law_730 : decode b_L_law 730 = .ok (.iaload, 1) := by decide +kernel
theorem d_L_law_731 : decode b_L_law 731 = .ok (.aload_n 3, 1) := by decide +kernel
theorem d_L_law_732 : decode b_L_law 732 = .ok (.invokestatic 112, 3) := by decide +kernel
theorem d_L_law_735 : decode b_L_law 735 = .ok (.istore 5, 2) := by decide +kernel
theorem d_L_law_737 : decode b_L_law 737 = .ok (.aload_n 2, 1) := by decide +kernel
theorem d_L_law_738 : decode b_L_law 738 = .ok (.aload_n 0, 1) := by decide +kernel
theorem d_L_law_739 : decode b_L_law 739 = .ok (.iload 4, 2) := by decide +kernel
theorem d_L_law_741 : decode b_L_law 741 = .ok (.iconst 1, 1) := by decide +kernel
theorem d_L_law_742 : decode b_L_law 742 = .ok (.iadd, 1) := by decide +kernel
theorem d_L_law_743 : decode b_L_law 743 = .ok (.iaload, 1) := by decide +kernel
theorem d_L_law_744 : decode b_L_law 744 = .ok (.invokevirtual 114, 3) := by decide +kernel
theorem d_L_law_747 : decode b_L_law 747 = .ok (.istore 6, 2) := by decide +kernel
theorem d_L_law_749 : decode b_L_law 749 = .ok (.aload_n 2, 1) := by decide +kernel
theorem d_L_law_750 : decode b_L_law 750 = .ok (.invokevirtual 78, 3) := by decide +kernel
theorem d_L_law_753 : decode b_L_law 753 = .ok (.iload 5, 2) := by decide +kernel
theorem d_L_law_755 : decode b_L_law 755 = .ok (.if_icmp .eq 5, 3) := by decide +kernel
theorem d_L_law_758 : decode b_L_law 758 = .ok (.iconst 0, 1) := by decide +kernel
theorem d_L_law_759 : decode b_L_law 759 = .ok (.ireturn, 1) := by decide +kernel
theorem d_L_law_760 : decode b_L_law 760 = .ok (.iload 5, 2) := by decide +kernel
theorem d_L_law_762 : decode b_L_law 762 = .ok (.ifCond .ne 15, 3) := by decide +kernel
theorem d_L_law_765 : decode b_L_law 765 = .ok (.aload_n 3, 1) := by decide +kernel
theorem d_L_law_766 : decode b_L_law 766 = .ok (.iconst 0, 1) := by decide +kernel
theorem d_L_law_767 : decode b_L_law 767 = .ok (.laload, 1) := by decide +kernel
theorem d_L_law_768 : decode b_L_law 768 = .ok (.iload 6, 2) := by decide +kernel
theorem d_L_law_770 : decode b_L_law 770 = .ok (.i2l, 1) := by decide +kernel
theorem d_L_law_771 : decode b_L_law 771 = .ok (.lcmp, 1) := by decide +kernel
theorem d_L_law_772 : decode b_L_law 772 = .ok (.ifCond .eq 5, 3) := by decide +kernel
theorem d_L_law_775 : decode b_L_law 775 = .ok (.iconst 0, 1) := by decide +kernel
theorem d_L_law_776 : decode b_L_law 776 = .ok (.ireturn, 1) := by decide +kernel
theorem d_L_law_777 : decode b_L_law 777 = .ok (.goto 295, 3) := by decide +kernel
theorem d_L_law_780 : decode b_L_law 780 = .ok (.aload_n 1, 1) := by decide +kernel
theorem d_L_law_781 : decode b_L_law 781 = .ok (.aload_n 0, 1) := by decide +kernel
theorem d_L_law_782 : decode b_L_law 782 = .ok (.iload 4, 2) := by decide +kernel
theorem d_L_law_784 : decode b_L_law 784 = .ok (.iconst 1, 1) := by decide +kernel
theorem d_L_law_785 : decode b_L_law 785 = .ok (.iadd, 1) := by decide +kernel
theorem d_L_law_786 : decode b_L_law 786 = .ok (.iaload, 1) := by decide +kernel
theorem d_L_law_787 : decode b_L_law 787 = .ok (.aload_n 0, 1) := by decide +kernel
theorem d_L_law_788 : decode b_L_law 788 = .ok (.iload 4, 2) := by decide +kernel
theorem d_L_law_790 : decode b_L_law 790 = .ok (.iconst 2, 1) := by decide +kernel
theorem d_L_law_791 : decode b_L_law 791 = .ok (.iadd, 1) := by decide +kernel
theorem d_L_law_792 : decode b_L_law 792 = .ok (.iaload, 1) := by decide +kernel
theorem d_L_law_793 : decode b_L_law 793 = .ok (.aload_n 0, 1) := by decide +kernel
theorem d_L_law_794 : decode b_L_law 794 = .ok (.iload 4, 2) := by decide +kernel
theorem d_L_law_796 : decode b_L_law 796 = .ok (.iconst 3, 1) := by decide +kernel
theorem d_L_law_797 : decode b_L_law 797 = .ok (.iadd, 1) := by decide +kernel
theorem d_L_law_798 : decode b_L_law 798 = .ok (.iaload, 1) := by decide +kernel
theorem d_L_law_799 : decode b_L_law 799 = .ok (.invokestatic 115, 3) := by decide +kernel
theorem d_L_law_802 : decode b_L_law 802 = .ok (.istore 5, 2) := by decide +kernel
theorem d_L_law_804 : decode b_L_law 804 = .ok (.aload_n 2, 1) := by decide +kernel
theorem d_L_law_805 : decode b_L_law 805 = .ok (.aload_n 0, 1) := by decide +kernel
theorem d_L_law_806 : decode b_L_law 806 = .ok (.iload 4, 2) := by decide +kernel
theorem d_L_law_808 : decode b_L_law 808 = .ok (.iconst 1, 1) := by decide +kernel
theorem d_L_law_809 : decode b_L_law 809 = .ok (.iadd, 1) := by decide +kernel
theorem d_L_law_810 : decode b_L_law 810 = .ok (.iaload, 1) := by decide +kernel
theorem d_L_law_811 : decode b_L_law 811 = .ok (.aload_n 0, 1) := by decide +kernel
theorem d_L_law_812 : decode b_L_law 812 = .ok (.iload 4, 2) := by decide +kernel
theorem d_L_law_814 : decode b_L_law 814 = .ok (.iconst 2, 1) := by decide +kernel
theorem d_L_law_815 : decode b_L_law 815 = .ok (.iadd, 1) := by decide +kernel
theorem d_L_law_816 : decode b_L_law 816 = .ok (.iaload, 1) := by decide +kernel
theorem d_L_law_817 : decode b_L_law 817 = .ok (.aload_n 0, 1) := by decide +kernel
theorem d_L_law_818 : decode b_L_law 818 = .ok (.iload 4, 2) := by decide +kernel
theorem d_L_law_820 : decode b_L_law 820 = .ok (.iconst 3, 1) := by decide +kernel
theorem d_L_law_821 : decode b_L_law 821 = .ok (.iadd, 1) := by decide +kernel
theorem d_L_law_822 : decode b_L_law 822 = .ok (.iaload, 1) := by decide +kernel
theorem d_L_law_823 : decode b_L_law 823 = .ok (.invokevirtual 117, 3) := by decide +kernel
theorem d_L_law_826 : decode b_L_law 826 = .ok (.aload_n 2, 1) := by decide +kernel
theorem d_L_law_827 : decode b_L_law 827 = .ok (.invokevirtual 78, 3) := by decide +kernel
theorem d_L_law_830 : decode b_L_law 830 = .ok (.iload 5, 2) := by decide +kernel
theorem d_L_law_832 : decode b_L_law 832 = .ok (.if_icmp .eq 5, 3) := by decide +kernel
theorem d_L_law_835 : decode b_L_law 835 = .ok (.iconst 0, 1) := by decide +kernel
theorem d_L_law_836 : decode b_L_law 836 = .ok (.ireturn, 1) := by decide +kernel
theorem d_L_law_837 : decode b_L_law 837 = .ok (.goto 235, 3) := by decide +kernel
theorem d_L_law_840 : decode b_L_law 840 = .ok (.aload_n 1, 1) := by decide +kernel
theorem d_L_law_841 : decode b_L_law 841 = .ok (.aload_n 0, 1) := by decide +kernel
theorem d_L_law_842 : decode b_L_law 842 = .ok (.iload 4, 2) := by decide +kernel
theorem d_L_law_844 : decode b_L_law 844 = .ok (.iconst 1, 1) := by decide +kernel
theorem d_L_law_845 : decode b_L_law 845 = .ok (.iadd, 1) := by decide +kernel
theorem d_L_law_846 : decode b_L_law 846 = .ok (.iaload, 1) := by decide +kernel
theorem d_L_law_847 : decode b_L_law 847 = .ok (.aload_n 0, 1) := by decide +kernel
theorem d_L_law_848 : decode b_L_law 848 = .ok (.iload 4, 2) := by decide +kernel
theorem d_L_law_850 : decode b_L_law 850 = .ok (.iconst 2, 1) := by decide +kernel
theorem d_L_law_851 : decode b_L_law 851 = .ok (.iadd, 1) := by decide +kernel
theorem d_L_law_852 : decode b_L_law 852 = .ok (.iaload, 1) := by decide +kernel
theorem d_L_law_853 : decode b_L_law 853 = .ok (.aload_n 3, 1) := by decide +kernel
theorem d_L_law_854 : decode b_L_law 854 = .ok (.invokestatic 118, 3) := by decide +kernel
theorem d_L_law_857 : decode b_L_law 857 = .ok (.istore 5, 2) := by decide +kernel
theorem d_L_law_859 : decode b_L_law 859 = .ok (.aload_n 2, 1) := by decide +kernel
theorem d_L_law_860 : decode b_L_law 860 = .ok (.aload_n 0, 1) := by decide +kernel
theorem d_L_law_861 : decode b_L_law 861 = .ok (.iload 4, 2) := by decide +kernel
theorem d_L_law_863 : decode b_L_law 863 = .ok (.iconst 1, 1) := by decide +kernel
theorem d_L_law_864 : decode b_L_law 864 = .ok (.iadd, 1) := by decide +kernel
theorem d_L_law_865 : decode b_L_law 865 = .ok (.iaload, 1) := by decide +kernel
theorem d_L_law_866 : decode b_L_law 866 = .ok (.aload_n 0, 1) := by decide +kernel
theorem d_L_law_867 : decode b_L_law 867 = .ok (.iload 4, 2) := by decide +kernel
theorem d_L_law_869 : decode b_L_law 869 = .ok (.iconst 2, 1) := by decide +kernel
theorem d_L_law_870 : decode b_L_law 870 = .ok (.iadd, 1) := by decide +kernel
theorem d_L_law_871 : decode b_L_law 871 = .ok (.iaload, 1) := by decide +kernel
theorem d_L_law_872 : decode b_L_law 872 = .ok (.invokevirtual 120, 3) := by decide +kernel
theorem d_L_law_875 : decode b_L_law 875 = .ok (.istore 6, 2) := by decide +kernel
theorem d_L_law_877 : decode b_L_law 877 = .ok (.aload_n 2, 1) := by decide +kernel
theorem d_L_law_878 : decode b_L_law 878 = .ok (.invokevirtual 78, 3) := by decide +kernel
theorem d_L_law_881 : decode b_L_law 881 = .ok (.iload 5, 2) := by decide +kernel
theorem d_L_law_883 : decode b_L_law 883 = .ok (.if_icmp .eq 5, 3) := by decide +kernel
theorem d_L_law_886 : decode b_L_law 886 = .ok (.iconst 0, 1) := by decide +kernel
theorem d_L_law_887 : decode b_L_law 887 = .ok (.ireturn, 1) := by decide +kernel
theorem d_L_law_888 : decode b_L_law 888 = .ok (.iload 5, 2) := by decide +kernel
theorem d_L_law_890 : decode b_L_law 890 = .ok (.ifCond .ne 15, 3) := by decide +kernel
theorem d_L_law_893 : decode b_L_law 893 = .ok (.aload_n 3, 1) := by decide +kernel
theorem d_L_law_894 : decode b_L_law 894 = .ok (.iconst 0, 1) := by decide +kernel
theorem d_L_law_895 : decode b_L_law 895 = .ok (.laload, 1) := by decide +kernel
theorem d_L_law_896 : decode b_L_law 896 = .ok (.iload 6, 2) := by decide +kernel
theorem d_L_law_898 : decode b_L_law 898 = .ok (.i2l, 1) := by decide +kernel
theorem d_L_law_899 : decode b_L_law 899 = .ok (.lcmp, 1) := by decide +kernel
theorem d_L_law_900 : decode b_L_law 900 = .ok (.ifCond .eq 5, 3) := by decide +kernel
theorem d_L_law_903 : decode b_L_law 903 = .ok (.iconst 0, 1) := by decide +kernel
theorem d_L_law_904 : decode b_L_law 904 = .ok (.ireturn, 1) := by decide +kernel
theorem d_L_law_905 : decode b_L_law 905 = .ok (.goto 167, 3) := by decide +kernel
theorem d_L_law_908 : decode b_L_law 908 = .ok (.aload_n 1, 1) := by decide +kernel
theorem d_L_law_909 : decode b_L_law 909 = .ok (.invokevirtual 121, 3) := by decide +kernel
theorem d_L_law_912 : decode b_L_law 912 = .ok (.aload_n 2, 1) := by decide +kernel
theorem d_L_law_913 : decode b_L_law 913 = .ok (.invokevirtual 124, 3) := by decide +kernel
theorem d_L_law_916 : decode b_L_law 916 = .ok (.if_icmp .eq 156, 3) := by decide +kernel
theorem d_L_law_919 : decode b_L_law 919 = .ok (.iconst 0, 1) := by decide +kernel
theorem d_L_law_920 : decode b_L_law 920 = .ok (.ireturn, 1) := by decide +kernel
theorem d_L_law_921 : decode b_L_law 921 = .ok (.aload_n 1, 1) := by decide +kernel
theorem d_L_law_922 : decode b_L_law 922 = .ok (.invokevirtual 125, 3) := by decide +kernel
theorem d_L_law_925 : decode b_L_law 925 = .ok (.aload_n 2, 1) := by decide +kernel
theorem d_L_law_926 : decode b_L_law 926 = .ok (.invokevirtual 128, 3) := by decide +kernel
theorem d_L_law_929 : decode b_L_law 929 = .ok (.if_icmp .eq 143, 3) := by decide +kernel
theorem d_L_law_932 : decode b_L_law 932 = .ok (.iconst 0, 1) := by decide +kernel
theorem d_L_law_933 : decode b_L_law 933 = .ok (.ireturn, 1) := by decide +kernel
theorem d_L_law_934 : decode b_L_law 934 = .ok (.aload_n 1, 1) := by decide +kernel
theorem d_L_law_935 : decode b_L_law 935 = .ok (.invokevirtual 129, 3) := by decide +kernel
theorem d_L_law_938 : decode b_L_law 938 = .ok (.aload_n 2, 1) := by decide +kernel
theorem d_L_law_939 : decode b_L_law 939 = .ok (.invokevirtual 132, 3) := by decide +kernel
theorem d_L_law_942 : decode b_L_law 942 = .ok (.if_icmp .eq 130, 3) := by decide +kernel
theorem d_L_law_945 : decode b_L_law 945 = .ok (.iconst 0, 1) := by decide +kernel
theorem d_L_law_946 : decode b_L_law 946 = .ok (.ireturn, 1) := by decide +kernel
theorem d_L_law_947 : decode b_L_law 947 = .ok (.aload_n 1, 1) := by decide +kernel
theorem d_L_law_948 : decode b_L_law 948 = .ok (.aload_n 0, 1) := by decide +kernel
theorem d_L_law_949 : decode b_L_law 949 = .ok (.iload 4, 2) := by decide +kernel
theorem d_L_law_951 : decode b_L_law 951 = .ok (.iconst 1, 1) := by decide +kernel
theorem d_L_law_952 : decode b_L_law 952 = .ok (.iadd, 1) := by decide +kernel
theorem d_L_law_953 : decode b_L_law 953 = .ok (.iaload, 1) := by decide +kernel
theorem d_L_law_954 : decode b_L_law 954 = .ok (.aload_n 3, 1) := by decide +kernel
theorem d_L_law_955 : decode b_L_law 955 = .ok (.invokestatic 133, 3) := by decide +kernel
theorem d_L_law_958 : decode b_L_law 958 = .ok (.istore 5, 2) := by decide +kernel
theorem d_L_law_960 : decode b_L_law 960 = .ok (.aload_n 2, 1) := by decide +kernel
theorem d_L_law_961 : decode b_L_law 961 = .ok (.aload_n 0, 1) := by decide +kernel
theorem d_L_law_962 : decode b_L_law 962 = .ok (.iload 4, 2) := by decide +kernel
theorem d_L_law_964 : decode b_L_law 964 = .ok (.iconst 1, 1) := by decide +kernel
theorem d_L_law_965 : decode b_L_law 965 = .ok (.iadd, 1) := by decide +kernel
theorem d_L_law_966 : decode b_L_law 966 = .ok (.iaload, 1) := by decide +kernel
theorem d_L_law_967 : decode b_L_law 967 = .ok (.invokevirtual 135, 3) := by decide +kernel
theorem d_L_law_970 : decode b_L_law 970 = .ok (.istore 6, 2) := by decide +kernel
theorem d_L_law_972 : decode b_L_law 972 = .ok (.aload_n 2, 1) := by decide +kernel
theorem d_L_law_973 : decode b_L_law 973 = .ok (.invokevirtual 78, 3) := by decide +kernel
theorem d_L_law_976 : decode b_L_law 976 = .ok (.iload 5, 2) := by decide +kernel
theorem d_L_law_978 : decode b_L_law 978 = .ok (.if_icmp .eq 5, 3) := by decide +kernel
theorem d_L_law_981 : decode b_L_law 981 = .ok (.iconst 0, 1) := by decide +kernel
theorem d_L_law_982 : decode b_L_law 982 = .ok (.ireturn, 1) := by decide +kernel
theorem d_L_law_983 : decode b_L_law 983 = .ok (.iload 5, 2) := by decide +kernel
theorem d_L_law_985 : decode b_L_law 985 = .ok (.ifCond .ne 15, 3) := by decide +kernel
theorem d_L_law_988 : decode b_L_law 988 = .ok (.aload_n 3, 1) := by decide +kernel
theorem d_L_law_989 : decode b_L_law 989 = .ok (.iconst 0, 1) := by decide +kernel
theorem d_L_law_990 : decode b_L_law 990 = .ok (.laload, 1) := by decide +kernel
theorem d_L_law_991 : decode b_L_law 991 = .ok (.iload 6, 2) := by decide +kernel
theorem d_L_law_993 : decode b_L_law 993 = .ok (.i2l, 1) := by decide +kernel
theorem d_L_law_994 : decode b_L_law 994 = .ok (.lcmp, 1) := by decide +kernel
theorem d_L_law_995 : decode b_L_law 995 = .ok (.ifCond .eq 5, 3) := by decide +kernel
theorem d_L_law_998 : decode b_L_law 998 = .ok (.iconst 0, 1) := by decide +kernel
theorem d_L_law_999 : decode b_L_law 999 = .ok (.ireturn, 1) := by decide +kernel
theorem d_L_law_1000 : decode b_L_law 1000 = .ok (.goto 72, 3) := by decide +kernel
theorem d_L_law_1003 : decode b_L_law 1003 = .ok (.aload_n 1, 1) := by decide +kernel
theorem d_L_law_1004 : decode b_L_law 1004 = .ok (.invokevirtual 136, 3) := by decide +kernel
theorem d_L_law_1007 : decode b_L_law 1007 = .ok (.aload_n 2, 1) := by decide +kernel
theorem d_L_law_1008 : decode b_L_law 1008 = .ok (.invokevirtual 139, 3) := by decide +kernel
theorem d_L_law_1011 : decode b_L_law 1011 = .ok (.if_icmp .eq 61, 3) := by decide +kernel
theorem d_L_law_1014 : decode b_L_law 1014 = .ok (.iconst 0, 1) := by decide +kernel
theorem d_L_law_1015 : decode b_L_law 1015 = .ok (.ireturn, 1) := by decide +kernel
theorem d_L_law_1016 : decode b_L_law 1016 = .ok (.aload_n 1, 1) := by decide +kernel
theorem d_L_law_1017 : decode b_L_law 1017 = .ok (.aload_n 0, 1) := by decide +kernel
theorem d_L_law_1018 : decode b_L_law 1018 = .ok (.iload 4, 2) := by decide +kernel
theorem d_L_law_1020 : decode b_L_law 1020 = .ok (.iconst 1, 1) := by decide +kernel
theorem d_L_law_1021 : decode b_L_law 1021 = .ok (.iadd, 1) := by decide +kernel
theorem d_L_law_1022 : decode b_L_law 1022 = .ok (.iaload, 1) := by decide +kernel
theorem d_L_law_1023 : decode b_L_law 1023 = .ok (.aload_n 3, 1) := by decide +kernel
theorem d_L_law_1024 : decode b_L_law 1024 = .ok (.invokestatic 140, 3) := by decide +kernel
theorem d_L_law_1027 : decode b_L_law 1027 = .ok (.istore 5, 2) := by decide +kernel
theorem d_L_law_1029 : decode b_L_law 1029 = .ok (.aload_n 2, 1) := by decide +kernel
theorem d_L_law_1030 : decode b_L_law 1030 = .ok (.aload_n 0, 1) := by decide +kernel
theorem d_L_law_1031 : decode b_L_law 1031 = .ok (.iload 4, 2) := by decide +kernel
theorem d_L_law_1033 : decode b_L_law 1033 = .ok (.iconst 1, 1) := by decide +kernel
theorem d_L_law_1034 : decode b_L_law 1034 = .ok (.iadd, 1) := by decide +kernel
theorem d_L_law_1035 : decode b_L_law 1035 = .ok (.iaload, 1) := by decide +kernel
theorem d_L_law_1036 : decode b_L_law 1036 = .ok (.invokevirtual 142, 3) := by decide +kernel
theorem d_L_law_1039 : decode b_L_law 1039 = .ok (.istore 6, 2) := by decide +kernel
theorem d_L_law_1041 : decode b_L_law 1041 = .ok (.aload_n 2, 1) := by decide +kernel
theorem d_L_law_1042 : decode b_L_law 1042 = .ok (.invokevirtual 78, 3) := by decide +kernel
theorem d_L_law_1045 : decode b_L_law 1045 = .ok (.iload 5, 2) := by decide +kernel
theorem d_L_law_1047 : decode b_L_law 1047 = .ok (.if_icmp .eq 5, 3) := by decide +kernel
theorem d_L_law_1050 : decode b_L_law 1050 = .ok (.iconst 0, 1) := by decide +kernel
theorem d_L_law_1051 : decode b_L_law 1051 = .ok (.ireturn, 1) := by decide +kernel
theorem d_L_law_1052 : decode b_L_law 1052 = .ok (.iload 5, 2) := by decide +kernel
theorem d_L_law_1054 : decode b_L_law 1054 = .ok (.ifCond .ne 15, 3) := by decide +kernel
theorem d_L_law_1057 : decode b_L_law 1057 = .ok (.aload_n 3, 1) := by decide +kernel
theorem d_L_law_1058 : decode b_L_law 1058 = .ok (.iconst 0, 1) := by decide +kernel
theorem d_L_law_1059 : decode b_L_law 1059 = .ok (.laload, 1) := by decide +kernel
theorem d_L_law_1060 : decode b_L_law 1060 = .ok (.iload 6, 2) := by decide +kernel
theorem d_L_law_1062 : decode b_L_law 1062 = .ok (.i2l, 1) := by decide +kernel
theorem d_L_law_1063 : decode b_L_law 1063 = .ok (.lcmp, 1) := by decide +kernel
theorem d_L_law_1064 : decode b_L_law 1064 = .ok (.ifCond .eq 5, 3) := by decide +kernel
theorem d_L_law_1067 : decode b_L_law 1067 = .ok (.iconst 0, 1) := by decide +kernel
theorem d_L_law_1068 : decode b_L_law 1068 = .ok (.ireturn, 1) := by decide +kernel
theorem d_L_law_1069 : decode b_L_law 1069 = .ok (.goto 3, 3) := by decide +kernel
theorem d_L_law_1072 : decode b_L_law 1072 = .ok (.iinc 4 6, 3) := by decide +kernel
theorem d_L_law_1075 : decode b_L_law 1075 = .ok (.goto (-1052), 3) := by decide +kernel
theorem d_L_law_1078 : decode b_L_law 1078 = .ok (.iconst 1, 1) := by decide +kernel
theorem d_L_law_1079 : decode b_L_law 1079 = .ok (.ireturn, 1) := by decide +kernel
