theorem dd_L_law_0 : decode bb_L_law 0 = .ok (.new 8, 3) := by decide +kernel
theorem dd_L_law_3 : decode bb_L_law 3 = .ok (.dup, 1) := by decide +kernel
theorem dd_L_law_4 : decode bb_L_law 4 = .ok (.invokespecial 80, 3) := by decide +kernel
theorem dd_L_law_7 : decode bb_L_law 7 = .ok (.astore_n 1, 1) := by decide +kernel
theorem dd_L_law_8 : decode bb_L_law 8 = .ok (.new 81, 3) := by decide +kernel
theorem dd_L_law_11 : decode bb_L_law 11 = .ok (.dup, 1) := by decide +kernel
theorem dd_L_law_12 : decode bb_L_law 12 = .ok (.invokespecial 83, 3) := by decide +kernel
theorem dd_L_law_15 : decode bb_L_law 15 = .ok (.astore_n 2, 1) := by decide +kernel
theorem dd_L_law_16 : decode bb_L_law 16 = .ok (.iconst 1, 1) := by decide +kernel
theorem dd_L_law_17 : decode bb_L_law 17 = .ok (.newarray .long, 2) := by decide +kernel
theorem dd_L_law_19 : decode bb_L_law 19 = .ok (.astore_n 3, 1) := by decide +kernel
theorem dd_L_law_20 : decode bb_L_law 20 = .ok (.iconst 0, 1) := by decide +kernel
theorem dd_L_law_21 : decode bb_L_law 21 = .ok (.istore 4, 2) := by decide +kernel
theorem dd_L_law_23 : decode bb_L_law 23 = .ok (.iload 4, 2) := by decide +kernel
theorem dd_L_law_25 : decode bb_L_law 25 = .ok (.aload_n 0, 1) := by decide +kernel
theorem dd_L_law_26 : decode bb_L_law 26 = .ok (.arraylength, 1) := by decide +kernel
theorem dd_L_law_27 : decode bb_L_law 27 = .ok (.bipush 6, 2) := by decide +kernel
theorem dd_L_law_29 : decode bb_L_law 29 = .ok (.isub, 1) := by decide +kernel
theorem dd_L_law_30 : decode bb_L_law 30 = .ok (.if_icmp .gt 1430, 3) := by decide +kernel
theorem dd_L_law_33 : decode bb_L_law 33 = .ok (.aload_n 0, 1) := by decide +kernel
theorem dd_L_law_34 : decode bb_L_law 34 = .ok (.iload 4, 2) := by decide +kernel
theorem dd_L_law_36 : decode bb_L_law 36 = .ok (.iaload, 1) := by decide +kernel
theorem dd_L_law_37 : decode bb_L_law 37 = .ok (.bipush 31, 2) := by decide +kernel
theorem dd_L_law_39 : decode bb_L_law 39 = .ok (.iand, 1) := by decide +kernel
theorem dd_L_law_40 : decode bb_L_law 40 = .ok (.tableswitch 1414 0 17 #[88, 180, 228, 267, 371, 451, 507, 555, 615, 691, 766, 858, 938, 1042, 1142, 1198, 1278, 1346], 88) := by decide +kernel
theorem dd_L_law_128 : decode bb_L_law 128 = .ok (.aload_n 1, 1) := by decide +kernel
theorem dd_L_law_129 : decode bb_L_law 129 = .ok (.aload_n 0, 1) := by decide +kernel
theorem dd_L_law_130 : decode bb_L_law 130 = .ok (.iload 4, 2) := by decide +kernel
theorem dd_L_law_132 : decode bb_L_law 132 = .ok (.iconst 1, 1) := by decide +kernel
theorem dd_L_law_133 : decode bb_L_law 133 = .ok (.iadd, 1) := by decide +kernel
theorem dd_L_law_134 : decode bb_L_law 134 = .ok (.iaload, 1) := by decide +kernel
theorem dd_L_law_135 : decode bb_L_law 135 = .ok (.aload_n 0, 1) := by decide +kernel
theorem dd_L_law_136 : decode bb_L_law 136 = .ok (.iload 4, 2) := by decide +kernel
theorem dd_L_law_138 : decode bb_L_law 138 = .ok (.iconst 2, 1) := by decide +kernel
theorem dd_L_law_139 : decode bb_L_law 139 = .ok (.iadd, 1) := by decide +kernel
theorem dd_L_law_140 : decode bb_L_law 140 = .ok (.iaload, 1) := by decide +kernel
theorem dd_L_law_141 : decode bb_L_law 141 = .ok (.aload_n 0, 1) := by decide +kernel
theorem dd_L_law_142 : decode bb_L_law 142 = .ok (.iload 4, 2) := by decide +kernel
theorem dd_L_law_144 : decode bb_L_law 144 = .ok (.iconst 3, 1) := by decide +kernel
theorem dd_L_law_145 : decode bb_L_law 145 = .ok (.iadd, 1) := by decide +kernel
theorem dd_L_law_146 : decode bb_L_law 146 = .ok (.iaload, 1) := by decide +kernel
theorem dd_L_law_147 : decode bb_L_law 147 = .ok (.aload_n 0, 1) := by decide +kernel
theorem dd_L_law_148 : decode bb_L_law 148 = .ok (.iload 4, 2) := by decide +kernel
theorem dd_L_law_150 : decode bb_L_law 150 = .ok (.iconst 4, 1) := by decide +kernel
theorem dd_L_law_151 : decode bb_L_law 151 = .ok (.iadd, 1) := by decide +kernel
theorem dd_L_law_152 : decode bb_L_law 152 = .ok (.iaload, 1) := by decide +kernel
theorem dd_L_law_153 : decode bb_L_law 153 = .ok (.aload_n 3, 1) := by decide +kernel
theorem dd_L_law_154 : decode bb_L_law 154 = .ok (.invokestatic 84, 3) := by decide +kernel
theorem dd_L_law_157 : decode bb_L_law 157 = .ok (.istore 5, 2) := by decide +kernel
theorem dd_L_law_159 : decode bb_L_law 159 = .ok (.aload_n 2, 1) := by decide +kernel
theorem dd_L_law_160 : decode bb_L_law 160 = .ok (.aload_n 0, 1) := by decide +kernel
theorem dd_L_law_161 : decode bb_L_law 161 = .ok (.iload 4, 2) := by decide +kernel
theorem dd_L_law_163 : decode bb_L_law 163 = .ok (.iconst 1, 1) := by decide +kernel
theorem dd_L_law_164 : decode bb_L_law 164 = .ok (.iadd, 1) := by decide +kernel
theorem dd_L_law_165 : decode bb_L_law 165 = .ok (.iaload, 1) := by decide +kernel
theorem dd_L_law_166 : decode bb_L_law 166 = .ok (.aload_n 0, 1) := by decide +kernel
theorem dd_L_law_167 : decode bb_L_law 167 = .ok (.iload 4, 2) := by decide +kernel
theorem dd_L_law_169 : decode bb_L_law 169 = .ok (.iconst 2, 1) := by decide +kernel
theorem dd_L_law_170 : decode bb_L_law 170 = .ok (.iadd, 1) := by decide +kernel
theorem dd_L_law_171 : decode bb_L_law 171 = .ok (.iaload, 1) := by decide +kernel
theorem dd_L_law_172 : decode bb_L_law 172 = .ok (.aload_n 0, 1) := by decide +kernel
theorem dd_L_law_173 : decode bb_L_law 173 = .ok (.iload 4, 2) := by decide +kernel
theorem dd_L_law_175 : decode bb_L_law 175 = .ok (.iconst 3, 1) := by decide +kernel
theorem dd_L_law_176 : decode bb_L_law 176 = .ok (.iadd, 1) := by decide +kernel
theorem dd_L_law_177 : decode bb_L_law 177 = .ok (.iaload, 1) := by decide +kernel
theorem dd_L_law_178 : decode bb_L_law 178 = .ok (.aload_n 0, 1) := by decide +kernel
theorem dd_L_law_179 : decode bb_L_law 179 = .ok (.iload 4, 2) := by decide +kernel
theorem dd_L_law_181 : decode bb_L_law 181 = .ok (.iconst 4, 1) := by decide +kernel
theorem dd_L_law_182 : decode bb_L_law 182 = .ok (.iadd, 1) := by decide +kernel
theorem dd_L_law_183 : decode bb_L_law 183 = .ok (.iaload, 1) := by decide +kernel
theorem dd_L_law_184 : decode bb_L_law 184 = .ok (.invokevirtual 89, 3) := by decide +kernel
theorem dd_L_law_187 : decode bb_L_law 187 = .ok (.istore 6, 2) := by decide +kernel
theorem dd_L_law_189 : decode bb_L_law 189 = .ok (.aload_n 2, 1) := by decide +kernel
theorem dd_L_law_190 : decode bb_L_law 190 = .ok (.invokevirtual 90, 3) := by decide +kernel
theorem dd_L_law_193 : decode bb_L_law 193 = .ok (.iload 5, 2) := by decide +kernel
theorem dd_L_law_195 : decode bb_L_law 195 = .ok (.if_icmp .eq 5, 3) := by decide +kernel
theorem dd_L_law_198 : decode bb_L_law 198 = .ok (.iconst 0, 1) := by decide +kernel
theorem dd_L_law_199 : decode bb_L_law 199 = .ok (.ireturn, 1) := by decide +kernel
theorem dd_L_law_200 : decode bb_L_law 200 = .ok (.iload 5, 2) := by decide +kernel
theorem dd_L_law_202 : decode bb_L_law 202 = .ok (.ifCond .ne 15, 3) := by decide +kernel
theorem dd_L_law_205 : decode bb_L_law 205 = .ok (.aload_n 3, 1) := by decide +kernel
theorem dd_L_law_206 : decode bb_L_law 206 = .ok (.iconst 0, 1) := by decide +kernel
theorem dd_L_law_207 : decode bb_L_law 207 = .ok (.laload, 1) := by decide +kernel
theorem dd_L_law_208 : decode bb_L_law 208 = .ok (.iload 6, 2) := by decide +kernel
theorem dd_L_law_210 : decode bb_L_law 210 = .ok (.i2l, 1) := by decide +kernel
theorem dd_L_law_211 : decode bb_L_law 211 = .ok (.lcmp, 1) := by decide +kernel
theorem dd_L_law_212 : decode bb_L_law 212 = .ok (.ifCond .eq 5, 3) := by decide +kernel
theorem dd_L_law_215 : decode bb_L_law 215 = .ok (.iconst 0, 1) := by decide +kernel
theorem dd_L_law_216 : decode bb_L_law 216 = .ok (.ireturn, 1) := by decide +kernel
theorem dd_L_law_217 : decode bb_L_law 217 = .ok (.goto 1237, 3) := by decide +kernel
theorem dd_L_law_220 : decode bb_L_law 220 = .ok (.aload_n 1, 1) := by decide +kernel
theorem dd_L_law_221 : decode bb_L_law 221 = .ok (.aload_n 0, 1) := by decide +kernel
theorem dd_L_law_222 : decode bb_L_law 222 = .ok (.iload 4, 2) := by decide +kernel
theorem dd_L_law_224 : decode bb_L_law 224 = .ok (.iconst 1, 1) := by decide +kernel
theorem dd_L_law_225 : decode bb_L_law 225 = .ok (.iadd, 1) := by decide +kernel
theorem dd_L_law_226 : decode bb_L_law 226 = .ok (.iaload, 1) := by decide +kernel
theorem dd_L_law_227 : decode bb_L_law 227 = .ok (.aload_n 0, 1) := by decide +kernel
theorem dd_L_law_228 : decode bb_L_law 228 = .ok (.iload 4, 2) := by decide +kernel
theorem dd_L_law_230 : decode bb_L_law 230 = .ok (.iconst 2, 1) := by decide +kernel
theorem dd_L_law_231 : decode bb_L_law 231 = .ok (.iadd, 1) := by decide +kernel
theorem dd_L_law_232 : decode bb_L_law 232 = .ok (.iaload, 1) := by decide +kernel
theorem dd_L_law_233 : decode bb_L_law 233 = .ok (.invokestatic 94, 3) := by decide +kernel
theorem dd_L_law_236 : decode bb_L_law 236 = .ok (.istore 5, 2) := by decide +kernel
theorem dd_L_law_238 : decode bb_L_law 238 = .ok (.aload_n 2, 1) := by decide +kernel
theorem dd_L_law_239 : decode bb_L_law 239 = .ok (.aload_n 0, 1) := by decide +kernel
theorem dd_L_law_240 : decode bb_L_law 240 = .ok (.iload 4, 2) := by decide +kernel
theorem dd_L_law_242 : decode bb_L_law 242 = .ok (.iconst 1, 1) := by decide +kernel
theorem dd_L_law_243 : decode bb_L_law 243 = .ok (.iadd, 1) := by decide +kernel
theorem dd_L_law_244 : decode bb_L_law 244 = .ok (.iaload, 1) := by decide +kernel
theorem dd_L_law_245 : decode bb_L_law 245 = .ok (.aload_n 0, 1) := by decide +kernel
theorem dd_L_law_246 : decode bb_L_law 246 = .ok (.iload 4, 2) := by decide +kernel
theorem dd_L_law_248 : decode bb_L_law 248 = .ok (.iconst 2, 1) := by decide +kernel
theorem dd_L_law_249 : decode bb_L_law 249 = .ok (.iadd, 1) := by decide +kernel
theorem dd_L_law_250 : decode bb_L_law 250 = .ok (.iaload, 1) := by decide +kernel
theorem dd_L_law_251 : decode bb_L_law 251 = .ok (.invokevirtual 97, 3) := by decide +kernel
theorem dd_L_law_254 : decode bb_L_law 254 = .ok (.aload_n 2, 1) := by decide +kernel
theorem dd_L_law_255 : decode bb_L_law 255 = .ok (.invokevirtual 90, 3) := by decide +kernel
theorem dd_L_law_258 : decode bb_L_law 258 = .ok (.iload 5, 2) := by decide +kernel
theorem dd_L_law_260 : decode bb_L_law 260 = .ok (.if_icmp .eq 5, 3) := by decide +kernel
theorem dd_L_law_263 : decode bb_L_law 263 = .ok (.iconst 0, 1) := by decide +kernel
theorem dd_L_law_264 : decode bb_L_law 264 = .ok (.ireturn, 1) := by decide +kernel
theorem dd_L_law_265 : decode bb_L_law 265 = .ok (.goto 1189, 3) := by decide +kernel
theorem dd_L_law_268 : decode bb_L_law 268 = .ok (.aload_n 1, 1) := by decide +kernel
theorem dd_L_law_269 : decode bb_L_law 269 = .ok (.aload_n 0, 1) := by decide +kernel
theorem dd_L_law_270 : decode bb_L_law 270 = .ok (.iload 4, 2) := by decide +kernel
theorem dd_L_law_272 : decode bb_L_law 272 = .ok (.iconst 1, 1) := by decide +kernel
theorem dd_L_law_273 : decode bb_L_law 273 = .ok (.iadd, 1) := by decide +kernel
theorem dd_L_law_274 : decode bb_L_law 274 = .ok (.iaload, 1) := by decide +kernel
theorem dd_L_law_275 : decode bb_L_law 275 = .ok (.ifCond .eq 7, 3) := by decide +kernel
theorem dd_L_law_278 : decode bb_L_law 278 = .ok (.iconst 1, 1) := by decide +kernel
theorem dd_L_law_279 : decode bb_L_law 279 = .ok (.goto 4, 3) := by decide +kernel
theorem dd_L_law_282 : decode bb_L_law 282 = .ok (.iconst 0, 1) := by decide +kernel
theorem dd_L_law_283 : decode bb_L_law 283 = .ok (.invokevirtual 98, 3) := by decide +kernel
theorem dd_L_law_286 : decode bb_L_law 286 = .ok (.aload_n 2, 1) := by decide +kernel
theorem dd_L_law_287 : decode bb_L_law 287 = .ok (.aload_n 0, 1) := by decide +kernel
theorem dd_L_law_288 : decode bb_L_law 288 = .ok (.iload 4, 2) := by decide +kernel
theorem dd_L_law_290 : decode bb_L_law 290 = .ok (.iconst 1, 1) := by decide +kernel
theorem dd_L_law_291 : decode bb_L_law 291 = .ok (.iadd, 1) := by decide +kernel
theorem dd_L_law_292 : decode bb_L_law 292 = .ok (.iaload, 1) := by decide +kernel
theorem dd_L_law_293 : decode bb_L_law 293 = .ok (.ifCond .eq 7, 3) := by decide +kernel
theorem dd_L_law_296 : decode bb_L_law 296 = .ok (.iconst 1, 1) := by decide +kernel
theorem dd_L_law_297 : decode bb_L_law 297 = .ok (.goto 4, 3) := by decide +kernel
theorem dd_L_law_300 : decode bb_L_law 300 = .ok (.iconst 0, 1) := by decide +kernel
theorem dd_L_law_301 : decode bb_L_law 301 = .ok (.invokevirtual 102, 3) := by decide +kernel
theorem dd_L_law_304 : decode bb_L_law 304 = .ok (.goto 1150, 3) := by decide +kernel
theorem dd_L_law_307 : decode bb_L_law 307 = .ok (.aload_n 1, 1) := by decide +kernel
theorem dd_L_law_308 : decode bb_L_law 308 = .ok (.aload_n 0, 1) := by decide +kernel
theorem dd_L_law_309 : decode bb_L_law 309 = .ok (.iload 4, 2) := by decide +kernel
theorem dd_L_law_311 : decode bb_L_law 311 = .ok (.iconst 1, 1) := by decide +kernel
theorem dd_L_law_312 : decode bb_L_law 312 = .ok (.iadd, 1) := by decide +kernel
theorem dd_L_law_313 : decode bb_L_law 313 = .ok (.iaload, 1) := by decide +kernel
theorem dd_L_law_314 : decode bb_L_law 314 = .ok (.aload_n 0, 1) := by decide +kernel
theorem dd_L_law_315 : decode bb_L_law 315 = .ok (.iload 4, 2) := by decide +kernel
theorem dd_L_law_317 : decode bb_L_law 317 = .ok (.iconst 2, 1) := by decide +kernel
theorem dd_L_law_318 : decode bb_L_law 318 = .ok (.iadd, 1) := by decide +kernel
theorem dd_L_law_319 : decode bb_L_law 319 = .ok (.iaload, 1) := by decide +kernel
theorem dd_L_law_320 : decode bb_L_law 320 = .ok (.aload_n 0, 1) := by decide +kernel
theorem dd_L_law_321 : decode bb_L_law 321 = .ok (.iload 4, 2) := by decide +kernel
theorem dd_L_law_323 : decode bb_L_law 323 = .ok (.iconst 3, 1) := by decide +kernel
theorem dd_L_law_324 : decode bb_L_law 324 = .ok (.iadd, 1) := by decide +kernel
theorem dd_L_law_325 : decode bb_L_law 325 = .ok (.iaload, 1) := by decide +kernel
theorem dd_L_law_326 : decode bb_L_law 326 = .ok (.aload_n 0, 1) := by decide +kernel
theorem dd_L_law_327 : decode bb_L_law 327 = .ok (.iload 4, 2) := by decide +kernel
theorem dd_L_law_329 : decode bb_L_law 329 = .ok (.iconst 4, 1) := by decide +kernel
theorem dd_L_law_330 : decode bb_L_law 330 = .ok (.iadd, 1) := by decide +kernel
theorem dd_L_law_331 : decode bb_L_law 331 = .ok (.iaload, 1) := by decide +kernel
theorem dd_L_law_332 : decode bb_L_law 332 = .ok (.aload_n 0, 1) := by decide +kernel
theorem dd_L_law_333 : decode bb_L_law 333 = .ok (.iload 4, 2) := by decide +kernel
theorem dd_L_law_335 : decode bb_L_law 335 = .ok (.iconst 5, 1) := by decide +kernel
theorem dd_L_law_336 : decode bb_L_law 336 = .ok (.iadd, 1) := by decide +kernel
theorem dd_L_law_337 : decode bb_L_law 337 = .ok (.iaload, 1) := by decide +kernel
theorem dd_L_law_338 : decode bb_L_law 338 = .ok (.aload_n 3, 1) := by decide +kernel
theorem dd_L_law_339 : decode bb_L_law 339 = .ok (.invokestatic 103, 3) := by decide +kernel
theorem dd_L_law_342 : decode bb_L_law 342 = .ok (.istore 5, 2) := by decide +kernel
theorem dd_L_law_344 : decode bb_L_law 344 = .ok (.aload_n 2, 1) := by decide +kernel
theorem dd_L_law_345 : decode bb_L_law 345 = .ok (.aload_n 0, 1) := by decide +kernel
theorem dd_L_law_346 : decode bb_L_law 346 = .ok (.iload 4, 2) := by decide +kernel
theorem dd_L_law_348 : decode bb_L_law 348 = .ok (.iconst 1, 1) := by decide +kernel
theorem dd_L_law_349 : decode bb_L_law 349 = .ok (.iadd, 1) := by decide +kernel
theorem dd_L_law_350 : decode bb_L_law 350 = .ok (.iaload, 1) := by decide +kernel
theorem dd_L_law_351 : decode bb_L_law 351 = .ok (.aload_n 0, 1) := by decide +kernel
theorem dd_L_law_352 : decode bb_L_law 352 = .ok (.iload 4, 2) := by decide +kernel
theorem dd_L_law_354 : decode bb_L_law 354 = .ok (.iconst 2, 1) := by decide +kernel
theorem dd_L_law_355 : decode bb_L_law 355 = .ok (.iadd, 1) := by decide +kernel
theorem dd_L_law_356 : decode bb_L_law 356 = .ok (.iaload, 1) := by decide +kernel
theorem dd_L_law_357 : decode bb_L_law 357 = .ok (.aload_n 0, 1) := by decide +kernel
theorem dd_L_law_358 : decode bb_L_law 358 = .ok (.iload 4, 2) := by decide +kernel
theorem dd_L_law_360 : decode bb_L_law 360 = .ok (.iconst 3, 1) := by decide +kernel
theorem dd_L_law_361 : decode bb_L_law 361 = .ok (.iadd, 1) := by decide +kernel
theorem dd_L_law_362 : decode bb_L_law 362 = .ok (.iaload, 1) := by decide +kernel
theorem dd_L_law_363 : decode bb_L_law 363 = .ok (.aload_n 0, 1) := by decide +kernel
theorem dd_L_law_364 : decode bb_L_law 364 = .ok (.iload 4, 2) := by decide +kernel
theorem dd_L_law_366 : decode bb_L_law 366 = .ok (.iconst 4, 1) := by decide +kernel
theorem dd_L_law_367 : decode bb_L_law 367 = .ok (.iadd, 1) := by decide +kernel
theorem dd_L_law_368 : decode bb_L_law 368 = .ok (.iaload, 1) := by decide +kernel
theorem dd_L_law_369 : decode bb_L_law 369 = .ok (.aload_n 0, 1) := by decide +kernel
theorem dd_L_law_370 : decode bb_L_law 370 = .ok (.iload 4, 2) := by decide +kernel
theorem dd_L_law_372 : decode bb_L_law 372 = .ok (.iconst 5, 1) := by decide +kernel
theorem dd_L_law_373 : decode bb_L_law 373 = .ok (.iadd, 1) := by decide +kernel
theorem dd_L_law_374 : decode bb_L_law 374 = .ok (.iaload, 1) := by decide +kernel
theorem dd_L_law_375 : decode bb_L_law 375 = .ok (.invokevirtual 106, 3) := by decide +kernel
theorem dd_L_law_378 : decode bb_L_law 378 = .ok (.istore 6, 2) := by decide +kernel
theorem dd_L_law_380 : decode bb_L_law 380 = .ok (.aload_n 2, 1) := by decide +kernel
theorem dd_L_law_381 : decode bb_L_law 381 = .ok (.invokevirtual 90, 3) := by decide +kernel
theorem dd_L_law_384 : decode bb_L_law 384 = .ok (.iload 5, 2) := by decide +kernel
theorem dd_L_law_386 : decode bb_L_law 386 = .ok (.if_icmp .eq 5, 3) := by decide +kernel
theorem dd_L_law_389 : decode bb_L_law 389 = .ok (.iconst 0, 1) := by decide +kernel
theorem dd_L_law_390 : decode bb_L_law 390 = .ok (.ireturn, 1) := by decide +kernel
theorem dd_L_law_391 : decode bb_L_law 391 = .ok (.iload 5, 2) := by decide +kernel
theorem dd_L_law_393 : decode bb_L_law 393 = .ok (.ifCond .ne 15, 3) := by decide +kernel
theorem dd_L_law_396 : decode bb_L_law 396 = .ok (.aload_n 3, 1) := by decide +kernel
theorem dd_L_law_397 : decode bb_L_law 397 = .ok (.iconst 0, 1) := by decide +kernel
theorem dd_L_law_398 : decode bb_L_law 398 = .ok (.laload, 1) := by decide +kernel
theorem dd_L_law_399 : decode bb_L_law 399 = .ok (.iload 6, 2) := by decide +kernel
theorem dd_L_law_401 : decode bb_L_law 401 = .ok (.i2l, 1) := by decide +kernel
theorem dd_L_law_402 : decode bb_L_law 402 = .ok (.lcmp, 1) := by decide +kernel
theorem dd_L_law_403 : decode bb_L_law 403 = .ok (.ifCond .eq 5, 3) := by decide +kernel
theorem dd_L_law_406 : decode bb_L_law 406 = .ok (.iconst 0, 1) := by decide +kernel
theorem dd_L_law_407 : decode bb_L_law 407 = .ok (.ireturn, 1) := by decide +kernel
theorem dd_L_law_408 : decode bb_L_law 408 = .ok (.goto 1046, 3) := by decide +kernel
theorem dd_L_law_411 : decode bb_L_law 411 = .ok (.aload_n 1, 1) := by decide +kernel
theorem dd_L_law_412 : decode bb_L_law 412 = .ok (.aload_n 0, 1) := by decide +kernel
theorem dd_L_law_413 : decode bb_L_law 413 = .ok (.iload 4, 2) := by decide +kernel
theorem dd_L_law_415 : decode bb_L_law 415 = .ok (.iconst 1, 1) := by decide +kernel
theorem dd_L_law_416 : decode bb_L_law 416 = .ok (.iadd, 1) := by decide +kernel
theorem dd_L_law_417 : decode bb_L_law 417 = .ok (.iaload, 1) := by decide +kernel
theorem dd_L_law_418 : decode bb_L_law 418 = .ok (.aload_n 0, 1) := by decide +kernel
theorem dd_L_law_419 : decode bb_L_law 419 = .ok (.iload 4, 2) := by decide +kernel
theorem dd_L_law_421 : decode bb_L_law 421 = .ok (.iconst 2, 1) := by decide +kernel
theorem dd_L_law_422 : decode bb_L_law 422 = .ok (.iadd, 1) := by decide +kernel
theorem dd_L_law_423 : decode bb_L_law 423 = .ok (.iaload, 1) := by decide +kernel
theorem dd_L_law_424 : decode bb_L_law 424 = .ok (.aload_n 0, 1) := by decide +kernel
theorem dd_L_law_425 : decode bb_L_law 425 = .ok (.iload 4, 2) := by decide +kernel
theorem dd_L_law_427 : decode bb_L_law 427 = .ok (.iconst 3, 1) := by decide +kernel
theorem dd_L_law_428 : decode bb_L_law 428 = .ok (.iadd, 1) := by decide +kernel
theorem dd_L_law_429 : decode bb_L_law 429 = .ok (.iaload, 1) := by decide +kernel
theorem dd_L_law_430 : decode bb_L_law 430 = .ok (.aload_n 3, 1) := by decide +kernel
theorem dd_L_law_431 : decode bb_L_law 431 = .ok (.invokestatic 107, 3) := by decide +kernel
theorem dd_L_law_434 : decode bb_L_law 434 = .ok (.istore 5, 2) := by decide +kernel
theorem dd_L_law_436 : decode bb_L_law 436 = .ok (.aload_n 2, 1) := by decide +kernel
theorem dd_L_law_437 : decode bb_L_law 437 = .ok (.aload_n 0, 1) := by decide +kernel
theorem dd_L_law_438 : decode bb_L_law 438 = .ok (.iload 4, 2) := by decide +kernel
theorem dd_L_law_440 : decode bb_L_law 440 = .ok (.iconst 1, 1) := by decide +kernel
theorem dd_L_law_441 : decode bb_L_law 441 = .ok (.iadd, 1) := by decide +kernel
theorem dd_L_law_442 : decode bb_L_law 442 = .ok (.iaload, 1) := by decide +kernel
theorem dd_L_law_443 : decode bb_L_law 443 = .ok (.aload_n 0, 1) := by decide +kernel
theorem dd_L_law_444 : decode bb_L_law 444 = .ok (.iload 4, 2) := by decide +kernel
theorem dd_L_law_446 : decode bb_L_law 446 = .ok (.iconst 2, 1) := by decide +kernel
theorem dd_L_law_447 : decode bb_L_law 447 = .ok (.iadd, 1) := by decide +kernel
theorem dd_L_law_448 : decode bb_L_law 448 = .ok (.iaload, 1) := by decide +kernel
theorem dd_L_law_449 : decode bb_L_law 449 = .ok (.aload_n 0, 1) := by decide +kernel
theorem dd_L_law_450 : decode bb_L_law 450 = .ok (.iload 4, 2) := by decide +kernel
theorem dd_L_law_452 : decode bb_L_law 452 = .ok (.iconst 3, 1) := by decide +kernel
theorem dd_L_law_453 : decode bb_L_law 453 = .ok (.iadd, 1) := by decide +kernel
theorem dd_L_law_454 : decode bb_L_law 454 = .ok (.iaload, 1) := by decide +kernel
theorem dd_L_law_455 : decode bb_L_law 455 = .ok (.invokevirtual 110, 3) := by decide +kernel
theorem dd_L_law_458 : decode bb_L_law 458 = .ok (.istore 6, 2) := by decide +kernel
theorem dd_L_law_460 : decode bb_L_law 460 = .ok (.aload_n 2, 1) := by decide +kernel
theorem dd_L_law_461 : decode bb_L_law 461 = .ok (.invokevirtual 90, 3) := by decide +kernel
theorem dd_L_law_464 : decode bb_L_law 464 = .ok (.iload 5, 2) := by decide +kernel
theorem dd_L_law_466 : decode bb_L_law 466 = .ok (.if_icmp .eq 5, 3) := by decide +kernel
theorem dd_L_law_469 : decode bb_L_law 469 = .ok (.iconst 0, 1) := by decide +kernel
theorem dd_L_law_470 : decode bb_L_law 470 = .ok (.ireturn, 1) := by decide +kernel
theorem dd_L_law_471 : decode bb_L_law 471 = .ok (.iload 5, 2) := by decide +kernel
theorem dd_L_law_473 : decode bb_L_law 473 = .ok (.ifCond .ne 15, 3) := by decide +kernel
theorem dd_L_law_476 : decode bb_L_law 476 = .ok (.aload_n 3, 1) := by decide +kernel
theorem dd_L_law_477 : decode bb_L_law 477 = .ok (.iconst 0, 1) := by decide +kernel
theorem dd_L_law_478 : decode bb_L_law 478 = .ok (.laload, 1) := by decide +kernel
theorem dd_L_law_479 : decode bb_L_law 479 = .ok (.iload 6, 2) := by decide +kernel
theorem dd_L_law_481 : decode bb_L_law 481 = .ok (.i2l, 1) := by decide +kernel
theorem dd_L_law_482 : decode bb_L_law 482 = .ok (.lcmp, 1) := by decide +kernel
theorem dd_L_law_483 : decode bb_L_law 483 = .ok (.ifCond .eq 5, 3) := by decide +kernel
theorem dd_L_law_486 : decode bb_L_law 486 = .ok (.iconst 0, 1) := by decide +kernel
theorem dd_L_law_487 : decode bb_L_law 487 = .ok (.ireturn, 1) := by decide +kernel
theorem dd_L_law_488 : decode bb_L_law 488 = .ok (.goto 966, 3) := by decide +kernel
theorem dd_L_law_491 : decode bb_L_law 491 = .ok (.aload_n 1, 1) := by decide +kernel
theorem dd_L_law_492 : decode bb_L_law 492 = .ok (.aload_n 0, 1) := by decide +kernel
theorem dd_L_law_493 : decode bb_L_law 493 = .ok (.iload 4, 2) := by decide +kernel
theorem dd_L_law_495 : decode bb_L_law 495 = .ok (.iconst 1, 1) := by decide +kernel
theorem dd_L_law_496 : decode bb_L_law 496 = .ok (.iadd, 1) := by decide +kernel
theorem dd_L_law_497 : decode bb_L_law 497 = .ok (.iaload, 1) := by decide +kernel
theorem dd_L_law_498 : decode bb_L_law 498 = .ok (.aload_n 3, 1) := by decide +kernel
theorem dd_L_law_499 : decode bb_L_law 499 = .ok (.invokestatic 111, 3) := by decide +kernel
theorem dd_L_law_502 : decode bb_L_law 502 = .ok (.istore 5, 2) := by decide +kernel
theorem dd_L_law_504 : decode bb_L_law 504 = .ok (.aload_n 2, 1) := by decide +kernel
theorem dd_L_law_505 : decode bb_L_law 505 = .ok (.aload_n 0, 1) := by decide +kernel
theorem dd_L_law_506 : decode bb_L_law 506 = .ok (.iload 4, 2) := by decide +kernel
theorem dd_L_law_508 : decode bb_L_law 508 = .ok (.iconst 1, 1) := by decide +kernel
theorem dd_L_law_509 : decode bb_L_law 509 = .ok (.iadd, 1) := by decide +kernel
theorem dd_L_law_510 : decode bb_L_law 510 = .ok (.iaload, 1) := by decide +kernel
theorem dd_L_law_511 : decode bb_L_law 511 = .ok (.invokevirtual 114, 3) := by decide +kernel
theorem dd_L_law_514 : decode bb_L_law 514 = .ok (.istore 6, 2) := by decide +kernel
theorem dd_L_law_516 : decode bb_L_law 516 = .ok (.aload_n 2, 1) := by decide +kernel
theorem dd_L_law_517 : decode bb_L_law 517 = .ok (.invokevirtual 90, 3) := by decide +kernel
theorem dd_L_law_520 : decode bb_L_law 520 = .ok (.iload 5, 2) := by decide +kernel
theorem dd_L_law_522 : decode bb_L_law 522 = .ok (.if_icmp .eq 5, 3) := by decide +kernel
theorem dd_L_law_525 : decode bb_L_law 525 = .ok (.iconst 0, 1) := by decide +kernel
theorem dd_L_law_526 : decode bb_L_law 526 = .ok (.ireturn, 1) := by decide +kernel
theorem dd_L_law_527 : decode bb_L_law 527 = .ok (.iload 5, 2) := by decide +kernel
theorem dd_L_law_529 : decode bb_L_law 529 = .ok (.ifCond .ne 15, 3) := by decide +kernel
theorem dd_L_law_532 : decode bb_L_law 532 = .ok (.aload_n 3, 1) := by decide +kernel
theorem dd_L_law_533 : decode bb_L_law 533 = .ok (.iconst 0, 1) := by decide +kernel
theorem dd_L_law_534 : decode bb_L_law 534 = .ok (.laload, 1) := by decide +kernel
theorem dd_L_law_535 : decode bb_L_law 535 = .ok (.iload 6, 2) := by decide +kernel
theorem dd_L_law_537 : decode bb_L_law 537 = .ok (.i2l, 1) := by decide +kernel
theorem dd_L_law_538 : decode bb_L_law 538 = .ok (.lcmp, 1) := by decide +kernel
theorem dd_L_law_539 : decode bb_L_law 539 = .ok (.ifCond .eq 5, 3) := by decide +kernel
theorem dd_L_law_542 : decode bb_L_law 542 = .ok (.iconst 0, 1) := by decide +kernel
theorem dd_L_law_543 : decode bb_L_law 543 = .ok (.ireturn, 1) := by decide +kernel
theorem dd_L_law_544 : decode bb_L_law 544 = .ok (.goto 910, 3) := by decide +kernel
theorem dd_L_law_547 : decode bb_L_law 547 = .ok (.aload_n 1, 1) := by decide +kernel
theorem dd_L_law_548 : decode bb_L_law 548 = .ok (.aload_n 0, 1) := by decide +kernel
theorem dd_L_law_549 : decode bb_L_law 549 = .ok (.iload 4, 2) := by decide +kernel
theorem dd_L_law_551 : decode bb_L_law 551 = .ok (.iconst 1, 1) := by decide +kernel
theorem dd_L_law_552 : decode bb_L_law 552 = .ok (.iadd, 1) := by decide +kernel
theorem dd_L_law_553 : decode bb_L_law 553 = .ok (.iaload, 1) := by decide +kernel
theorem dd_L_law_554 : decode bb_L_law 554 = .ok (.aload_n 0, 1) := by decide +kernel
theorem dd_L_law_555 : decode bb_L_law 555 = .ok (.iload 4, 2) := by decide +kernel
theorem dd_L_law_557 : decode bb_L_law 557 = .ok (.iconst 2, 1) := by decide +kernel
theorem dd_L_law_558 : decode bb_L_law 558 = .ok (.iadd, 1) := by decide +kernel
theorem dd_L_law_559 : decode bb_L_law 559 = .ok (.iaload, 1) := by decide +kernel
theorem dd_L_law_560 : decode bb_L_law 560 = .ok (.invokestatic 115, 3) := by decide +kernel
theorem dd_L_law_563 : decode bb_L_law 563 = .ok (.istore 5, 2) := by decide +kernel
theorem dd_L_law_565 : decode bb_L_law 565 = .ok (.aload_n 2, 1) := by decide +kernel
theorem dd_L_law_566 : decode bb_L_law 566 = .ok (.aload_n 0, 1) := by decide +kernel
theorem dd_L_law_567 : decode bb_L_law 567 = .ok (.iload 4, 2) := by decide +kernel
theorem dd_L_law_569 : decode bb_L_law 569 = .ok (.iconst 1, 1) := by decide +kernel
theorem dd_L_law_570 : decode bb_L_law 570 = .ok (.iadd, 1) := by decide +kernel
theorem dd_L_law_571 : decode bb_L_law 571 = .ok (.iaload, 1) := by decide +kernel
theorem dd_L_law_572 : decode bb_L_law 572 = .ok (.aload_n 0, 1) := by decide +kernel
theorem dd_L_law_573 : decode bb_L_law 573 = .ok (.iload 4, 2) := by decide +kernel
theorem dd_L_law_575 : decode bb_L_law 575 = .ok (.iconst 2, 1) := by decide +kernel
theorem dd_L_law_576 : decode bb_L_law 576 = .ok (.iadd, 1) := by decide +kernel
theorem dd_L_law_577 : decode bb_L_law 577 = .ok (.iaload, 1) := by decide +kernel
theorem dd_L_law_578 : decode bb_L_law 578 = .ok (.invokevirtual 117, 3) := by decide +kernel
theorem dd_L_law_581 : decode bb_L_law 581 = .ok (.aload_n 2, 1) := by decide +kernel
theorem dd_L_law_582 : decode bb_L_law 582 = .ok (.invokevirtual 90, 3) := by decide +kernel
theorem dd_L_law_585 : decode bb_L_law 585 = .ok (.iload 5, 2) := by decide +kernel
theorem dd_L_law_587 : decode bb_L_law 587 = .ok (.if_icmp .eq 5, 3) := by decide +kernel
theorem dd_L_law_590 : decode bb_L_law 590 = .ok (.iconst 0, 1) := by decide +kernel
theorem dd_L_law_591 : decode bb_L_law 591 = .ok (.ireturn, 1) := by decide +kernel
theorem dd_L_law_592 : decode bb_L_law 592 = .ok (.goto 862, 3) := by decide +kernel
theorem dd_L_law_595 : decode bb_L_law 595 = .ok (.aload_n 1, 1) := by decide +kernel
theorem dd_L_law_596 : decode bb_L_law 596 = .ok (.aload_n 0, 1) := by decide +kernel
theorem dd_L_law_597 : decode bb_L_law 597 = .ok (.iload 4, 2) := by decide +kernel
theorem dd_L_law_599 : decode bb_L_law 599 = .ok (.iconst 1, 1) := by decide +kernel
theorem dd_L_law_600 : decode bb_L_law 600 = .ok (.iadd, 1) := by decide +kernel
theorem dd_L_law_601 : decode bb_L_law 601 = .ok (.iaload, 1) := by decide +kernel
theorem dd_L_law_602 : decode bb_L_law 602 = .ok (.aload_n 0, 1) := by decide +kernel
theorem dd_L_law_603 : decode bb_L_law 603 = .ok (.iload 4, 2) := by decide +kernel
theorem dd_L_law_605 : decode bb_L_law 605 = .ok (.iconst 2, 1) := by decide +kernel
theorem dd_L_law_606 : decode bb_L_law 606 = .ok (.iadd, 1) := by decide +kernel
theorem dd_L_law_607 : decode bb_L_law 607 = .ok (.iaload, 1) := by decide +kernel
theorem dd_L_law_608 : decode bb_L_law 608 = .ok (.aload_n 0, 1) := by decide +kernel
theorem dd_L_law_609 : decode bb_L_law 609 = .ok (.iload 4, 2) := by decide +kernel
theorem dd_L_law_611 : decode bb_L_law 611 = .ok (.iconst 3, 1) := by decide +kernel
theorem dd_L_law_612 : decode bb_L_law 612 = .ok (.iadd, 1) := by decide +kernel
theorem dd_L_law_613 : decode bb_L_law 613 = .ok (.iaload, 1) := by decide +kernel
theorem dd_L_law_614 : decode bb_L_law 614 = .ok (.invokestatic 118, 3) := by decide +kernel
theorem dd_L_law_617 : decode bb_L_law 617 = .ok (.istore 5, 2) := by decide +kernel
theorem dd_L_law_619 : decode bb_L_law 619 = .ok (.aload_n 2, 1) := by decide +kernel
theorem dd_L_law_620 : decode bb_L_law 620 = .ok (.aload_n 0, 1) := by decide +kernel
theorem dd_L_law_621 : decode bb_L_law 621 = .ok (.iload 4, 2) := by decide +kernel
theorem dd_L_law_623 : decode bb_L_law 623 = .ok (.iconst 1, 1) := by decide +kernel
theorem dd_L_law_624 : decode bb_L_law 624 = .ok (.iadd, 1) := by decide +kernel
theorem dd_L_law_625 : decode bb_L_law 625 = .ok (.iaload, 1) := by decide +kernel
theorem dd_L_law_626 : decode bb_L_law 626 = .ok (.aload_n 0, 1) := by decide +kernel
theorem dd_L_law_627 : decode bb_L_law 627 = .ok (.iload 4, 2) := by decide +kernel
theorem dd_L_law_629 : decode bb_L_law 629 = .ok (.iconst 2, 1) := by decide +kernel
theorem dd_L_law_630 : decode bb_L_law 630 = .ok (.iadd, 1) := by decide +kernel
theorem dd_L_law_631 : decode bb_L_law 631 = .ok (.iaload, 1) := by decide +kernel
theorem dd_L_law_632 : decode bb_L_law 632 = .ok (.aload_n 0, 1) := by decide +kernel
theorem dd_L_law_633 : decode bb_L_law 633 = .ok (.iload 4, 2) := by decide +kernel
theorem dd_L_law_635 : decode bb_L_law 635 = .ok (.iconst 3, 1) := by decide +kernel
theorem dd_L_law_636 : decode bb_L_law 636 = .ok (.iadd, 1) := by decide +kernel
theorem dd_L_law_637 : decode bb_L_law 637 = .ok (.iaload, 1) := by decide +kernel
theorem dd_L_law_638 : decode bb_L_law 638 = .ok (.invokevirtual 121, 3) := by decide +kernel
theorem dd_L_law_641 : decode bb_L_law 641 = .ok (.aload_n 2, 1) := by decide +kernel
theorem dd_L_law_642 : decode bb_L_law 642 = .ok (.invokevirtual 90, 3) := by decide +kernel
theorem dd_L_law_645 : decode bb_L_law 645 = .ok (.iload 5, 2) := by decide +kernel
theorem dd_L_law_647 : decode bb_L_law 647 = .ok (.if_icmp .eq 5, 3) := by decide +kernel
theorem dd_L_law_650 : decode bb_L_law 650 = .ok (.iconst 0, 1) := by decide +kernel
theorem dd_L_law_651 : decode bb_L_law 651 = .ok (.ireturn, 1) := by decide +kernel
theorem dd_L_law_652 : decode bb_L_law 652 = .ok (.goto 802, 3) := by decide +kernel
theorem dd_L_law_655 : decode bb_L_law 655 = .ok (.aload_n 1, 1) := by decide +kernel
theorem dd_L_law_656 : decode bb_L_law 656 = .ok (.aload_n 0, 1) := by decide +kernel
theorem dd_L_law_657 : decode bb_L_law 657 = .ok (.iload 4, 2) := by decide +kernel
theorem dd_L_law_659 : decode bb_L_law 659 = .ok (.iconst 1, 1) := by decide +kernel
theorem dd_L_law_660 : decode bb_L_law 660 = .ok (.iadd, 1) := by decide +kernel
theorem dd_L_law_661 : decode bb_L_law 661 = .ok (.iaload, 1) := by decide +kernel
theorem dd_L_law_662 : decode bb_L_law 662 = .ok (.aload_n 0, 1) := by decide +kernel
theorem dd_L_law_663 : decode bb_L_law 663 = .ok (.iload 4, 2) := by decide +kernel
theorem dd_L_law_665 : decode bb_L_law 665 = .ok (.iconst 2, 1) := by decide +kernel
theorem dd_L_law_666 : decode bb_L_law 666 = .ok (.iadd, 1) := by decide +kernel
theorem dd_L_law_667 : decode bb_L_law 667 = .ok (.iaload, 1) := by decide +kernel
theorem dd_L_law_668 : decode bb_L_law 668 = .ok (.aload_n 0, 1) := by decide +kernel
theorem dd_L_law_669 : decode bb_L_law 669 = .ok (.iload 4, 2) := by decide +kernel
theorem dd_L_law_671 : decode bb_L_law 671 = .ok (.iconst 3, 1) := by decide +kernel
theorem dd_L_law_672 : decode bb_L_law 672 = .ok (.iadd, 1) := by decide +kernel
theorem dd_L_law_673 : decode bb_L_law 673 = .ok (.iaload, 1) := by decide +kernel
theorem dd_L_law_674 : decode bb_L_law 674 = .ok (.ifCond .eq 7, 3) := by decide +kernel
theorem dd_L_law_677 : decode bb_L_law 677 = .ok (.iconst 1, 1) := by decide +kernel
theorem dd_L_law_678 : decode bb_L_law 678 = .ok (.goto 4, 3) := by decide +kernel
theorem dd_L_law_681 : decode bb_L_law 681 = .ok (.iconst 0, 1) := by decide +kernel
theorem dd_L_law_682 : decode bb_L_law 682 = .ok (.invokestatic 122, 3) := by decide +kernel
theorem dd_L_law_685 : decode bb_L_law 685 = .ok (.istore 5, 2) := by decide +kernel
theorem dd_L_law_687 : decode bb_L_law 687 = .ok (.aload_n 2, 1) := by decide +kernel
theorem dd_L_law_688 : decode bb_L_law 688 = .ok (.aload_n 0, 1) := by decide +kernel
theorem dd_L_law_689 : decode bb_L_law 689 = .ok (.iload 4, 2) := by decide +kernel
theorem dd_L_law_691 : decode bb_L_law 691 = .ok (.iconst 1, 1) := by decide +kernel
theorem dd_L_law_692 : decode bb_L_law 692 = .ok (.iadd, 1) := by decide +kernel
theorem dd_L_law_693 : decode bb_L_law 693 = .ok (.iaload, 1) := by decide +kernel
theorem dd_L_law_694 : decode bb_L_law 694 = .ok (.aload_n 0, 1) := by decide +kernel
theorem dd_L_law_695 : decode bb_L_law 695 = .ok (.iload 4, 2) := by decide +kernel
theorem dd_L_law_697 : decode bb_L_law 697 = .ok (.iconst 2, 1) := by decide +kernel
theorem dd_L_law_698 : decode bb_L_law 698 = .ok (.iadd, 1) := by decide +kernel
theorem dd_L_law_699 : decode bb_L_law 699 = .ok (.iaload, 1) := by decide +kernel
theorem dd_L_law_700 : decode bb_L_law 700 = .ok (.aload_n 0, 1) := by decide +kernel
theorem dd_L_law_701 : decode bb_L_law 701 = .ok (.iload 4, 2) := by decide +kernel
theorem dd_L_law_703 : decode bb_L_law 703 = .ok (.iconst 3, 1) := by decide +kernel
theorem dd_L_law_704 : decode bb_L_law 704 = .ok (.iadd, 1) := by decide +kernel
theorem dd_L_law_705 : decode bb_L_law 705 = .ok (.iaload, 1) := by decide +kernel
theorem dd_L_law_706 : decode bb_L_law 706 = .ok (.ifCond .eq 7, 3) := by decide +kernel
theorem dd_L_law_709 : decode bb_L_law 709 = .ok (.iconst 1, 1) := by decide +kernel
theorem dd_L_law_710 : decode bb_L_law 710 = .ok (.goto 4, 3) := by decide +kernel
theorem dd_L_law_713 : decode bb_L_law 713 = .ok (.iconst 0, 1) := by decide +kernel
theorem dd_L_law_714 : decode bb_L_law 714 = .ok (.invokevirtual 125, 3) := by decide +kernel
theorem dd_L_law_717 : decode bb_L_law 717 = .ok (.aload_n 2, 1) := by decide +kernel
theorem dd_L_law_718 : decode bb_L_law 718 = .ok (.invokevirtual 90, 3) := by decide +kernel
theorem dd_L_law_721 : decode bb_L_law 721 = .ok (.iload 5, 2) := by decide +kernel
theorem dd_L_law_723 : decode bb_L_law 723 = .ok (.if_icmp .eq 5, 3) := by decide +kernel
theorem dd_L_law_726 : decode bb_L_law 726 = .ok (.iconst 0, 1) := by decide +kernel
theorem dd_L_law_727 : decode bb_L_law 727 = .ok (.ireturn, 1) := by decide +kernel
theorem dd_L_law_728 : decode bb_L_law 728 = .ok (.goto 726, 3) := by decide +kernel
theorem dd_L_law_731 : decode bb_L_law 731 = .ok (.aload_n 1, 1) := by decide +kernel
theorem dd_L_law_732 : decode bb_L_law 732 = .ok (.aload_n 0, 1) := by decide +kernel
theorem dd_L_law_733 : decode bb_L_law 733 = .ok (.iload 4, 2) := by decide +kernel
theorem dd_L_law_735 : decode bb_L_law 735 = .ok (.iconst 1, 1) := by decide +kernel
theorem dd_L_law_736 : decode bb_L_law 736 = .ok (.iadd, 1) := by decide +kernel
theorem dd_L_law_737 : decode bb_L_law 737 = .ok (.iaload, 1) := by decide +kernel
theorem dd_L_law_738 : decode bb_L_law 738 = .ok (.aload_n 0, 1) := by decide +kernel
theorem dd_L_law_739 : decode bb_L_law 739 = .ok (.iload 4, 2) := by decide +kernel
theorem dd_L_law_741 : decode bb_L_law 741 = .ok (.iconst 2, 1) := by decide +kernel
theorem dd_L_law_742 : decode bb_L_law 742 = .ok (.iadd, 1) := by decide +kernel
theorem dd_L_law_743 : decode bb_L_law 743 = .ok (.iaload, 1) := by decide +kernel
theorem dd_L_law_744 : decode bb_L_law 744 = .ok (.aload_n 3, 1) := by decide +kernel
theorem dd_L_law_745 : decode bb_L_law 745 = .ok (.invokestatic 126, 3) := by decide +kernel
theorem dd_L_law_748 : decode bb_L_law 748 = .ok (.istore 5, 2) := by decide +kernel
theorem dd_L_law_750 : decode bb_L_law 750 = .ok (.aload_n 2, 1) := by decide +kernel
theorem dd_L_law_751 : decode bb_L_law 751 = .ok (.aload_n 0, 1) := by decide +kernel
theorem dd_L_law_752 : decode bb_L_law 752 = .ok (.iload 4, 2) := by decide +kernel
theorem dd_L_law_754 : decode bb_L_law 754 = .ok (.iconst 1, 1) := by decide +kernel
theorem dd_L_law_755 : decode bb_L_law 755 = .ok (.iadd, 1) := by decide +kernel
theorem dd_L_law_756 : decode bb_L_law 756 = .ok (.iaload, 1) := by decide +kernel
theorem dd_L_law_757 : decode bb_L_law 757 = .ok (.aload_n 0, 1) := by decide +kernel
theorem dd_L_law_758 : decode bb_L_law 758 = .ok (.iload 4, 2) := by decide +kernel
theorem dd_L_law_760 : decode bb_L_law 760 = .ok (.iconst 2, 1) := by decide +kernel
theorem dd_L_law_761 : decode bb_L_law 761 = .ok (.iadd, 1) := by decide +kernel
theorem dd_L_law_762 : decode bb_L_law 762 = .ok (.iaload, 1) := by decide +kernel
theorem dd_L_law_763 : decode bb_L_law 763 = .ok (.invokevirtual 129, 3) := by decide +kernel
theorem dd_L_law_766 : decode bb_L_law 766 = .ok (.istore 6, 2) := by decide +kernel
theorem dd_L_law_768 : decode bb_L_law 768 = .ok (.aload_n 2, 1) := by decide +kernel
theorem dd_L_law_769 : decode bb_L_law 769 = .ok (.invokevirtual 90, 3) := by decide +kernel
theorem dd_L_law_772 : decode bb_L_law 772 = .ok (.iload 5, 2) := by decide +kernel
theorem dd_L_law_774 : decode bb_L_law 774 = .ok (.if_icmp .eq 5, 3) := by decide +kernel
theorem dd_L_law_777 : decode bb_L_law 777 = .ok (.iconst 0, 1) := by decide +kernel
theorem dd_L_law_778 : decode bb_L_law 778 = .ok (.ireturn, 1) := by decide +kernel
theorem dd_L_law_779 : decode bb_L_law 779 = .ok (.iload 5, 2) := by decide +kernel
theorem dd_L_law_781 : decode bb_L_law 781 = .ok (.ifCond .ne 22, 3) := by decide +kernel
theorem dd_L_law_784 : decode bb_L_law 784 = .ok (.aload_n 3, 1) := by decide +kernel
theorem dd_L_law_785 : decode bb_L_law 785 = .ok (.iconst 0, 1) := by decide +kernel
theorem dd_L_law_786 : decode bb_L_law 786 = .ok (.laload, 1) := by decide +kernel
theorem dd_L_law_787 : decode bb_L_law 787 = .ok (.iload 6, 2) := by decide +kernel
theorem dd_L_law_789 : decode bb_L_law 789 = .ok (.ifCond .eq 7, 3) := by decide +kernel
theorem dd_L_law_792 : decode bb_L_law 792 = .ok (.lconst 1, 1) := by decide +kernel
theorem dd_L_law_793 : decode bb_L_law 793 = .ok (.goto 4, 3) := by decide +kernel
theorem dd_L_law_796 : decode bb_L_law 796 = .ok (.lconst 0, 1) := by decide +kernel
theorem dd_L_law_797 : decode bb_L_law 797 = .ok (.lcmp, 1) := by decide +kernel
theorem dd_L_law_798 : decode bb_L_law 798 = .ok (.ifCond .eq 5, 3) := by decide +kernel
theorem dd_L_law_801 : decode bb_L_law 801 = .ok (.iconst 0, 1) := by decide +kernel
theorem dd_L_law_802 : decode bb_L_law 802 = .ok (.ireturn, 1) := by decide +kernel
theorem dd_L_law_803 : decode bb_L_law 803 = .ok (.goto 651, 3) := by decide +kernel
theorem dd_L_law_806 : decode bb_L_law 806 = .ok (.aload_n 1, 1) := by decide +kernel
theorem dd_L_law_807 : decode bb_L_law 807 = .ok (.aload_n 0, 1) := by decide +kernel
theorem dd_L_law_808 : decode bb_L_law 808 = .ok (.iload 4, 2) := by decide +kernel
theorem dd_L_law_810 : decode bb_L_law 810 = .ok (.iconst 1, 1) := by decide +kernel
theorem dd_L_law_811 : decode bb_L_law 811 = .ok (.iadd, 1) := by decide +kernel
theorem dd_L_law_812 : decode bb_L_law 812 = .ok (.iaload, 1) := by decide +kernel
theorem dd_L_law_813 : decode bb_L_law 813 = .ok (.aload_n 0, 1) := by decide +kernel
theorem dd_L_law_814 : decode bb_L_law 814 = .ok (.iload 4, 2) := by decide +kernel
theorem dd_L_law_816 : decode bb_L_law 816 = .ok (.iconst 2, 1) := by decide +kernel
theorem dd_L_law_817 : decode bb_L_law 817 = .ok (.iadd, 1) := by decide +kernel
theorem dd_L_law_818 : decode bb_L_law 818 = .ok (.iaload, 1) := by decide +kernel
theorem dd_L_law_819 : decode bb_L_law 819 = .ok (.aload_n 0, 1) := by decide +kernel
theorem dd_L_law_820 : decode bb_L_law 820 = .ok (.iload 4, 2) := by decide +kernel
theorem dd_L_law_822 : decode bb_L_law 822 = .ok (.iconst 3, 1) := by decide +kernel
theorem dd_L_law_823 : decode bb_L_law 823 = .ok (.iadd, 1) := by decide +kernel
theorem dd_L_law_824 : decode bb_L_law 824 = .ok (.iaload, 1) := by decide +kernel
theorem dd_L_law_825 : decode bb_L_law 825 = .ok (.aload_n 0, 1) := by decide +kernel
theorem dd_L_law_826 : decode bb_L_law 826 = .ok (.iload 4, 2) := by decide +kernel
theorem dd_L_law_828 : decode bb_L_law 828 = .ok (.iconst 4, 1) := by decide +kernel
theorem dd_L_law_829 : decode bb_L_law 829 = .ok (.iadd, 1) := by decide +kernel
theorem dd_L_law_830 : decode bb_L_law 830 = .ok (.iaload, 1) := by decide +kernel
theorem dd_L_law_831 : decode bb_L_law 831 = .ok (.aload_n 3, 1) := by decide +kernel
theorem dd_L_law_832 : decode bb_L_law 832 = .ok (.invokestatic 130, 3) := by decide +kernel
theorem dd_L_law_835 : decode bb_L_law 835 = .ok (.istore 5, 2) := by decide +kernel
theorem dd_L_law_837 : decode bb_L_law 837 = .ok (.aload_n 2, 1) := by decide +kernel
theorem dd_L_law_838 : decode bb_L_law 838 = .ok (.aload_n 0, 1) := by decide +kernel
theorem dd_L_law_839 : decode bb_L_law 839 = .ok (.iload 4, 2) := by decide +kernel
theorem dd_L_law_841 : decode bb_L_law 841 = .ok (.iconst 1, 1) := by decide +kernel
theorem dd_L_law_842 : decode bb_L_law 842 = .ok (.iadd, 1) := by decide +kernel
theorem dd_L_law_843 : decode bb_L_law 843 = .ok (.iaload, 1) := by decide +kernel
theorem dd_L_law_844 : decode bb_L_law 844 = .ok (.aload_n 0, 1) := by decide +kernel
theorem dd_L_law_845 : decode bb_L_law 845 = .ok (.iload 4, 2) := by decide +kernel
theorem dd_L_law_847 : decode bb_L_law 847 = .ok (.iconst 2, 1) := by decide +kernel
theorem dd_L_law_848 : decode bb_L_law 848 = .ok (.iadd, 1) := by decide +kernel
theorem dd_L_law_849 : decode bb_L_law 849 = .ok (.iaload, 1) := by decide +kernel
theorem dd_L_law_850 : decode bb_L_law 850 = .ok (.aload_n 0, 1) := by decide +kernel
theorem dd_L_law_851 : decode bb_L_law 851 = .ok (.iload 4, 2) := by decide +kernel
theorem dd_L_law_853 : decode bb_L_law 853 = .ok (.iconst 3, 1) := by decide +kernel
theorem dd_L_law_854 : decode bb_L_law 854 = .ok (.iadd, 1) := by decide +kernel
theorem dd_L_law_855 : decode bb_L_law 855 = .ok (.iaload, 1) := by decide +kernel
theorem dd_L_law_856 : decode bb_L_law 856 = .ok (.aload_n 0, 1) := by decide +kernel
theorem dd_L_law_857 : decode bb_L_law 857 = .ok (.iload 4, 2) := by decide +kernel
theorem dd_L_law_859 : decode bb_L_law 859 = .ok (.iconst 4, 1) := by decide +kernel
theorem dd_L_law_860 : decode bb_L_law 860 = .ok (.iadd, 1) := by decide +kernel
theorem dd_L_law_861 : decode bb_L_law 861 = .ok (.iaload, 1) := by decide +kernel
theorem dd_L_law_862 : decode bb_L_law 862 = .ok (.invokevirtual 132, 3) := by decide +kernel
theorem dd_L_law_865 : decode bb_L_law 865 = .ok (.istore 6, 2) := by decide +kernel
theorem dd_L_law_867 : decode bb_L_law 867 = .ok (.aload_n 2, 1) := by decide +kernel
theorem dd_L_law_868 : decode bb_L_law 868 = .ok (.invokevirtual 90, 3) := by decide +kernel
theorem dd_L_law_871 : decode bb_L_law 871 = .ok (.iload 5, 2) := by decide +kernel
theorem dd_L_law_873 : decode bb_L_law 873 = .ok (.if_icmp .eq 5, 3) := by decide +kernel
theorem dd_L_law_876 : decode bb_L_law 876 = .ok (.iconst 0, 1) := by decide +kernel
theorem dd_L_law_877 : decode bb_L_law 877 = .ok (.ireturn, 1) := by decide +kernel
theorem dd_L_law_878 : decode bb_L_law 878 = .ok (.iload 5, 2) := by decide +kernel
theorem dd_L_law_880 : decode bb_L_law 880 = .ok (.ifCond .ne 15, 3) := by decide +kernel
theorem dd_L_law_883 : decode bb_L_law 883 = .ok (.aload_n 3, 1) := by decide +kernel
theorem dd_L_law_884 : decode bb_L_law 884 = .ok (.iconst 0, 1) := by decide +kernel
theorem dd_L_law_885 : decode bb_L_law 885 = .ok (.laload, 1) := by decide +kernel
theorem dd_L_law_886 : decode bb_L_law 886 = .ok (.iload 6, 2) := by decide +kernel
theorem dd_L_law_888 : decode bb_L_law 888 = .ok (.i2l, 1) := by decide +kernel
theorem dd_L_law_889 : decode bb_L_law 889 = .ok (.lcmp, 1) := by decide +kernel
theorem dd_L_law_890 : decode bb_L_law 890 = .ok (.ifCond .eq 5, 3) := by decide +kernel
theorem dd_L_law_893 : decode bb_L_law 893 = .ok (.iconst 0, 1) := by decide +kernel
theorem dd_L_law_894 : decode bb_L_law 894 = .ok (.ireturn, 1) := by decide +kernel
theorem dd_L_law_895 : decode bb_L_law 895 = .ok (.goto 559, 3) := by decide +kernel
theorem dd_L_law_898 : decode bb_L_law 898 = .ok (.aload_n 1, 1) := by decide +kernel
theorem dd_L_law_899 : decode bb_L_law 899 = .ok (.aload_n 0, 1) := by decide +kernel
theorem dd_L_law_900 : decode bb_L_law 900 = .ok (.iload 4, 2) := by decide +kernel
theorem dd_L_law_902 : decode bb_L_law 902 = .ok (.iconst 1, 1) := by decide +kernel
theorem dd_L_law_903 : decode bb_L_law 903 = .ok (.iadd, 1) := by decide +kernel
theorem dd_L_law_904 : decode bb_L_law 904 = .ok (.iaload, 1) := by decide +kernel
theorem dd_L_law_905 : decode bb_L_law 905 = .ok (.aload_n 0, 1) := by decide +kernel
theorem dd_L_law_906 : decode bb_L_law 906 = .ok (.iload 4, 2) := by decide +kernel
theorem dd_L_law_908 : decode bb_L_law 908 = .ok (.iconst 2, 1) := by decide +kernel
theorem dd_L_law_909 : decode bb_L_law 909 = .ok (.iadd, 1) := by decide +kernel
theorem dd_L_law_910 : decode bb_L_law 910 = .ok (.iaload, 1) := by decide +kernel
theorem dd_L_law_911 : decode bb_L_law 911 = .ok (.aload_n 0, 1) := by decide +kernel
theorem dd_L_law_912 : decode bb_L_law 912 = .ok (.iload 4, 2) := by decide +kernel
theorem dd_L_law_914 : decode bb_L_law 914 = .ok (.iconst 3, 1) := by decide +kernel
theorem dd_L_law_915 : decode bb_L_law 915 = .ok (.iadd, 1) := by decide +kernel
theorem dd_L_law_916 : decode bb_L_law 916 = .ok (.iaload, 1) := by decide +kernel
theorem dd_L_law_917 : decode bb_L_law 917 = .ok (.aload_n 3, 1) := by decide +kernel
theorem dd_L_law_918 : decode bb_L_law 918 = .ok (.invokestatic 133, 3) := by decide +kernel
theorem dd_L_law_921 : decode bb_L_law 921 = .ok (.istore 5, 2) := by decide +kernel
theorem dd_L_law_923 : decode bb_L_law 923 = .ok (.aload_n 2, 1) := by decide +kernel
theorem dd_L_law_924 : decode bb_L_law 924 = .ok (.aload_n 0, 1) := by decide +kernel
theorem dd_L_law_925 : decode bb_L_law 925 = .ok (.iload 4, 2) := by decide +kernel
theorem dd_L_law_927 : decode bb_L_law 927 = .ok (.iconst 1, 1) := by decide +kernel
theorem dd_L_law_928 : decode bb_L_law 928 = .ok (.iadd, 1) := by decide +kernel
theorem dd_L_law_929 : decode bb_L_law 929 = .ok (.iaload, 1) := by decide +kernel
theorem dd_L_law_930 : decode bb_L_law 930 = .ok (.aload_n 0, 1) := by decide +kernel
theorem dd_L_law_931 : decode bb_L_law 931 = .ok (.iload 4, 2) := by decide +kernel
theorem dd_L_law_933 : decode bb_L_law 933 = .ok (.iconst 2, 1) := by decide +kernel
theorem dd_L_law_934 : decode bb_L_law 934 = .ok (.iadd, 1) := by decide +kernel
theorem dd_L_law_935 : decode bb_L_law 935 = .ok (.iaload, 1) := by decide +kernel
theorem dd_L_law_936 : decode bb_L_law 936 = .ok (.aload_n 0, 1) := by decide +kernel
theorem dd_L_law_937 : decode bb_L_law 937 = .ok (.iload 4, 2) := by decide +kernel
theorem dd_L_law_939 : decode bb_L_law 939 = .ok (.iconst 3, 1) := by decide +kernel
theorem dd_L_law_940 : decode bb_L_law 940 = .ok (.iadd, 1) := by decide +kernel
theorem dd_L_law_941 : decode bb_L_law 941 = .ok (.iaload, 1) := by decide +kernel
theorem dd_L_law_942 : decode bb_L_law 942 = .ok (.invokevirtual 135, 3) := by decide +kernel
theorem dd_L_law_945 : decode bb_L_law 945 = .ok (.istore 6, 2) := by decide +kernel
theorem dd_L_law_947 : decode bb_L_law 947 = .ok (.aload_n 2, 1) := by decide +kernel
theorem dd_L_law_948 : decode bb_L_law 948 = .ok (.invokevirtual 90, 3) := by decide +kernel
theorem dd_L_law_951 : decode bb_L_law 951 = .ok (.iload 5, 2) := by decide +kernel
theorem dd_L_law_953 : decode bb_L_law 953 = .ok (.if_icmp .eq 5, 3) := by decide +kernel
theorem dd_L_law_956 : decode bb_L_law 956 = .ok (.iconst 0, 1) := by decide +kernel
theorem dd_L_law_957 : decode bb_L_law 957 = .ok (.ireturn, 1) := by decide +kernel
theorem dd_L_law_958 : decode bb_L_law 958 = .ok (.iload 5, 2) := by decide +kernel
theorem dd_L_law_960 : decode bb_L_law 960 = .ok (.ifCond .ne 15, 3) := by decide +kernel
theorem dd_L_law_963 : decode bb_L_law 963 = .ok (.aload_n 3, 1) := by decide +kernel
theorem dd_L_law_964 : decode bb_L_law 964 = .ok (.iconst 0, 1) := by decide +kernel
theorem dd_L_law_965 : decode bb_L_law 965 = .ok (.laload, 1) := by decide +kernel
theorem dd_L_law_966 : decode bb_L_law 966 = .ok (.iload 6, 2) := by decide +kernel
theorem dd_L_law_968 : decode bb_L_law 968 = .ok (.i2l, 1) := by decide +kernel
theorem dd_L_law_969 : decode bb_L_law 969 = .ok (.lcmp, 1) := by decide +kernel
theorem dd_L_law_970 : decode bb_L_law 970 = .ok (.ifCond .eq 5, 3) := by decide +kernel
theorem dd_L_law_973 : decode bb_L_law 973 = .ok (.iconst 0, 1) := by decide +kernel
theorem dd_L_law_974 : decode bb_L_law 974 = .ok (.ireturn, 1) := by decide +kernel
theorem dd_L_law_975 : decode bb_L_law 975 = .ok (.goto 479, 3) := by decide +kernel
theorem dd_L_law_978 : decode bb_L_law 978 = .ok (.aload_n 1, 1) := by decide +kernel
theorem dd_L_law_979 : decode bb_L_law 979 = .ok (.aload_n 0, 1) := by decide +kernel
theorem dd_L_law_980 : decode bb_L_law 980 = .ok (.iload 4, 2) := by decide +kernel
theorem dd_L_law_982 : decode bb_L_law 982 = .ok (.iconst 1, 1) := by decide +kernel
theorem dd_L_law_983 : decode bb_L_law 983 = .ok (.iadd, 1) := by decide +kernel
theorem dd_L_law_984 : decode bb_L_law 984 = .ok (.iaload, 1) := by decide +kernel
theorem dd_L_law_985 : decode bb_L_law 985 = .ok (.aload_n 0, 1) := by decide +kernel
theorem dd_L_law_986 : decode bb_L_law 986 = .ok (.iload 4, 2) := by decide +kernel
theorem dd_L_law_988 : decode bb_L_law 988 = .ok (.iconst 2, 1) := by decide +kernel
theorem dd_L_law_989 : decode bb_L_law 989 = .ok (.iadd, 1) := by decide +kernel
theorem dd_L_law_990 : decode bb_L_law 990 = .ok (.iaload, 1) := by decide +kernel
theorem dd_L_law_991 : decode bb_L_law 991 = .ok (.aload_n 0, 1) := by decide +kernel
theorem dd_L_law_992 : decode bb_L_law 992 = .ok (.iload 4, 2) := by decide +kernel
theorem dd_L_law_994 : decode bb_L_law 994 = .ok (.iconst 3, 1) := by decide +kernel
theorem dd_L_law_995 : decode bb_L_law 995 = .ok (.iadd, 1) := by decide +kernel
theorem dd_L_law_996 : decode bb_L_law 996 = .ok (.iaload, 1) := by decide +kernel
theorem dd_L_law_997 : decode bb_L_law 997 = .ok (.aload_n 0, 1) := by decide +kernel
theorem dd_L_law_998 : decode bb_L_law 998 = .ok (.iload 4, 2) := by decide +kernel
theorem dd_L_law_1000 : decode bb_L_law 1000 = .ok (.iconst 4, 1) := by decide +kernel
theorem dd_L_law_1001 : decode bb_L_law 1001 = .ok (.iadd, 1) := by decide +kernel
theorem dd_L_law_1002 : decode bb_L_law 1002 = .ok (.iaload, 1) := by decide +kernel
theorem dd_L_law_1003 : decode bb_L_law 1003 = .ok (.aload_n 0, 1) := by decide +kernel
theorem dd_L_law_1004 : decode bb_L_law 1004 = .ok (.iload 4, 2) := by decide +kernel
theorem dd_L_law_1006 : decode bb_L_law 1006 = .ok (.iconst 5, 1) := by decide +kernel
theorem dd_L_law_1007 : decode bb_L_law 1007 = .ok (.iadd, 1) := by decide +kernel
theorem dd_L_law_1008 : decode bb_L_law 1008 = .ok (.iaload, 1) := by decide +kernel
theorem dd_L_law_1009 : decode bb_L_law 1009 = .ok (.aload_n 3, 1) := by decide +kernel
theorem dd_L_law_1010 : decode bb_L_law 1010 = .ok (.invokestatic 136, 3) := by decide +kernel
theorem dd_L_law_1013 : decode bb_L_law 1013 = .ok (.istore 5, 2) := by decide +kernel
theorem dd_L_law_1015 : decode bb_L_law 1015 = .ok (.aload_n 2, 1) := by decide +kernel
theorem dd_L_law_1016 : decode bb_L_law 1016 = .ok (.aload_n 0, 1) := by decide +kernel
theorem dd_L_law_1017 : decode bb_L_law 1017 = .ok (.iload 4, 2) := by decide +kernel
theorem dd_L_law_1019 : decode bb_L_law 1019 = .ok (.iconst 1, 1) := by decide +kernel
theorem dd_L_law_1020 : decode bb_L_law 1020 = .ok (.iadd, 1) := by decide +kernel
theorem dd_L_law_1021 : decode bb_L_law 1021 = .ok (.iaload, 1) := by decide +kernel
theorem dd_L_law_1022 : decode bb_L_law 1022 = .ok (.aload_n 0, 1) := by decide +kernel
theorem dd_L_law_1023 : decode bb_L_law 1023 = .ok (.iload 4, 2) := by decide +kernel
theorem dd_L_law_1025 : decode bb_L_law 1025 = .ok (.iconst 2, 1) := by decide +kernel
theorem dd_L_law_1026 : decode bb_L_law 1026 = .ok (.iadd, 1) := by decide +kernel
theorem dd_L_law_1027 : decode bb_L_law 1027 = .ok (.iaload, 1) := by decide +kernel
theorem dd_L_law_1028 : decode bb_L_law 1028 = .ok (.aload_n 0, 1) := by decide +kernel
theorem dd_L_law_1029 : decode bb_L_law 1029 = .ok (.iload 4, 2) := by decide +kernel
theorem dd_L_law_1031 : decode bb_L_law 1031 = .ok (.iconst 3, 1) := by decide +kernel
theorem dd_L_law_1032 : decode bb_L_law 1032 = .ok (.iadd, 1) := by decide +kernel
theorem dd_L_law_1033 : decode bb_L_law 1033 = .ok (.iaload, 1) := by decide +kernel
theorem dd_L_law_1034 : decode bb_L_law 1034 = .ok (.aload_n 0, 1) := by decide +kernel
theorem dd_L_law_1035 : decode bb_L_law 1035 = .ok (.iload 4, 2) := by decide +kernel
theorem dd_L_law_1037 : decode bb_L_law 1037 = .ok (.iconst 4, 1) := by decide +kernel
theorem dd_L_law_1038 : decode bb_L_law 1038 = .ok (.iadd, 1) := by decide +kernel
theorem dd_L_law_1039 : decode bb_L_law 1039 = .ok (.iaload, 1) := by decide +kernel
theorem dd_L_law_1040 : decode bb_L_law 1040 = .ok (.aload_n 0, 1) := by decide +kernel
theorem dd_L_law_1041 : decode bb_L_law 1041 = .ok (.iload 4, 2) := by decide +kernel
theorem dd_L_law_1043 : decode bb_L_law 1043 = .ok (.iconst 5, 1) := by decide +kernel
theorem dd_L_law_1044 : decode bb_L_law 1044 = .ok (.iadd, 1) := by decide +kernel
theorem dd_L_law_1045 : decode bb_L_law 1045 = .ok (.iaload, 1) := by decide +kernel
theorem dd_L_law_1046 : decode bb_L_law 1046 = .ok (.invokevirtual 138, 3) := by decide +kernel
theorem dd_L_law_1049 : decode bb_L_law 1049 = .ok (.istore 6, 2) := by decide +kernel
theorem dd_L_law_1051 : decode bb_L_law 1051 = .ok (.aload_n 2, 1) := by decide +kernel
theorem dd_L_law_1052 : decode bb_L_law 1052 = .ok (.invokevirtual 90, 3) := by decide +kernel
theorem dd_L_law_1055 : decode bb_L_law 1055 = .ok (.iload 5, 2) := by decide +kernel
theorem dd_L_law_1057 : decode bb_L_law 1057 = .ok (.if_icmp .eq 5, 3) := by decide +kernel
theorem dd_L_law_1060 : decode bb_L_law 1060 = .ok (.iconst 0, 1) := by decide +kernel
theorem dd_L_law_1061 : decode bb_L_law 1061 = .ok (.ireturn, 1) := by decide +kernel
theorem dd_L_law_1062 : decode bb_L_law 1062 = .ok (.iload 5, 2) := by decide +kernel
theorem dd_L_law_1064 : decode bb_L_law 1064 = .ok (.ifCond .ne 15, 3) := by decide +kernel
theorem dd_L_law_1067 : decode bb_L_law 1067 = .ok (.aload_n 3, 1) := by decide +kernel
theorem dd_L_law_1068 : decode bb_L_law 1068 = .ok (.iconst 0, 1) := by decide +kernel
theorem dd_L_law_1069 : decode bb_L_law 1069 = .ok (.laload, 1) := by decide +kernel
theorem dd_L_law_1070 : decode bb_L_law 1070 = .ok (.iload 6, 2) := by decide +kernel
theorem dd_L_law_1072 : decode bb_L_law 1072 = .ok (.i2l, 1) := by decide +kernel
theorem dd_L_law_1073 : decode bb_L_law 1073 = .ok (.lcmp, 1) := by decide +kernel
theorem dd_L_law_1074 : decode bb_L_law 1074 = .ok (.ifCond .eq 5, 3) := by decide +kernel
theorem dd_L_law_1077 : decode bb_L_law 1077 = .ok (.iconst 0, 1) := by decide +kernel
theorem dd_L_law_1078 : decode bb_L_law 1078 = .ok (.ireturn, 1) := by decide +kernel
theorem dd_L_law_1079 : decode bb_L_law 1079 = .ok (.goto 375, 3) := by decide +kernel
theorem dd_L_law_1082 : decode bb_L_law 1082 = .ok (.aload_n 1, 1) := by decide +kernel
theorem dd_L_law_1083 : decode bb_L_law 1083 = .ok (.aload_n 0, 1) := by decide +kernel
theorem dd_L_law_1084 : decode bb_L_law 1084 = .ok (.iload 4, 2) := by decide +kernel
theorem dd_L_law_1086 : decode bb_L_law 1086 = .ok (.iconst 1, 1) := by decide +kernel
theorem dd_L_law_1087 : decode bb_L_law 1087 = .ok (.iadd, 1) := by decide +kernel
theorem dd_L_law_1088 : decode bb_L_law 1088 = .ok (.iaload, 1) := by decide +kernel
theorem dd_L_law_1089 : decode bb_L_law 1089 = .ok (.i2l, 1) := by decide +kernel
theorem dd_L_law_1090 : decode bb_L_law 1090 = .ok (.bipush 32, 2) := by decide +kernel
theorem dd_L_law_1092 : decode bb_L_law 1092 = .ok (.lshl, 1) := by decide +kernel
theorem dd_L_law_1093 : decode bb_L_law 1093 = .ok (.aload_n 0, 1) := by decide +kernel
theorem dd_L_law_1094 : decode bb_L_law 1094 = .ok (.iload 4, 2) := by decide +kernel
theorem dd_L_law_1096 : decode bb_L_law 1096 = .ok (.iconst 2, 1) := by decide +kernel
theorem dd_L_law_1097 : decode bb_L_law 1097 = .ok (.iadd, 1) := by decide +kernel
theorem dd_L_law_1098 : decode bb_L_law 1098 = .ok (.iaload, 1) := by decide +kernel
theorem dd_L_law_1099 : decode bb_L_law 1099 = .ok (.i2l, 1) := by decide +kernel
theorem dd_L_law_1100 : decode bb_L_law 1100 = .ok (.ldc2_w 139, 3) := by decide +kernel
theorem dd_L_law_1103 : decode bb_L_law 1103 = .ok (.land, 1) := by decide +kernel
theorem dd_L_law_1104 : decode bb_L_law 1104 = .ok (.lor, 1) := by decide +kernel
theorem dd_L_law_1105 : decode bb_L_law 1105 = .ok (.aload_n 0, 1) := by decide +kernel
theorem dd_L_law_1106 : decode bb_L_law 1106 = .ok (.iload 4, 2) := by decide +kernel
theorem dd_L_law_1108 : decode bb_L_law 1108 = .ok (.iconst 3, 1) := by decide +kernel
theorem dd_L_law_1109 : decode bb_L_law 1109 = .ok (.iadd, 1) := by decide +kernel
theorem dd_L_law_1110 : decode bb_L_law 1110 = .ok (.iaload, 1) := by decide +kernel
theorem dd_L_law_1111 : decode bb_L_law 1111 = .ok (.aload_n 3, 1) := by decide +kernel
theorem dd_L_law_1112 : decode bb_L_law 1112 = .ok (.invokestatic 141, 3) := by decide +kernel
theorem dd_L_law_1115 : decode bb_L_law 1115 = .ok (.istore 5, 2) := by decide +kernel
theorem dd_L_law_1117 : decode bb_L_law 1117 = .ok (.aload_n 2, 1) := by decide +kernel
theorem dd_L_law_1118 : decode bb_L_law 1118 = .ok (.aload_n 0, 1) := by decide +kernel
theorem dd_L_law_1119 : decode bb_L_law 1119 = .ok (.iload 4, 2) := by decide +kernel
theorem dd_L_law_1121 : decode bb_L_law 1121 = .ok (.iconst 1, 1) := by decide +kernel
theorem dd_L_law_1122 : decode bb_L_law 1122 = .ok (.iadd, 1) := by decide +kernel
theorem dd_L_law_1123 : decode bb_L_law 1123 = .ok (.iaload, 1) := by decide +kernel
theorem dd_L_law_1124 : decode bb_L_law 1124 = .ok (.i2l, 1) := by decide +kernel
theorem dd_L_law_1125 : decode bb_L_law 1125 = .ok (.bipush 32, 2) := by decide +kernel
theorem dd_L_law_1127 : decode bb_L_law 1127 = .ok (.lshl, 1) := by decide +kernel
theorem dd_L_law_1128 : decode bb_L_law 1128 = .ok (.aload_n 0, 1) := by decide +kernel
theorem dd_L_law_1129 : decode bb_L_law 1129 = .ok (.iload 4, 2) := by decide +kernel
theorem dd_L_law_1131 : decode bb_L_law 1131 = .ok (.iconst 2, 1) := by decide +kernel
theorem dd_L_law_1132 : decode bb_L_law 1132 = .ok (.iadd, 1) := by decide +kernel
theorem dd_L_law_1133 : decode bb_L_law 1133 = .ok (.iaload, 1) := by decide +kernel
theorem dd_L_law_1134 : decode bb_L_law 1134 = .ok (.i2l, 1) := by decide +kernel
theorem dd_L_law_1135 : decode bb_L_law 1135 = .ok (.ldc2_w 139, 3) := by decide +kernel
theorem dd_L_law_1138 : decode bb_L_law 1138 = .ok (.land, 1) := by decide +kernel
theorem dd_L_law_1139 : decode bb_L_law 1139 = .ok (.lor, 1) := by decide +kernel
theorem dd_L_law_1140 : decode bb_L_law 1140 = .ok (.aload_n 0, 1) := by decide +kernel
theorem dd_L_law_1141 : decode bb_L_law 1141 = .ok (.iload 4, 2) := by decide +kernel
theorem dd_L_law_1143 : decode bb_L_law 1143 = .ok (.iconst 3, 1) := by decide +kernel
theorem dd_L_law_1144 : decode bb_L_law 1144 = .ok (.iadd, 1) := by decide +kernel
theorem dd_L_law_1145 : decode bb_L_law 1145 = .ok (.iaload, 1) := by decide +kernel
theorem dd_L_law_1146 : decode bb_L_law 1146 = .ok (.invokevirtual 144, 3) := by decide +kernel
theorem dd_L_law_1149 : decode bb_L_law 1149 = .ok (.istore 6, 2) := by decide +kernel
theorem dd_L_law_1151 : decode bb_L_law 1151 = .ok (.aload_n 2, 1) := by decide +kernel
theorem dd_L_law_1152 : decode bb_L_law 1152 = .ok (.invokevirtual 90, 3) := by decide +kernel
theorem dd_L_law_1155 : decode bb_L_law 1155 = .ok (.iload 5, 2) := by decide +kernel
theorem dd_L_law_1157 : decode bb_L_law 1157 = .ok (.if_icmp .eq 5, 3) := by decide +kernel
theorem dd_L_law_1160 : decode bb_L_law 1160 = .ok (.iconst 0, 1) := by decide +kernel
theorem dd_L_law_1161 : decode bb_L_law 1161 = .ok (.ireturn, 1) := by decide +kernel
theorem dd_L_law_1162 : decode bb_L_law 1162 = .ok (.iload 5, 2) := by decide +kernel
theorem dd_L_law_1164 : decode bb_L_law 1164 = .ok (.ifCond .ne 15, 3) := by decide +kernel
theorem dd_L_law_1167 : decode bb_L_law 1167 = .ok (.aload_n 3, 1) := by decide +kernel
theorem dd_L_law_1168 : decode bb_L_law 1168 = .ok (.iconst 0, 1) := by decide +kernel
theorem dd_L_law_1169 : decode bb_L_law 1169 = .ok (.laload, 1) := by decide +kernel
theorem dd_L_law_1170 : decode bb_L_law 1170 = .ok (.iload 6, 2) := by decide +kernel
theorem dd_L_law_1172 : decode bb_L_law 1172 = .ok (.i2l, 1) := by decide +kernel
theorem dd_L_law_1173 : decode bb_L_law 1173 = .ok (.lcmp, 1) := by decide +kernel
theorem dd_L_law_1174 : decode bb_L_law 1174 = .ok (.ifCond .eq 5, 3) := by decide +kernel
theorem dd_L_law_1177 : decode bb_L_law 1177 = .ok (.iconst 0, 1) := by decide +kernel
theorem dd_L_law_1178 : decode bb_L_law 1178 = .ok (.ireturn, 1) := by decide +kernel
theorem dd_L_law_1179 : decode bb_L_law 1179 = .ok (.goto 275, 3) := by decide +kernel
theorem dd_L_law_1182 : decode bb_L_law 1182 = .ok (.aload_n 1, 1) := by decide +kernel
theorem dd_L_law_1183 : decode bb_L_law 1183 = .ok (.aload_n 0, 1) := by decide +kernel
theorem dd_L_law_1184 : decode bb_L_law 1184 = .ok (.iload 4, 2) := by decide +kernel
theorem dd_L_law_1186 : decode bb_L_law 1186 = .ok (.iconst 1, 1) := by decide +kernel
theorem dd_L_law_1187 : decode bb_L_law 1187 = .ok (.iadd, 1) := by decide +kernel
theorem dd_L_law_1188 : decode bb_L_law 1188 = .ok (.iaload, 1) := by decide +kernel
theorem dd_L_law_1189 : decode bb_L_law 1189 = .ok (.aload_n 3, 1) := by decide +kernel
theorem dd_L_law_1190 : decode bb_L_law 1190 = .ok (.invokestatic 145, 3) := by decide +kernel
theorem dd_L_law_1193 : decode bb_L_law 1193 = .ok (.istore 5, 2) := by decide +kernel
theorem dd_L_law_1195 : decode bb_L_law 1195 = .ok (.aload_n 2, 1) := by decide +kernel
theorem dd_L_law_1196 : decode bb_L_law 1196 = .ok (.aload_n 0, 1) := by decide +kernel
theorem dd_L_law_1197 : decode bb_L_law 1197 = .ok (.iload 4, 2) := by decide +kernel
theorem dd_L_law_1199 : decode bb_L_law 1199 = .ok (.iconst 1, 1) := by decide +kernel
theorem dd_L_law_1200 : decode bb_L_law 1200 = .ok (.iadd, 1) := by decide +kernel
theorem dd_L_law_1201 : decode bb_L_law 1201 = .ok (.iaload, 1) := by decide +kernel
theorem dd_L_law_1202 : decode bb_L_law 1202 = .ok (.invokevirtual 147, 3) := by decide +kernel
theorem dd_L_law_1205 : decode bb_L_law 1205 = .ok (.istore 6, 2) := by decide +kernel
theorem dd_L_law_1207 : decode bb_L_law 1207 = .ok (.aload_n 2, 1) := by decide +kernel
theorem dd_L_law_1208 : decode bb_L_law 1208 = .ok (.invokevirtual 90, 3) := by decide +kernel
theorem dd_L_law_1211 : decode bb_L_law 1211 = .ok (.iload 5, 2) := by decide +kernel
theorem dd_L_law_1213 : decode bb_L_law 1213 = .ok (.if_icmp .eq 5, 3) := by decide +kernel
theorem dd_L_law_1216 : decode bb_L_law 1216 = .ok (.iconst 0, 1) := by decide +kernel
theorem dd_L_law_1217 : decode bb_L_law 1217 = .ok (.ireturn, 1) := by decide +kernel
theorem dd_L_law_1218 : decode bb_L_law 1218 = .ok (.iload 5, 2) := by decide +kernel
theorem dd_L_law_1220 : decode bb_L_law 1220 = .ok (.ifCond .ne 15, 3) := by decide +kernel
theorem dd_L_law_1223 : decode bb_L_law 1223 = .ok (.aload_n 3, 1) := by decide +kernel
theorem dd_L_law_1224 : decode bb_L_law 1224 = .ok (.iconst 0, 1) := by decide +kernel
theorem dd_L_law_1225 : decode bb_L_law 1225 = .ok (.laload, 1) := by decide +kernel
theorem dd_L_law_1226 : decode bb_L_law 1226 = .ok (.iload 6, 2) := by decide +kernel
theorem dd_L_law_1228 : decode bb_L_law 1228 = .ok (.i2l, 1) := by decide +kernel
theorem dd_L_law_1229 : decode bb_L_law 1229 = .ok (.lcmp, 1) := by decide +kernel
theorem dd_L_law_1230 : decode bb_L_law 1230 = .ok (.ifCond .eq 5, 3) := by decide +kernel
theorem dd_L_law_1233 : decode bb_L_law 1233 = .ok (.iconst 0, 1) := by decide +kernel
theorem dd_L_law_1234 : decode bb_L_law 1234 = .ok (.ireturn, 1) := by decide +kernel
theorem dd_L_law_1235 : decode bb_L_law 1235 = .ok (.goto 219, 3) := by decide +kernel
theorem dd_L_law_1238 : decode bb_L_law 1238 = .ok (.aload_n 1, 1) := by decide +kernel
theorem dd_L_law_1239 : decode bb_L_law 1239 = .ok (.aload_n 0, 1) := by decide +kernel
theorem dd_L_law_1240 : decode bb_L_law 1240 = .ok (.iload 4, 2) := by decide +kernel
theorem dd_L_law_1242 : decode bb_L_law 1242 = .ok (.iconst 1, 1) := by decide +kernel
theorem dd_L_law_1243 : decode bb_L_law 1243 = .ok (.iadd, 1) := by decide +kernel
theorem dd_L_law_1244 : decode bb_L_law 1244 = .ok (.iaload, 1) := by decide +kernel
theorem dd_L_law_1245 : decode bb_L_law 1245 = .ok (.aload_n 0, 1) := by decide +kernel
theorem dd_L_law_1246 : decode bb_L_law 1246 = .ok (.iload 4, 2) := by decide +kernel
theorem dd_L_law_1248 : decode bb_L_law 1248 = .ok (.iconst 2, 1) := by decide +kernel
theorem dd_L_law_1249 : decode bb_L_law 1249 = .ok (.iadd, 1) := by decide +kernel
theorem dd_L_law_1250 : decode bb_L_law 1250 = .ok (.iaload, 1) := by decide +kernel
theorem dd_L_law_1251 : decode bb_L_law 1251 = .ok (.aload_n 0, 1) := by decide +kernel
theorem dd_L_law_1252 : decode bb_L_law 1252 = .ok (.iload 4, 2) := by decide +kernel
theorem dd_L_law_1254 : decode bb_L_law 1254 = .ok (.iconst 3, 1) := by decide +kernel
theorem dd_L_law_1255 : decode bb_L_law 1255 = .ok (.iadd, 1) := by decide +kernel
theorem dd_L_law_1256 : decode bb_L_law 1256 = .ok (.iaload, 1) := by decide +kernel
theorem dd_L_law_1257 : decode bb_L_law 1257 = .ok (.aload_n 3, 1) := by decide +kernel
theorem dd_L_law_1258 : decode bb_L_law 1258 = .ok (.invokestatic 148, 3) := by decide +kernel
theorem dd_L_law_1261 : decode bb_L_law 1261 = .ok (.istore 5, 2) := by decide +kernel
theorem dd_L_law_1263 : decode bb_L_law 1263 = .ok (.aload_n 2, 1) := by decide +kernel
theorem dd_L_law_1264 : decode bb_L_law 1264 = .ok (.aload_n 0, 1) := by decide +kernel
theorem dd_L_law_1265 : decode bb_L_law 1265 = .ok (.iload 4, 2) := by decide +kernel
theorem dd_L_law_1267 : decode bb_L_law 1267 = .ok (.iconst 1, 1) := by decide +kernel
theorem dd_L_law_1268 : decode bb_L_law 1268 = .ok (.iadd, 1) := by decide +kernel
theorem dd_L_law_1269 : decode bb_L_law 1269 = .ok (.iaload, 1) := by decide +kernel
theorem dd_L_law_1270 : decode bb_L_law 1270 = .ok (.aload_n 0, 1) := by decide +kernel
theorem dd_L_law_1271 : decode bb_L_law 1271 = .ok (.iload 4, 2) := by decide +kernel
theorem dd_L_law_1273 : decode bb_L_law 1273 = .ok (.iconst 2, 1) := by decide +kernel
theorem dd_L_law_1274 : decode bb_L_law 1274 = .ok (.iadd, 1) := by decide +kernel
theorem dd_L_law_1275 : decode bb_L_law 1275 = .ok (.iaload, 1) := by decide +kernel
theorem dd_L_law_1276 : decode bb_L_law 1276 = .ok (.aload_n 0, 1) := by decide +kernel
theorem dd_L_law_1277 : decode bb_L_law 1277 = .ok (.iload 4, 2) := by decide +kernel
theorem dd_L_law_1279 : decode bb_L_law 1279 = .ok (.iconst 3, 1) := by decide +kernel
theorem dd_L_law_1280 : decode bb_L_law 1280 = .ok (.iadd, 1) := by decide +kernel
theorem dd_L_law_1281 : decode bb_L_law 1281 = .ok (.iaload, 1) := by decide +kernel
theorem dd_L_law_1282 : decode bb_L_law 1282 = .ok (.invokevirtual 150, 3) := by decide +kernel
theorem dd_L_law_1285 : decode bb_L_law 1285 = .ok (.istore 6, 2) := by decide +kernel
theorem dd_L_law_1287 : decode bb_L_law 1287 = .ok (.aload_n 2, 1) := by decide +kernel
theorem dd_L_law_1288 : decode bb_L_law 1288 = .ok (.invokevirtual 90, 3) := by decide +kernel
theorem dd_L_law_1291 : decode bb_L_law 1291 = .ok (.iload 5, 2) := by decide +kernel
theorem dd_L_law_1293 : decode bb_L_law 1293 = .ok (.if_icmp .eq 5, 3) := by decide +kernel
theorem dd_L_law_1296 : decode bb_L_law 1296 = .ok (.iconst 0, 1) := by decide +kernel
theorem dd_L_law_1297 : decode bb_L_law 1297 = .ok (.ireturn, 1) := by decide +kernel
theorem dd_L_law_1298 : decode bb_L_law 1298 = .ok (.iload 5, 2) := by decide +kernel
theorem dd_L_law_1300 : decode bb_L_law 1300 = .ok (.ifCond .ne 15, 3) := by decide +kernel
theorem dd_L_law_1303 : decode bb_L_law 1303 = .ok (.aload_n 3, 1) := by decide +kernel
theorem dd_L_law_1304 : decode bb_L_law 1304 = .ok (.iconst 0, 1) := by decide +kernel
theorem dd_L_law_1305 : decode bb_L_law 1305 = .ok (.laload, 1) := by decide +kernel
theorem dd_L_law_1306 : decode bb_L_law 1306 = .ok (.iload 6, 2) := by decide +kernel
theorem dd_L_law_1308 : decode bb_L_law 1308 = .ok (.i2l, 1) := by decide +kernel
theorem dd_L_law_1309 : decode bb_L_law 1309 = .ok (.lcmp, 1) := by decide +kernel
theorem dd_L_law_1310 : decode bb_L_law 1310 = .ok (.ifCond .eq 5, 3) := by decide +kernel
theorem dd_L_law_1313 : decode bb_L_law 1313 = .ok (.iconst 0, 1) := by decide +kernel
theorem dd_L_law_1314 : decode bb_L_law 1314 = .ok (.ireturn, 1) := by decide +kernel
theorem dd_L_law_1315 : decode bb_L_law 1315 = .ok (.goto 139, 3) := by decide +kernel
theorem dd_L_law_1318 : decode bb_L_law 1318 = .ok (.aload_n 1, 1) := by decide +kernel
theorem dd_L_law_1319 : decode bb_L_law 1319 = .ok (.aload_n 0, 1) := by decide +kernel
theorem dd_L_law_1320 : decode bb_L_law 1320 = .ok (.iload 4, 2) := by decide +kernel
theorem dd_L_law_1322 : decode bb_L_law 1322 = .ok (.iconst 1, 1) := by decide +kernel
theorem dd_L_law_1323 : decode bb_L_law 1323 = .ok (.iadd, 1) := by decide +kernel
theorem dd_L_law_1324 : decode bb_L_law 1324 = .ok (.iaload, 1) := by decide +kernel
theorem dd_L_law_1325 : decode bb_L_law 1325 = .ok (.aload_n 0, 1) := by decide +kernel
theorem dd_L_law_1326 : decode bb_L_law 1326 = .ok (.iload 4, 2) := by decide +kernel
theorem dd_L_law_1328 : decode bb_L_law 1328 = .ok (.iconst 2, 1) := by decide +kernel
theorem dd_L_law_1329 : decode bb_L_law 1329 = .ok (.iadd, 1) := by decide +kernel
theorem dd_L_law_1330 : decode bb_L_law 1330 = .ok (.iaload, 1) := by decide +kernel
theorem dd_L_law_1331 : decode bb_L_law 1331 = .ok (.aload_n 3, 1) := by decide +kernel
theorem dd_L_law_1332 : decode bb_L_law 1332 = .ok (.invokestatic 151, 3) := by decide +kernel
theorem dd_L_law_1335 : decode bb_L_law 1335 = .ok (.istore 5, 2) := by decide +kernel
theorem dd_L_law_1337 : decode bb_L_law 1337 = .ok (.aload_n 2, 1) := by decide +kernel
theorem dd_L_law_1338 : decode bb_L_law 1338 = .ok (.aload_n 0, 1) := by decide +kernel
theorem dd_L_law_1339 : decode bb_L_law 1339 = .ok (.iload 4, 2) := by decide +kernel
theorem dd_L_law_1341 : decode bb_L_law 1341 = .ok (.iconst 1, 1) := by decide +kernel
theorem dd_L_law_1342 : decode bb_L_law 1342 = .ok (.iadd, 1) := by decide +kernel
theorem dd_L_law_1343 : decode bb_L_law 1343 = .ok (.iaload, 1) := by decide +kernel
theorem dd_L_law_1344 : decode bb_L_law 1344 = .ok (.aload_n 0, 1) := by decide +kernel
theorem dd_L_law_1345 : decode bb_L_law 1345 = .ok (.iload 4, 2) := by decide +kernel
theorem dd_L_law_1347 : decode bb_L_law 1347 = .ok (.iconst 2, 1) := by decide +kernel
theorem dd_L_law_1348 : decode bb_L_law 1348 = .ok (.iadd, 1) := by decide +kernel
theorem dd_L_law_1349 : decode bb_L_law 1349 = .ok (.iaload, 1) := by decide +kernel
theorem dd_L_law_1350 : decode bb_L_law 1350 = .ok (.invokevirtual 153, 3) := by decide +kernel
theorem dd_L_law_1353 : decode bb_L_law 1353 = .ok (.istore 6, 2) := by decide +kernel
theorem dd_L_law_1355 : decode bb_L_law 1355 = .ok (.aload_n 2, 1) := by decide +kernel
theorem dd_L_law_1356 : decode bb_L_law 1356 = .ok (.invokevirtual 90, 3) := by decide +kernel
theorem dd_L_law_1359 : decode bb_L_law 1359 = .ok (.iload 5, 2) := by decide +kernel
theorem dd_L_law_1361 : decode bb_L_law 1361 = .ok (.if_icmp .eq 5, 3) := by decide +kernel
theorem dd_L_law_1364 : decode bb_L_law 1364 = .ok (.iconst 0, 1) := by decide +kernel
theorem dd_L_law_1365 : decode bb_L_law 1365 = .ok (.ireturn, 1) := by decide +kernel
theorem dd_L_law_1366 : decode bb_L_law 1366 = .ok (.iload 5, 2) := by decide +kernel
theorem dd_L_law_1368 : decode bb_L_law 1368 = .ok (.ifCond .ne 15, 3) := by decide +kernel
theorem dd_L_law_1371 : decode bb_L_law 1371 = .ok (.aload_n 3, 1) := by decide +kernel
theorem dd_L_law_1372 : decode bb_L_law 1372 = .ok (.iconst 0, 1) := by decide +kernel
theorem dd_L_law_1373 : decode bb_L_law 1373 = .ok (.laload, 1) := by decide +kernel
theorem dd_L_law_1374 : decode bb_L_law 1374 = .ok (.iload 6, 2) := by decide +kernel
theorem dd_L_law_1376 : decode bb_L_law 1376 = .ok (.i2l, 1) := by decide +kernel
theorem dd_L_law_1377 : decode bb_L_law 1377 = .ok (.lcmp, 1) := by decide +kernel
theorem dd_L_law_1378 : decode bb_L_law 1378 = .ok (.ifCond .eq 5, 3) := by decide +kernel
theorem dd_L_law_1381 : decode bb_L_law 1381 = .ok (.iconst 0, 1) := by decide +kernel
theorem dd_L_law_1382 : decode bb_L_law 1382 = .ok (.ireturn, 1) := by decide +kernel
theorem dd_L_law_1383 : decode bb_L_law 1383 = .ok (.goto 71, 3) := by decide +kernel
theorem dd_L_law_1386 : decode bb_L_law 1386 = .ok (.aload_n 1, 1) := by decide +kernel
theorem dd_L_law_1387 : decode bb_L_law 1387 = .ok (.aload_n 0, 1) := by decide +kernel
theorem dd_L_law_1388 : decode bb_L_law 1388 = .ok (.iload 4, 2) := by decide +kernel
theorem dd_L_law_1390 : decode bb_L_law 1390 = .ok (.iconst 1, 1) := by decide +kernel
theorem dd_L_law_1391 : decode bb_L_law 1391 = .ok (.iadd, 1) := by decide +kernel
theorem dd_L_law_1392 : decode bb_L_law 1392 = .ok (.iaload, 1) := by decide +kernel
theorem dd_L_law_1393 : decode bb_L_law 1393 = .ok (.aload_n 0, 1) := by decide +kernel
theorem dd_L_law_1394 : decode bb_L_law 1394 = .ok (.iload 4, 2) := by decide +kernel
theorem dd_L_law_1396 : decode bb_L_law 1396 = .ok (.iconst 2, 1) := by decide +kernel
theorem dd_L_law_1397 : decode bb_L_law 1397 = .ok (.iadd, 1) := by decide +kernel
theorem dd_L_law_1398 : decode bb_L_law 1398 = .ok (.iaload, 1) := by decide +kernel
theorem dd_L_law_1399 : decode bb_L_law 1399 = .ok (.aload_n 3, 1) := by decide +kernel
theorem dd_L_law_1400 : decode bb_L_law 1400 = .ok (.invokestatic 154, 3) := by decide +kernel
theorem dd_L_law_1403 : decode bb_L_law 1403 = .ok (.istore 5, 2) := by decide +kernel
theorem dd_L_law_1405 : decode bb_L_law 1405 = .ok (.aload_n 2, 1) := by decide +kernel
theorem dd_L_law_1406 : decode bb_L_law 1406 = .ok (.aload_n 0, 1) := by decide +kernel
theorem dd_L_law_1407 : decode bb_L_law 1407 = .ok (.iload 4, 2) := by decide +kernel
theorem dd_L_law_1409 : decode bb_L_law 1409 = .ok (.iconst 1, 1) := by decide +kernel
theorem dd_L_law_1410 : decode bb_L_law 1410 = .ok (.iadd, 1) := by decide +kernel
theorem dd_L_law_1411 : decode bb_L_law 1411 = .ok (.iaload, 1) := by decide +kernel
theorem dd_L_law_1412 : decode bb_L_law 1412 = .ok (.aload_n 0, 1) := by decide +kernel
theorem dd_L_law_1413 : decode bb_L_law 1413 = .ok (.iload 4, 2) := by decide +kernel
theorem dd_L_law_1415 : decode bb_L_law 1415 = .ok (.iconst 2, 1) := by decide +kernel
theorem dd_L_law_1416 : decode bb_L_law 1416 = .ok (.iadd, 1) := by decide +kernel
theorem dd_L_law_1417 : decode bb_L_law 1417 = .ok (.iaload, 1) := by decide +kernel
theorem dd_L_law_1418 : decode bb_L_law 1418 = .ok (.invokevirtual 156, 3) := by decide +kernel
theorem dd_L_law_1421 : decode bb_L_law 1421 = .ok (.istore 6, 2) := by decide +kernel
theorem dd_L_law_1423 : decode bb_L_law 1423 = .ok (.aload_n 2, 1) := by decide +kernel
theorem dd_L_law_1424 : decode bb_L_law 1424 = .ok (.invokevirtual 90, 3) := by decide +kernel
theorem dd_L_law_1427 : decode bb_L_law 1427 = .ok (.iload 5, 2) := by decide +kernel
theorem dd_L_law_1429 : decode bb_L_law 1429 = .ok (.if_icmp .eq 5, 3) := by decide +kernel
theorem dd_L_law_1432 : decode bb_L_law 1432 = .ok (.iconst 0, 1) := by decide +kernel
theorem dd_L_law_1433 : decode bb_L_law 1433 = .ok (.ireturn, 1) := by decide +kernel
theorem dd_L_law_1434 : decode bb_L_law 1434 = .ok (.iload 5, 2) := by decide +kernel
theorem dd_L_law_1436 : decode bb_L_law 1436 = .ok (.ifCond .ne 15, 3) := by decide +kernel
theorem dd_L_law_1439 : decode bb_L_law 1439 = .ok (.aload_n 3, 1) := by decide +kernel
theorem dd_L_law_1440 : decode bb_L_law 1440 = .ok (.iconst 0, 1) := by decide +kernel
theorem dd_L_law_1441 : decode bb_L_law 1441 = .ok (.laload, 1) := by decide +kernel
theorem dd_L_law_1442 : decode bb_L_law 1442 = .ok (.iload 6, 2) := by decide +kernel
theorem dd_L_law_1444 : decode bb_L_law 1444 = .ok (.i2l, 1) := by decide +kernel
theorem dd_L_law_1445 : decode bb_L_law 1445 = .ok (.lcmp, 1) := by decide +kernel
theorem dd_L_law_1446 : decode bb_L_law 1446 = .ok (.ifCond .eq 5, 3) := by decide +kernel
theorem dd_L_law_1449 : decode bb_L_law 1449 = .ok (.iconst 0, 1) := by decide +kernel
theorem dd_L_law_1450 : decode bb_L_law 1450 = .ok (.ireturn, 1) := by decide +kernel
theorem dd_L_law_1451 : decode bb_L_law 1451 = .ok (.goto 3, 3) := by decide +kernel
theorem dd_L_law_1454 : decode bb_L_law 1454 = .ok (.iinc 4 6, 3) := by decide +kernel
theorem dd_L_law_1457 : decode bb_L_law 1457 = .ok (.goto (-1434), 3) := by decide +kernel
theorem dd_L_law_1460 : decode bb_L_law 1460 = .ok (.iconst 1, 1) := by decide +kernel
theorem dd_L_law_1461 : decode bb_L_law 1461 = .ok (.ireturn, 1) := by decide +kernel
