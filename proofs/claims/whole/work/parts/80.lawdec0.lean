theorem d_LW_law_0 : decode code 0 = .ok (.new 8, 3) := by decide +kernel
theorem d_LW_law_3 : decode code 3 = .ok (.dup, 1) := by decide +kernel
theorem d_LW_law_4 : decode code 4 = .ok (.invokespecial 78, 3) := by decide +kernel
theorem d_LW_law_7 : decode code 7 = .ok (.astore_n 1, 1) := by decide +kernel
theorem d_LW_law_8 : decode code 8 = .ok (.new 79, 3) := by decide +kernel
theorem d_LW_law_11 : decode code 11 = .ok (.dup, 1) := by decide +kernel
theorem d_LW_law_12 : decode code 12 = .ok (.invokespecial 81, 3) := by decide +kernel
theorem d_LW_law_15 : decode code 15 = .ok (.astore_n 2, 1) := by decide +kernel
theorem d_LW_law_16 : decode code 16 = .ok (.iconst 1, 1) := by decide +kernel
theorem d_LW_law_17 : decode code 17 = .ok (.newarray .long, 2) := by decide +kernel
theorem d_LW_law_19 : decode code 19 = .ok (.astore_n 3, 1) := by decide +kernel
theorem d_LW_law_20 : decode code 20 = .ok (.iconst 0, 1) := by decide +kernel
theorem d_LW_law_21 : decode code 21 = .ok (.istore 4, 2) := by decide +kernel
theorem d_LW_law_23 : decode code 23 = .ok (.iload 4, 2) := by decide +kernel
theorem d_LW_law_25 : decode code 25 = .ok (.aload_n 0, 1) := by decide +kernel
theorem d_LW_law_26 : decode code 26 = .ok (.arraylength, 1) := by decide +kernel
theorem d_LW_law_27 : decode code 27 = .ok (.bipush 6, 2) := by decide +kernel
theorem d_LW_law_29 : decode code 29 = .ok (.isub, 1) := by decide +kernel
theorem d_LW_law_30 : decode code 30 = .ok (.if_icmp .gt 1460, 3) := by decide +kernel
theorem d_LW_law_33 : decode code 33 = .ok (.aload_n 0, 1) := by decide +kernel
theorem d_LW_law_34 : decode code 34 = .ok (.iload 4, 2) := by decide +kernel
theorem d_LW_law_36 : decode code 36 = .ok (.iaload, 1) := by decide +kernel
theorem d_LW_law_37 : decode code 37 = .ok (.bipush 31, 2) := by decide +kernel
theorem d_LW_law_39 : decode code 39 = .ok (.iand, 1) := by decide +kernel
theorem d_LW_law_40 : decode code 40 = .ok (.tableswitch 1444 0 17 #[88, 156, 248, 316, 407, 470, 574, 654, 729, 797, 853, 933, 1025, 1100, 1168, 1260, 1328, 1388], 88) := by decide +kernel
theorem d_LW_law_128 : decode code 128 = .ok (.aload_n 1, 1) := by decide +kernel
theorem d_LW_law_129 : decode code 129 = .ok (.aload_n 0, 1) := by decide +kernel
theorem d_LW_law_130 : decode code 130 = .ok (.iload 4, 2) := by decide +kernel
theorem d_LW_law_132 : decode code 132 = .ok (.iconst 1, 1) := by decide +kernel
theorem d_LW_law_133 : decode code 133 = .ok (.iadd, 1) := by decide +kernel
theorem d_LW_law_134 : decode code 134 = .ok (.iaload, 1) := by decide +kernel
theorem d_LW_law_135 : decode code 135 = .ok (.aload_n 0, 1) := by decide +kernel
theorem d_LW_law_136 : decode code 136 = .ok (.iload 4, 2) := by decide +kernel
theorem d_LW_law_138 : decode code 138 = .ok (.iconst 2, 1) := by decide +kernel
theorem d_LW_law_139 : decode code 139 = .ok (.iadd, 1) := by decide +kernel
theorem d_LW_law_140 : decode code 140 = .ok (.iaload, 1) := by decide +kernel
theorem d_LW_law_141 : decode code 141 = .ok (.aload_n 3, 1) := by decide +kernel
theorem d_LW_law_142 : decode code 142 = .ok (.invokestatic 82, 3) := by decide +kernel
theorem d_LW_law_145 : decode code 145 = .ok (.istore 5, 2) := by decide +kernel
theorem d_LW_law_147 : decode code 147 = .ok (.aload_n 2, 1) := by decide +kernel
theorem d_LW_law_148 : decode code 148 = .ok (.aload_n 0, 1) := by decide +kernel
theorem d_LW_law_149 : decode code 149 = .ok (.iload 4, 2) := by decide +kernel
theorem d_LW_law_151 : decode code 151 = .ok (.iconst 1, 1) := by decide +kernel
theorem d_LW_law_152 : decode code 152 = .ok (.iadd, 1) := by decide +kernel
theorem d_LW_law_153 : decode code 153 = .ok (.iaload, 1) := by decide +kernel
theorem d_LW_law_154 : decode code 154 = .ok (.aload_n 0, 1) := by decide +kernel
theorem d_LW_law_155 : decode code 155 = .ok (.iload 4, 2) := by decide +kernel
theorem d_LW_law_157 : decode code 157 = .ok (.iconst 2, 1) := by decide +kernel
theorem d_LW_law_158 : decode code 158 = .ok (.iadd, 1) := by decide +kernel
theorem d_LW_law_159 : decode code 159 = .ok (.iaload, 1) := by decide +kernel
theorem d_LW_law_160 : decode code 160 = .ok (.invokevirtual 87, 3) := by decide +kernel
theorem d_LW_law_163 : decode code 163 = .ok (.istore 6, 2) := by decide +kernel
theorem d_LW_law_165 : decode code 165 = .ok (.aload_n 2, 1) := by decide +kernel
theorem d_LW_law_166 : decode code 166 = .ok (.invokevirtual 88, 3) := by decide +kernel
theorem d_LW_law_169 : decode code 169 = .ok (.iload 5, 2) := by decide +kernel
theorem d_LW_law_171 : decode code 171 = .ok (.if_icmp .eq 5, 3) := by decide +kernel
theorem d_LW_law_174 : decode code 174 = .ok (.iconst 0, 1) := by decide +kernel
theorem d_LW_law_175 : decode code 175 = .ok (.ireturn, 1) := by decide +kernel
theorem d_LW_law_176 : decode code 176 = .ok (.iload 5, 2) := by decide +kernel
theorem d_LW_law_178 : decode code 178 = .ok (.ifCond .ne 15, 3) := by decide +kernel
theorem d_LW_law_181 : decode code 181 = .ok (.aload_n 3, 1) := by decide +kernel
theorem d_LW_law_182 : decode code 182 = .ok (.iconst 0, 1) := by decide +kernel
theorem d_LW_law_183 : decode code 183 = .ok (.laload, 1) := by decide +kernel
theorem d_LW_law_184 : decode code 184 = .ok (.iload 6, 2) := by decide +kernel
theorem d_LW_law_186 : decode code 186 = .ok (.i2l, 1) := by decide +kernel
theorem d_LW_law_187 : decode code 187 = .ok (.lcmp, 1) := by decide +kernel
theorem d_LW_law_188 : decode code 188 = .ok (.ifCond .eq 5, 3) := by decide +kernel
theorem d_LW_law_191 : decode code 191 = .ok (.iconst 0, 1) := by decide +kernel
theorem d_LW_law_192 : decode code 192 = .ok (.ireturn, 1) := by decide +kernel
theorem d_LW_law_193 : decode code 193 = .ok (.goto 1291, 3) := by decide +kernel
theorem d_LW_law_196 : decode code 196 = .ok (.aload_n 1, 1) := by decide +kernel
theorem d_LW_law_197 : decode code 197 = .ok (.aload_n 0, 1) := by decide +kernel
theorem d_LW_law_198 : decode code 198 = .ok (.iload 4, 2) := by decide +kernel
theorem d_LW_law_200 : decode code 200 = .ok (.iconst 1, 1) := by decide +kernel
theorem d_LW_law_201 : decode code 201 = .ok (.iadd, 1) := by decide +kernel
theorem d_LW_law_202 : decode code 202 = .ok (.iaload, 1) := by decide +kernel
theorem d_LW_law_203 : decode code 203 = .ok (.aload_n 0, 1) := by decide +kernel
theorem d_LW_law_204 : decode code 204 = .ok (.iload 4, 2) := by decide +kernel
theorem d_LW_law_206 : decode code 206 = .ok (.iconst 2, 1) := by decide +kernel
theorem d_LW_law_207 : decode code 207 = .ok (.iadd, 1) := by decide +kernel
theorem d_LW_law_208 : decode code 208 = .ok (.iaload, 1) := by decide +kernel
theorem d_LW_law_209 : decode code 209 = .ok (.aload_n 0, 1) := by decide +kernel
theorem d_LW_law_210 : decode code 210 = .ok (.iload 4, 2) := by decide +kernel
theorem d_LW_law_212 : decode code 212 = .ok (.iconst 3, 1) := by decide +kernel
theorem d_LW_law_213 : decode code 213 = .ok (.iadd, 1) := by decide +kernel
theorem d_LW_law_214 : decode code 214 = .ok (.iaload, 1) := by decide +kernel
theorem d_LW_law_215 : decode code 215 = .ok (.aload_n 0, 1) := by decide +kernel
theorem d_LW_law_216 : decode code 216 = .ok (.iload 4, 2) := by decide +kernel
theorem d_LW_law_218 : decode code 218 = .ok (.iconst 4, 1) := by decide +kernel
theorem d_LW_law_219 : decode code 219 = .ok (.iadd, 1) := by decide +kernel
theorem d_LW_law_220 : decode code 220 = .ok (.iaload, 1) := by decide +kernel
theorem d_LW_law_221 : decode code 221 = .ok (.aload_n 3, 1) := by decide +kernel
theorem d_LW_law_222 : decode code 222 = .ok (.invokestatic 92, 3) := by decide +kernel
theorem d_LW_law_225 : decode code 225 = .ok (.istore 5, 2) := by decide +kernel
theorem d_LW_law_227 : decode code 227 = .ok (.aload_n 2, 1) := by decide +kernel
theorem d_LW_law_228 : decode code 228 = .ok (.aload_n 0, 1) := by decide +kernel
theorem d_LW_law_229 : decode code 229 = .ok (.iload 4, 2) := by decide +kernel
theorem d_LW_law_231 : decode code 231 = .ok (.iconst 1, 1) := by decide +kernel
theorem d_LW_law_232 : decode code 232 = .ok (.iadd, 1) := by decide +kernel
theorem d_LW_law_233 : decode code 233 = .ok (.iaload, 1) := by decide +kernel
theorem d_LW_law_234 : decode code 234 = .ok (.aload_n 0, 1) := by decide +kernel
theorem d_LW_law_235 : decode code 235 = .ok (.iload 4, 2) := by decide +kernel
theorem d_LW_law_237 : decode code 237 = .ok (.iconst 2, 1) := by decide +kernel
theorem d_LW_law_238 : decode code 238 = .ok (.iadd, 1) := by decide +kernel
theorem d_LW_law_239 : decode code 239 = .ok (.iaload, 1) := by decide +kernel
theorem d_LW_law_240 : decode code 240 = .ok (.aload_n 0, 1) := by decide +kernel
theorem d_LW_law_241 : decode code 241 = .ok (.iload 4, 2) := by decide +kernel
theorem d_LW_law_243 : decode code 243 = .ok (.iconst 3, 1) := by decide +kernel
theorem d_LW_law_244 : decode code 244 = .ok (.iadd, 1) := by decide +kernel
theorem d_LW_law_245 : decode code 245 = .ok (.iaload, 1) := by decide +kernel
theorem d_LW_law_246 : decode code 246 = .ok (.aload_n 0, 1) := by decide +kernel
theorem d_LW_law_247 : decode code 247 = .ok (.iload 4, 2) := by decide +kernel
theorem d_LW_law_249 : decode code 249 = .ok (.iconst 4, 1) := by decide +kernel
theorem d_LW_law_250 : decode code 250 = .ok (.iadd, 1) := by decide +kernel
theorem d_LW_law_251 : decode code 251 = .ok (.iaload, 1) := by decide +kernel
theorem d_LW_law_252 : decode code 252 = .ok (.invokevirtual 95, 3) := by decide +kernel
theorem d_LW_law_255 : decode code 255 = .ok (.istore 6, 2) := by decide +kernel
theorem d_LW_law_257 : decode code 257 = .ok (.aload_n 2, 1) := by decide +kernel
theorem d_LW_law_258 : decode code 258 = .ok (.invokevirtual 88, 3) := by decide +kernel
theorem d_LW_law_261 : decode code 261 = .ok (.iload 5, 2) := by decide +kernel
theorem d_LW_law_263 : decode code 263 = .ok (.if_icmp .eq 5, 3) := by decide +kernel
theorem d_LW_law_266 : decode code 266 = .ok (.iconst 0, 1) := by decide +kernel
theorem d_LW_law_267 : decode code 267 = .ok (.ireturn, 1) := by decide +kernel
theorem d_LW_law_268 : decode code 268 = .ok (.iload 5, 2) := by decide +kernel
theorem d_LW_law_270 : decode code 270 = .ok (.ifCond .ne 15, 3) := by decide +kernel
theorem d_LW_law_273 : decode code 273 = .ok (.aload_n 3, 1) := by decide +kernel
theorem d_LW_law_274 : decode code 274 = .ok (.iconst 0, 1) := by decide +kernel
theorem d_LW_law_275 : decode code 275 = .ok (.laload, 1) := by decide +kernel
theorem d_LW_law_276 : decode code 276 = .ok (.iload 6, 2) := by decide +kernel
theorem d_LW_law_278 : decode code 278 = .ok (.i2l, 1) := by decide +kernel
theorem d_LW_law_279 : decode code 279 = .ok (.lcmp, 1) := by decide +kernel
theorem d_LW_law_280 : decode code 280 = .ok (.ifCond .eq 5, 3) := by decide +kernel
theorem d_LW_law_283 : decode code 283 = .ok (.iconst 0, 1) := by decide +kernel
theorem d_LW_law_284 : decode code 284 = .ok (.ireturn, 1) := by decide +kernel
theorem d_LW_law_285 : decode code 285 = .ok (.goto 1199, 3) := by decide +kernel
theorem d_LW_law_288 : decode code 288 = .ok (.aload_n 1, 1) := by decide +kernel
theorem d_LW_law_289 : decode code 289 = .ok (.aload_n 0, 1) := by decide +kernel
theorem d_LW_law_290 : decode code 290 = .ok (.iload 4, 2) := by decide +kernel
theorem d_LW_law_292 : decode code 292 = .ok (.iconst 1, 1) := by decide +kernel
theorem d_LW_law_293 : decode code 293 = .ok (.iadd, 1) := by decide +kernel
theorem d_LW_law_294 : decode code 294 = .ok (.iaload, 1) := by decide +kernel
theorem d_LW_law_295 : decode code 295 = .ok (.aload_n 0, 1) := by decide +kernel
theorem d_LW_law_296 : decode code 296 = .ok (.iload 4, 2) := by decide +kernel
theorem d_LW_law_298 : decode code 298 = .ok (.iconst 2, 1) := by decide +kernel
theorem d_LW_law_299 : decode code 299 = .ok (.iadd, 1) := by decide +kernel
theorem d_LW_law_300 : decode code 300 = .ok (.iaload, 1) := by decide +kernel
theorem d_LW_law_301 : decode code 301 = .ok (.aload_n 3, 1) := by decide +kernel
theorem d_LW_law_302 : decode code 302 = .ok (.invokestatic 96, 3) := by decide +kernel
theorem d_LW_law_305 : decode code 305 = .ok (.istore 5, 2) := by decide +kernel
theorem d_LW_law_307 : decode code 307 = .ok (.aload_n 2, 1) := by decide +kernel
theorem d_LW_law_308 : decode code 308 = .ok (.aload_n 0, 1) := by decide +kernel
theorem d_LW_law_309 : decode code 309 = .ok (.iload 4, 2) := by decide +kernel
theorem d_LW_law_311 : decode code 311 = .ok (.iconst 1, 1) := by decide +kernel
theorem d_LW_law_312 : decode code 312 = .ok (.iadd, 1) := by decide +kernel
theorem d_LW_law_313 : decode code 313 = .ok (.iaload, 1) := by decide +kernel
theorem d_LW_law_314 : decode code 314 = .ok (.aload_n 0, 1) := by decide +kernel
theorem d_LW_law_315 : decode code 315 = .ok (.iload 4, 2) := by decide +kernel
theorem d_LW_law_317 : decode code 317 = .ok (.iconst 2, 1) := by decide +kernel
theorem d_LW_law_318 : decode code 318 = .ok (.iadd, 1) := by decide +kernel
theorem d_LW_law_319 : decode code 319 = .ok (.iaload, 1) := by decide +kernel
theorem d_LW_law_320 : decode code 320 = .ok (.invokevirtual 98, 3) := by decide +kernel
theorem d_LW_law_323 : decode code 323 = .ok (.istore 6, 2) := by decide +kernel
theorem d_LW_law_325 : decode code 325 = .ok (.aload_n 2, 1) := by decide +kernel
theorem d_LW_law_326 : decode code 326 = .ok (.invokevirtual 88, 3) := by decide +kernel
theorem d_LW_law_329 : decode code 329 = .ok (.iload 5, 2) := by decide +kernel
theorem d_LW_law_331 : decode code 331 = .ok (.if_icmp .eq 5, 3) := by decide +kernel
theorem d_LW_law_334 : decode code 334 = .ok (.iconst 0, 1) := by decide +kernel
theorem d_LW_law_335 : decode code 335 = .ok (.ireturn, 1) := by decide +kernel
theorem d_LW_law_336 : decode code 336 = .ok (.iload 5, 2) := by decide +kernel
theorem d_LW_law_338 : decode code 338 = .ok (.ifCond .ne 15, 3) := by decide +kernel
theorem d_LW_law_341 : decode code 341 = .ok (.aload_n 3, 1) := by decide +kernel
theorem d_LW_law_342 : decode code 342 = .ok (.iconst 0, 1) := by decide +kernel
theorem d_LW_law_343 : decode code 343 = .ok (.laload, 1) := by decide +kernel
theorem d_LW_law_344 : decode code 344 = .ok (.iload 6, 2) := by decide +kernel
theorem d_LW_law_346 : decode code 346 = .ok (.i2l, 1) := by decide +kernel
theorem d_LW_law_347 : decode code 347 = .ok (.lcmp, 1) := by decide +kernel
theorem d_LW_law_348 : decode code 348 = .ok (.ifCond .eq 5, 3) := by decide +kernel
theorem d_LW_law_351 : decode code 351 = .ok (.iconst 0, 1) := by decide +kernel
theorem d_LW_law_352 : decode code 352 = .ok (.ireturn, 1) := by decide +kernel
theorem d_LW_law_353 : decode code 353 = .ok (.goto 1131, 3) := by decide +kernel
theorem d_LW_law_356 : decode code 356 = .ok (.aload_n 1, 1) := by decide +kernel
theorem d_LW_law_357 : decode code 357 = .ok (.aload_n 0, 1) := by decide +kernel
theorem d_LW_law_358 : decode code 358 = .ok (.iload 4, 2) := by decide +kernel
theorem d_LW_law_360 : decode code 360 = .ok (.iconst 1, 1) := by decide +kernel
theorem d_LW_law_361 : decode code 361 = .ok (.iadd, 1) := by decide +kernel
theorem d_LW_law_362 : decode code 362 = .ok (.iaload, 1) := by decide +kernel
theorem d_LW_law_363 : decode code 363 = .ok (.aload_n 0, 1) := by decide +kernel
theorem d_LW_law_364 : decode code 364 = .ok (.iload 4, 2) := by decide +kernel
theorem d_LW_law_366 : decode code 366 = .ok (.iconst 2, 1) := by decide +kernel
theorem d_LW_law_367 : decode code 367 = .ok (.iadd, 1) := by decide +kernel
theorem d_LW_law_368 : decode code 368 = .ok (.iaload, 1) := by decide +kernel
theorem d_LW_law_369 : decode code 369 = .ok (.ifCond .eq 7, 3) := by decide +kernel
theorem d_LW_law_372 : decode code 372 = .ok (.iconst 1, 1) := by decide +kernel
theorem d_LW_law_373 : decode code 373 = .ok (.goto 4, 3) := by decide +kernel
theorem d_LW_law_376 : decode code 376 = .ok (.iconst 0, 1) := by decide +kernel
theorem d_LW_law_377 : decode code 377 = .ok (.aload_n 3, 1) := by decide +kernel
theorem d_LW_law_378 : decode code 378 = .ok (.invokestatic 99, 3) := by decide +kernel
theorem d_LW_law_381 : decode code 381 = .ok (.istore 5, 2) := by decide +kernel
theorem d_LW_law_383 : decode code 383 = .ok (.aload_n 2, 1) := by decide +kernel
theorem d_LW_law_384 : decode code 384 = .ok (.aload_n 0, 1) := by decide +kernel
theorem d_LW_law_385 : decode code 385 = .ok (.iload 4, 2) := by decide +kernel
theorem d_LW_law_387 : decode code 387 = .ok (.iconst 1, 1) := by decide +kernel
theorem d_LW_law_388 : decode code 388 = .ok (.iadd, 1) := by decide +kernel
theorem d_LW_law_389 : decode code 389 = .ok (.iaload, 1) := by decide +kernel
theorem d_LW_law_390 : decode code 390 = .ok (.aload_n 0, 1) := by decide +kernel
theorem d_LW_law_391 : decode code 391 = .ok (.iload 4, 2) := by decide +kernel
theorem d_LW_law_393 : decode code 393 = .ok (.iconst 2, 1) := by decide +kernel
theorem d_LW_law_394 : decode code 394 = .ok (.iadd, 1) := by decide +kernel
theorem d_LW_law_395 : decode code 395 = .ok (.iaload, 1) := by decide +kernel
theorem d_LW_law_396 : decode code 396 = .ok (.ifCond .eq 7, 3) := by decide +kernel
theorem d_LW_law_399 : decode code 399 = .ok (.iconst 1, 1) := by decide +kernel
theorem d_LW_law_400 : decode code 400 = .ok (.goto 4, 3) := by decide +kernel
theorem d_LW_law_403 : decode code 403 = .ok (.iconst 0, 1) := by decide +kernel
theorem d_LW_law_404 : decode code 404 = .ok (.invokevirtual 102, 3) := by decide +kernel
theorem d_LW_law_407 : decode code 407 = .ok (.istore 6, 2) := by decide +kernel
theorem d_LW_law_409 : decode code 409 = .ok (.aload_n 2, 1) := by decide +kernel
theorem d_LW_law_410 : decode code 410 = .ok (.invokevirtual 88, 3) := by decide +kernel
theorem d_LW_law_413 : decode code 413 = .ok (.iload 5, 2) := by decide +kernel
theorem d_LW_law_415 : decode code 415 = .ok (.if_icmp .eq 5, 3) := by decide +kernel
theorem d_LW_law_418 : decode code 418 = .ok (.iconst 0, 1) := by decide +kernel
theorem d_LW_law_419 : decode code 419 = .ok (.ireturn, 1) := by decide +kernel
theorem d_LW_law_420 : decode code 420 = .ok (.iload 5, 2) := by decide +kernel
theorem d_LW_law_422 : decode code 422 = .ok (.ifCond .ne 22, 3) := by decide +kernel
theorem d_LW_law_425 : decode code 425 = .ok (.aload_n 3, 1) := by decide +kernel
theorem d_LW_law_426 : decode code 426 = .ok (.iconst 0, 1) := by decide +kernel
theorem d_LW_law_427 : decode code 427 = .ok (.laload, 1) := by decide +kernel
theorem d_LW_law_428 : decode code 428 = .ok (.iload 6, 2) := by decide +kernel
theorem d_LW_law_430 : decode code 430 = .ok (.ifCond .eq 7, 3) := by decide +kernel
theorem d_LW_law_433 : decode code 433 = .ok (.lconst 1, 1) := by decide +kernel
theorem d_LW_law_434 : decode code 434 = .ok (.goto 4, 3) := by decide +kernel
theorem d_LW_law_437 : decode code 437 = .ok (.lconst 0, 1) := by decide +kernel
theorem d_LW_law_438 : decode code 438 = .ok (.lcmp, 1) := by decide +kernel
theorem d_LW_law_439 : decode code 439 = .ok (.ifCond .eq 5, 3) := by decide +kernel
theorem d_LW_law_442 : decode code 442 = .ok (.iconst 0, 1) := by decide +kernel
theorem d_LW_law_443 : decode code 443 = .ok (.ireturn, 1) := by decide +kernel
theorem d_LW_law_444 : decode code 444 = .ok (.goto 1040, 3) := by decide +kernel
theorem d_LW_law_447 : decode code 447 = .ok (.aload_n 1, 1) := by decide +kernel
theorem d_LW_law_448 : decode code 448 = .ok (.aload_n 0, 1) := by decide +kernel
theorem d_LW_law_449 : decode code 449 = .ok (.iload 4, 2) := by decide +kernel
theorem d_LW_law_451 : decode code 451 = .ok (.iconst 1, 1) := by decide +kernel
