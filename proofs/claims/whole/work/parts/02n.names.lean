theorem dX11_digest_122 : decode cX11_digest 122 = .ok (.iconst 0, 1) := by decide +kernel
theorem dX11_digest_123 : decode cX11_digest 123 = .ok (.istore 4, 2) := by decide +kernel
theorem dX11_digest_125 : decode cX11_digest 125 = .ok (.iload 4, 2) := by decide +kernel
theorem dX11_digest_127 : decode cX11_digest 127 = .ok (.aload_n 0, 1) := by decide +kernel
theorem dX11_digest_128 : decode cX11_digest 128 = .ok (.getfield 82, 3) := by decide +kernel
theorem dX11_digest_131 : decode cX11_digest 131 = .ok (.if_icmp .ge 91, 3) := by decide +kernel
theorem dX11_digest_134 : decode cX11_digest 134 = .ok (.aload_n 0, 1) := by decide +kernel
theorem dX11_digest_135 : decode cX11_digest 135 = .ok (.getfield 85, 3) := by decide +kernel
theorem dX11_digest_138 : decode cX11_digest 138 = .ok (.ifCond .le 16, 3) := by decide +kernel
theorem dX11_digest_141 : decode cX11_digest 141 = .ok (.aload_n 0, 1) := by decide +kernel
theorem dX11_digest_142 : decode cX11_digest 142 = .ok (.iload 4, 2) := by decide +kernel
theorem dX11_digest_144 : decode cX11_digest 144 = .ok (.invokevirtual 216, 3) := by decide +kernel
theorem dX11_digest_147 : decode cX11_digest 147 = .ok (.ifCond .eq 7, 3) := by decide +kernel
theorem dX11_digest_150 : decode cX11_digest 150 = .ok (.iconst 1, 1) := by decide +kernel
theorem dX11_digest_151 : decode cX11_digest 151 = .ok (.goto 4, 3) := by decide +kernel
theorem dX11_digest_154 : decode cX11_digest 154 = .ok (.iconst 0, 1) := by decide +kernel
theorem dX11_digest_155 : decode cX11_digest 155 = .ok (.istore 5, 2) := by decide +kernel
theorem dX11_digest_157 : decode cX11_digest 157 = .ok (.iload 5, 2) := by decide +kernel
theorem dX11_digest_159 : decode cX11_digest 159 = .ok (.ifCond .eq 16, 3) := by decide +kernel
theorem dX11_digest_162 : decode cX11_digest 162 = .ok (.aload_n 0, 1) := by decide +kernel
theorem dX11_digest_163 : decode cX11_digest 163 = .ok (.aload_n 0, 1) := by decide +kernel
theorem dX11_digest_164 : decode cX11_digest 164 = .ok (.getfield 85, 3) := by decide +kernel
theorem dX11_digest_167 : decode cX11_digest 167 = .ok (.iconst 1, 1) := by decide +kernel
theorem dX11_digest_168 : decode cX11_digest 168 = .ok (.isub, 1) := by decide +kernel
theorem dX11_digest_169 : decode cX11_digest 169 = .ok (.iload 4, 2) := by decide +kernel
theorem dX11_digest_171 : decode cX11_digest 171 = .ok (.invokevirtual 200, 3) := by decide +kernel
theorem dX11_digest_174 : decode cX11_digest 174 = .ok (.pop, 1) := by decide +kernel
theorem dX11_digest_175 : decode cX11_digest 175 = .ok (.iconst 0, 1) := by decide +kernel
theorem dX11_digest_176 : decode cX11_digest 176 = .ok (.istore 6, 2) := by decide +kernel
theorem dX11_digest_178 : decode cX11_digest 178 = .ok (.iload 6, 2) := by decide +kernel
theorem dX11_digest_180 : decode cX11_digest 180 = .ok (.aload_n 0, 1) := by decide +kernel
theorem dX11_digest_181 : decode cX11_digest 181 = .ok (.getfield 85, 3) := by decide +kernel
theorem dX11_digest_184 : decode cX11_digest 184 = .ok (.if_icmp .ge 32, 3) := by decide +kernel
theorem dX11_digest_187 : decode cX11_digest 187 = .ok (.aload_n 3, 1) := by decide +kernel
theorem dX11_digest_188 : decode cX11_digest 188 = .ok (.iload 4, 2) := by decide +kernel
theorem dX11_digest_190 : decode cX11_digest 190 = .ok (.aaload, 1) := by decide +kernel
theorem dX11_digest_191 : decode cX11_digest 191 = .ok (.iload 6, 2) := by decide +kernel
theorem dX11_digest_193 : decode cX11_digest 193 = .ok (.iload 5, 2) := by decide +kernel
theorem dX11_digest_195 : decode cX11_digest 195 = .ok (.ifCond .eq 13, 3) := by decide +kernel
theorem dX11_digest_198 : decode cX11_digest 198 = .ok (.aload_n 0, 1) := by decide +kernel
theorem dX11_digest_199 : decode cX11_digest 199 = .ok (.getfield 71, 3) := by decide +kernel
theorem dX11_digest_202 : decode cX11_digest 202 = .ok (.iload 6, 2) := by decide +kernel
theorem dX11_digest_204 : decode cX11_digest 204 = .ok (.iaload, 1) := by decide +kernel
theorem dX11_digest_205 : decode cX11_digest 205 = .ok (.goto 4, 3) := by decide +kernel
theorem dX11_digest_208 : decode cX11_digest 208 = .ok (.iconst (-1), 1) := by decide +kernel
theorem dX11_digest_209 : decode cX11_digest 209 = .ok (.iastore, 1) := by decide +kernel
theorem dX11_digest_210 : decode cX11_digest 210 = .ok (.iinc 6 1, 3) := by decide +kernel
theorem dX11_digest_213 : decode cX11_digest 213 = .ok (.goto (-35), 3) := by decide +kernel
theorem dX11_digest_216 : decode cX11_digest 216 = .ok (.iinc 4 1, 3) := by decide +kernel
theorem dX11_digest_219 : decode cX11_digest 219 = .ok (.goto (-94), 3) := by decide +kernel
theorem dX11_digest_222 : decode cX11_digest 222 = .ok (.iconst 0, 1) := by decide +kernel
theorem dX11_digest_223 : decode cX11_digest 223 = .ok (.istore 4, 2) := by decide +kernel
theorem dX11_digest_225 : decode cX11_digest 225 = .ok (.iload 4, 2) := by decide +kernel
theorem dX11_digest_227 : decode cX11_digest 227 = .ok (.aload_n 0, 1) := by decide +kernel
theorem dX11_digest_228 : decode cX11_digest 228 = .ok (.getfield 85, 3) := by decide +kernel
theorem dX11_digest_231 : decode cX11_digest 231 = .ok (.if_icmp .ge 105, 3) := by decide +kernel
theorem dX11_digest_234 : decode cX11_digest 234 = .ok (.iconst 0, 1) := by decide +kernel
theorem dX11_digest_235 : decode cX11_digest 235 = .ok (.istore 5, 2) := by decide +kernel
theorem dX11_digest_237 : decode cX11_digest 237 = .ok (.iconst 0, 1) := by decide +kernel
theorem dX11_digest_238 : decode cX11_digest 238 = .ok (.istore 6, 2) := by decide +kernel
theorem dX11_digest_240 : decode cX11_digest 240 = .ok (.iload 6, 2) := by decide +kernel
theorem dX11_digest_242 : decode cX11_digest 242 = .ok (.aload_n 0, 1) := by decide +kernel
theorem dX11_digest_243 : decode cX11_digest 243 = .ok (.getfield 82, 3) := by decide +kernel
theorem dX11_digest_246 : decode cX11_digest 246 = .ok (.if_icmp .ge 29, 3) := by decide +kernel
theorem dX11_digest_249 : decode cX11_digest 249 = .ok (.iload 5, 2) := by decide +kernel
theorem dX11_digest_251 : decode cX11_digest 251 = .ok (.aload_n 3, 1) := by decide +kernel
theorem dX11_digest_252 : decode cX11_digest 252 = .ok (.iload 6, 2) := by decide +kernel
theorem dX11_digest_254 : decode cX11_digest 254 = .ok (.aaload, 1) := by decide +kernel
theorem dX11_digest_255 : decode cX11_digest 255 = .ok (.iload 4, 2) := by decide +kernel
theorem dX11_digest_257 : decode cX11_digest 257 = .ok (.iaload, 1) := by decide +kernel
theorem dX11_digest_258 : decode cX11_digest 258 = .ok (.ifCond .ge 7, 3) := by decide +kernel
theorem dX11_digest_261 : decode cX11_digest 261 = .ok (.iconst 0, 1) := by decide +kernel
theorem dX11_digest_262 : decode cX11_digest 262 = .ok (.goto 4, 3) := by decide +kernel
theorem dX11_digest_265 : decode cX11_digest 265 = .ok (.iconst 1, 1) := by decide +kernel
theorem dX11_digest_266 : decode cX11_digest 266 = .ok (.iadd, 1) := by decide +kernel
theorem dX11_digest_267 : decode cX11_digest 267 = .ok (.istore 5, 2) := by decide +kernel
theorem dX11_digest_269 : decode cX11_digest 269 = .ok (.iinc 6 1, 3) := by decide +kernel
theorem dX11_digest_272 : decode cX11_digest 272 = .ok (.goto (-32), 3) := by decide +kernel
theorem dX11_digest_275 : decode cX11_digest 275 = .ok (.lload_n 1, 1) := by decide +kernel
theorem dX11_digest_276 : decode cX11_digest 276 = .ok (.ldc2_w 233, 3) := by decide +kernel
theorem dX11_digest_279 : decode cX11_digest 279 = .ok (.lmul, 1) := by decide +kernel
theorem dX11_digest_280 : decode cX11_digest 280 = .ok (.iload 5, 2) := by decide +kernel
theorem dX11_digest_282 : decode cX11_digest 282 = .ok (.i2l, 1) := by decide +kernel
theorem dX11_digest_283 : decode cX11_digest 283 = .ok (.ladd, 1) := by decide +kernel
theorem dX11_digest_284 : decode cX11_digest 284 = .ok (.ldc2_w 233, 3) := by decide +kernel
theorem dX11_digest_287 : decode cX11_digest 287 = .ok (.lmul, 1) := by decide +kernel
theorem dX11_digest_288 : decode cX11_digest 288 = .ok (.aload_n 0, 1) := by decide +kernel
theorem dX11_digest_289 : decode cX11_digest 289 = .ok (.iload 4, 2) := by decide +kernel
theorem dX11_digest_291 : decode cX11_digest 291 = .ok (.invokevirtual 228, 3) := by decide +kernel
theorem dX11_digest_294 : decode cX11_digest 294 = .ok (.i2l, 1) := by decide +kernel
theorem dX11_digest_295 : decode cX11_digest 295 = .ok (.ladd, 1) := by decide +kernel
theorem dX11_digest_296 : decode cX11_digest 296 = .ok (.lstore_n 1, 1) := by decide +kernel
theorem dX11_digest_297 : decode cX11_digest 297 = .ok (.iconst 0, 1) := by decide +kernel
theorem dX11_digest_298 : decode cX11_digest 298 = .ok (.istore 6, 2) := by decide +kernel
theorem dX11_digest_300 : decode cX11_digest 300 = .ok (.iload 6, 2) := by decide +kernel
theorem dX11_digest_302 : decode cX11_digest 302 = .ok (.aload_n 0, 1) := by decide +kernel
theorem dX11_digest_303 : decode cX11_digest 303 = .ok (.getfield 82, 3) := by decide +kernel
theorem dX11_digest_306 : decode cX11_digest 306 = .ok (.if_icmp .ge 24, 3) := by decide +kernel
theorem dX11_digest_309 : decode cX11_digest 309 = .ok (.lload_n 1, 1) := by decide +kernel
theorem dX11_digest_310 : decode cX11_digest 310 = .ok (.ldc2_w 233, 3) := by decide +kernel
theorem dX11_digest_313 : decode cX11_digest 313 = .ok (.lmul, 1) := by decide +kernel
theorem dX11_digest_314 : decode cX11_digest 314 = .ok (.aload_n 3, 1) := by decide +kernel
theorem dX11_digest_315 : decode cX11_digest 315 = .ok (.iload 6, 2) := by decide +kernel
theorem dX11_digest_317 : decode cX11_digest 317 = .ok (.aaload, 1) := by decide +kernel
theorem dX11_digest_318 : decode cX11_digest 318 = .ok (.iload 4, 2) := by decide +kernel
theorem dX11_digest_320 : decode cX11_digest 320 = .ok (.iaload, 1) := by decide +kernel
theorem dX11_digest_321 : decode cX11_digest 321 = .ok (.i2l, 1) := by decide +kernel
theorem dX11_digest_322 : decode cX11_digest 322 = .ok (.ladd, 1) := by decide +kernel
theorem dX11_digest_323 : decode cX11_digest 323 = .ok (.lstore_n 1, 1) := by decide +kernel
theorem dX11_digest_324 : decode cX11_digest 324 = .ok (.iinc 6 1, 3) := by decide +kernel
theorem dX11_digest_327 : decode cX11_digest 327 = .ok (.goto (-27), 3) := by decide +kernel
theorem dX11_digest_330 : decode cX11_digest 330 = .ok (.iinc 4 1, 3) := by decide +kernel
theorem dX11_digest_333 : decode cX11_digest 333 = .ok (.goto (-108), 3) := by decide +kernel
theorem dX11_digest_336 : decode cX11_digest 336 = .ok (.lload_n 1, 1) := by decide +kernel
theorem dX11_digest_337 : decode cX11_digest 337 = .ok (.ldc2_w 233, 3) := by decide +kernel
theorem dX11_digest_340 : decode cX11_digest 340 = .ok (.lmul, 1) := by decide +kernel
theorem dX11_digest_341 : decode cX11_digest 341 = .ok (.aload_n 0, 1) := by decide +kernel
theorem dX11_digest_342 : decode cX11_digest 342 = .ok (.getfield 206, 3) := by decide +kernel
theorem dX11_digest_345 : decode cX11_digest 345 = .ok (.i2l, 1) := by decide +kernel
theorem dX11_digest_346 : decode cX11_digest 346 = .ok (.ladd, 1) := by decide +kernel
theorem dX11_digest_347 : decode cX11_digest 347 = .ok (.lstore_n 1, 1) := by decide +kernel
theorem dX11_digest_348 : decode cX11_digest 348 = .ok (.iconst 0, 1) := by decide +kernel
theorem dX11_digest_349 : decode cX11_digest 349 = .ok (.istore 4, 2) := by decide +kernel
theorem dX11_digest_351 : decode cX11_digest 351 = .ok (.iload 4, 2) := by decide +kernel
theorem dX11_digest_353 : decode cX11_digest 353 = .ok (.aload_n 0, 1) := by decide +kernel
theorem dX11_digest_354 : decode cX11_digest 354 = .ok (.getfield 206, 3) := by decide +kernel
theorem dX11_digest_357 : decode cX11_digest 357 = .ok (.if_icmp .ge 37, 3) := by decide +kernel
theorem dX11_digest_360 : decode cX11_digest 360 = .ok (.lload_n 1, 1) := by decide +kernel
theorem dX11_digest_361 : decode cX11_digest 361 = .ok (.ldc2_w 233, 3) := by decide +kernel
theorem dX11_digest_364 : decode cX11_digest 364 = .ok (.lmul, 1) := by decide +kernel
theorem dX11_digest_365 : decode cX11_digest 365 = .ok (.aload_n 0, 1) := by decide +kernel
theorem dX11_digest_366 : decode cX11_digest 366 = .ok (.getfield 59, 3) := by decide +kernel
theorem dX11_digest_369 : decode cX11_digest 369 = .ok (.iload 4, 2) := by decide +kernel
theorem dX11_digest_371 : decode cX11_digest 371 = .ok (.iaload, 1) := by decide +kernel
theorem dX11_digest_372 : decode cX11_digest 372 = .ok (.i2l, 1) := by decide +kernel
theorem dX11_digest_373 : decode cX11_digest 373 = .ok (.ladd, 1) := by decide +kernel
theorem dX11_digest_374 : decode cX11_digest 374 = .ok (.ldc2_w 233, 3) := by decide +kernel
theorem dX11_digest_377 : decode cX11_digest 377 = .ok (.lmul, 1) := by decide +kernel
theorem dX11_digest_378 : decode cX11_digest 378 = .ok (.aload_n 0, 1) := by decide +kernel
theorem dX11_digest_379 : decode cX11_digest 379 = .ok (.getfield 62, 3) := by decide +kernel
theorem dX11_digest_382 : decode cX11_digest 382 = .ok (.iload 4, 2) := by decide +kernel
theorem dX11_digest_384 : decode cX11_digest 384 = .ok (.iaload, 1) := by decide +kernel
theorem dX11_digest_385 : decode cX11_digest 385 = .ok (.i2l, 1) := by decide +kernel
theorem dX11_digest_386 : decode cX11_digest 386 = .ok (.ladd, 1) := by decide +kernel
theorem dX11_digest_387 : decode cX11_digest 387 = .ok (.lstore_n 1, 1) := by decide +kernel
theorem dX11_digest_388 : decode cX11_digest 388 = .ok (.iinc 4 1, 3) := by decide +kernel
theorem dX11_digest_391 : decode cX11_digest 391 = .ok (.goto (-40), 3) := by decide +kernel
theorem dX11_digest_394 : decode cX11_digest 394 = .ok (.iconst 0, 1) := by decide +kernel
theorem dX11_digest_395 : decode cX11_digest 395 = .ok (.istore 4, 2) := by decide +kernel
theorem dX11_digest_397 : decode cX11_digest 397 = .ok (.iload 4, 2) := by decide +kernel
theorem dX11_digest_399 : decode cX11_digest 399 = .ok (.bipush 8, 2) := by decide +kernel
theorem dX11_digest_401 : decode cX11_digest 401 = .ok (.if_icmp .ge 23, 3) := by decide +kernel
theorem dX11_digest_404 : decode cX11_digest 404 = .ok (.lload_n 1, 1) := by decide +kernel
theorem dX11_digest_405 : decode cX11_digest 405 = .ok (.ldc2_w 233, 3) := by decide +kernel
theorem dX11_digest_408 : decode cX11_digest 408 = .ok (.lmul, 1) := by decide +kernel
theorem dX11_digest_409 : decode cX11_digest 409 = .ok (.aload_n 0, 1) := by decide +kernel
theorem dX11_digest_410 : decode cX11_digest 410 = .ok (.iload 4, 2) := by decide +kernel
theorem dX11_digest_412 : decode cX11_digest 412 = .ok (.invokevirtual 209, 3) := by decide +kernel
theorem dX11_digest_415 : decode cX11_digest 415 = .ok (.i2l, 1) := by decide +kernel
theorem dX11_digest_416 : decode cX11_digest 416 = .ok (.ladd, 1) := by decide +kernel
theorem dX11_digest_417 : decode cX11_digest 417 = .ok (.lstore_n 1, 1) := by decide +kernel
theorem dX11_digest_418 : decode cX11_digest 418 = .ok (.iinc 4 1, 3) := by decide +kernel
theorem dX11_digest_421 : decode cX11_digest 421 = .ok (.goto (-24), 3) := by decide +kernel
theorem dX11_digest_424 : decode cX11_digest 424 = .ok (.iconst 0, 1) := by decide +kernel
theorem dX11_digest_425 : decode cX11_digest 425 = .ok (.istore 4, 2) := by decide +kernel
theorem dX11_digest_427 : decode cX11_digest 427 = .ok (.iload 4, 2) := by decide +kernel
theorem dX11_digest_429 : decode cX11_digest 429 = .ok (.aload_n 0, 1) := by decide +kernel
theorem dX11_digest_430 : decode cX11_digest 430 = .ok (.getfield 82, 3) := by decide +kernel
theorem dX11_digest_433 : decode cX11_digest 433 = .ok (.if_icmp .ge 23, 3) := by decide +kernel
theorem dX11_digest_436 : decode cX11_digest 436 = .ok (.lload_n 1, 1) := by decide +kernel
theorem dX11_digest_437 : decode cX11_digest 437 = .ok (.ldc2_w 233, 3) := by decide +kernel
theorem dX11_digest_440 : decode cX11_digest 440 = .ok (.lmul, 1) := by decide +kernel
theorem dX11_digest_441 : decode cX11_digest 441 = .ok (.aload_n 0, 1) := by decide +kernel
theorem dX11_digest_442 : decode cX11_digest 442 = .ok (.iload 4, 2) := by decide +kernel
theorem dX11_digest_444 : decode cX11_digest 444 = .ok (.invokevirtual 219, 3) := by decide +kernel
theorem dX11_digest_447 : decode cX11_digest 447 = .ok (.i2l, 1) := by decide +kernel
theorem dX11_digest_448 : decode cX11_digest 448 = .ok (.ladd, 1) := by decide +kernel
theorem dX11_digest_449 : decode cX11_digest 449 = .ok (.lstore_n 1, 1) := by decide +kernel
theorem dX11_digest_450 : decode cX11_digest 450 = .ok (.iinc 4 1, 3) := by decide +kernel
theorem dX11_digest_453 : decode cX11_digest 453 = .ok (.goto (-26), 3) := by decide +kernel
theorem dX11_digest_456 : decode cX11_digest 456 = .ok (.lload_n 1, 1) := by decide +kernel
theorem dX11_digest_457 : decode cX11_digest 457 = .ok (.lreturn, 1) := by decide +kernel
theorem dJ9_abs_0f7a4_0 : decode cJ9_abs_0f7a4 0 = .ok (.iload_n 0, 1) := by decide +kernel
theorem dJ9_abs_0f7a4_1 : decode cJ9_abs_0f7a4 1 = .ok (.ifCond .ge 8, 3) := by decide +kernel
theorem dJ9_abs_0f7a4_4 : decode cJ9_abs_0f7a4 4 = .ok (.iload_n 0, 1) := by decide +kernel
theorem dJ9_abs_0f7a4_5 : decode cJ9_abs_0f7a4 5 = .ok (.ineg, 1) := by decide +kernel
theorem dJ9_abs_0f7a4_6 : decode cJ9_abs_0f7a4 6 = .ok (.goto 4, 3) := by decide +kernel
theorem dJ9_abs_0f7a4_9 : decode cJ9_abs_0f7a4 9 = .ok (.iload_n 0, 1) := by decide +kernel
theorem dJ9_abs_0f7a4_10 : decode cJ9_abs_0f7a4 10 = .ok (.ireturn, 1) := by decide +kernel
theorem dJ9_max_7cf53_0 : decode cJ9_max_7cf53 0 = .ok (.iload_n 0, 1) := by decide +kernel
theorem dJ9_max_7cf53_1 : decode cJ9_max_7cf53 1 = .ok (.iload_n 1, 1) := by decide +kernel
theorem dJ9_max_7cf53_2 : decode cJ9_max_7cf53 2 = .ok (.if_icmp .lt 7, 3) := by decide +kernel
theorem dJ9_max_7cf53_5 : decode cJ9_max_7cf53 5 = .ok (.iload_n 0, 1) := by decide +kernel
theorem dJ9_max_7cf53_6 : decode cJ9_max_7cf53 6 = .ok (.goto 4, 3) := by decide +kernel
theorem dJ9_max_7cf53_9 : decode cJ9_max_7cf53 9 = .ok (.iload_n 1, 1) := by decide +kernel
theorem dJ9_max_7cf53_10 : decode cJ9_max_7cf53 10 = .ok (.ireturn, 1) := by decide +kernel
theorem dJ9_min_7cf53_0 : decode cJ9_min_7cf53 0 = .ok (.iload_n 0, 1) := by decide +kernel
theorem dJ9_min_7cf53_1 : decode cJ9_min_7cf53 1 = .ok (.iload_n 1, 1) := by decide +kernel
theorem dJ9_min_7cf53_2 : decode cJ9_min_7cf53 2 = .ok (.if_icmp .gt 7, 3) := by decide +kernel
theorem dJ9_min_7cf53_5 : decode cJ9_min_7cf53 5 = .ok (.iload_n 0, 1) := by decide +kernel
theorem dJ9_min_7cf53_6 : decode cJ9_min_7cf53 6 = .ok (.goto 4, 3) := by decide +kernel
theorem dJ9_min_7cf53_9 : decode cJ9_min_7cf53 9 = .ok (.iload_n 1, 1) := by decide +kernel
theorem dJ9_min_7cf53_10 : decode cJ9_min_7cf53 10 = .ok (.ireturn, 1) := by decide +kernel
theorem dJ7_fill_53178_0 : decode cJ7_fill_53178 0 = .ok (.iconst 0, 1) := by decide +kernel
theorem dJ7_fill_53178_1 : decode cJ7_fill_53178 1 = .ok (.istore_n 2, 1) := by decide +kernel
theorem dJ7_fill_53178_2 : decode cJ7_fill_53178 2 = .ok (.aload_n 0, 1) := by decide +kernel
theorem dJ7_fill_53178_3 : decode cJ7_fill_53178 3 = .ok (.arraylength, 1) := by decide +kernel
theorem dJ7_fill_53178_4 : decode cJ7_fill_53178 4 = .ok (.istore_n 3, 1) := by decide +kernel
theorem dJ7_fill_53178_5 : decode cJ7_fill_53178 5 = .ok (.iload_n 2, 1) := by decide +kernel
theorem dJ7_fill_53178_6 : decode cJ7_fill_53178 6 = .ok (.iload_n 3, 1) := by decide +kernel
theorem dJ7_fill_53178_7 : decode cJ7_fill_53178 7 = .ok (.if_icmp .ge 13, 3) := by decide +kernel
theorem dJ7_fill_53178_10 : decode cJ7_fill_53178 10 = .ok (.aload_n 0, 1) := by decide +kernel
theorem dJ7_fill_53178_11 : decode cJ7_fill_53178 11 = .ok (.iload_n 2, 1) := by decide +kernel
theorem dJ7_fill_53178_12 : decode cJ7_fill_53178 12 = .ok (.iload_n 1, 1) := by decide +kernel
theorem dJ7_fill_53178_13 : decode cJ7_fill_53178 13 = .ok (.iastore, 1) := by decide +kernel
theorem dJ7_fill_53178_14 : decode cJ7_fill_53178 14 = .ok (.iinc 2 1, 3) := by decide +kernel
theorem dJ7_fill_53178_17 : decode cJ7_fill_53178 17 = .ok (.goto (-12), 3) := by decide +kernel
theorem dJ7_fill_53178_20 : decode cJ7_fill_53178 20 = .ok (.return_, 1) := by decide +kernel
