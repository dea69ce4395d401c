theorem dX11_query_65 : decode cX11_query 65 = .ok (.iconst 1, 1) := by decide +kernel
theorem dX11_query_66 : decode cX11_query 66 = .ok (.iload_n 3, 1) := by decide +kernel
theorem dX11_query_67 : decode cX11_query 67 = .ok (.iastore, 1) := by decide +kernel
theorem dX11_query_68 : decode cX11_query 68 = .ok (.dup, 1) := by decide +kernel
theorem dX11_query_69 : decode cX11_query 69 = .ok (.iconst 2, 1) := by decide +kernel
theorem dX11_query_70 : decode cX11_query 70 = .ok (.iload 4, 2) := by decide +kernel
theorem dX11_query_72 : decode cX11_query 72 = .ok (.iastore, 1) := by decide +kernel
theorem dX11_query_73 : decode cX11_query 73 = .ok (.dup, 1) := by decide +kernel
theorem dX11_query_74 : decode cX11_query 74 = .ok (.iconst 3, 1) := by decide +kernel
theorem dX11_query_75 : decode cX11_query 75 = .ok (.iconst 0, 1) := by decide +kernel
theorem dX11_query_76 : decode cX11_query 76 = .ok (.iastore, 1) := by decide +kernel
theorem dX11_query_77 : decode cX11_query 77 = .ok (.dup, 1) := by decide +kernel
theorem dX11_query_78 : decode cX11_query 78 = .ok (.iconst 4, 1) := by decide +kernel
theorem dX11_query_79 : decode cX11_query 79 = .ok (.iconst 0, 1) := by decide +kernel
theorem dX11_query_80 : decode cX11_query 80 = .ok (.iastore, 1) := by decide +kernel
theorem dX11_query_81 : decode cX11_query 81 = .ok (.astore 6, 2) := by decide +kernel
theorem dX11_query_83 : decode cX11_query 83 = .ok (.iload_n 2, 1) := by decide +kernel
theorem dX11_query_84 : decode cX11_query 84 = .ok (.tableswitch 326 0 7 #[48, 90, 105, 120, 135, 205, 270, 298], 48) := by decide +kernel
theorem dX11_query_132 : decode cX11_query 132 = .ok (.aload 6, 2) := by decide +kernel
theorem dX11_query_134 : decode cX11_query 134 = .ok (.iconst 1, 1) := by decide +kernel
theorem dX11_query_135 : decode cX11_query 135 = .ok (.aload_n 0, 1) := by decide +kernel
theorem dX11_query_136 : decode cX11_query 136 = .ok (.bipush 6, 2) := by decide +kernel
theorem dX11_query_138 : decode cX11_query 138 = .ok (.invokevirtual 78, 3) := by decide +kernel
theorem dX11_query_141 : decode cX11_query 141 = .ok (.iastore, 1) := by decide +kernel
theorem dX11_query_142 : decode cX11_query 142 = .ok (.aload 6, 2) := by decide +kernel
theorem dX11_query_144 : decode cX11_query 144 = .ok (.iconst 2, 1) := by decide +kernel
theorem dX11_query_145 : decode cX11_query 145 = .ok (.iconst 1, 1) := by decide +kernel
theorem dX11_query_146 : decode cX11_query 146 = .ok (.aload_n 0, 1) := by decide +kernel
theorem dX11_query_147 : decode cX11_query 147 = .ok (.bipush 7, 2) := by decide +kernel
theorem dX11_query_149 : decode cX11_query 149 = .ok (.invokevirtual 78, 3) := by decide +kernel
theorem dX11_query_152 : decode cX11_query 152 = .ok (.iadd, 1) := by decide +kernel
theorem dX11_query_153 : decode cX11_query 153 = .ok (.iastore, 1) := by decide +kernel
theorem dX11_query_154 : decode cX11_query 154 = .ok (.aload_n 0, 1) := by decide +kernel
theorem dX11_query_155 : decode cX11_query 155 = .ok (.getfield 10, 3) := by decide +kernel
theorem dX11_query_158 : decode cX11_query 158 = .ok (.aload 6, 2) := by decide +kernel
theorem dX11_query_160 : decode cX11_query 160 = .ok (.iconst 1, 1) := by decide +kernel
theorem dX11_query_161 : decode cX11_query 161 = .ok (.iaload, 1) := by decide +kernel
theorem dX11_query_162 : decode cX11_query 162 = .ok (.aload 6, 2) := by decide +kernel
theorem dX11_query_164 : decode cX11_query 164 = .ok (.iconst 2, 1) := by decide +kernel
theorem dX11_query_165 : decode cX11_query 165 = .ok (.iaload, 1) := by decide +kernel
theorem dX11_query_166 : decode cX11_query 166 = .ok (.invokevirtual 145, 3) := by decide +kernel
theorem dX11_query_169 : decode cX11_query 169 = .ok (.istore 7, 2) := by decide +kernel
theorem dX11_query_171 : decode cX11_query 171 = .ok (.goto 301, 3) := by decide +kernel
theorem dX11_query_174 : decode cX11_query 174 = .ok (.aload_n 0, 1) := by decide +kernel
theorem dX11_query_175 : decode cX11_query 175 = .ok (.getfield 10, 3) := by decide +kernel
theorem dX11_query_178 : decode cX11_query 178 = .ok (.iload_n 3, 1) := by decide +kernel
theorem dX11_query_179 : decode cX11_query 179 = .ok (.iload 4, 2) := by decide +kernel
theorem dX11_query_181 : decode cX11_query 181 = .ok (.invokevirtual 148, 3) := by decide +kernel
theorem dX11_query_184 : decode cX11_query 184 = .ok (.istore 7, 2) := by decide +kernel
theorem dX11_query_186 : decode cX11_query 186 = .ok (.goto 286, 3) := by decide +kernel
theorem dX11_query_189 : decode cX11_query 189 = .ok (.aload_n 0, 1) := by decide +kernel
theorem dX11_query_190 : decode cX11_query 190 = .ok (.getfield 10, 3) := by decide +kernel
theorem dX11_query_193 : decode cX11_query 193 = .ok (.iload_n 3, 1) := by decide +kernel
theorem dX11_query_194 : decode cX11_query 194 = .ok (.iload 4, 2) := by decide +kernel
theorem dX11_query_196 : decode cX11_query 196 = .ok (.invokevirtual 151, 3) := by decide +kernel
theorem dX11_query_199 : decode cX11_query 199 = .ok (.istore 7, 2) := by decide +kernel
theorem dX11_query_201 : decode cX11_query 201 = .ok (.goto 271, 3) := by decide +kernel
theorem dX11_query_204 : decode cX11_query 204 = .ok (.aload_n 0, 1) := by decide +kernel
theorem dX11_query_205 : decode cX11_query 205 = .ok (.getfield 10, 3) := by decide +kernel
theorem dX11_query_208 : decode cX11_query 208 = .ok (.iload_n 3, 1) := by decide +kernel
theorem dX11_query_209 : decode cX11_query 209 = .ok (.iload 4, 2) := by decide +kernel
theorem dX11_query_211 : decode cX11_query 211 = .ok (.invokevirtual 154, 3) := by decide +kernel
theorem dX11_query_214 : decode cX11_query 214 = .ok (.istore 7, 2) := by decide +kernel
theorem dX11_query_216 : decode cX11_query 216 = .ok (.goto 256, 3) := by decide +kernel
theorem dX11_query_219 : decode cX11_query 219 = .ok (.aload 6, 2) := by decide +kernel
theorem dX11_query_221 : decode cX11_query 221 = .ok (.iconst 1, 1) := by decide +kernel
theorem dX11_query_222 : decode cX11_query 222 = .ok (.aload_n 0, 1) := by decide +kernel
theorem dX11_query_223 : decode cX11_query 223 = .ok (.iconst 3, 1) := by decide +kernel
theorem dX11_query_224 : decode cX11_query 224 = .ok (.invokevirtual 78, 3) := by decide +kernel
theorem dX11_query_227 : decode cX11_query 227 = .ok (.iastore, 1) := by decide +kernel
theorem dX11_query_228 : decode cX11_query 228 = .ok (.aload 6, 2) := by decide +kernel
theorem dX11_query_230 : decode cX11_query 230 = .ok (.iconst 2, 1) := by decide +kernel
theorem dX11_query_231 : decode cX11_query 231 = .ok (.aload_n 0, 1) := by decide +kernel
theorem dX11_query_232 : decode cX11_query 232 = .ok (.iconst 3, 1) := by decide +kernel
theorem dX11_query_233 : decode cX11_query 233 = .ok (.invokevirtual 78, 3) := by decide +kernel
theorem dX11_query_236 : decode cX11_query 236 = .ok (.iastore, 1) := by decide +kernel
theorem dX11_query_237 : decode cX11_query 237 = .ok (.aload 6, 2) := by decide +kernel
theorem dX11_query_239 : decode cX11_query 239 = .ok (.iconst 3, 1) := by decide +kernel
theorem dX11_query_240 : decode cX11_query 240 = .ok (.iconst 1, 1) := by decide +kernel
theorem dX11_query_241 : decode cX11_query 241 = .ok (.aload_n 0, 1) := by decide +kernel
theorem dX11_query_242 : decode cX11_query 242 = .ok (.iconst 4, 1) := by decide +kernel
theorem dX11_query_243 : decode cX11_query 243 = .ok (.invokevirtual 78, 3) := by decide +kernel
theorem dX11_query_246 : decode cX11_query 246 = .ok (.iadd, 1) := by decide +kernel
theorem dX11_query_247 : decode cX11_query 247 = .ok (.iastore, 1) := by decide +kernel
theorem dX11_query_248 : decode cX11_query 248 = .ok (.aload 6, 2) := by decide +kernel
theorem dX11_query_250 : decode cX11_query 250 = .ok (.iconst 4, 1) := by decide +kernel
theorem dX11_query_251 : decode cX11_query 251 = .ok (.iload 5, 2) := by decide +kernel
theorem dX11_query_253 : decode cX11_query 253 = .ok (.iastore, 1) := by decide +kernel
theorem dX11_query_254 : decode cX11_query 254 = .ok (.aload_n 0, 1) := by decide +kernel
theorem dX11_query_255 : decode cX11_query 255 = .ok (.getfield 10, 3) := by decide +kernel
theorem dX11_query_258 : decode cX11_query 258 = .ok (.aload 6, 2) := by decide +kernel
theorem dX11_query_260 : decode cX11_query 260 = .ok (.iconst 1, 1) := by decide +kernel
theorem dX11_query_261 : decode cX11_query 261 = .ok (.iaload, 1) := by decide +kernel
theorem dX11_query_262 : decode cX11_query 262 = .ok (.aload 6, 2) := by decide +kernel
theorem dX11_query_264 : decode cX11_query 264 = .ok (.iconst 2, 1) := by decide +kernel
theorem dX11_query_265 : decode cX11_query 265 = .ok (.iaload, 1) := by decide +kernel
theorem dX11_query_266 : decode cX11_query 266 = .ok (.aload 6, 2) := by decide +kernel
theorem dX11_query_268 : decode cX11_query 268 = .ok (.iconst 3, 1) := by decide +kernel
theorem dX11_query_269 : decode cX11_query 269 = .ok (.iaload, 1) := by decide +kernel
theorem dX11_query_270 : decode cX11_query 270 = .ok (.iload 5, 2) := by decide +kernel
theorem dX11_query_272 : decode cX11_query 272 = .ok (.iconst 1, 1) := by decide +kernel
theorem dX11_query_273 : decode cX11_query 273 = .ok (.if_icmp .ne 7, 3) := by decide +kernel
theorem dX11_query_276 : decode cX11_query 276 = .ok (.iconst 1, 1) := by decide +kernel
theorem dX11_query_277 : decode cX11_query 277 = .ok (.goto 4, 3) := by decide +kernel
theorem dX11_query_280 : decode cX11_query 280 = .ok (.iconst 0, 1) := by decide +kernel
theorem dX11_query_281 : decode cX11_query 281 = .ok (.invokevirtual 157, 3) := by decide +kernel
theorem dX11_query_284 : decode cX11_query 284 = .ok (.istore 7, 2) := by decide +kernel
theorem dX11_query_286 : decode cX11_query 286 = .ok (.goto 186, 3) := by decide +kernel
theorem dX11_query_289 : decode cX11_query 289 = .ok (.aload 6, 2) := by decide +kernel
theorem dX11_query_291 : decode cX11_query 291 = .ok (.iconst 1, 1) := by decide +kernel
theorem dX11_query_292 : decode cX11_query 292 = .ok (.aload_n 0, 1) := by decide +kernel
theorem dX11_query_293 : decode cX11_query 293 = .ok (.bipush 20, 2) := by decide +kernel
theorem dX11_query_295 : decode cX11_query 295 = .ok (.invokevirtual 78, 3) := by decide +kernel
theorem dX11_query_298 : decode cX11_query 298 = .ok (.iastore, 1) := by decide +kernel
theorem dX11_query_299 : decode cX11_query 299 = .ok (.aload 6, 2) := by decide +kernel
theorem dX11_query_301 : decode cX11_query 301 = .ok (.iconst 2, 1) := by decide +kernel
theorem dX11_query_302 : decode cX11_query 302 = .ok (.aload 6, 2) := by decide +kernel
theorem dX11_query_304 : decode cX11_query 304 = .ok (.iconst 1, 1) := by decide +kernel
theorem dX11_query_305 : decode cX11_query 305 = .ok (.iaload, 1) := by decide +kernel
theorem dX11_query_306 : decode cX11_query 306 = .ok (.aload_n 0, 1) := by decide +kernel
theorem dX11_query_307 : decode cX11_query 307 = .ok (.bipush 12, 2) := by decide +kernel
theorem dX11_query_309 : decode cX11_query 309 = .ok (.invokevirtual 78, 3) := by decide +kernel
theorem dX11_query_312 : decode cX11_query 312 = .ok (.iadd, 1) := by decide +kernel
theorem dX11_query_313 : decode cX11_query 313 = .ok (.iconst 2, 1) := by decide +kernel
theorem dX11_query_314 : decode cX11_query 314 = .ok (.isub, 1) := by decide +kernel
theorem dX11_query_315 : decode cX11_query 315 = .ok (.ifCond .ge 7, 3) := by decide +kernel
theorem dX11_query_318 : decode cX11_query 318 = .ok (.iconst 0, 1) := by decide +kernel
theorem dX11_query_319 : decode cX11_query 319 = .ok (.goto 14, 3) := by decide +kernel
theorem dX11_query_322 : decode cX11_query 322 = .ok (.aload 6, 2) := by decide +kernel
theorem dX11_query_324 : decode cX11_query 324 = .ok (.iconst 1, 1) := by decide +kernel
theorem dX11_query_325 : decode cX11_query 325 = .ok (.iaload, 1) := by decide +kernel
theorem dX11_query_326 : decode cX11_query 326 = .ok (.aload_n 0, 1) := by decide +kernel
theorem dX11_query_327 : decode cX11_query 327 = .ok (.bipush 12, 2) := by decide +kernel
theorem dX11_query_329 : decode cX11_query 329 = .ok (.invokevirtual 78, 3) := by decide +kernel
theorem dX11_query_332 : decode cX11_query 332 = .ok (.iadd, 1) := by decide +kernel
theorem dX11_query_333 : decode cX11_query 333 = .ok (.iastore, 1) := by decide +kernel
theorem dX11_query_334 : decode cX11_query 334 = .ok (.aload_n 0, 1) := by decide +kernel
theorem dX11_query_335 : decode cX11_query 335 = .ok (.getfield 10, 3) := by decide +kernel
theorem dX11_query_338 : decode cX11_query 338 = .ok (.aload 6, 2) := by decide +kernel
theorem dX11_query_340 : decode cX11_query 340 = .ok (.iconst 1, 1) := by decide +kernel
theorem dX11_query_341 : decode cX11_query 341 = .ok (.iaload, 1) := by decide +kernel
theorem dX11_query_342 : decode cX11_query 342 = .ok (.aload 6, 2) := by decide +kernel
theorem dX11_query_344 : decode cX11_query 344 = .ok (.iconst 2, 1) := by decide +kernel
theorem dX11_query_345 : decode cX11_query 345 = .ok (.iaload, 1) := by decide +kernel
theorem dX11_query_346 : decode cX11_query 346 = .ok (.invokevirtual 161, 3) := by decide +kernel
theorem dX11_query_349 : decode cX11_query 349 = .ok (.istore 7, 2) := by decide +kernel
theorem dX11_query_351 : decode cX11_query 351 = .ok (.goto 121, 3) := by decide +kernel
theorem dX11_query_354 : decode cX11_query 354 = .ok (.aload 6, 2) := by decide +kernel
theorem dX11_query_356 : decode cX11_query 356 = .ok (.iconst 1, 1) := by decide +kernel
theorem dX11_query_357 : decode cX11_query 357 = .ok (.iconst 1, 1) := by decide +kernel
theorem dX11_query_358 : decode cX11_query 358 = .ok (.aload_n 0, 1) := by decide +kernel
theorem dX11_query_359 : decode cX11_query 359 = .ok (.bipush 7, 2) := by decide +kernel
theorem dX11_query_361 : decode cX11_query 361 = .ok (.invokevirtual 78, 3) := by decide +kernel
theorem dX11_query_364 : decode cX11_query 364 = .ok (.iadd, 1) := by decide +kernel
theorem dX11_query_365 : decode cX11_query 365 = .ok (.iastore, 1) := by decide +kernel
theorem dX11_query_366 : decode cX11_query 366 = .ok (.aload_n 0, 1) := by decide +kernel
theorem dX11_query_367 : decode cX11_query 367 = .ok (.getfield 10, 3) := by decide +kernel
theorem dX11_query_370 : decode cX11_query 370 = .ok (.aload 6, 2) := by decide +kernel
theorem dX11_query_372 : decode cX11_query 372 = .ok (.iconst 1, 1) := by decide +kernel
theorem dX11_query_373 : decode cX11_query 373 = .ok (.iaload, 1) := by decide +kernel
theorem dX11_query_374 : decode cX11_query 374 = .ok (.invokevirtual 164, 3) := by decide +kernel
theorem dX11_query_377 : decode cX11_query 377 = .ok (.istore 7, 2) := by decide +kernel
theorem dX11_query_379 : decode cX11_query 379 = .ok (.goto 93, 3) := by decide +kernel
theorem dX11_query_382 : decode cX11_query 382 = .ok (.aload 6, 2) := by decide +kernel
theorem dX11_query_384 : decode cX11_query 384 = .ok (.iconst 2, 1) := by decide +kernel
theorem dX11_query_385 : decode cX11_query 385 = .ok (.aload_n 0, 1) := by decide +kernel
theorem dX11_query_386 : decode cX11_query 386 = .ok (.sipush 501, 3) := by decide +kernel
theorem dX11_query_389 : decode cX11_query 389 = .ok (.invokevirtual 78, 3) := by decide +kernel
theorem dX11_query_392 : decode cX11_query 392 = .ok (.iastore, 1) := by decide +kernel
theorem dX11_query_393 : decode cX11_query 393 = .ok (.aload_n 0, 1) := by decide +kernel
theorem dX11_query_394 : decode cX11_query 394 = .ok (.getfield 10, 3) := by decide +kernel
theorem dX11_query_397 : decode cX11_query 397 = .ok (.iload_n 3, 1) := by decide +kernel
theorem dX11_query_398 : decode cX11_query 398 = .ok (.aload 6, 2) := by decide +kernel
theorem dX11_query_400 : decode cX11_query 400 = .ok (.iconst 2, 1) := by decide +kernel
theorem dX11_query_401 : decode cX11_query 401 = .ok (.iaload, 1) := by decide +kernel
theorem dX11_query_402 : decode cX11_query 402 = .ok (.invokevirtual 166, 3) := by decide +kernel
theorem dX11_query_405 : decode cX11_query 405 = .ok (.istore 7, 2) := by decide +kernel
theorem dX11_query_407 : decode cX11_query 407 = .ok (.goto 65, 3) := by decide +kernel
theorem dX11_query_410 : decode cX11_query 410 = .ok (.aload 6, 2) := by decide +kernel
theorem dX11_query_412 : decode cX11_query 412 = .ok (.iconst 2, 1) := by decide +kernel
theorem dX11_query_413 : decode cX11_query 413 = .ok (.iconst 2, 1) := by decide +kernel
theorem dX11_query_414 : decode cX11_query 414 = .ok (.aload_n 0, 1) := by decide +kernel
theorem dX11_query_415 : decode cX11_query 415 = .ok (.iconst 2, 1) := by decide +kernel
theorem dX11_query_416 : decode cX11_query 416 = .ok (.invokevirtual 78, 3) := by decide +kernel
theorem dX11_query_419 : decode cX11_query 419 = .ok (.iadd, 1) := by decide +kernel
theorem dX11_query_420 : decode cX11_query 420 = .ok (.iastore, 1) := by decide +kernel
theorem dX11_query_421 : decode cX11_query 421 = .ok (.aload 6, 2) := by decide +kernel
theorem dX11_query_423 : decode cX11_query 423 = .ok (.iconst 1, 1) := by decide +kernel
theorem dX11_query_424 : decode cX11_query 424 = .ok (.aload_n 0, 1) := by decide +kernel
theorem dX11_query_425 : decode cX11_query 425 = .ok (.iload_n 1, 1) := by decide +kernel
theorem dX11_query_426 : decode cX11_query 426 = .ok (.aload 6, 2) := by decide +kernel
theorem dX11_query_428 : decode cX11_query 428 = .ok (.iconst 2, 1) := by decide +kernel
theorem dX11_query_429 : decode cX11_query 429 = .ok (.iaload, 1) := by decide +kernel
theorem dX11_query_430 : decode cX11_query 430 = .ok (.isub, 1) := by decide +kernel
theorem dX11_query_431 : decode cX11_query 431 = .ok (.iconst 1, 1) := by decide +kernel
theorem dX11_query_432 : decode cX11_query 432 = .ok (.iadd, 1) := by decide +kernel
theorem dX11_query_433 : decode cX11_query 433 = .ok (.invokevirtual 78, 3) := by decide +kernel
theorem dX11_query_436 : decode cX11_query 436 = .ok (.iastore, 1) := by decide +kernel
theorem dX11_query_437 : decode cX11_query 437 = .ok (.aload 6, 2) := by decide +kernel
theorem dX11_query_439 : decode cX11_query 439 = .ok (.iconst 3, 1) := by decide +kernel
theorem dX11_query_440 : decode cX11_query 440 = .ok (.iconst 1, 1) := by decide +kernel
theorem dX11_query_441 : decode cX11_query 441 = .ok (.aload_n 0, 1) := by decide +kernel
theorem dX11_query_442 : decode cX11_query 442 = .ok (.aload 6, 2) := by decide +kernel
theorem dX11_query_444 : decode cX11_query 444 = .ok (.iconst 2, 1) := by decide +kernel
theorem dX11_query_445 : decode cX11_query 445 = .ok (.iaload, 1) := by decide +kernel
theorem dX11_query_446 : decode cX11_query 446 = .ok (.invokevirtual 78, 3) := by decide +kernel
theorem dX11_query_449 : decode cX11_query 449 = .ok (.iadd, 1) := by decide +kernel
theorem dX11_query_450 : decode cX11_query 450 = .ok (.iastore, 1) := by decide +kernel
theorem dX11_query_451 : decode cX11_query 451 = .ok (.aload_n 0, 1) := by decide +kernel
theorem dX11_query_452 : decode cX11_query 452 = .ok (.getfield 10, 3) := by decide +kernel
theorem dX11_query_455 : decode cX11_query 455 = .ok (.aload 6, 2) := by decide +kernel
theorem dX11_query_457 : decode cX11_query 457 = .ok (.iconst 1, 1) := by decide +kernel
theorem dX11_query_458 : decode cX11_query 458 = .ok (.iaload, 1) := by decide +kernel
theorem dX11_query_459 : decode cX11_query 459 = .ok (.aload 6, 2) := by decide +kernel
theorem dX11_query_461 : decode cX11_query 461 = .ok (.iconst 2, 1) := by decide +kernel
theorem dX11_query_462 : decode cX11_query 462 = .ok (.iaload, 1) := by decide +kernel
theorem dX11_query_463 : decode cX11_query 463 = .ok (.aload 6, 2) := by decide +kernel
theorem dX11_query_465 : decode cX11_query 465 = .ok (.iconst 3, 1) := by decide +kernel
theorem dX11_query_466 : decode cX11_query 466 = .ok (.iaload, 1) := by decide +kernel
theorem dX11_query_467 : decode cX11_query 467 = .ok (.invokevirtual 169, 3) := by decide +kernel
theorem dX11_query_470 : decode cX11_query 470 = .ok (.istore 7, 2) := by decide +kernel
theorem dX11_query_472 : decode cX11_query 472 = .ok (.aload_n 0, 1) := by decide +kernel
theorem dX11_query_473 : decode cX11_query 473 = .ok (.getfield 49, 3) := by decide +kernel
theorem dX11_query_476 : decode cX11_query 476 = .ok (.iload_n 1, 1) := by decide +kernel
theorem dX11_query_477 : decode cX11_query 477 = .ok (.aload 6, 2) := by decide +kernel
theorem dX11_query_479 : decode cX11_query 479 = .ok (.aastore, 1) := by decide +kernel
theorem dX11_query_480 : decode cX11_query 480 = .ok (.iload 7, 2) := by decide +kernel
theorem dX11_query_482 : decode cX11_query 482 = .ok (.aload_n 0, 1) := by decide +kernel
theorem dX11_query_483 : decode cX11_query 483 = .ok (.dup, 1) := by decide +kernel
theorem dX11_query_484 : decode cX11_query 484 = .ok (.getfield 142, 3) := by decide +kernel
theorem dX11_query_487 : decode cX11_query 487 = .ok (.dup_x1, 1) := by decide +kernel
theorem dX11_query_488 : decode cX11_query 488 = .ok (.iconst 1, 1) := by decide +kernel
theorem dX11_query_489 : decode cX11_query 489 = .ok (.iadd, 1) := by decide +kernel
theorem dX11_query_490 : decode cX11_query 490 = .ok (.putfield 142, 3) := by decide +kernel
theorem dX11_query_493 : decode cX11_query 493 = .ok (.if_icmp .ne 21, 3) := by decide +kernel
theorem dX11_query_496 : decode cX11_query 496 = .ok (.aload_n 0, 1) := by decide +kernel
theorem dX11_query_497 : decode cX11_query 497 = .ok (.getfield 10, 3) := by decide +kernel
theorem dX11_query_500 : decode cX11_query 500 = .ok (.invokevirtual 172, 3) := by decide +kernel
theorem dX11_query_503 : decode cX11_query 503 = .ok (.aload_n 0, 1) := by decide +kernel
theorem dX11_query_504 : decode cX11_query 504 = .ok (.getfield 142, 3) := by decide +kernel
theorem dX11_query_507 : decode cX11_query 507 = .ok (.if_icmp .ne 7, 3) := by decide +kernel
theorem dX11_query_510 : decode cX11_query 510 = .ok (.iconst 1, 1) := by decide +kernel
theorem dX11_query_511 : decode cX11_query 511 = .ok (.goto 4, 3) := by decide +kernel
theorem dX11_query_514 : decode cX11_query 514 = .ok (.iconst 0, 1) := by decide +kernel
theorem dX11_query_515 : decode cX11_query 515 = .ok (.ireturn, 1) := by decide +kernel
theorem dL_below_0 : decode cL_below 0 = .ok (.iload_n 0, 1) := by decide +kernel
theorem dL_below_1 : decode cL_below 1 = .ok (.ldc 7, 2) := by decide +kernel
theorem dL_below_3 : decode cL_below 3 = .ok (.iand, 1) := by decide +kernel
theorem dL_below_4 : decode cL_below 4 = .ok (.iload_n 1, 1) := by decide +kernel
theorem dL_below_5 : decode cL_below 5 = .ok (.irem, 1) := by decide +kernel
theorem dL_below_6 : decode cL_below 6 = .ok (.ireturn, 1) := by decide +kernel
theorem dL_cell_0 : decode cL_cell 0 = .ok (.iload_n 1, 1) := by decide +kernel
theorem dL_cell_1 : decode cL_cell 1 = .ok (.aload_n 0, 1) := by decide +kernel
theorem dL_cell_2 : decode cL_cell 2 = .ok (.arraylength, 1) := by decide +kernel
theorem dL_cell_3 : decode cL_cell 3 = .ok (.if_icmp .ge 9, 3) := by decide +kernel
theorem dL_cell_6 : decode cL_cell 6 = .ok (.aload_n 0, 1) := by decide +kernel
theorem dL_cell_7 : decode cL_cell 7 = .ok (.iload_n 1, 1) := by decide +kernel
theorem dL_cell_8 : decode cL_cell 8 = .ok (.iaload, 1) := by decide +kernel
theorem dL_cell_9 : decode cL_cell 9 = .ok (.goto 9, 3) := by decide +kernel
theorem dL_cell_12 : decode cL_cell 12 = .ok (.ldc 8, 2) := by decide +kernel
theorem dL_cell_14 : decode cL_cell 14 = .ok (.iload_n 1, 1) := by decide +kernel
theorem dL_cell_15 : decode cL_cell 15 = .ok (.iconst 3, 1) := by decide +kernel
theorem dL_cell_16 : decode cL_cell 16 = .ok (.iadd, 1) := by decide +kernel
theorem dL_cell_17 : decode cL_cell 17 = .ok (.imul, 1) := by decide +kernel
theorem dL_cell_18 : decode cL_cell 18 = .ok (.ireturn, 1) := by decide +kernel
set_option maxRecDepth 20000 in
theorem ggL_law_X11_init : GoodIn wsL_law wsX11_init := goodIn_r _ [11, 12, 13, 14, 15, 16, 17, 18, 19, 6, 20, 21, 22, 23, 24, 25, 26, 27, 28, 29, 30, 31, 32, 33, 34, 35, 36, 37, 38, 39, 40, 41, 42, 43, 44, 45, 46, 47, 48, 49, 50, 51, 52, 53, 54, 55, 56, 57, 58, 59, 60, 61, 62, 63, 64, 65, 66, 67, 68, 69, 70, 71, 72, 73, 74, 75, 76, 77, 78, 79, 80, 81, 82, 83, 84, 85, 86, 87, 88, 89, 90, 91, 92, 93, 94, 95, 96, 97, 98, 99, 100, 101, 102, 103, 104, 105, 106, 107, 108, 109, 110, 111, 112, 113, 114, 115, 116, 117, 118, 119, 120, 121, 122, 123, 124, 125, 126, 127, 128, 129, 130, 797, 798, 799, 800, 801, 802, 803, 804, 805, 806, 782, 783, 784, 785, 786, 787, 788, 789, 790, 791, 792, 793, 794, 795, 796, 807, 808, 809, 810, 811, 812, 813, 814, 815, 816, 817, 818, 819, 820, 821, 822, 823, 824, 825, 826, 827, 828, 829, 830, 831, 832, 833, 834, 835, 836, 837, 838] (by first | exact rfl | decide +kernel) (by decide +kernel)
set_option maxRecDepth 20000 in
theorem gL_law_X11_init : GoodIn wsL_law (wsX11_init) := ggL_law_X11_init
set_option maxRecDepth 20000 in
theorem ggL_law_X11_add : GoodIn wsL_law wsX11_add := goodIn_ca (goodIn_ca (goodIn_r _ [134, 135, 20, 21, 18, 19, 24, 136, 137, 138, 2, 139, 31, 32, 140, 141, 142, 143, 144, 145, 146, 147, 148, 149, 17, 150, 151, 152, 153, 154, 40, 155, 156, 157, 158, 159, 160, 161, 162, 163, 164, 165, 166, 167, 168, 39, 169, 170, 74, 171, 172, 173, 174, 13, 14, 175, 176, 177, 178, 179, 180, 181, 182, 183, 184, 6, 185, 186, 187, 188, 189, 190, 191, 192, 193, 194, 195, 196, 197, 198, 199, 200, 201, 202, 203, 204, 205, 206, 207, 208, 209, 210, 211, 212, 213, 214, 215, 216, 217, 218, 219, 220, 221, 222, 223, 224, 225, 226, 227, 228, 229, 230, 231, 232, 233, 234, 235, 236, 237, 238, 239, 240, 241, 242, 243, 244, 245, 246, 247, 248, 249, 250, 251, 782, 783, 784, 785, 786, 787, 788, 789, 790, 791, 792, 793, 794, 795, 796, 797, 798, 799, 800, 801, 802, 803, 804, 805, 806, 807, 808, 809, 810, 811, 812, 839, 840, 841, 842, 843, 844, 845, 846, 847, 848] (by first | exact rfl | decide +kernel) (by decide +kernel)) (goodIn_sub (fun _ h => List.mem_append_left _ (List.mem_append_left _ (List.mem_append_right _ h))) (by decide +kernel))) (goodIn_sub (fun _ h => List.mem_append_left _ (List.mem_append_right _ h)) (by decide +kernel))
set_option maxRecDepth 20000 in
theorem gL_law_X11_add : GoodIn wsL_law (wsV RL 18 RX11 yX11_add wsX11_add) := goodIn_app (goodIn_of _ (by decide +kernel)) ggL_law_X11_add
set_option maxRecDepth 20000 in
theorem ggL_law_X11_query : GoodIn wsL_law wsX11_query := goodIn_ca (goodIn_ca (goodIn_ca (goodIn_r _ [255, 256, 6, 18, 30, 136, 137, 138, 2, 139, 31, 32, 140, 141, 142, 143, 144, 145, 146, 257, 258, 259, 17, 260, 151, 152, 153, 154, 48, 261, 262, 263, 264, 265, 203, 204, 205, 266, 267, 268, 269, 270, 271, 47, 272, 273, 100, 274, 275, 276, 277, 13, 14, 278, 279, 280, 281, 282, 283, 284, 285, 286, 287, 288, 289, 290, 291, 292, 293, 294, 295, 296, 297, 298, 299, 300, 301, 302, 303, 304, 305, 306, 307, 308, 309, 310, 311, 312, 313, 314, 315, 316, 317, 318, 319, 320, 321, 322, 323, 324, 325, 160, 161, 162, 326, 327, 328, 329, 330, 331, 332, 333, 334, 335, 336, 337, 338, 339, 340, 341, 342, 343, 344, 345, 346, 782, 783, 784, 785, 786, 787, 788, 789, 790, 791, 792, 793, 794, 795, 796, 797, 798, 799, 800, 801, 802, 803, 804, 805, 806, 849, 850, 851, 852, 853, 854, 855, 856, 857, 858, 859, 860, 861, 816, 817, 818, 819, 820] (by first | exact rfl | decide +kernel) (by decide +kernel)) (goodIn_sub (fun _ h => List.mem_append_left _ (List.mem_append_left _ (List.mem_append_right _ h))) (by decide +kernel))) (goodIn_sub (fun _ h => List.mem_append_left _ (List.mem_append_right _ h)) (by decide +kernel))) (goodIn_sub (fun _ h => List.mem_append_right _ h) (by decide +kernel))
set_option maxRecDepth 20000 in
theorem gL_law_X11_query : GoodIn wsL_law (wsV RL 22 RX11 yX11_query wsX11_query) := goodIn_app (goodIn_of _ (by decide +kernel)) ggL_law_X11_query
set_option maxRecDepth 20000 in
theorem ggL_law_X11_draw : GoodIn wsL_law wsX11_draw := goodIn_r _ [139, 31, 32, 140, 141, 142, 143, 144, 145, 146, 782, 783, 784, 785, 786, 787, 788, 789, 790, 791, 792, 793, 794, 795, 796] (by decide +kernel) (by decide +kernel)
set_option maxRecDepth 20000 in
theorem gL_law_X11_draw : GoodIn wsL_law (wsV RL 25 RX11 yX11_draw wsX11_draw) := goodIn_app (goodIn_of _ (by decide +kernel)) ggL_law_X11_draw
set_option maxRecDepth 20000 in
theorem ggL_law_X11_flush : GoodIn wsL_law wsX11_flush := goodIn_r _ [351, 6, 135, 24, 29, 28, 191, 192, 193, 194, 18, 188, 189, 2, 190, 352, 353, 354, 355, 23, 356, 357, 358, 17, 359, 40, 360, 361, 362, 39, 363, 364, 365, 236, 237, 238, 239, 240, 241, 242, 170, 243, 244, 245, 246, 247, 74, 366, 367, 368, 369, 75, 370, 371, 372, 373, 374, 375, 376, 377, 378, 379, 380, 381, 382, 383, 384, 385, 386, 387, 388, 389, 390, 77, 391, 392, 393, 59, 394, 395, 83, 82, 396, 92, 93, 94, 397, 398, 399, 158, 400, 177, 401, 402, 403, 404, 405, 406, 207, 208, 209, 176, 407, 408, 409, 410, 411, 412, 413, 181, 414, 219, 186, 782, 783, 784, 785, 786, 787, 788, 789, 790, 791, 792, 793, 794, 795, 796, 797, 798, 799, 800, 801, 802, 803, 804, 805, 806, 807, 808, 809, 810, 811, 812, 839, 840, 841, 842, 843, 831, 832, 833, 844, 845, 846, 847, 848] (by first | exact rfl | decide +kernel) (by decide +kernel)
