theorem dX6_rest_160 : decode cX6_rest 160 = .ok (.getfield 84, 3) := by decide +kernel
theorem dX6_rest_163 : decode cX6_rest 163 = .ok (.iconst 1, 1) := by decide +kernel
theorem dX6_rest_164 : decode cX6_rest 164 = .ok (.iadd, 1) := by decide +kernel
theorem dX6_rest_165 : decode cX6_rest 165 = .ok (.putfield 84, 3) := by decide +kernel
theorem dX6_rest_168 : decode cX6_rest 168 = .ok (.goto 277, 3) := by decide +kernel
theorem dX6_rest_171 : decode cX6_rest 171 = .ok (.aload_n 0, 1) := by decide +kernel
theorem dX6_rest_172 : decode cX6_rest 172 = .ok (.getfield 43, 3) := by decide +kernel
theorem dX6_rest_175 : decode cX6_rest 175 = .ok (.iload_n 2, 1) := by decide +kernel
theorem dX6_rest_176 : decode cX6_rest 176 = .ok (.iconst (-1), 1) := by decide +kernel
theorem dX6_rest_177 : decode cX6_rest 177 = .ok (.iastore, 1) := by decide +kernel
theorem dX6_rest_178 : decode cX6_rest 178 = .ok (.goto 267, 3) := by decide +kernel
theorem dX6_rest_181 : decode cX6_rest 181 = .ok (.aload_n 0, 1) := by decide +kernel
theorem dX6_rest_182 : decode cX6_rest 182 = .ok (.getfield 43, 3) := by decide +kernel
theorem dX6_rest_185 : decode cX6_rest 185 = .ok (.iload_n 2, 1) := by decide +kernel
theorem dX6_rest_186 : decode cX6_rest 186 = .ok (.aload_n 0, 1) := by decide +kernel
theorem dX6_rest_187 : decode cX6_rest 187 = .ok (.getfield 43, 3) := by decide +kernel
theorem dX6_rest_190 : decode cX6_rest 190 = .ok (.iload_n 3, 1) := by decide +kernel
theorem dX6_rest_191 : decode cX6_rest 191 = .ok (.iaload, 1) := by decide +kernel
theorem dX6_rest_192 : decode cX6_rest 192 = .ok (.iastore, 1) := by decide +kernel
theorem dX6_rest_193 : decode cX6_rest 193 = .ok (.goto 252, 3) := by decide +kernel
theorem dX6_rest_196 : decode cX6_rest 196 = .ok (.aload_n 0, 1) := by decide +kernel
theorem dX6_rest_197 : decode cX6_rest 197 = .ok (.aload_n 0, 1) := by decide +kernel
theorem dX6_rest_198 : decode cX6_rest 198 = .ok (.getfield 46, 3) := by decide +kernel
theorem dX6_rest_201 : decode cX6_rest 201 = .ok (.iload_n 3, 1) := by decide +kernel
theorem dX6_rest_202 : decode cX6_rest 202 = .ok (.iaload, 1) := by decide +kernel
theorem dX6_rest_203 : decode cX6_rest 203 = .ok (.iconst (-1), 1) := by decide +kernel
theorem dX6_rest_204 : decode cX6_rest 204 = .ok (.if_icmp .eq 7, 3) := by decide +kernel
theorem dX6_rest_207 : decode cX6_rest 207 = .ok (.iconst 1, 1) := by decide +kernel
theorem dX6_rest_208 : decode cX6_rest 208 = .ok (.goto 4, 3) := by decide +kernel
theorem dX6_rest_211 : decode cX6_rest 211 = .ok (.iconst 0, 1) := by decide +kernel
theorem dX6_rest_212 : decode cX6_rest 212 = .ok (.invokevirtual 133, 3) := by decide +kernel
theorem dX6_rest_215 : decode cX6_rest 215 = .ok (.ifCond .eq 230, 3) := by decide +kernel
theorem dX6_rest_218 : decode cX6_rest 218 = .ok (.aload_n 0, 1) := by decide +kernel
theorem dX6_rest_219 : decode cX6_rest 219 = .ok (.getfield 74, 3) := by decide +kernel
theorem dX6_rest_222 : decode cX6_rest 222 = .ok (.iload_n 2, 1) := by decide +kernel
theorem dX6_rest_223 : decode cX6_rest 223 = .ok (.aload_n 0, 1) := by decide +kernel
theorem dX6_rest_224 : decode cX6_rest 224 = .ok (.getfield 46, 3) := by decide +kernel
theorem dX6_rest_227 : decode cX6_rest 227 = .ok (.iload_n 3, 1) := by decide +kernel
theorem dX6_rest_228 : decode cX6_rest 228 = .ok (.iaload, 1) := by decide +kernel
theorem dX6_rest_229 : decode cX6_rest 229 = .ok (.iastore, 1) := by decide +kernel
theorem dX6_rest_230 : decode cX6_rest 230 = .ok (.goto 215, 3) := by decide +kernel
theorem dX6_rest_233 : decode cX6_rest 233 = .ok (.aload_n 0, 1) := by decide +kernel
theorem dX6_rest_234 : decode cX6_rest 234 = .ok (.getfield 46, 3) := by decide +kernel
theorem dX6_rest_237 : decode cX6_rest 237 = .ok (.iload_n 2, 1) := by decide +kernel
theorem dX6_rest_238 : decode cX6_rest 238 = .ok (.iconst (-1), 1) := by decide +kernel
theorem dX6_rest_239 : decode cX6_rest 239 = .ok (.iastore, 1) := by decide +kernel
theorem dX6_rest_240 : decode cX6_rest 240 = .ok (.goto 205, 3) := by decide +kernel
theorem dX6_rest_243 : decode cX6_rest 243 = .ok (.aload_n 0, 1) := by decide +kernel
theorem dX6_rest_244 : decode cX6_rest 244 = .ok (.aload_n 0, 1) := by decide +kernel
theorem dX6_rest_245 : decode cX6_rest 245 = .ok (.getfield 74, 3) := by decide +kernel
theorem dX6_rest_248 : decode cX6_rest 248 = .ok (.iload_n 3, 1) := by decide +kernel
theorem dX6_rest_249 : decode cX6_rest 249 = .ok (.iaload, 1) := by decide +kernel
theorem dX6_rest_250 : decode cX6_rest 250 = .ok (.invokevirtual 130, 3) := by decide +kernel
theorem dX6_rest_253 : decode cX6_rest 253 = .ok (.ifCond .eq 192, 3) := by decide +kernel
theorem dX6_rest_256 : decode cX6_rest 256 = .ok (.aload_n 0, 1) := by decide +kernel
theorem dX6_rest_257 : decode cX6_rest 257 = .ok (.getfield 61, 3) := by decide +kernel
theorem dX6_rest_260 : decode cX6_rest 260 = .ok (.iload_n 2, 1) := by decide +kernel
theorem dX6_rest_261 : decode cX6_rest 261 = .ok (.aload_n 0, 1) := by decide +kernel
theorem dX6_rest_262 : decode cX6_rest 262 = .ok (.getfield 74, 3) := by decide +kernel
theorem dX6_rest_265 : decode cX6_rest 265 = .ok (.iload_n 3, 1) := by decide +kernel
theorem dX6_rest_266 : decode cX6_rest 266 = .ok (.iaload, 1) := by decide +kernel
theorem dX6_rest_267 : decode cX6_rest 267 = .ok (.iastore, 1) := by decide +kernel
theorem dX6_rest_268 : decode cX6_rest 268 = .ok (.aload_n 0, 1) := by decide +kernel
theorem dX6_rest_269 : decode cX6_rest 269 = .ok (.getfield 64, 3) := by decide +kernel
theorem dX6_rest_272 : decode cX6_rest 272 = .ok (.iload_n 2, 1) := by decide +kernel
theorem dX6_rest_273 : decode cX6_rest 273 = .ok (.iload 4, 2) := by decide +kernel
theorem dX6_rest_275 : decode cX6_rest 275 = .ok (.iastore, 1) := by decide +kernel
theorem dX6_rest_276 : decode cX6_rest 276 = .ok (.goto 169, 3) := by decide +kernel
theorem dX6_rest_279 : decode cX6_rest 279 = .ok (.aload_n 0, 1) := by decide +kernel
theorem dX6_rest_280 : decode cX6_rest 280 = .ok (.aload_n 0, 1) := by decide +kernel
theorem dX6_rest_281 : decode cX6_rest 281 = .ok (.getfield 61, 3) := by decide +kernel
theorem dX6_rest_284 : decode cX6_rest 284 = .ok (.iload_n 3, 1) := by decide +kernel
theorem dX6_rest_285 : decode cX6_rest 285 = .ok (.iaload, 1) := by decide +kernel
theorem dX6_rest_286 : decode cX6_rest 286 = .ok (.iconst (-1), 1) := by decide +kernel
theorem dX6_rest_287 : decode cX6_rest 287 = .ok (.if_icmp .eq 7, 3) := by decide +kernel
theorem dX6_rest_290 : decode cX6_rest 290 = .ok (.iconst 1, 1) := by decide +kernel
theorem dX6_rest_291 : decode cX6_rest 291 = .ok (.goto 4, 3) := by decide +kernel
theorem dX6_rest_294 : decode cX6_rest 294 = .ok (.iconst 0, 1) := by decide +kernel
theorem dX6_rest_295 : decode cX6_rest 295 = .ok (.invokevirtual 133, 3) := by decide +kernel
theorem dX6_rest_298 : decode cX6_rest 298 = .ok (.ifCond .eq 147, 3) := by decide +kernel
theorem dX6_rest_301 : decode cX6_rest 301 = .ok (.aload_n 0, 1) := by decide +kernel
theorem dX6_rest_302 : decode cX6_rest 302 = .ok (.getfield 74, 3) := by decide +kernel
theorem dX6_rest_305 : decode cX6_rest 305 = .ok (.iload_n 2, 1) := by decide +kernel
theorem dX6_rest_306 : decode cX6_rest 306 = .ok (.aload_n 0, 1) := by decide +kernel
theorem dX6_rest_307 : decode cX6_rest 307 = .ok (.getfield 61, 3) := by decide +kernel
theorem dX6_rest_310 : decode cX6_rest 310 = .ok (.iload_n 3, 1) := by decide +kernel
theorem dX6_rest_311 : decode cX6_rest 311 = .ok (.iaload, 1) := by decide +kernel
theorem dX6_rest_312 : decode cX6_rest 312 = .ok (.aload_n 0, 1) := by decide +kernel
theorem dX6_rest_313 : decode cX6_rest 313 = .ok (.getfield 64, 3) := by decide +kernel
theorem dX6_rest_316 : decode cX6_rest 316 = .ok (.iload_n 3, 1) := by decide +kernel
theorem dX6_rest_317 : decode cX6_rest 317 = .ok (.iaload, 1) := by decide +kernel
theorem dX6_rest_318 : decode cX6_rest 318 = .ok (.imul, 1) := by decide +kernel
theorem dX6_rest_319 : decode cX6_rest 319 = .ok (.iastore, 1) := by decide +kernel
theorem dX6_rest_320 : decode cX6_rest 320 = .ok (.goto 125, 3) := by decide +kernel
theorem dX6_rest_323 : decode cX6_rest 323 = .ok (.aload_n 0, 1) := by decide +kernel
theorem dX6_rest_324 : decode cX6_rest 324 = .ok (.getfield 67, 3) := by decide +kernel
theorem dX6_rest_327 : decode cX6_rest 327 = .ok (.iload_n 2, 1) := by decide +kernel
theorem dX6_rest_328 : decode cX6_rest 328 = .ok (.iconst 1, 1) := by decide +kernel
theorem dX6_rest_329 : decode cX6_rest 329 = .ok (.bastore, 1) := by decide +kernel
theorem dX6_rest_330 : decode cX6_rest 330 = .ok (.aload_n 0, 1) := by decide +kernel
theorem dX6_rest_331 : decode cX6_rest 331 = .ok (.getfield 71, 3) := by decide +kernel
theorem dX6_rest_334 : decode cX6_rest 334 = .ok (.iload_n 2, 1) := by decide +kernel
theorem dX6_rest_335 : decode cX6_rest 335 = .ok (.aload_n 0, 1) := by decide +kernel
theorem dX6_rest_336 : decode cX6_rest 336 = .ok (.getfield 74, 3) := by decide +kernel
theorem dX6_rest_339 : decode cX6_rest 339 = .ok (.iload_n 3, 1) := by decide +kernel
theorem dX6_rest_340 : decode cX6_rest 340 = .ok (.iaload, 1) := by decide +kernel
theorem dX6_rest_341 : decode cX6_rest 341 = .ok (.iastore, 1) := by decide +kernel
theorem dX6_rest_342 : decode cX6_rest 342 = .ok (.goto 103, 3) := by decide +kernel
theorem dX6_rest_345 : decode cX6_rest 345 = .ok (.aload_n 0, 1) := by decide +kernel
theorem dX6_rest_346 : decode cX6_rest 346 = .ok (.getfield 67, 3) := by decide +kernel
theorem dX6_rest_349 : decode cX6_rest 349 = .ok (.iload_n 2, 1) := by decide +kernel
theorem dX6_rest_350 : decode cX6_rest 350 = .ok (.iconst 0, 1) := by decide +kernel
theorem dX6_rest_351 : decode cX6_rest 351 = .ok (.bastore, 1) := by decide +kernel
theorem dX6_rest_352 : decode cX6_rest 352 = .ok (.goto 93, 3) := by decide +kernel
theorem dX6_rest_355 : decode cX6_rest 355 = .ok (.aload_n 0, 1) := by decide +kernel
theorem dX6_rest_356 : decode cX6_rest 356 = .ok (.aload_n 0, 1) := by decide +kernel
theorem dX6_rest_357 : decode cX6_rest 357 = .ok (.getfield 67, 3) := by decide +kernel
theorem dX6_rest_360 : decode cX6_rest 360 = .ok (.iload_n 2, 1) := by decide +kernel
theorem dX6_rest_361 : decode cX6_rest 361 = .ok (.baload, 1) := by decide +kernel
theorem dX6_rest_362 : decode cX6_rest 362 = .ok (.invokevirtual 133, 3) := by decide +kernel
theorem dX6_rest_365 : decode cX6_rest 365 = .ok (.ifCond .eq 80, 3) := by decide +kernel
theorem dX6_rest_368 : decode cX6_rest 368 = .ok (.aload_n 0, 1) := by decide +kernel
theorem dX6_rest_369 : decode cX6_rest 369 = .ok (.bipush 7, 2) := by decide +kernel
theorem dX6_rest_371 : decode cX6_rest 371 = .ok (.putfield 127, 3) := by decide +kernel
theorem dX6_rest_374 : decode cX6_rest 374 = .ok (.aload_n 0, 1) := by decide +kernel
theorem dX6_rest_375 : decode cX6_rest 375 = .ok (.aload_n 0, 1) := by decide +kernel
theorem dX6_rest_376 : decode cX6_rest 376 = .ok (.getfield 71, 3) := by decide +kernel
theorem dX6_rest_379 : decode cX6_rest 379 = .ok (.iload_n 2, 1) := by decide +kernel
theorem dX6_rest_380 : decode cX6_rest 380 = .ok (.iaload, 1) := by decide +kernel
theorem dX6_rest_381 : decode cX6_rest 381 = .ok (.putfield 100, 3) := by decide +kernel
theorem dX6_rest_384 : decode cX6_rest 384 = .ok (.goto 61, 3) := by decide +kernel
theorem dX6_rest_387 : decode cX6_rest 387 = .ok (.aload_n 0, 1) := by decide +kernel
theorem dX6_rest_388 : decode cX6_rest 388 = .ok (.getfield 74, 3) := by decide +kernel
theorem dX6_rest_391 : decode cX6_rest 391 = .ok (.iload_n 2, 1) := by decide +kernel
theorem dX6_rest_392 : decode cX6_rest 392 = .ok (.iload_n 3, 1) := by decide +kernel
theorem dX6_rest_393 : decode cX6_rest 393 = .ok (.iastore, 1) := by decide +kernel
theorem dX6_rest_394 : decode cX6_rest 394 = .ok (.goto 51, 3) := by decide +kernel
theorem dX6_rest_397 : decode cX6_rest 397 = .ok (.aload_n 0, 1) := by decide +kernel
theorem dX6_rest_398 : decode cX6_rest 398 = .ok (.getfield 74, 3) := by decide +kernel
theorem dX6_rest_401 : decode cX6_rest 401 = .ok (.iload_n 2, 1) := by decide +kernel
theorem dX6_rest_402 : decode cX6_rest 402 = .ok (.dup2, 1) := by decide +kernel
theorem dX6_rest_403 : decode cX6_rest 403 = .ok (.iaload, 1) := by decide +kernel
theorem dX6_rest_404 : decode cX6_rest 404 = .ok (.aload_n 0, 1) := by decide +kernel
theorem dX6_rest_405 : decode cX6_rest 405 = .ok (.getfield 74, 3) := by decide +kernel
theorem dX6_rest_408 : decode cX6_rest 408 = .ok (.iload_n 3, 1) := by decide +kernel
theorem dX6_rest_409 : decode cX6_rest 409 = .ok (.iaload, 1) := by decide +kernel
theorem dX6_rest_410 : decode cX6_rest 410 = .ok (.iadd, 1) := by decide +kernel
theorem dX6_rest_411 : decode cX6_rest 411 = .ok (.iastore, 1) := by decide +kernel
theorem dX6_rest_412 : decode cX6_rest 412 = .ok (.goto 33, 3) := by decide +kernel
theorem dX6_rest_415 : decode cX6_rest 415 = .ok (.aload_n 0, 1) := by decide +kernel
theorem dX6_rest_416 : decode cX6_rest 416 = .ok (.iload_n 2, 1) := by decide +kernel
theorem dX6_rest_417 : decode cX6_rest 417 = .ok (.putfield 88, 3) := by decide +kernel
theorem dX6_rest_420 : decode cX6_rest 420 = .ok (.goto 25, 3) := by decide +kernel
theorem dX6_rest_423 : decode cX6_rest 423 = .ok (.aload_n 0, 1) := by decide +kernel
theorem dX6_rest_424 : decode cX6_rest 424 = .ok (.aload_n 0, 1) := by decide +kernel
theorem dX6_rest_425 : decode cX6_rest 425 = .ok (.getfield 74, 3) := by decide +kernel
theorem dX6_rest_428 : decode cX6_rest 428 = .ok (.iload_n 2, 1) := by decide +kernel
theorem dX6_rest_429 : decode cX6_rest 429 = .ok (.iaload, 1) := by decide +kernel
theorem dX6_rest_430 : decode cX6_rest 430 = .ok (.iconst 1, 1) := by decide +kernel
theorem dX6_rest_431 : decode cX6_rest 431 = .ok (.if_icmp .ge 7, 3) := by decide +kernel
theorem dX6_rest_434 : decode cX6_rest 434 = .ok (.iload_n 3, 1) := by decide +kernel
theorem dX6_rest_435 : decode cX6_rest 435 = .ok (.goto 7, 3) := by decide +kernel
theorem dX6_rest_438 : decode cX6_rest 438 = .ok (.aload_n 0, 1) := by decide +kernel
theorem dX6_rest_439 : decode cX6_rest 439 = .ok (.getfield 88, 3) := by decide +kernel
theorem dX6_rest_442 : decode cX6_rest 442 = .ok (.putfield 88, 3) := by decide +kernel
theorem dX6_rest_445 : decode cX6_rest 445 = .ok (.return_, 1) := by decide +kernel
theorem dX6_goOn_0 : decode cX6_goOn 0 = .ok (.aload_n 0, 1) := by decide +kernel
theorem dX6_goOn_1 : decode cX6_goOn 1 = .ok (.getfield 88, 3) := by decide +kernel
theorem dX6_goOn_4 : decode cX6_goOn 4 = .ok (.istore_n 1, 1) := by decide +kernel
theorem dX6_goOn_5 : decode cX6_goOn 5 = .ok (.aload_n 0, 1) := by decide +kernel
theorem dX6_goOn_6 : decode cX6_goOn 6 = .ok (.getfield 7, 3) := by decide +kernel
theorem dX6_goOn_9 : decode cX6_goOn 9 = .ok (.iload_n 1, 1) := by decide +kernel
theorem dX6_goOn_10 : decode cX6_goOn 10 = .ok (.iaload, 1) := by decide +kernel
theorem dX6_goOn_11 : decode cX6_goOn 11 = .ok (.istore_n 2, 1) := by decide +kernel
theorem dX6_goOn_12 : decode cX6_goOn 12 = .ok (.aload_n 0, 1) := by decide +kernel
theorem dX6_goOn_13 : decode cX6_goOn 13 = .ok (.getfield 13, 3) := by decide +kernel
theorem dX6_goOn_16 : decode cX6_goOn 16 = .ok (.iload_n 1, 1) := by decide +kernel
theorem dX6_goOn_17 : decode cX6_goOn 17 = .ok (.iaload, 1) := by decide +kernel
theorem dX6_goOn_18 : decode cX6_goOn 18 = .ok (.istore_n 3, 1) := by decide +kernel
theorem dX6_goOn_19 : decode cX6_goOn 19 = .ok (.aload_n 0, 1) := by decide +kernel
theorem dX6_goOn_20 : decode cX6_goOn 20 = .ok (.getfield 16, 3) := by decide +kernel
theorem dX6_goOn_23 : decode cX6_goOn 23 = .ok (.iload_n 1, 1) := by decide +kernel
theorem dX6_goOn_24 : decode cX6_goOn 24 = .ok (.iaload, 1) := by decide +kernel
theorem dX6_goOn_25 : decode cX6_goOn 25 = .ok (.istore 4, 2) := by decide +kernel
theorem dX6_goOn_27 : decode cX6_goOn 27 = .ok (.aload_n 0, 1) := by decide +kernel
theorem dX6_goOn_28 : decode cX6_goOn 28 = .ok (.getfield 19, 3) := by decide +kernel
theorem dX6_goOn_31 : decode cX6_goOn 31 = .ok (.iload_n 1, 1) := by decide +kernel
theorem dX6_goOn_32 : decode cX6_goOn 32 = .ok (.iaload, 1) := by decide +kernel
theorem dX6_goOn_33 : decode cX6_goOn 33 = .ok (.istore 5, 2) := by decide +kernel
theorem dX6_goOn_35 : decode cX6_goOn 35 = .ok (.aload_n 0, 1) := by decide +kernel
theorem dX6_goOn_36 : decode cX6_goOn 36 = .ok (.iload_n 1, 1) := by decide +kernel
theorem dX6_goOn_37 : decode cX6_goOn 37 = .ok (.iconst 1, 1) := by decide +kernel
theorem dX6_goOn_38 : decode cX6_goOn 38 = .ok (.iadd, 1) := by decide +kernel
theorem dX6_goOn_39 : decode cX6_goOn 39 = .ok (.putfield 88, 3) := by decide +kernel
theorem dX6_goOn_42 : decode cX6_goOn 42 = .ok (.aload_n 0, 1) := by decide +kernel
theorem dX6_goOn_43 : decode cX6_goOn 43 = .ok (.dup, 1) := by decide +kernel
theorem dX6_goOn_44 : decode cX6_goOn 44 = .ok (.getfield 91, 3) := by decide +kernel
theorem dX6_goOn_47 : decode cX6_goOn 47 = .ok (.iconst 1, 1) := by decide +kernel
theorem dX6_goOn_48 : decode cX6_goOn 48 = .ok (.iadd, 1) := by decide +kernel
theorem dX6_goOn_49 : decode cX6_goOn 49 = .ok (.putfield 91, 3) := by decide +kernel
theorem dX6_goOn_52 : decode cX6_goOn 52 = .ok (.aload_n 0, 1) := by decide +kernel
theorem dX6_goOn_53 : decode cX6_goOn 53 = .ok (.iconst 0, 1) := by decide +kernel
theorem dX6_goOn_54 : decode cX6_goOn 54 = .ok (.putfield 127, 3) := by decide +kernel
theorem dX6_goOn_57 : decode cX6_goOn 57 = .ok (.iload_n 2, 1) := by decide +kernel
theorem dX6_goOn_58 : decode cX6_goOn 58 = .ok (.iconst 3, 1) := by decide +kernel
theorem dX6_goOn_59 : decode cX6_goOn 59 = .ok (.iconst 5, 1) := by decide +kernel
theorem dX6_goOn_60 : decode cX6_goOn 60 = .ok (.invokestatic 106, 3) := by decide +kernel
theorem dX6_goOn_63 : decode cX6_goOn 63 = .ok (.ifCond .eq 16, 3) := by decide +kernel
theorem dX6_goOn_66 : decode cX6_goOn 66 = .ok (.aload_n 0, 1) := by decide +kernel
theorem dX6_goOn_67 : decode cX6_goOn 67 = .ok (.iload_n 2, 1) := by decide +kernel
theorem dX6_goOn_68 : decode cX6_goOn 68 = .ok (.iload_n 3, 1) := by decide +kernel
theorem dX6_goOn_69 : decode cX6_goOn 69 = .ok (.iload 4, 2) := by decide +kernel
theorem dX6_goOn_71 : decode cX6_goOn 71 = .ok (.iload 5, 2) := by decide +kernel
theorem dX6_goOn_73 : decode cX6_goOn 73 = .ok (.invokevirtual 152, 3) := by decide +kernel
theorem dX6_goOn_76 : decode cX6_goOn 76 = .ok (.goto 59, 3) := by decide +kernel
theorem dX6_goOn_79 : decode cX6_goOn 79 = .ok (.iload_n 2, 1) := by decide +kernel
theorem dX6_goOn_80 : decode cX6_goOn 80 = .ok (.bipush 8, 2) := by decide +kernel
theorem dX6_goOn_82 : decode cX6_goOn 82 = .ok (.bipush 12, 2) := by decide +kernel
theorem dX6_goOn_84 : decode cX6_goOn 84 = .ok (.invokestatic 106, 3) := by decide +kernel
theorem dX6_goOn_87 : decode cX6_goOn 87 = .ok (.ifCond .eq 14, 3) := by decide +kernel
theorem dX6_goOn_90 : decode cX6_goOn 90 = .ok (.aload_n 0, 1) := by decide +kernel
theorem dX6_goOn_91 : decode cX6_goOn 91 = .ok (.iload_n 2, 1) := by decide +kernel
theorem dX6_goOn_92 : decode cX6_goOn 92 = .ok (.iload_n 3, 1) := by decide +kernel
theorem dX6_goOn_93 : decode cX6_goOn 93 = .ok (.iload 4, 2) := by decide +kernel
theorem dX6_goOn_95 : decode cX6_goOn 95 = .ok (.invokevirtual 156, 3) := by decide +kernel
theorem dX6_goOn_98 : decode cX6_goOn 98 = .ok (.goto 37, 3) := by decide +kernel
theorem dX6_goOn_101 : decode cX6_goOn 101 = .ok (.iload_n 2, 1) := by decide +kernel
theorem dX6_goOn_102 : decode cX6_goOn 102 = .ok (.bipush 13, 2) := by decide +kernel
theorem dX6_goOn_104 : decode cX6_goOn 104 = .ok (.bipush 15, 2) := by decide +kernel
theorem dX6_goOn_106 : decode cX6_goOn 106 = .ok (.invokestatic 106, 3) := by decide +kernel
theorem dX6_goOn_109 : decode cX6_goOn 109 = .ok (.ifCond .eq 16, 3) := by decide +kernel
theorem dX6_goOn_112 : decode cX6_goOn 112 = .ok (.aload_n 0, 1) := by decide +kernel
theorem dX6_goOn_113 : decode cX6_goOn 113 = .ok (.iload_n 2, 1) := by decide +kernel
theorem dX6_goOn_114 : decode cX6_goOn 114 = .ok (.iload_n 3, 1) := by decide +kernel
theorem dX6_goOn_115 : decode cX6_goOn 115 = .ok (.iload 4, 2) := by decide +kernel
theorem dX6_goOn_117 : decode cX6_goOn 117 = .ok (.iload 5, 2) := by decide +kernel
theorem dX6_goOn_119 : decode cX6_goOn 119 = .ok (.invokevirtual 160, 3) := by decide +kernel
theorem dX6_goOn_122 : decode cX6_goOn 122 = .ok (.goto 13, 3) := by decide +kernel
theorem dX6_goOn_125 : decode cX6_goOn 125 = .ok (.aload_n 0, 1) := by decide +kernel
theorem dX6_goOn_126 : decode cX6_goOn 126 = .ok (.iload_n 2, 1) := by decide +kernel
theorem dX6_goOn_127 : decode cX6_goOn 127 = .ok (.iload_n 3, 1) := by decide +kernel
theorem dX6_goOn_128 : decode cX6_goOn 128 = .ok (.iload 4, 2) := by decide +kernel
theorem dX6_goOn_130 : decode cX6_goOn 130 = .ok (.iload 5, 2) := by decide +kernel
theorem dX6_goOn_132 : decode cX6_goOn 132 = .ok (.invokevirtual 163, 3) := by decide +kernel
theorem dX6_goOn_135 : decode cX6_goOn 135 = .ok (.aload_n 0, 1) := by decide +kernel
theorem dX6_goOn_136 : decode cX6_goOn 136 = .ok (.getfield 127, 3) := by decide +kernel
theorem dX6_goOn_139 : decode cX6_goOn 139 = .ok (.ifCond .eq 8, 3) := by decide +kernel
theorem dX6_goOn_142 : decode cX6_goOn 142 = .ok (.aload_n 0, 1) := by decide +kernel
theorem dX6_goOn_143 : decode cX6_goOn 143 = .ok (.iload_n 1, 1) := by decide +kernel
theorem dX6_goOn_144 : decode cX6_goOn 144 = .ok (.invokevirtual 166, 3) := by decide +kernel
theorem dX6_goOn_147 : decode cX6_goOn 147 = .ok (.return_, 1) := by decide +kernel
theorem dX6_fails_0 : decode cX6_fails 0 = .ok (.iconst 0, 1) := by decide +kernel
theorem dX6_fails_1 : decode cX6_fails 1 = .ok (.istore_n 2, 1) := by decide +kernel
theorem dX6_fails_2 : decode cX6_fails 2 = .ok (.iload_n 2, 1) := by decide +kernel
theorem dX6_fails_3 : decode cX6_fails 3 = .ok (.aload_n 0, 1) := by decide +kernel
theorem dX6_fails_4 : decode cX6_fails 4 = .ok (.getfield 124, 3) := by decide +kernel
theorem dX6_fails_7 : decode cX6_fails 7 = .ok (.if_icmp .ge 86, 3) := by decide +kernel
theorem dX6_fails_10 : decode cX6_fails 10 = .ok (.iload_n 1, 1) := by decide +kernel
theorem dX6_fails_11 : decode cX6_fails 11 = .ok (.aload_n 0, 1) := by decide +kernel
theorem dX6_fails_12 : decode cX6_fails 12 = .ok (.getfield 22, 3) := by decide +kernel
theorem dX6_fails_15 : decode cX6_fails 15 = .ok (.iload_n 2, 1) := by decide +kernel
theorem dX6_fails_16 : decode cX6_fails 16 = .ok (.iaload, 1) := by decide +kernel
theorem dX6_fails_17 : decode cX6_fails 17 = .ok (.aload_n 0, 1) := by decide +kernel
theorem dX6_fails_18 : decode cX6_fails 18 = .ok (.getfield 25, 3) := by decide +kernel
theorem dX6_fails_21 : decode cX6_fails 21 = .ok (.iload_n 2, 1) := by decide +kernel
theorem dX6_fails_22 : decode cX6_fails 22 = .ok (.iaload, 1) := by decide +kernel
theorem dX6_fails_23 : decode cX6_fails 23 = .ok (.iconst 1, 1) := by decide +kernel
theorem dX6_fails_24 : decode cX6_fails 24 = .ok (.isub, 1) := by decide +kernel
theorem dX6_fails_25 : decode cX6_fails 25 = .ok (.invokestatic 106, 3) := by decide +kernel
theorem dX6_fails_28 : decode cX6_fails 28 = .ok (.ifCond .eq 59, 3) := by decide +kernel
theorem dX6_fails_31 : decode cX6_fails 31 = .ok (.aload_n 0, 1) := by decide +kernel
theorem dX6_fails_32 : decode cX6_fails 32 = .ok (.getfield 28, 3) := by decide +kernel
theorem dX6_fails_35 : decode cX6_fails 35 = .ok (.iload_n 2, 1) := by decide +kernel
theorem dX6_fails_36 : decode cX6_fails 36 = .ok (.iaload, 1) := by decide +kernel
theorem dX6_fails_37 : decode cX6_fails 37 = .ok (.ifCond .eq 16, 3) := by decide +kernel
theorem dX6_fails_40 : decode cX6_fails 40 = .ok (.aload_n 0, 1) := by decide +kernel
theorem dX6_fails_41 : decode cX6_fails 41 = .ok (.getfield 28, 3) := by decide +kernel
theorem dX6_fails_44 : decode cX6_fails 44 = .ok (.iload_n 2, 1) := by decide +kernel
theorem dX6_fails_45 : decode cX6_fails 45 = .ok (.iaload, 1) := by decide +kernel
theorem dX6_fails_46 : decode cX6_fails 46 = .ok (.aload_n 0, 1) := by decide +kernel
theorem dX6_fails_47 : decode cX6_fails 47 = .ok (.getfield 127, 3) := by decide +kernel
theorem dX6_fails_50 : decode cX6_fails 50 = .ok (.if_icmp .ne 37, 3) := by decide +kernel
theorem dX6_fails_53 : decode cX6_fails 53 = .ok (.aload_n 0, 1) := by decide +kernel
theorem dX6_fails_54 : decode cX6_fails 54 = .ok (.dup, 1) := by decide +kernel
theorem dX6_fails_55 : decode cX6_fails 55 = .ok (.getfield 103, 3) := by decide +kernel
theorem dX6_fails_58 : decode cX6_fails 58 = .ok (.iconst 1, 1) := by decide +kernel
theorem dX6_fails_59 : decode cX6_fails 59 = .ok (.iadd, 1) := by decide +kernel
theorem dX6_fails_60 : decode cX6_fails 60 = .ok (.putfield 103, 3) := by decide +kernel
theorem dX6_fails_63 : decode cX6_fails 63 = .ok (.aload_n 0, 1) := by decide +kernel
theorem dX6_fails_64 : decode cX6_fails 64 = .ok (.getfield 77, 3) := by decide +kernel
theorem dX6_fails_67 : decode cX6_fails 67 = .ok (.aload_n 0, 1) := by decide +kernel
theorem dX6_fails_68 : decode cX6_fails 68 = .ok (.getfield 127, 3) := by decide +kernel
theorem dX6_fails_71 : decode cX6_fails 71 = .ok (.dup2, 1) := by decide +kernel
theorem dX6_fails_72 : decode cX6_fails 72 = .ok (.iaload, 1) := by decide +kernel
theorem dX6_fails_73 : decode cX6_fails 73 = .ok (.iconst 1, 1) := by decide +kernel
theorem dX6_fails_74 : decode cX6_fails 74 = .ok (.iadd, 1) := by decide +kernel
theorem dX6_fails_75 : decode cX6_fails 75 = .ok (.iastore, 1) := by decide +kernel
theorem dX6_fails_76 : decode cX6_fails 76 = .ok (.aload_n 0, 1) := by decide +kernel
theorem dX6_fails_77 : decode cX6_fails 77 = .ok (.aload_n 0, 1) := by decide +kernel
theorem dX6_fails_78 : decode cX6_fails 78 = .ok (.getfield 31, 3) := by decide +kernel
theorem dX6_fails_81 : decode cX6_fails 81 = .ok (.iload_n 2, 1) := by decide +kernel
theorem dX6_fails_82 : decode cX6_fails 82 = .ok (.iaload, 1) := by decide +kernel
theorem dX6_fails_83 : decode cX6_fails 83 = .ok (.putfield 88, 3) := by decide +kernel
theorem dX6_fails_86 : decode cX6_fails 86 = .ok (.return_, 1) := by decide +kernel
theorem dX6_fails_87 : decode cX6_fails 87 = .ok (.iinc 2 1, 3) := by decide +kernel
theorem dX6_fails_90 : decode cX6_fails 90 = .ok (.goto (-88), 3) := by decide +kernel
theorem dX6_fails_93 : decode cX6_fails 93 = .ok (.aload_n 0, 1) := by decide +kernel
theorem dX6_fails_94 : decode cX6_fails 94 = .ok (.aload_n 0, 1) := by decide +kernel
theorem dX6_fails_95 : decode cX6_fails 95 = .ok (.getfield 127, 3) := by decide +kernel
theorem dX6_fails_98 : decode cX6_fails 98 = .ok (.putfield 94, 3) := by decide +kernel
theorem dX6_fails_101 : decode cX6_fails 101 = .ok (.aload_n 0, 1) := by decide +kernel
theorem dX6_fails_102 : decode cX6_fails 102 = .ok (.iload_n 1, 1) := by decide +kernel
theorem dX6_fails_103 : decode cX6_fails 103 = .ok (.putfield 97, 3) := by decide +kernel
theorem dX6_fails_106 : decode cX6_fails 106 = .ok (.return_, 1) := by decide +kernel
theorem dX6_run_0 : decode cX6_run 0 = .ok (.iload_n 2, 1) := by decide +kernel
theorem dX6_run_1 : decode cX6_run 1 = .ok (.iconst 0, 1) := by decide +kernel
theorem dX6_run_2 : decode cX6_run 2 = .ok (.bipush 64, 2) := by decide +kernel
theorem dX6_run_4 : decode cX6_run 4 = .ok (.invokestatic 106, 3) := by decide +kernel
theorem dX6_run_7 : decode cX6_run 7 = .ok (.ifCond .ne 6, 3) := by decide +kernel
theorem dX6_run_10 : decode cX6_run 10 = .ok (.bipush (-101), 2) := by decide +kernel
theorem dX6_run_12 : decode cX6_run 12 = .ok (.ireturn, 1) := by decide +kernel
theorem dX6_run_13 : decode cX6_run 13 = .ok (.aload_n 0, 1) := by decide +kernel
theorem dX6_run_14 : decode cX6_run 14 = .ok (.iload_n 1, 1) := by decide +kernel
theorem dX6_run_15 : decode cX6_run 15 = .ok (.invokevirtual 80, 3) := by decide +kernel
theorem dX6_run_18 : decode cX6_run 18 = .ok (.aload_n 0, 1) := by decide +kernel
theorem dX6_run_19 : decode cX6_run 19 = .ok (.getfield 88, 3) := by decide +kernel
theorem dX6_run_22 : decode cX6_run 22 = .ok (.aload_n 0, 1) := by decide +kernel
theorem dX6_run_23 : decode cX6_run 23 = .ok (.getfield 121, 3) := by decide +kernel
theorem dX6_run_26 : decode cX6_run 26 = .ok (.if_icmp .ge 25, 3) := by decide +kernel
theorem dX6_run_29 : decode cX6_run 29 = .ok (.aload_n 0, 1) := by decide +kernel
theorem dX6_run_30 : decode cX6_run 30 = .ok (.getfield 91, 3) := by decide +kernel
theorem dX6_run_33 : decode cX6_run 33 = .ok (.iload_n 2, 1) := by decide +kernel
theorem dX6_run_34 : decode cX6_run 34 = .ok (.if_icmp .ge 17, 3) := by decide +kernel
theorem dX6_run_37 : decode cX6_run 37 = .ok (.aload_n 0, 1) := by decide +kernel
theorem dX6_run_38 : decode cX6_run 38 = .ok (.getfield 94, 3) := by decide +kernel
theorem dX6_run_41 : decode cX6_run 41 = .ok (.ifCond .ne 10, 3) := by decide +kernel
theorem dX6_run_44 : decode cX6_run 44 = .ok (.aload_n 0, 1) := by decide +kernel
theorem dX6_run_45 : decode cX6_run 45 = .ok (.invokevirtual 169, 3) := by decide +kernel
theorem dX6_run_48 : decode cX6_run 48 = .ok (.goto (-30), 3) := by decide +kernel
theorem dX6_run_51 : decode cX6_run 51 = .ok (.aload_n 0, 1) := by decide +kernel
theorem dX6_run_52 : decode cX6_run 52 = .ok (.getfield 94, 3) := by decide +kernel
theorem dX6_run_55 : decode cX6_run 55 = .ok (.ifCond .eq 7, 3) := by decide +kernel
theorem dX6_run_58 : decode cX6_run 58 = .ok (.iconst 1, 1) := by decide +kernel
theorem dX6_run_59 : decode cX6_run 59 = .ok (.goto 19, 3) := by decide +kernel
theorem dX6_run_62 : decode cX6_run 62 = .ok (.aload_n 0, 1) := by decide +kernel
theorem dX6_run_63 : decode cX6_run 63 = .ok (.getfield 88, 3) := by decide +kernel
theorem dX6_run_66 : decode cX6_run 66 = .ok (.aload_n 0, 1) := by decide +kernel
theorem dX6_run_67 : decode cX6_run 67 = .ok (.getfield 121, 3) := by decide +kernel
theorem dX6_run_70 : decode cX6_run 70 = .ok (.if_icmp .ge 7, 3) := by decide +kernel
theorem dX6_run_73 : decode cX6_run 73 = .ok (.iconst 2, 1) := by decide +kernel
theorem dX6_run_74 : decode cX6_run 74 = .ok (.goto 4, 3) := by decide +kernel
theorem dX6_run_77 : decode cX6_run 77 = .ok (.iconst 0, 1) := by decide +kernel
theorem dX6_run_78 : decode cX6_run 78 = .ok (.ireturn, 1) := by decide +kernel
theorem dX6_told_0 : decode cX6_told 0 = .ok (.iload_n 1, 1) := by decide +kernel
theorem dX6_told_1 : decode cX6_told 1 = .ok (.tableswitch 60 0 4 #[35, 40, 45, 50, 55], 35) := by decide +kernel
theorem dX6_told_36 : decode cX6_told 36 = .ok (.aload_n 0, 1) := by decide +kernel
theorem dX6_told_37 : decode cX6_told 37 = .ok (.getfield 94, 3) := by decide +kernel
theorem dX6_told_40 : decode cX6_told 40 = .ok (.ireturn, 1) := by decide +kernel
theorem dX6_told_41 : decode cX6_told 41 = .ok (.aload_n 0, 1) := by decide +kernel
theorem dX6_told_42 : decode cX6_told 42 = .ok (.getfield 97, 3) := by decide +kernel
theorem dX6_told_45 : decode cX6_told 45 = .ok (.ireturn, 1) := by decide +kernel
theorem dX6_told_46 : decode cX6_told 46 = .ok (.aload_n 0, 1) := by decide +kernel
theorem dX6_told_47 : decode cX6_told 47 = .ok (.getfield 100, 3) := by decide +kernel
theorem dX6_told_50 : decode cX6_told 50 = .ok (.ireturn, 1) := by decide +kernel
theorem dX6_told_51 : decode cX6_told 51 = .ok (.aload_n 0, 1) := by decide +kernel
theorem dX6_told_52 : decode cX6_told 52 = .ok (.getfield 91, 3) := by decide +kernel
theorem dX6_told_55 : decode cX6_told 55 = .ok (.ireturn, 1) := by decide +kernel
theorem dX6_told_56 : decode cX6_told 56 = .ok (.aload_n 0, 1) := by decide +kernel
theorem dX6_told_57 : decode cX6_told 57 = .ok (.getfield 103, 3) := by decide +kernel
theorem dX6_told_60 : decode cX6_told 60 = .ok (.ireturn, 1) := by decide +kernel
theorem dX6_told_61 : decode cX6_told 61 = .ok (.bipush (-101), 2) := by decide +kernel
theorem dX6_told_63 : decode cX6_told 63 = .ok (.ireturn, 1) := by decide +kernel
theorem dX6_caught_0 : decode cX6_caught 0 = .ok (.iload_n 1, 1) := by decide +kernel
theorem dX6_caught_1 : decode cX6_caught 1 = .ok (.iconst 1, 1) := by decide +kernel
theorem dX6_caught_2 : decode cX6_caught 2 = .ok (.bipush 7, 2) := by decide +kernel
theorem dX6_caught_4 : decode cX6_caught 4 = .ok (.invokestatic 106, 3) := by decide +kernel
theorem dX6_caught_7 : decode cX6_caught 7 = .ok (.ifCond .eq 12, 3) := by decide +kernel
theorem dX6_caught_10 : decode cX6_caught 10 = .ok (.aload_n 0, 1) := by decide +kernel
theorem dX6_caught_11 : decode cX6_caught 11 = .ok (.getfield 77, 3) := by decide +kernel
theorem dX6_caught_14 : decode cX6_caught 14 = .ok (.iload_n 1, 1) := by decide +kernel
theorem dX6_caught_15 : decode cX6_caught 15 = .ok (.iaload, 1) := by decide +kernel
theorem dX6_caught_16 : decode cX6_caught 16 = .ok (.goto 5, 3) := by decide +kernel
theorem dX6_caught_19 : decode cX6_caught 19 = .ok (.bipush (-101), 2) := by decide +kernel
theorem dX6_caught_21 : decode cX6_caught 21 = .ok (.ireturn, 1) := by decide +kernel
theorem dX6_register_0 : decode cX6_register 0 = .ok (.iload_n 1, 1) := by decide +kernel
theorem dX6_register_1 : decode cX6_register 1 = .ok (.invokestatic 114, 3) := by decide +kernel
theorem dX6_register_4 : decode cX6_register 4 = .ok (.ifCond .eq 12, 3) := by decide +kernel
theorem dX6_register_7 : decode cX6_register 7 = .ok (.aload_n 0, 1) := by decide +kernel
theorem dX6_register_8 : decode cX6_register 8 = .ok (.getfield 74, 3) := by decide +kernel
theorem dX6_register_11 : decode cX6_register 11 = .ok (.iload_n 1, 1) := by decide +kernel
theorem dX6_register_12 : decode cX6_register 12 = .ok (.iaload, 1) := by decide +kernel
theorem dX6_register_13 : decode cX6_register 13 = .ok (.goto 4, 3) := by decide +kernel
theorem dX6_register_16 : decode cX6_register 16 = .ok (.iconst 0, 1) := by decide +kernel
theorem dX6_register_17 : decode cX6_register 17 = .ok (.ireturn, 1) := by decide +kernel
theorem dX6_item_0 : decode cX6_item 0 = .ok (.iload_n 1, 1) := by decide +kernel
theorem dX6_item_1 : decode cX6_item 1 = .ok (.invokestatic 110, 3) := by decide +kernel
theorem dX6_item_4 : decode cX6_item 4 = .ok (.ifCond .eq 12, 3) := by decide +kernel
theorem dX6_item_7 : decode cX6_item 7 = .ok (.iload_n 2, 1) := by decide +kernel
theorem dX6_item_8 : decode cX6_item 8 = .ok (.iconst 0, 1) := by decide +kernel
theorem dX6_item_9 : decode cX6_item 9 = .ok (.iconst 3, 1) := by decide +kernel
theorem dX6_item_10 : decode cX6_item 10 = .ok (.invokestatic 106, 3) := by decide +kernel
theorem dX6_item_13 : decode cX6_item 13 = .ok (.ifCond .ne 6, 3) := by decide +kernel
theorem dX6_item_16 : decode cX6_item 16 = .ok (.bipush (-101), 2) := by decide +kernel
theorem dX6_item_18 : decode cX6_item 18 = .ok (.ireturn, 1) := by decide +kernel
theorem dX6_item_19 : decode cX6_item 19 = .ok (.aload_n 0, 1) := by decide +kernel
theorem dX6_item_20 : decode cX6_item 20 = .ok (.getfield 43, 3) := by decide +kernel
theorem dX6_item_23 : decode cX6_item 23 = .ok (.iload_n 1, 1) := by decide +kernel
theorem dX6_item_24 : decode cX6_item 24 = .ok (.iaload, 1) := by decide +kernel
theorem dX6_item_25 : decode cX6_item 25 = .ok (.istore_n 3, 1) := by decide +kernel
theorem dX6_item_26 : decode cX6_item 26 = .ok (.iload_n 3, 1) := by decide +kernel
theorem dX6_item_27 : decode cX6_item 27 = .ok (.iconst (-1), 1) := by decide +kernel
theorem dX6_item_28 : decode cX6_item 28 = .ok (.if_icmp .ne 5, 3) := by decide +kernel
theorem dX6_item_31 : decode cX6_item 31 = .ok (.iconst (-1), 1) := by decide +kernel
theorem dX6_item_32 : decode cX6_item 32 = .ok (.ireturn, 1) := by decide +kernel
theorem dX6_item_33 : decode cX6_item 33 = .ok (.iconst 0, 1) := by decide +kernel
theorem dX6_item_34 : decode cX6_item 34 = .ok (.istore 4, 2) := by decide +kernel
theorem dX6_item_36 : decode cX6_item 36 = .ok (.aload_n 0, 1) := by decide +kernel
theorem dX6_item_37 : decode cX6_item 37 = .ok (.getfield 43, 3) := by decide +kernel
theorem dX6_item_40 : decode cX6_item 40 = .ok (.iload 4, 2) := by decide +kernel
theorem dX6_item_42 : decode cX6_item 42 = .ok (.iaload, 1) := by decide +kernel
theorem dX6_item_43 : decode cX6_item 43 = .ok (.iload_n 3, 1) := by decide +kernel
theorem dX6_item_44 : decode cX6_item 44 = .ok (.if_icmp .eq 9, 3) := by decide +kernel
theorem dX6_item_47 : decode cX6_item 47 = .ok (.iinc 4 1, 3) := by decide +kernel
theorem dX6_item_50 : decode cX6_item 50 = .ok (.goto (-14), 3) := by decide +kernel
theorem dX6_item_53 : decode cX6_item 53 = .ok (.iload_n 2, 1) := by decide +kernel
theorem dX6_item_54 : decode cX6_item 54 = .ok (.ifCond .ne 12, 3) := by decide +kernel
theorem dX6_item_57 : decode cX6_item 57 = .ok (.aload_n 0, 1) := by decide +kernel
theorem dX6_item_58 : decode cX6_item 58 = .ok (.getfield 34, 3) := by decide +kernel
theorem dX6_item_61 : decode cX6_item 61 = .ok (.iload_n 3, 1) := by decide +kernel
theorem dX6_item_62 : decode cX6_item 62 = .ok (.iaload, 1) := by decide +kernel
theorem dX6_item_63 : decode cX6_item 63 = .ok (.goto 33, 3) := by decide +kernel
theorem dX6_item_66 : decode cX6_item 66 = .ok (.iload_n 2, 1) := by decide +kernel
theorem dX6_item_67 : decode cX6_item 67 = .ok (.iconst 1, 1) := by decide +kernel
theorem dX6_item_68 : decode cX6_item 68 = .ok (.if_icmp .ne 12, 3) := by decide +kernel
theorem dX6_item_71 : decode cX6_item 71 = .ok (.aload_n 0, 1) := by decide +kernel
theorem dX6_item_72 : decode cX6_item 72 = .ok (.getfield 37, 3) := by decide +kernel
theorem dX6_item_75 : decode cX6_item 75 = .ok (.iload_n 3, 1) := by decide +kernel
theorem dX6_item_76 : decode cX6_item 76 = .ok (.iaload, 1) := by decide +kernel
theorem dX6_item_77 : decode cX6_item 77 = .ok (.goto 19, 3) := by decide +kernel
theorem dX6_item_80 : decode cX6_item 80 = .ok (.iload_n 2, 1) := by decide +kernel
theorem dX6_item_81 : decode cX6_item 81 = .ok (.iconst 2, 1) := by decide +kernel
theorem dX6_item_82 : decode cX6_item 82 = .ok (.if_icmp .ne 12, 3) := by decide +kernel
theorem dX6_item_85 : decode cX6_item 85 = .ok (.aload_n 0, 1) := by decide +kernel
theorem dX6_item_86 : decode cX6_item 86 = .ok (.getfield 40, 3) := by decide +kernel
theorem dX6_item_89 : decode cX6_item 89 = .ok (.iload_n 3, 1) := by decide +kernel
theorem dX6_item_90 : decode cX6_item 90 = .ok (.iaload, 1) := by decide +kernel
theorem dX6_item_91 : decode cX6_item 91 = .ok (.goto 5, 3) := by decide +kernel
theorem dX6_item_94 : decode cX6_item 94 = .ok (.iload 4, 2) := by decide +kernel
theorem dX6_item_96 : decode cX6_item 96 = .ok (.ireturn, 1) := by decide +kernel
theorem dX6_row_0 : decode cX6_row 0 = .ok (.iload_n 2, 1) := by decide +kernel
theorem dX6_row_1 : decode cX6_row 1 = .ok (.ifCond .eq 8, 3) := by decide +kernel
theorem dX6_row_4 : decode cX6_row 4 = .ok (.iload_n 2, 1) := by decide +kernel
theorem dX6_row_5 : decode cX6_row 5 = .ok (.iconst 3, 1) := by decide +kernel
theorem dX6_row_6 : decode cX6_row 6 = .ok (.if_icmp .ne 51, 3) := by decide +kernel
theorem dX6_row_9 : decode cX6_row 9 = .ok (.iload_n 1, 1) := by decide +kernel
theorem dX6_row_10 : decode cX6_row 10 = .ok (.iconst 0, 1) := by decide +kernel
theorem dX6_row_11 : decode cX6_row 11 = .ok (.iconst 3, 1) := by decide +kernel
theorem dX6_row_12 : decode cX6_row 12 = .ok (.invokestatic 106, 3) := by decide +kernel
theorem dX6_row_15 : decode cX6_row 15 = .ok (.ifCond .ne 8, 3) := by decide +kernel
theorem dX6_row_18 : decode cX6_row 18 = .ok (.bipush (-101), 2) := by decide +kernel
theorem dX6_row_20 : decode cX6_row 20 = .ok (.goto 36, 3) := by decide +kernel
theorem dX6_row_23 : decode cX6_row 23 = .ok (.iload_n 2, 1) := by decide +kernel
theorem dX6_row_24 : decode cX6_row 24 = .ok (.ifCond .ne 12, 3) := by decide +kernel
theorem dX6_row_27 : decode cX6_row 27 = .ok (.aload_n 0, 1) := by decide +kernel
theorem dX6_row_28 : decode cX6_row 28 = .ok (.getfield 46, 3) := by decide +kernel
theorem dX6_row_31 : decode cX6_row 31 = .ok (.iload_n 1, 1) := by decide +kernel
theorem dX6_row_32 : decode cX6_row 32 = .ok (.iaload, 1) := by decide +kernel
theorem dX6_row_33 : decode cX6_row 33 = .ok (.goto 23, 3) := by decide +kernel
theorem dX6_row_36 : decode cX6_row 36 = .ok (.aload_n 0, 1) := by decide +kernel
theorem dX6_row_37 : decode cX6_row 37 = .ok (.getfield 46, 3) := by decide +kernel
theorem dX6_row_40 : decode cX6_row 40 = .ok (.iload_n 1, 1) := by decide +kernel
theorem dX6_row_41 : decode cX6_row 41 = .ok (.iaload, 1) := by decide +kernel
theorem dX6_row_42 : decode cX6_row 42 = .ok (.iconst (-1), 1) := by decide +kernel
theorem dX6_row_43 : decode cX6_row 43 = .ok (.if_icmp .ne 7, 3) := by decide +kernel
theorem dX6_row_46 : decode cX6_row 46 = .ok (.iconst (-1), 1) := by decide +kernel
theorem dX6_row_47 : decode cX6_row 47 = .ok (.goto 9, 3) := by decide +kernel
theorem dX6_row_50 : decode cX6_row 50 = .ok (.aload_n 0, 1) := by decide +kernel
theorem dX6_row_51 : decode cX6_row 51 = .ok (.getfield 49, 3) := by decide +kernel
theorem dX6_row_54 : decode cX6_row 54 = .ok (.iload_n 1, 1) := by decide +kernel
theorem dX6_row_55 : decode cX6_row 55 = .ok (.iaload, 1) := by decide +kernel
theorem dX6_row_56 : decode cX6_row 56 = .ok (.ireturn, 1) := by decide +kernel
theorem dX6_row_57 : decode cX6_row 57 = .ok (.iload_n 2, 1) := by decide +kernel
theorem dX6_row_58 : decode cX6_row 58 = .ok (.iconst 1, 1) := by decide +kernel
theorem dX6_row_59 : decode cX6_row 59 = .ok (.if_icmp .ne 24, 3) := by decide +kernel
theorem dX6_row_62 : decode cX6_row 62 = .ok (.iload_n 1, 1) := by decide +kernel
theorem dX6_row_63 : decode cX6_row 63 = .ok (.iconst 0, 1) := by decide +kernel
theorem dX6_row_64 : decode cX6_row 64 = .ok (.iconst 2, 1) := by decide +kernel
theorem dX6_row_65 : decode cX6_row 65 = .ok (.invokestatic 106, 3) := by decide +kernel
theorem dX6_row_68 : decode cX6_row 68 = .ok (.ifCond .eq 12, 3) := by decide +kernel
theorem dX6_row_71 : decode cX6_row 71 = .ok (.aload_n 0, 1) := by decide +kernel
theorem dX6_row_72 : decode cX6_row 72 = .ok (.getfield 55, 3) := by decide +kernel
theorem dX6_row_75 : decode cX6_row 75 = .ok (.iload_n 1, 1) := by decide +kernel
theorem dX6_row_76 : decode cX6_row 76 = .ok (.iaload, 1) := by decide +kernel
theorem dX6_row_77 : decode cX6_row 77 = .ok (.goto 5, 3) := by decide +kernel
theorem dX6_row_80 : decode cX6_row 80 = .ok (.bipush (-101), 2) := by decide +kernel
theorem dX6_row_82 : decode cX6_row 82 = .ok (.ireturn, 1) := by decide +kernel
theorem dX6_row_83 : decode cX6_row 83 = .ok (.iload_n 2, 1) := by decide +kernel
theorem dX6_row_84 : decode cX6_row 84 = .ok (.iconst 2, 1) := by decide +kernel
theorem dX6_row_85 : decode cX6_row 85 = .ok (.if_icmp .ne 21, 3) := by decide +kernel
theorem dX6_row_88 : decode cX6_row 88 = .ok (.iload_n 1, 1) := by decide +kernel
theorem dX6_row_89 : decode cX6_row 89 = .ok (.iconst 0, 1) := by decide +kernel
theorem dX6_row_90 : decode cX6_row 90 = .ok (.iconst 1, 1) := by decide +kernel
theorem dX6_row_91 : decode cX6_row 91 = .ok (.invokestatic 106, 3) := by decide +kernel
theorem dX6_row_94 : decode cX6_row 94 = .ok (.ifCond .eq 12, 3) := by decide +kernel
theorem dX6_row_97 : decode cX6_row 97 = .ok (.aload_n 0, 1) := by decide +kernel
theorem dX6_row_98 : decode cX6_row 98 = .ok (.getfield 61, 3) := by decide +kernel
theorem dX6_row_101 : decode cX6_row 101 = .ok (.iload_n 1, 1) := by decide +kernel
theorem dX6_row_102 : decode cX6_row 102 = .ok (.iaload, 1) := by decide +kernel
theorem dX6_row_103 : decode cX6_row 103 = .ok (.goto 5, 3) := by decide +kernel
theorem dX6_row_106 : decode cX6_row 106 = .ok (.bipush (-101), 2) := by decide +kernel
theorem dX6_row_108 : decode cX6_row 108 = .ok (.ireturn, 1) := by decide +kernel
theorem dX6_onBelt_0 : decode cX6_onBelt 0 = .ok (.iload_n 1, 1) := by decide +kernel
theorem dX6_onBelt_1 : decode cX6_onBelt 1 = .ok (.iconst 0, 1) := by decide +kernel
theorem dX6_onBelt_2 : decode cX6_onBelt 2 = .ok (.iconst 3, 1) := by decide +kernel
theorem dX6_onBelt_3 : decode cX6_onBelt 3 = .ok (.invokestatic 106, 3) := by decide +kernel
theorem dX6_onBelt_6 : decode cX6_onBelt 6 = .ok (.ifCond .ne 6, 3) := by decide +kernel
theorem dX6_onBelt_9 : decode cX6_onBelt 9 = .ok (.bipush (-101), 2) := by decide +kernel
theorem dX6_onBelt_11 : decode cX6_onBelt 11 = .ok (.ireturn, 1) := by decide +kernel
theorem dX6_onBelt_12 : decode cX6_onBelt 12 = .ok (.iload_n 2, 1) := by decide +kernel
theorem dX6_onBelt_13 : decode cX6_onBelt 13 = .ok (.iconst 0, 1) := by decide +kernel
theorem dX6_onBelt_14 : decode cX6_onBelt 14 = .ok (.aload_n 0, 1) := by decide +kernel
theorem dX6_onBelt_15 : decode cX6_onBelt 15 = .ok (.getfield 46, 3) := by decide +kernel
theorem dX6_onBelt_18 : decode cX6_onBelt 18 = .ok (.iload_n 1, 1) := by decide +kernel
theorem dX6_onBelt_19 : decode cX6_onBelt 19 = .ok (.iaload, 1) := by decide +kernel
theorem dX6_onBelt_20 : decode cX6_onBelt 20 = .ok (.iconst 1, 1) := by decide +kernel
theorem dX6_onBelt_21 : decode cX6_onBelt 21 = .ok (.isub, 1) := by decide +kernel
theorem dX6_onBelt_22 : decode cX6_onBelt 22 = .ok (.invokestatic 106, 3) := by decide +kernel
theorem dX6_onBelt_25 : decode cX6_onBelt 25 = .ok (.ifCond .eq 22, 3) := by decide +kernel
theorem dX6_onBelt_28 : decode cX6_onBelt 28 = .ok (.aload_n 0, 1) := by decide +kernel
theorem dX6_onBelt_29 : decode cX6_onBelt 29 = .ok (.getfield 52, 3) := by decide +kernel
theorem dX6_onBelt_32 : decode cX6_onBelt 32 = .ok (.bipush 8, 2) := by decide +kernel
theorem dX6_onBelt_34 : decode cX6_onBelt 34 = .ok (.iload_n 1, 1) := by decide +kernel
theorem dX6_onBelt_35 : decode cX6_onBelt 35 = .ok (.imul, 1) := by decide +kernel
theorem dX6_onBelt_36 : decode cX6_onBelt 36 = .ok (.iload_n 2, 1) := by decide +kernel
theorem dX6_onBelt_37 : decode cX6_onBelt 37 = .ok (.iadd, 1) := by decide +kernel
theorem dX6_onBelt_38 : decode cX6_onBelt 38 = .ok (.iaload, 1) := by decide +kernel
theorem dX6_onBelt_39 : decode cX6_onBelt 39 = .ok (.iconst (-1), 1) := by decide +kernel
theorem dX6_onBelt_40 : decode cX6_onBelt 40 = .ok (.if_icmp .eq 7, 3) := by decide +kernel
theorem dX6_onBelt_43 : decode cX6_onBelt 43 = .ok (.iconst 1, 1) := by decide +kernel
theorem dX6_onBelt_44 : decode cX6_onBelt 44 = .ok (.goto 4, 3) := by decide +kernel
theorem dX6_onBelt_47 : decode cX6_onBelt 47 = .ok (.iconst 0, 1) := by decide +kernel
theorem dX6_onBelt_48 : decode cX6_onBelt 48 = .ok (.istore_n 3, 1) := by decide +kernel
theorem dX6_onBelt_49 : decode cX6_onBelt 49 = .ok (.iload_n 3, 1) := by decide +kernel
theorem dX6_onBelt_50 : decode cX6_onBelt 50 = .ok (.ifCond .eq 22, 3) := by decide +kernel
theorem dX6_onBelt_53 : decode cX6_onBelt 53 = .ok (.aload_n 0, 1) := by decide +kernel
theorem dX6_onBelt_54 : decode cX6_onBelt 54 = .ok (.getfield 34, 3) := by decide +kernel
theorem dX6_onBelt_57 : decode cX6_onBelt 57 = .ok (.aload_n 0, 1) := by decide +kernel
theorem dX6_onBelt_58 : decode cX6_onBelt 58 = .ok (.getfield 52, 3) := by decide +kernel
theorem dX6_onBelt_61 : decode cX6_onBelt 61 = .ok (.bipush 8, 2) := by decide +kernel
theorem dX6_onBelt_63 : decode cX6_onBelt 63 = .ok (.iload_n 1, 1) := by decide +kernel
theorem dX6_onBelt_64 : decode cX6_onBelt 64 = .ok (.imul, 1) := by decide +kernel
theorem dX6_onBelt_65 : decode cX6_onBelt 65 = .ok (.iload_n 2, 1) := by decide +kernel
theorem dX6_onBelt_66 : decode cX6_onBelt 66 = .ok (.iadd, 1) := by decide +kernel
theorem dX6_onBelt_67 : decode cX6_onBelt 67 = .ok (.iaload, 1) := by decide +kernel
theorem dX6_onBelt_68 : decode cX6_onBelt 68 = .ok (.iaload, 1) := by decide +kernel
theorem dX6_onBelt_69 : decode cX6_onBelt 69 = .ok (.goto 4, 3) := by decide +kernel
theorem dX6_onBelt_72 : decode cX6_onBelt 72 = .ok (.iconst (-1), 1) := by decide +kernel
theorem dX6_onBelt_73 : decode cX6_onBelt 73 = .ok (.ireturn, 1) := by decide +kernel
theorem dX6_counted_0 : decode cX6_counted 0 = .ok (.iload_n 1, 1) := by decide +kernel
theorem dX6_counted_1 : decode cX6_counted 1 = .ok (.iconst 0, 1) := by decide +kernel
theorem dX6_counted_2 : decode cX6_counted 2 = .ok (.iconst 2, 1) := by decide +kernel
theorem dX6_counted_3 : decode cX6_counted 3 = .ok (.invokestatic 106, 3) := by decide +kernel
theorem dX6_counted_6 : decode cX6_counted 6 = .ok (.ifCond .ne 6, 3) := by decide +kernel
theorem dX6_counted_9 : decode cX6_counted 9 = .ok (.bipush (-101), 2) := by decide +kernel
theorem dX6_counted_11 : decode cX6_counted 11 = .ok (.ireturn, 1) := by decide +kernel
theorem dX6_counted_12 : decode cX6_counted 12 = .ok (.iload_n 2, 1) := by decide +kernel
theorem dX6_counted_13 : decode cX6_counted 13 = .ok (.iconst 0, 1) := by decide +kernel
theorem dX6_counted_14 : decode cX6_counted 14 = .ok (.aload_n 0, 1) := by decide +kernel
theorem dX6_counted_15 : decode cX6_counted 15 = .ok (.getfield 55, 3) := by decide +kernel
theorem dX6_counted_18 : decode cX6_counted 18 = .ok (.iload_n 1, 1) := by decide +kernel
theorem dX6_counted_19 : decode cX6_counted 19 = .ok (.iaload, 1) := by decide +kernel
theorem dX6_counted_20 : decode cX6_counted 20 = .ok (.iconst 1, 1) := by decide +kernel
theorem dX6_counted_21 : decode cX6_counted 21 = .ok (.isub, 1) := by decide +kernel
theorem dX6_counted_22 : decode cX6_counted 22 = .ok (.invokestatic 106, 3) := by decide +kernel
theorem dX6_counted_25 : decode cX6_counted 25 = .ok (.ifCond .eq 17, 3) := by decide +kernel
theorem dX6_counted_28 : decode cX6_counted 28 = .ok (.aload_n 0, 1) := by decide +kernel
theorem dX6_counted_29 : decode cX6_counted 29 = .ok (.getfield 58, 3) := by decide +kernel
theorem dX6_counted_32 : decode cX6_counted 32 = .ok (.bipush 8, 2) := by decide +kernel
theorem dX6_counted_34 : decode cX6_counted 34 = .ok (.iload_n 1, 1) := by decide +kernel
theorem dX6_counted_35 : decode cX6_counted 35 = .ok (.imul, 1) := by decide +kernel
theorem dX6_counted_36 : decode cX6_counted 36 = .ok (.iload_n 2, 1) := by decide +kernel
theorem dX6_counted_37 : decode cX6_counted 37 = .ok (.iadd, 1) := by decide +kernel
theorem dX6_counted_38 : decode cX6_counted 38 = .ok (.iaload, 1) := by decide +kernel
theorem dX6_counted_39 : decode cX6_counted 39 = .ok (.goto 4, 3) := by decide +kernel
theorem dX6_counted_42 : decode cX6_counted 42 = .ok (.iconst 0, 1) := by decide +kernel
theorem dX6_counted_43 : decode cX6_counted 43 = .ok (.ireturn, 1) := by decide +kernel
theorem dL_law_0 : decode cL_law 0 = .ok (.new 7, 3) := by decide +kernel
theorem dL_law_3 : decode cL_law 3 = .ok (.dup, 1) := by decide +kernel
theorem dL_law_4 : decode cL_law 4 = .ok (.invokespecial 9, 3) := by decide +kernel
theorem dL_law_7 : decode cL_law 7 = .ok (.astore_n 1, 1) := by decide +kernel
theorem dL_law_8 : decode cL_law 8 = .ok (.new 10, 3) := by decide +kernel
theorem dL_law_11 : decode cL_law 11 = .ok (.dup, 1) := by decide +kernel
theorem dL_law_12 : decode cL_law 12 = .ok (.invokespecial 12, 3) := by decide +kernel
theorem dL_law_15 : decode cL_law 15 = .ok (.astore_n 2, 1) := by decide +kernel
theorem dL_law_16 : decode cL_law 16 = .ok (.iconst 0, 1) := by decide +kernel
theorem dL_law_17 : decode cL_law 17 = .ok (.istore_n 3, 1) := by decide +kernel
theorem dL_law_18 : decode cL_law 18 = .ok (.iload_n 3, 1) := by decide +kernel
theorem dL_law_19 : decode cL_law 19 = .ok (.aload_n 0, 1) := by decide +kernel
theorem dL_law_20 : decode cL_law 20 = .ok (.arraylength, 1) := by decide +kernel
theorem dL_law_21 : decode cL_law 21 = .ok (.iconst 5, 1) := by decide +kernel
theorem dL_law_22 : decode cL_law 22 = .ok (.isub, 1) := by decide +kernel
theorem dL_law_23 : decode cL_law 23 = .ok (.if_icmp .gt 428, 3) := by decide +kernel
theorem dL_law_26 : decode cL_law 26 = .ok (.aload_n 0, 1) := by decide +kernel
theorem dL_law_27 : decode cL_law 27 = .ok (.iload_n 3, 1) := by decide +kernel
theorem dL_law_28 : decode cL_law 28 = .ok (.iaload, 1) := by decide +kernel
theorem dL_law_29 : decode cL_law 29 = .ok (.bipush 15, 2) := by decide +kernel
theorem dL_law_31 : decode cL_law 31 = .ok (.iand, 1) := by decide +kernel
theorem dL_law_32 : decode cL_law 32 = .ok (.tableswitch 413 0 10 #[60, 113, 166, 179, 212, 235, 258, 281, 314, 347, 380], 60) := by decide +kernel
theorem dL_law_92 : decode cL_law 92 = .ok (.aload_n 1, 1) := by decide +kernel
theorem dL_law_93 : decode cL_law 93 = .ok (.aload_n 0, 1) := by decide +kernel
theorem dL_law_94 : decode cL_law 94 = .ok (.iload_n 3, 1) := by decide +kernel
theorem dL_law_95 : decode cL_law 95 = .ok (.iconst 1, 1) := by decide +kernel
theorem dL_law_96 : decode cL_law 96 = .ok (.iadd, 1) := by decide +kernel
theorem dL_law_97 : decode cL_law 97 = .ok (.iaload, 1) := by decide +kernel
theorem dL_law_98 : decode cL_law 98 = .ok (.aload_n 0, 1) := by decide +kernel
theorem dL_law_99 : decode cL_law 99 = .ok (.iload_n 3, 1) := by decide +kernel
theorem dL_law_100 : decode cL_law 100 = .ok (.iconst 2, 1) := by decide +kernel
theorem dL_law_101 : decode cL_law 101 = .ok (.iadd, 1) := by decide +kernel
theorem dL_law_102 : decode cL_law 102 = .ok (.iaload, 1) := by decide +kernel
theorem dL_law_103 : decode cL_law 103 = .ok (.aload_n 0, 1) := by decide +kernel
theorem dL_law_104 : decode cL_law 104 = .ok (.iload_n 3, 1) := by decide +kernel
theorem dL_law_105 : decode cL_law 105 = .ok (.iconst 3, 1) := by decide +kernel
theorem dL_law_106 : decode cL_law 106 = .ok (.iadd, 1) := by decide +kernel
theorem dL_law_107 : decode cL_law 107 = .ok (.iaload, 1) := by decide +kernel
theorem dL_law_108 : decode cL_law 108 = .ok (.aload_n 0, 1) := by decide +kernel
theorem dL_law_109 : decode cL_law 109 = .ok (.iload_n 3, 1) := by decide +kernel
theorem dL_law_110 : decode cL_law 110 = .ok (.iconst 4, 1) := by decide +kernel
theorem dL_law_111 : decode cL_law 111 = .ok (.iadd, 1) := by decide +kernel
theorem dL_law_112 : decode cL_law 112 = .ok (.iaload, 1) := by decide +kernel
theorem dL_law_113 : decode cL_law 113 = .ok (.invokevirtual 13, 3) := by decide +kernel
theorem dL_law_116 : decode cL_law 116 = .ok (.aload_n 2, 1) := by decide +kernel
theorem dL_law_117 : decode cL_law 117 = .ok (.aload_n 0, 1) := by decide +kernel
theorem dL_law_118 : decode cL_law 118 = .ok (.iload_n 3, 1) := by decide +kernel
theorem dL_law_119 : decode cL_law 119 = .ok (.iconst 1, 1) := by decide +kernel
theorem dL_law_120 : decode cL_law 120 = .ok (.iadd, 1) := by decide +kernel
theorem dL_law_121 : decode cL_law 121 = .ok (.iaload, 1) := by decide +kernel
theorem dL_law_122 : decode cL_law 122 = .ok (.aload_n 0, 1) := by decide +kernel
theorem dL_law_123 : decode cL_law 123 = .ok (.iload_n 3, 1) := by decide +kernel
theorem dL_law_124 : decode cL_law 124 = .ok (.iconst 2, 1) := by decide +kernel
theorem dL_law_125 : decode cL_law 125 = .ok (.iadd, 1) := by decide +kernel
theorem dL_law_126 : decode cL_law 126 = .ok (.iaload, 1) := by decide +kernel
theorem dL_law_127 : decode cL_law 127 = .ok (.aload_n 0, 1) := by decide +kernel
theorem dL_law_128 : decode cL_law 128 = .ok (.iload_n 3, 1) := by decide +kernel
theorem dL_law_129 : decode cL_law 129 = .ok (.iconst 3, 1) := by decide +kernel
theorem dL_law_130 : decode cL_law 130 = .ok (.iadd, 1) := by decide +kernel
theorem dL_law_131 : decode cL_law 131 = .ok (.iaload, 1) := by decide +kernel
theorem dL_law_132 : decode cL_law 132 = .ok (.aload_n 0, 1) := by decide +kernel
theorem dL_law_133 : decode cL_law 133 = .ok (.iload_n 3, 1) := by decide +kernel
theorem dL_law_134 : decode cL_law 134 = .ok (.iconst 4, 1) := by decide +kernel
theorem dL_law_135 : decode cL_law 135 = .ok (.iadd, 1) := by decide +kernel
theorem dL_law_136 : decode cL_law 136 = .ok (.iaload, 1) := by decide +kernel
theorem dL_law_137 : decode cL_law 137 = .ok (.invokevirtual 17, 3) := by decide +kernel
theorem dL_law_140 : decode cL_law 140 = .ok (.if_icmp .eq 305, 3) := by decide +kernel
theorem dL_law_143 : decode cL_law 143 = .ok (.iconst 0, 1) := by decide +kernel
theorem dL_law_144 : decode cL_law 144 = .ok (.ireturn, 1) := by decide +kernel
theorem dL_law_145 : decode cL_law 145 = .ok (.aload_n 1, 1) := by decide +kernel
theorem dL_law_146 : decode cL_law 146 = .ok (.aload_n 0, 1) := by decide +kernel
theorem dL_law_147 : decode cL_law 147 = .ok (.iload_n 3, 1) := by decide +kernel
theorem dL_law_148 : decode cL_law 148 = .ok (.iconst 1, 1) := by decide +kernel
theorem dL_law_149 : decode cL_law 149 = .ok (.iadd, 1) := by decide +kernel
theorem dL_law_150 : decode cL_law 150 = .ok (.iaload, 1) := by decide +kernel
theorem dL_law_151 : decode cL_law 151 = .ok (.aload_n 0, 1) := by decide +kernel
theorem dL_law_152 : decode cL_law 152 = .ok (.iload_n 3, 1) := by decide +kernel
theorem dL_law_153 : decode cL_law 153 = .ok (.iconst 2, 1) := by decide +kernel
theorem dL_law_154 : decode cL_law 154 = .ok (.iadd, 1) := by decide +kernel
theorem dL_law_155 : decode cL_law 155 = .ok (.iaload, 1) := by decide +kernel
theorem dL_law_156 : decode cL_law 156 = .ok (.aload_n 0, 1) := by decide +kernel
theorem dL_law_157 : decode cL_law 157 = .ok (.iload_n 3, 1) := by decide +kernel
theorem dL_law_158 : decode cL_law 158 = .ok (.iconst 3, 1) := by decide +kernel
theorem dL_law_159 : decode cL_law 159 = .ok (.iadd, 1) := by decide +kernel
theorem dL_law_160 : decode cL_law 160 = .ok (.iaload, 1) := by decide +kernel
theorem dL_law_161 : decode cL_law 161 = .ok (.aload_n 0, 1) := by decide +kernel
theorem dL_law_162 : decode cL_law 162 = .ok (.iload_n 3, 1) := by decide +kernel
theorem dL_law_163 : decode cL_law 163 = .ok (.iconst 4, 1) := by decide +kernel
theorem dL_law_164 : decode cL_law 164 = .ok (.iadd, 1) := by decide +kernel
theorem dL_law_165 : decode cL_law 165 = .ok (.iaload, 1) := by decide +kernel
theorem dL_law_166 : decode cL_law 166 = .ok (.invokevirtual 18, 3) := by decide +kernel
theorem dL_law_169 : decode cL_law 169 = .ok (.aload_n 2, 1) := by decide +kernel
theorem dL_law_170 : decode cL_law 170 = .ok (.aload_n 0, 1) := by decide +kernel
theorem dL_law_171 : decode cL_law 171 = .ok (.iload_n 3, 1) := by decide +kernel
theorem dL_law_172 : decode cL_law 172 = .ok (.iconst 1, 1) := by decide +kernel
theorem dL_law_173 : decode cL_law 173 = .ok (.iadd, 1) := by decide +kernel
theorem dL_law_174 : decode cL_law 174 = .ok (.iaload, 1) := by decide +kernel
theorem dL_law_175 : decode cL_law 175 = .ok (.aload_n 0, 1) := by decide +kernel
theorem dL_law_176 : decode cL_law 176 = .ok (.iload_n 3, 1) := by decide +kernel
theorem dL_law_177 : decode cL_law 177 = .ok (.iconst 2, 1) := by decide +kernel
theorem dL_law_178 : decode cL_law 178 = .ok (.iadd, 1) := by decide +kernel
theorem dL_law_179 : decode cL_law 179 = .ok (.iaload, 1) := by decide +kernel
theorem dL_law_180 : decode cL_law 180 = .ok (.aload_n 0, 1) := by decide +kernel
theorem dL_law_181 : decode cL_law 181 = .ok (.iload_n 3, 1) := by decide +kernel
theorem dL_law_182 : decode cL_law 182 = .ok (.iconst 3, 1) := by decide +kernel
theorem dL_law_183 : decode cL_law 183 = .ok (.iadd, 1) := by decide +kernel
theorem dL_law_184 : decode cL_law 184 = .ok (.iaload, 1) := by decide +kernel
theorem dL_law_185 : decode cL_law 185 = .ok (.aload_n 0, 1) := by decide +kernel
theorem dL_law_186 : decode cL_law 186 = .ok (.iload_n 3, 1) := by decide +kernel
theorem dL_law_187 : decode cL_law 187 = .ok (.iconst 4, 1) := by decide +kernel
theorem dL_law_188 : decode cL_law 188 = .ok (.iadd, 1) := by decide +kernel
theorem dL_law_189 : decode cL_law 189 = .ok (.iaload, 1) := by decide +kernel
theorem dL_law_190 : decode cL_law 190 = .ok (.invokevirtual 21, 3) := by decide +kernel
theorem dL_law_193 : decode cL_law 193 = .ok (.if_icmp .eq 252, 3) := by decide +kernel
theorem dL_law_196 : decode cL_law 196 = .ok (.iconst 0, 1) := by decide +kernel
theorem dL_law_197 : decode cL_law 197 = .ok (.ireturn, 1) := by decide +kernel
theorem dL_law_198 : decode cL_law 198 = .ok (.aload_n 1, 1) := by decide +kernel
theorem dL_law_199 : decode cL_law 199 = .ok (.invokevirtual 22, 3) := by decide +kernel
theorem dL_law_202 : decode cL_law 202 = .ok (.aload_n 2, 1) := by decide +kernel
theorem dL_law_203 : decode cL_law 203 = .ok (.invokevirtual 26, 3) := by decide +kernel
theorem dL_law_206 : decode cL_law 206 = .ok (.if_icmp .eq 239, 3) := by decide +kernel
theorem dL_law_209 : decode cL_law 209 = .ok (.iconst 0, 1) := by decide +kernel
theorem dL_law_210 : decode cL_law 210 = .ok (.ireturn, 1) := by decide +kernel
theorem dL_law_211 : decode cL_law 211 = .ok (.aload_n 1, 1) := by decide +kernel
theorem dL_law_212 : decode cL_law 212 = .ok (.aload_n 0, 1) := by decide +kernel
theorem dL_law_213 : decode cL_law 213 = .ok (.iload_n 3, 1) := by decide +kernel
theorem dL_law_214 : decode cL_law 214 = .ok (.iconst 1, 1) := by decide +kernel
theorem dL_law_215 : decode cL_law 215 = .ok (.iadd, 1) := by decide +kernel
theorem dL_law_216 : decode cL_law 216 = .ok (.iaload, 1) := by decide +kernel
theorem dL_law_217 : decode cL_law 217 = .ok (.aload_n 0, 1) := by decide +kernel
theorem dL_law_218 : decode cL_law 218 = .ok (.iload_n 3, 1) := by decide +kernel
theorem dL_law_219 : decode cL_law 219 = .ok (.iconst 2, 1) := by decide +kernel
theorem dL_law_220 : decode cL_law 220 = .ok (.iadd, 1) := by decide +kernel
theorem dL_law_221 : decode cL_law 221 = .ok (.iaload, 1) := by decide +kernel
theorem dL_law_222 : decode cL_law 222 = .ok (.invokevirtual 27, 3) := by decide +kernel
theorem dL_law_225 : decode cL_law 225 = .ok (.aload_n 2, 1) := by decide +kernel
theorem dL_law_226 : decode cL_law 226 = .ok (.aload_n 0, 1) := by decide +kernel
theorem dL_law_227 : decode cL_law 227 = .ok (.iload_n 3, 1) := by decide +kernel
theorem dL_law_228 : decode cL_law 228 = .ok (.iconst 1, 1) := by decide +kernel
theorem dL_law_229 : decode cL_law 229 = .ok (.iadd, 1) := by decide +kernel
theorem dL_law_230 : decode cL_law 230 = .ok (.iaload, 1) := by decide +kernel
theorem dL_law_231 : decode cL_law 231 = .ok (.aload_n 0, 1) := by decide +kernel
theorem dL_law_232 : decode cL_law 232 = .ok (.iload_n 3, 1) := by decide +kernel
theorem dL_law_233 : decode cL_law 233 = .ok (.iconst 2, 1) := by decide +kernel
theorem dL_law_234 : decode cL_law 234 = .ok (.iadd, 1) := by decide +kernel
theorem dL_law_235 : decode cL_law 235 = .ok (.iaload, 1) := by decide +kernel
theorem dL_law_236 : decode cL_law 236 = .ok (.invokevirtual 31, 3) := by decide +kernel
theorem dL_law_239 : decode cL_law 239 = .ok (.if_icmp .eq 206, 3) := by decide +kernel
theorem dL_law_242 : decode cL_law 242 = .ok (.iconst 0, 1) := by decide +kernel
theorem dL_law_243 : decode cL_law 243 = .ok (.ireturn, 1) := by decide +kernel
theorem dL_law_244 : decode cL_law 244 = .ok (.aload_n 1, 1) := by decide +kernel
theorem dL_law_245 : decode cL_law 245 = .ok (.aload_n 0, 1) := by decide +kernel
theorem dL_law_246 : decode cL_law 246 = .ok (.iload_n 3, 1) := by decide +kernel
theorem dL_law_247 : decode cL_law 247 = .ok (.iconst 1, 1) := by decide +kernel
theorem dL_law_248 : decode cL_law 248 = .ok (.iadd, 1) := by decide +kernel
theorem dL_law_249 : decode cL_law 249 = .ok (.iaload, 1) := by decide +kernel
theorem dL_law_250 : decode cL_law 250 = .ok (.invokevirtual 32, 3) := by decide +kernel
theorem dL_law_253 : decode cL_law 253 = .ok (.aload_n 2, 1) := by decide +kernel
theorem dL_law_254 : decode cL_law 254 = .ok (.aload_n 0, 1) := by decide +kernel
theorem dL_law_255 : decode cL_law 255 = .ok (.iload_n 3, 1) := by decide +kernel
theorem dL_law_256 : decode cL_law 256 = .ok (.iconst 1, 1) := by decide +kernel
theorem dL_law_257 : decode cL_law 257 = .ok (.iadd, 1) := by decide +kernel
theorem dL_law_258 : decode cL_law 258 = .ok (.iaload, 1) := by decide +kernel
theorem dL_law_259 : decode cL_law 259 = .ok (.invokevirtual 36, 3) := by decide +kernel
theorem dL_law_262 : decode cL_law 262 = .ok (.if_icmp .eq 183, 3) := by decide +kernel
theorem dL_law_265 : decode cL_law 265 = .ok (.iconst 0, 1) := by decide +kernel
theorem dL_law_266 : decode cL_law 266 = .ok (.ireturn, 1) := by decide +kernel
theorem dL_law_267 : decode cL_law 267 = .ok (.aload_n 1, 1) := by decide +kernel
theorem dL_law_268 : decode cL_law 268 = .ok (.aload_n 0, 1) := by decide +kernel
theorem dL_law_269 : decode cL_law 269 = .ok (.iload_n 3, 1) := by decide +kernel
theorem dL_law_270 : decode cL_law 270 = .ok (.iconst 1, 1) := by decide +kernel
theorem dL_law_271 : decode cL_law 271 = .ok (.iadd, 1) := by decide +kernel
theorem dL_law_272 : decode cL_law 272 = .ok (.iaload, 1) := by decide +kernel
theorem dL_law_273 : decode cL_law 273 = .ok (.invokevirtual 37, 3) := by decide +kernel
theorem dL_law_276 : decode cL_law 276 = .ok (.aload_n 2, 1) := by decide +kernel
theorem dL_law_277 : decode cL_law 277 = .ok (.aload_n 0, 1) := by decide +kernel
theorem dL_law_278 : decode cL_law 278 = .ok (.iload_n 3, 1) := by decide +kernel
theorem dL_law_279 : decode cL_law 279 = .ok (.iconst 1, 1) := by decide +kernel
theorem dL_law_280 : decode cL_law 280 = .ok (.iadd, 1) := by decide +kernel
theorem dL_law_281 : decode cL_law 281 = .ok (.iaload, 1) := by decide +kernel
theorem dL_law_282 : decode cL_law 282 = .ok (.invokevirtual 40, 3) := by decide +kernel
theorem dL_law_285 : decode cL_law 285 = .ok (.if_icmp .eq 160, 3) := by decide +kernel
theorem dL_law_288 : decode cL_law 288 = .ok (.iconst 0, 1) := by decide +kernel
theorem dL_law_289 : decode cL_law 289 = .ok (.ireturn, 1) := by decide +kernel
theorem dL_law_290 : decode cL_law 290 = .ok (.aload_n 1, 1) := by decide +kernel
theorem dL_law_291 : decode cL_law 291 = .ok (.aload_n 0, 1) := by decide +kernel
theorem dL_law_292 : decode cL_law 292 = .ok (.iload_n 3, 1) := by decide +kernel
theorem dL_law_293 : decode cL_law 293 = .ok (.iconst 1, 1) := by decide +kernel
theorem dL_law_294 : decode cL_law 294 = .ok (.iadd, 1) := by decide +kernel
theorem dL_law_295 : decode cL_law 295 = .ok (.iaload, 1) := by decide +kernel
theorem dL_law_296 : decode cL_law 296 = .ok (.invokevirtual 41, 3) := by decide +kernel
theorem dL_law_299 : decode cL_law 299 = .ok (.aload_n 2, 1) := by decide +kernel
theorem dL_law_300 : decode cL_law 300 = .ok (.aload_n 0, 1) := by decide +kernel
theorem dL_law_301 : decode cL_law 301 = .ok (.iload_n 3, 1) := by decide +kernel
theorem dL_law_302 : decode cL_law 302 = .ok (.iconst 1, 1) := by decide +kernel
theorem dL_law_303 : decode cL_law 303 = .ok (.iadd, 1) := by decide +kernel
theorem dL_law_304 : decode cL_law 304 = .ok (.iaload, 1) := by decide +kernel
theorem dL_law_305 : decode cL_law 305 = .ok (.invokevirtual 44, 3) := by decide +kernel
theorem dL_law_308 : decode cL_law 308 = .ok (.if_icmp .eq 137, 3) := by decide +kernel
theorem dL_law_311 : decode cL_law 311 = .ok (.iconst 0, 1) := by decide +kernel
theorem dL_law_312 : decode cL_law 312 = .ok (.ireturn, 1) := by decide +kernel
theorem dL_law_313 : decode cL_law 313 = .ok (.aload_n 1, 1) := by decide +kernel
theorem dL_law_314 : decode cL_law 314 = .ok (.aload_n 0, 1) := by decide +kernel
theorem dL_law_315 : decode cL_law 315 = .ok (.iload_n 3, 1) := by decide +kernel
theorem dL_law_316 : decode cL_law 316 = .ok (.iconst 1, 1) := by decide +kernel
theorem dL_law_317 : decode cL_law 317 = .ok (.iadd, 1) := by decide +kernel
theorem dL_law_318 : decode cL_law 318 = .ok (.iaload, 1) := by decide +kernel
theorem dL_law_319 : decode cL_law 319 = .ok (.aload_n 0, 1) := by decide +kernel
theorem dL_law_320 : decode cL_law 320 = .ok (.iload_n 3, 1) := by decide +kernel
theorem dL_law_321 : decode cL_law 321 = .ok (.iconst 2, 1) := by decide +kernel
theorem dL_law_322 : decode cL_law 322 = .ok (.iadd, 1) := by decide +kernel
theorem dL_law_323 : decode cL_law 323 = .ok (.iaload, 1) := by decide +kernel
theorem dL_law_324 : decode cL_law 324 = .ok (.invokevirtual 45, 3) := by decide +kernel
theorem dL_law_327 : decode cL_law 327 = .ok (.aload_n 2, 1) := by decide +kernel
theorem dL_law_328 : decode cL_law 328 = .ok (.aload_n 0, 1) := by decide +kernel
theorem dL_law_329 : decode cL_law 329 = .ok (.iload_n 3, 1) := by decide +kernel
theorem dL_law_330 : decode cL_law 330 = .ok (.iconst 1, 1) := by decide +kernel
theorem dL_law_331 : decode cL_law 331 = .ok (.iadd, 1) := by decide +kernel
theorem dL_law_332 : decode cL_law 332 = .ok (.iaload, 1) := by decide +kernel
theorem dL_law_333 : decode cL_law 333 = .ok (.aload_n 0, 1) := by decide +kernel
theorem dL_law_334 : decode cL_law 334 = .ok (.iload_n 3, 1) := by decide +kernel
theorem dL_law_335 : decode cL_law 335 = .ok (.iconst 2, 1) := by decide +kernel
theorem dL_law_336 : decode cL_law 336 = .ok (.iadd, 1) := by decide +kernel
theorem dL_law_337 : decode cL_law 337 = .ok (.iaload, 1) := by decide +kernel
theorem dL_law_338 : decode cL_law 338 = .ok (.invokevirtual 48, 3) := by decide +kernel
theorem dL_law_341 : decode cL_law 341 = .ok (.if_icmp .eq 104, 3) := by decide +kernel
theorem dL_law_344 : decode cL_law 344 = .ok (.iconst 0, 1) := by decide +kernel
theorem dL_law_345 : decode cL_law 345 = .ok (.ireturn, 1) := by decide +kernel
theorem dL_law_346 : decode cL_law 346 = .ok (.aload_n 1, 1) := by decide +kernel
theorem dL_law_347 : decode cL_law 347 = .ok (.aload_n 0, 1) := by decide +kernel
theorem dL_law_348 : decode cL_law 348 = .ok (.iload_n 3, 1) := by decide +kernel
theorem dL_law_349 : decode cL_law 349 = .ok (.iconst 1, 1) := by decide +kernel
theorem dL_law_350 : decode cL_law 350 = .ok (.iadd, 1) := by decide +kernel
theorem dL_law_351 : decode cL_law 351 = .ok (.iaload, 1) := by decide +kernel
theorem dL_law_352 : decode cL_law 352 = .ok (.aload_n 0, 1) := by decide +kernel
theorem dL_law_353 : decode cL_law 353 = .ok (.iload_n 3, 1) := by decide +kernel
theorem dL_law_354 : decode cL_law 354 = .ok (.iconst 2, 1) := by decide +kernel
theorem dL_law_355 : decode cL_law 355 = .ok (.iadd, 1) := by decide +kernel
theorem dL_law_356 : decode cL_law 356 = .ok (.iaload, 1) := by decide +kernel
theorem dL_law_357 : decode cL_law 357 = .ok (.invokevirtual 49, 3) := by decide +kernel
theorem dL_law_360 : decode cL_law 360 = .ok (.aload_n 2, 1) := by decide +kernel
theorem dL_law_361 : decode cL_law 361 = .ok (.aload_n 0, 1) := by decide +kernel
theorem dL_law_362 : decode cL_law 362 = .ok (.iload_n 3, 1) := by decide +kernel
theorem dL_law_363 : decode cL_law 363 = .ok (.iconst 1, 1) := by decide +kernel
theorem dL_law_364 : decode cL_law 364 = .ok (.iadd, 1) := by decide +kernel
theorem dL_law_365 : decode cL_law 365 = .ok (.iaload, 1) := by decide +kernel
theorem dL_law_366 : decode cL_law 366 = .ok (.aload_n 0, 1) := by decide +kernel
theorem dL_law_367 : decode cL_law 367 = .ok (.iload_n 3, 1) := by decide +kernel
theorem dL_law_368 : decode cL_law 368 = .ok (.iconst 2, 1) := by decide +kernel
theorem dL_law_369 : decode cL_law 369 = .ok (.iadd, 1) := by decide +kernel
theorem dL_law_370 : decode cL_law 370 = .ok (.iaload, 1) := by decide +kernel
theorem dL_law_371 : decode cL_law 371 = .ok (.invokevirtual 52, 3) := by decide +kernel
theorem dL_law_374 : decode cL_law 374 = .ok (.if_icmp .eq 71, 3) := by decide +kernel
theorem dL_law_377 : decode cL_law 377 = .ok (.iconst 0, 1) := by decide +kernel
theorem dL_law_378 : decode cL_law 378 = .ok (.ireturn, 1) := by decide +kernel
theorem dL_law_379 : decode cL_law 379 = .ok (.aload_n 1, 1) := by decide +kernel
theorem dL_law_380 : decode cL_law 380 = .ok (.aload_n 0, 1) := by decide +kernel
theorem dL_law_381 : decode cL_law 381 = .ok (.iload_n 3, 1) := by decide +kernel
theorem dL_law_382 : decode cL_law 382 = .ok (.iconst 1, 1) := by decide +kernel
theorem dL_law_383 : decode cL_law 383 = .ok (.iadd, 1) := by decide +kernel
theorem dL_law_384 : decode cL_law 384 = .ok (.iaload, 1) := by decide +kernel
theorem dL_law_385 : decode cL_law 385 = .ok (.aload_n 0, 1) := by decide +kernel
theorem dL_law_386 : decode cL_law 386 = .ok (.iload_n 3, 1) := by decide +kernel
theorem dL_law_387 : decode cL_law 387 = .ok (.iconst 2, 1) := by decide +kernel
theorem dL_law_388 : decode cL_law 388 = .ok (.iadd, 1) := by decide +kernel
theorem dL_law_389 : decode cL_law 389 = .ok (.iaload, 1) := by decide +kernel
theorem dL_law_390 : decode cL_law 390 = .ok (.invokevirtual 53, 3) := by decide +kernel
theorem dL_law_393 : decode cL_law 393 = .ok (.aload_n 2, 1) := by decide +kernel
theorem dL_law_394 : decode cL_law 394 = .ok (.aload_n 0, 1) := by decide +kernel
theorem dL_law_395 : decode cL_law 395 = .ok (.iload_n 3, 1) := by decide +kernel
theorem dL_law_396 : decode cL_law 396 = .ok (.iconst 1, 1) := by decide +kernel
theorem dL_law_397 : decode cL_law 397 = .ok (.iadd, 1) := by decide +kernel
theorem dL_law_398 : decode cL_law 398 = .ok (.iaload, 1) := by decide +kernel
theorem dL_law_399 : decode cL_law 399 = .ok (.aload_n 0, 1) := by decide +kernel
theorem dL_law_400 : decode cL_law 400 = .ok (.iload_n 3, 1) := by decide +kernel
theorem dL_law_401 : decode cL_law 401 = .ok (.iconst 2, 1) := by decide +kernel
theorem dL_law_402 : decode cL_law 402 = .ok (.iadd, 1) := by decide +kernel
theorem dL_law_403 : decode cL_law 403 = .ok (.iaload, 1) := by decide +kernel
theorem dL_law_404 : decode cL_law 404 = .ok (.invokevirtual 56, 3) := by decide +kernel
theorem dL_law_407 : decode cL_law 407 = .ok (.if_icmp .eq 38, 3) := by decide +kernel
theorem dL_law_410 : decode cL_law 410 = .ok (.iconst 0, 1) := by decide +kernel
theorem dL_law_411 : decode cL_law 411 = .ok (.ireturn, 1) := by decide +kernel
theorem dL_law_412 : decode cL_law 412 = .ok (.aload_n 1, 1) := by decide +kernel
theorem dL_law_413 : decode cL_law 413 = .ok (.aload_n 0, 1) := by decide +kernel
theorem dL_law_414 : decode cL_law 414 = .ok (.iload_n 3, 1) := by decide +kernel
theorem dL_law_415 : decode cL_law 415 = .ok (.iconst 1, 1) := by decide +kernel
theorem dL_law_416 : decode cL_law 416 = .ok (.iadd, 1) := by decide +kernel
theorem dL_law_417 : decode cL_law 417 = .ok (.iaload, 1) := by decide +kernel
theorem dL_law_418 : decode cL_law 418 = .ok (.aload_n 0, 1) := by decide +kernel
theorem dL_law_419 : decode cL_law 419 = .ok (.iload_n 3, 1) := by decide +kernel
theorem dL_law_420 : decode cL_law 420 = .ok (.iconst 2, 1) := by decide +kernel
theorem dL_law_421 : decode cL_law 421 = .ok (.iadd, 1) := by decide +kernel
theorem dL_law_422 : decode cL_law 422 = .ok (.iaload, 1) := by decide +kernel
theorem dL_law_423 : decode cL_law 423 = .ok (.invokevirtual 57, 3) := by decide +kernel
theorem dL_law_426 : decode cL_law 426 = .ok (.aload_n 2, 1) := by decide +kernel
theorem dL_law_427 : decode cL_law 427 = .ok (.aload_n 0, 1) := by decide +kernel
theorem dL_law_428 : decode cL_law 428 = .ok (.iload_n 3, 1) := by decide +kernel
theorem dL_law_429 : decode cL_law 429 = .ok (.iconst 1, 1) := by decide +kernel
theorem dL_law_430 : decode cL_law 430 = .ok (.iadd, 1) := by decide +kernel
theorem dL_law_431 : decode cL_law 431 = .ok (.iaload, 1) := by decide +kernel
theorem dL_law_432 : decode cL_law 432 = .ok (.aload_n 0, 1) := by decide +kernel
theorem dL_law_433 : decode cL_law 433 = .ok (.iload_n 3, 1) := by decide +kernel
theorem dL_law_434 : decode cL_law 434 = .ok (.iconst 2, 1) := by decide +kernel
theorem dL_law_435 : decode cL_law 435 = .ok (.iadd, 1) := by decide +kernel
theorem dL_law_436 : decode cL_law 436 = .ok (.iaload, 1) := by decide +kernel
theorem dL_law_437 : decode cL_law 437 = .ok (.invokevirtual 60, 3) := by decide +kernel
theorem dL_law_440 : decode cL_law 440 = .ok (.if_icmp .eq 5, 3) := by decide +kernel
theorem dL_law_443 : decode cL_law 443 = .ok (.iconst 0, 1) := by decide +kernel
theorem dL_law_444 : decode cL_law 444 = .ok (.ireturn, 1) := by decide +kernel
theorem dL_law_445 : decode cL_law 445 = .ok (.iinc 3 5, 3) := by decide +kernel
theorem dL_law_448 : decode cL_law 448 = .ok (.goto (-430), 3) := by decide +kernel
theorem dL_law_451 : decode cL_law 451 = .ok (.iconst 1, 1) := by decide +kernel
theorem dL_law_452 : decode cL_law 452 = .ok (.ireturn, 1) := by decide +kernel
