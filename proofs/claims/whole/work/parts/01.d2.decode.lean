theorem dX6_begin_116 : decode cX6_begin 116 = .ok (.getfield 74, 3) := by decide +kernel
theorem dX6_begin_119 : decode cX6_begin 119 = .ok (.iconst 0, 1) := by decide +kernel
theorem dX6_begin_120 : decode cX6_begin 120 = .ok (.iload_n 1, 1) := by decide +kernel
theorem dX6_begin_121 : decode cX6_begin 121 = .ok (.iastore, 1) := by decide +kernel
theorem dX6_begin_122 : decode cX6_begin 122 = .ok (.aload_n 0, 1) := by decide +kernel
theorem dX6_begin_123 : decode cX6_begin 123 = .ok (.iconst 0, 1) := by decide +kernel
theorem dX6_begin_124 : decode cX6_begin 124 = .ok (.putfield 88, 3) := by decide +kernel
theorem dX6_begin_127 : decode cX6_begin 127 = .ok (.aload_n 0, 1) := by decide +kernel
theorem dX6_begin_128 : decode cX6_begin 128 = .ok (.iconst 0, 1) := by decide +kernel
theorem dX6_begin_129 : decode cX6_begin 129 = .ok (.putfield 91, 3) := by decide +kernel
theorem dX6_begin_132 : decode cX6_begin 132 = .ok (.aload_n 0, 1) := by decide +kernel
theorem dX6_begin_133 : decode cX6_begin 133 = .ok (.iconst 0, 1) := by decide +kernel
theorem dX6_begin_134 : decode cX6_begin 134 = .ok (.putfield 94, 3) := by decide +kernel
theorem dX6_begin_137 : decode cX6_begin 137 = .ok (.aload_n 0, 1) := by decide +kernel
theorem dX6_begin_138 : decode cX6_begin 138 = .ok (.iconst (-1), 1) := by decide +kernel
theorem dX6_begin_139 : decode cX6_begin 139 = .ok (.putfield 97, 3) := by decide +kernel
theorem dX6_begin_142 : decode cX6_begin 142 = .ok (.aload_n 0, 1) := by decide +kernel
theorem dX6_begin_143 : decode cX6_begin 143 = .ok (.iconst 0, 1) := by decide +kernel
theorem dX6_begin_144 : decode cX6_begin 144 = .ok (.putfield 100, 3) := by decide +kernel
theorem dX6_begin_147 : decode cX6_begin 147 = .ok (.aload_n 0, 1) := by decide +kernel
theorem dX6_begin_148 : decode cX6_begin 148 = .ok (.iconst 0, 1) := by decide +kernel
theorem dX6_begin_149 : decode cX6_begin 149 = .ok (.putfield 103, 3) := by decide +kernel
theorem dX6_begin_152 : decode cX6_begin 152 = .ok (.return_, 1) := by decide +kernel
theorem dX6_isPlace_0 : decode cX6_isPlace 0 = .ok (.iload_n 0, 1) := by decide +kernel
theorem dX6_isPlace_1 : decode cX6_isPlace 1 = .ok (.iconst 0, 1) := by decide +kernel
theorem dX6_isPlace_2 : decode cX6_isPlace 2 = .ok (.bipush 7, 2) := by decide +kernel
theorem dX6_isPlace_4 : decode cX6_isPlace 4 = .ok (.invokestatic 106, 3) := by decide +kernel
theorem dX6_isPlace_7 : decode cX6_isPlace 7 = .ok (.ireturn, 1) := by decide +kernel
theorem dX6_isRegister_0 : decode cX6_isRegister 0 = .ok (.iload_n 0, 1) := by decide +kernel
theorem dX6_isRegister_1 : decode cX6_isRegister 1 = .ok (.iconst 0, 1) := by decide +kernel
theorem dX6_isRegister_2 : decode cX6_isRegister 2 = .ok (.iconst 5, 1) := by decide +kernel
theorem dX6_isRegister_3 : decode cX6_isRegister 3 = .ok (.invokestatic 106, 3) := by decide +kernel
theorem dX6_isRegister_6 : decode cX6_isRegister 6 = .ok (.ireturn, 1) := by decide +kernel
theorem dX6_isRight_0 : decode cX6_isRight 0 = .ok (.iload_n 0, 1) := by decide +kernel
theorem dX6_isRight_1 : decode cX6_isRight 1 = .ok (.tableswitch 516 0 24 #[115, 144, 149, 169, 200, 229, 258, 280, 287, 307, 287, 287, 327, 349, 349, 371, 400, 431, 349, 453, 453, 460, 465, 485, 493], 115) := by decide +kernel
theorem dX6_isRight_116 : decode cX6_isRight 116 = .ok (.iload_n 1, 1) := by decide +kernel
theorem dX6_isRight_117 : decode cX6_isRight 117 = .ok (.invokestatic 110, 3) := by decide +kernel
theorem dX6_isRight_120 : decode cX6_isRight 120 = .ok (.ifCond .eq 23, 3) := by decide +kernel
theorem dX6_isRight_123 : decode cX6_isRight 123 = .ok (.iload_n 2, 1) := by decide +kernel
theorem dX6_isRight_124 : decode cX6_isRight 124 = .ok (.iconst 0, 1) := by decide +kernel
theorem dX6_isRight_125 : decode cX6_isRight 125 = .ok (.iconst 4, 1) := by decide +kernel
theorem dX6_isRight_126 : decode cX6_isRight 126 = .ok (.invokestatic 106, 3) := by decide +kernel
theorem dX6_isRight_129 : decode cX6_isRight 129 = .ok (.ifCond .eq 14, 3) := by decide +kernel
theorem dX6_isRight_132 : decode cX6_isRight 132 = .ok (.iload_n 3, 1) := by decide +kernel
theorem dX6_isRight_133 : decode cX6_isRight 133 = .ok (.invokestatic 114, 3) := by decide +kernel
theorem dX6_isRight_136 : decode cX6_isRight 136 = .ok (.ifCond .eq 7, 3) := by decide +kernel
theorem dX6_isRight_139 : decode cX6_isRight 139 = .ok (.iconst 1, 1) := by decide +kernel
theorem dX6_isRight_140 : decode cX6_isRight 140 = .ok (.goto 4, 3) := by decide +kernel
theorem dX6_isRight_143 : decode cX6_isRight 143 = .ok (.iconst 0, 1) := by decide +kernel
theorem dX6_isRight_144 : decode cX6_isRight 144 = .ok (.ireturn, 1) := by decide +kernel
theorem dX6_isRight_145 : decode cX6_isRight 145 = .ok (.iload_n 1, 1) := by decide +kernel
theorem dX6_isRight_146 : decode cX6_isRight 146 = .ok (.invokestatic 110, 3) := by decide +kernel
theorem dX6_isRight_149 : decode cX6_isRight 149 = .ok (.ireturn, 1) := by decide +kernel
theorem dX6_isRight_150 : decode cX6_isRight 150 = .ok (.iload_n 1, 1) := by decide +kernel
theorem dX6_isRight_151 : decode cX6_isRight 151 = .ok (.invokestatic 110, 3) := by decide +kernel
theorem dX6_isRight_154 : decode cX6_isRight 154 = .ok (.ifCond .eq 14, 3) := by decide +kernel
theorem dX6_isRight_157 : decode cX6_isRight 157 = .ok (.iload_n 2, 1) := by decide +kernel
theorem dX6_isRight_158 : decode cX6_isRight 158 = .ok (.invokestatic 110, 3) := by decide +kernel
theorem dX6_isRight_161 : decode cX6_isRight 161 = .ok (.ifCond .eq 7, 3) := by decide +kernel
theorem dX6_isRight_164 : decode cX6_isRight 164 = .ok (.iconst 1, 1) := by decide +kernel
theorem dX6_isRight_165 : decode cX6_isRight 165 = .ok (.goto 4, 3) := by decide +kernel
theorem dX6_isRight_168 : decode cX6_isRight 168 = .ok (.iconst 0, 1) := by decide +kernel
theorem dX6_isRight_169 : decode cX6_isRight 169 = .ok (.ireturn, 1) := by decide +kernel
theorem dX6_isRight_170 : decode cX6_isRight 170 = .ok (.iload_n 1, 1) := by decide +kernel
theorem dX6_isRight_171 : decode cX6_isRight 171 = .ok (.iconst 0, 1) := by decide +kernel
theorem dX6_isRight_172 : decode cX6_isRight 172 = .ok (.iconst 3, 1) := by decide +kernel
theorem dX6_isRight_173 : decode cX6_isRight 173 = .ok (.invokestatic 106, 3) := by decide +kernel
theorem dX6_isRight_176 : decode cX6_isRight 176 = .ok (.ifCond .eq 23, 3) := by decide +kernel
theorem dX6_isRight_179 : decode cX6_isRight 179 = .ok (.iload_n 2, 1) := by decide +kernel
theorem dX6_isRight_180 : decode cX6_isRight 180 = .ok (.iconst 0, 1) := by decide +kernel
theorem dX6_isRight_181 : decode cX6_isRight 181 = .ok (.iconst 4, 1) := by decide +kernel
theorem dX6_isRight_182 : decode cX6_isRight 182 = .ok (.invokestatic 106, 3) := by decide +kernel
theorem dX6_isRight_185 : decode cX6_isRight 185 = .ok (.ifCond .eq 14, 3) := by decide +kernel
theorem dX6_isRight_188 : decode cX6_isRight 188 = .ok (.iload_n 3, 1) := by decide +kernel
theorem dX6_isRight_189 : decode cX6_isRight 189 = .ok (.invokestatic 114, 3) := by decide +kernel
theorem dX6_isRight_192 : decode cX6_isRight 192 = .ok (.ifCond .eq 7, 3) := by decide +kernel
theorem dX6_isRight_195 : decode cX6_isRight 195 = .ok (.iconst 1, 1) := by decide +kernel
theorem dX6_isRight_196 : decode cX6_isRight 196 = .ok (.goto 4, 3) := by decide +kernel
theorem dX6_isRight_199 : decode cX6_isRight 199 = .ok (.iconst 0, 1) := by decide +kernel
theorem dX6_isRight_200 : decode cX6_isRight 200 = .ok (.ireturn, 1) := by decide +kernel
theorem dX6_isRight_201 : decode cX6_isRight 201 = .ok (.iload_n 1, 1) := by decide +kernel
theorem dX6_isRight_202 : decode cX6_isRight 202 = .ok (.iconst 0, 1) := by decide +kernel
theorem dX6_isRight_203 : decode cX6_isRight 203 = .ok (.iconst 3, 1) := by decide +kernel
theorem dX6_isRight_204 : decode cX6_isRight 204 = .ok (.invokestatic 106, 3) := by decide +kernel
theorem dX6_isRight_207 : decode cX6_isRight 207 = .ok (.ifCond .eq 21, 3) := by decide +kernel
theorem dX6_isRight_210 : decode cX6_isRight 210 = .ok (.iload_n 2, 1) := by decide +kernel
theorem dX6_isRight_211 : decode cX6_isRight 211 = .ok (.invokestatic 114, 3) := by decide +kernel
theorem dX6_isRight_214 : decode cX6_isRight 214 = .ok (.ifCond .eq 14, 3) := by decide +kernel
theorem dX6_isRight_217 : decode cX6_isRight 217 = .ok (.iload_n 3, 1) := by decide +kernel
theorem dX6_isRight_218 : decode cX6_isRight 218 = .ok (.invokestatic 110, 3) := by decide +kernel
theorem dX6_isRight_221 : decode cX6_isRight 221 = .ok (.ifCond .eq 7, 3) := by decide +kernel
theorem dX6_isRight_224 : decode cX6_isRight 224 = .ok (.iconst 1, 1) := by decide +kernel
theorem dX6_isRight_225 : decode cX6_isRight 225 = .ok (.goto 4, 3) := by decide +kernel
theorem dX6_isRight_228 : decode cX6_isRight 228 = .ok (.iconst 0, 1) := by decide +kernel
theorem dX6_isRight_229 : decode cX6_isRight 229 = .ok (.ireturn, 1) := by decide +kernel
theorem dX6_isRight_230 : decode cX6_isRight 230 = .ok (.iload_n 1, 1) := by decide +kernel
theorem dX6_isRight_231 : decode cX6_isRight 231 = .ok (.invokestatic 110, 3) := by decide +kernel
theorem dX6_isRight_234 : decode cX6_isRight 234 = .ok (.ifCond .eq 23, 3) := by decide +kernel
theorem dX6_isRight_237 : decode cX6_isRight 237 = .ok (.iload_n 2, 1) := by decide +kernel
theorem dX6_isRight_238 : decode cX6_isRight 238 = .ok (.iconst 0, 1) := by decide +kernel
theorem dX6_isRight_239 : decode cX6_isRight 239 = .ok (.iconst 3, 1) := by decide +kernel
theorem dX6_isRight_240 : decode cX6_isRight 240 = .ok (.invokestatic 106, 3) := by decide +kernel
theorem dX6_isRight_243 : decode cX6_isRight 243 = .ok (.ifCond .eq 14, 3) := by decide +kernel
theorem dX6_isRight_246 : decode cX6_isRight 246 = .ok (.iload_n 3, 1) := by decide +kernel
theorem dX6_isRight_247 : decode cX6_isRight 247 = .ok (.invokestatic 114, 3) := by decide +kernel
theorem dX6_isRight_250 : decode cX6_isRight 250 = .ok (.ifCond .eq 7, 3) := by decide +kernel
theorem dX6_isRight_253 : decode cX6_isRight 253 = .ok (.iconst 1, 1) := by decide +kernel
theorem dX6_isRight_254 : decode cX6_isRight 254 = .ok (.goto 4, 3) := by decide +kernel
theorem dX6_isRight_257 : decode cX6_isRight 257 = .ok (.iconst 0, 1) := by decide +kernel
theorem dX6_isRight_258 : decode cX6_isRight 258 = .ok (.ireturn, 1) := by decide +kernel
theorem dX6_isRight_259 : decode cX6_isRight 259 = .ok (.iload_n 1, 1) := by decide +kernel
theorem dX6_isRight_260 : decode cX6_isRight 260 = .ok (.invokestatic 114, 3) := by decide +kernel
theorem dX6_isRight_263 : decode cX6_isRight 263 = .ok (.ifCond .eq 16, 3) := by decide +kernel
theorem dX6_isRight_266 : decode cX6_isRight 266 = .ok (.iload_n 2, 1) := by decide +kernel
theorem dX6_isRight_267 : decode cX6_isRight 267 = .ok (.iconst 0, 1) := by decide +kernel
theorem dX6_isRight_268 : decode cX6_isRight 268 = .ok (.iconst 3, 1) := by decide +kernel
theorem dX6_isRight_269 : decode cX6_isRight 269 = .ok (.invokestatic 106, 3) := by decide +kernel
theorem dX6_isRight_272 : decode cX6_isRight 272 = .ok (.ifCond .eq 7, 3) := by decide +kernel
theorem dX6_isRight_275 : decode cX6_isRight 275 = .ok (.iconst 1, 1) := by decide +kernel
theorem dX6_isRight_276 : decode cX6_isRight 276 = .ok (.goto 4, 3) := by decide +kernel
theorem dX6_isRight_279 : decode cX6_isRight 279 = .ok (.iconst 0, 1) := by decide +kernel
theorem dX6_isRight_280 : decode cX6_isRight 280 = .ok (.ireturn, 1) := by decide +kernel
theorem dX6_isRight_281 : decode cX6_isRight 281 = .ok (.iload_n 1, 1) := by decide +kernel
theorem dX6_isRight_282 : decode cX6_isRight 282 = .ok (.iconst 0, 1) := by decide +kernel
theorem dX6_isRight_283 : decode cX6_isRight 283 = .ok (.iconst 3, 1) := by decide +kernel
theorem dX6_isRight_284 : decode cX6_isRight 284 = .ok (.invokestatic 106, 3) := by decide +kernel
theorem dX6_isRight_287 : decode cX6_isRight 287 = .ok (.ireturn, 1) := by decide +kernel
theorem dX6_isRight_288 : decode cX6_isRight 288 = .ok (.iload_n 1, 1) := by decide +kernel
theorem dX6_isRight_289 : decode cX6_isRight 289 = .ok (.invokestatic 114, 3) := by decide +kernel
theorem dX6_isRight_292 : decode cX6_isRight 292 = .ok (.ifCond .eq 14, 3) := by decide +kernel
theorem dX6_isRight_295 : decode cX6_isRight 295 = .ok (.iload_n 2, 1) := by decide +kernel
theorem dX6_isRight_296 : decode cX6_isRight 296 = .ok (.invokestatic 110, 3) := by decide +kernel
theorem dX6_isRight_299 : decode cX6_isRight 299 = .ok (.ifCond .eq 7, 3) := by decide +kernel
theorem dX6_isRight_302 : decode cX6_isRight 302 = .ok (.iconst 1, 1) := by decide +kernel
theorem dX6_isRight_303 : decode cX6_isRight 303 = .ok (.goto 4, 3) := by decide +kernel
theorem dX6_isRight_306 : decode cX6_isRight 306 = .ok (.iconst 0, 1) := by decide +kernel
theorem dX6_isRight_307 : decode cX6_isRight 307 = .ok (.ireturn, 1) := by decide +kernel
theorem dX6_isRight_308 : decode cX6_isRight 308 = .ok (.iload_n 1, 1) := by decide +kernel
theorem dX6_isRight_309 : decode cX6_isRight 309 = .ok (.invokestatic 110, 3) := by decide +kernel
theorem dX6_isRight_312 : decode cX6_isRight 312 = .ok (.ifCond .eq 14, 3) := by decide +kernel
theorem dX6_isRight_315 : decode cX6_isRight 315 = .ok (.iload_n 2, 1) := by decide +kernel
theorem dX6_isRight_316 : decode cX6_isRight 316 = .ok (.invokestatic 114, 3) := by decide +kernel
theorem dX6_isRight_319 : decode cX6_isRight 319 = .ok (.ifCond .eq 7, 3) := by decide +kernel
theorem dX6_isRight_322 : decode cX6_isRight 322 = .ok (.iconst 1, 1) := by decide +kernel
theorem dX6_isRight_323 : decode cX6_isRight 323 = .ok (.goto 4, 3) := by decide +kernel
theorem dX6_isRight_326 : decode cX6_isRight 326 = .ok (.iconst 0, 1) := by decide +kernel
theorem dX6_isRight_327 : decode cX6_isRight 327 = .ok (.ireturn, 1) := by decide +kernel
theorem dX6_isRight_328 : decode cX6_isRight 328 = .ok (.iload_n 1, 1) := by decide +kernel
theorem dX6_isRight_329 : decode cX6_isRight 329 = .ok (.invokestatic 110, 3) := by decide +kernel
theorem dX6_isRight_332 : decode cX6_isRight 332 = .ok (.ifCond .eq 16, 3) := by decide +kernel
theorem dX6_isRight_335 : decode cX6_isRight 335 = .ok (.iload_n 2, 1) := by decide +kernel
theorem dX6_isRight_336 : decode cX6_isRight 336 = .ok (.iconst 0, 1) := by decide +kernel
theorem dX6_isRight_337 : decode cX6_isRight 337 = .ok (.iconst 4, 1) := by decide +kernel
theorem dX6_isRight_338 : decode cX6_isRight 338 = .ok (.invokestatic 106, 3) := by decide +kernel
theorem dX6_isRight_341 : decode cX6_isRight 341 = .ok (.ifCond .eq 7, 3) := by decide +kernel
theorem dX6_isRight_344 : decode cX6_isRight 344 = .ok (.iconst 1, 1) := by decide +kernel
theorem dX6_isRight_345 : decode cX6_isRight 345 = .ok (.goto 4, 3) := by decide +kernel
theorem dX6_isRight_348 : decode cX6_isRight 348 = .ok (.iconst 0, 1) := by decide +kernel
theorem dX6_isRight_349 : decode cX6_isRight 349 = .ok (.ireturn, 1) := by decide +kernel
theorem dX6_isRight_350 : decode cX6_isRight 350 = .ok (.iload_n 1, 1) := by decide +kernel
theorem dX6_isRight_351 : decode cX6_isRight 351 = .ok (.iconst 0, 1) := by decide +kernel
theorem dX6_isRight_352 : decode cX6_isRight 352 = .ok (.iconst 2, 1) := by decide +kernel
theorem dX6_isRight_353 : decode cX6_isRight 353 = .ok (.invokestatic 106, 3) := by decide +kernel
theorem dX6_isRight_356 : decode cX6_isRight 356 = .ok (.ifCond .eq 14, 3) := by decide +kernel
theorem dX6_isRight_359 : decode cX6_isRight 359 = .ok (.iload_n 2, 1) := by decide +kernel
theorem dX6_isRight_360 : decode cX6_isRight 360 = .ok (.invokestatic 114, 3) := by decide +kernel
theorem dX6_isRight_363 : decode cX6_isRight 363 = .ok (.ifCond .eq 7, 3) := by decide +kernel
theorem dX6_isRight_366 : decode cX6_isRight 366 = .ok (.iconst 1, 1) := by decide +kernel
theorem dX6_isRight_367 : decode cX6_isRight 367 = .ok (.goto 4, 3) := by decide +kernel
theorem dX6_isRight_370 : decode cX6_isRight 370 = .ok (.iconst 0, 1) := by decide +kernel
theorem dX6_isRight_371 : decode cX6_isRight 371 = .ok (.ireturn, 1) := by decide +kernel
theorem dX6_isRight_372 : decode cX6_isRight 372 = .ok (.iload_n 1, 1) := by decide +kernel
theorem dX6_isRight_373 : decode cX6_isRight 373 = .ok (.invokestatic 114, 3) := by decide +kernel
theorem dX6_isRight_376 : decode cX6_isRight 376 = .ok (.ifCond .eq 23, 3) := by decide +kernel
theorem dX6_isRight_379 : decode cX6_isRight 379 = .ok (.iload_n 2, 1) := by decide +kernel
theorem dX6_isRight_380 : decode cX6_isRight 380 = .ok (.iconst 0, 1) := by decide +kernel
theorem dX6_isRight_381 : decode cX6_isRight 381 = .ok (.iconst 2, 1) := by decide +kernel
theorem dX6_isRight_382 : decode cX6_isRight 382 = .ok (.invokestatic 106, 3) := by decide +kernel
theorem dX6_isRight_385 : decode cX6_isRight 385 = .ok (.ifCond .eq 14, 3) := by decide +kernel
theorem dX6_isRight_388 : decode cX6_isRight 388 = .ok (.iload_n 3, 1) := by decide +kernel
theorem dX6_isRight_389 : decode cX6_isRight 389 = .ok (.invokestatic 114, 3) := by decide +kernel
theorem dX6_isRight_392 : decode cX6_isRight 392 = .ok (.ifCond .eq 7, 3) := by decide +kernel
theorem dX6_isRight_395 : decode cX6_isRight 395 = .ok (.iconst 1, 1) := by decide +kernel
theorem dX6_isRight_396 : decode cX6_isRight 396 = .ok (.goto 4, 3) := by decide +kernel
theorem dX6_isRight_399 : decode cX6_isRight 399 = .ok (.iconst 0, 1) := by decide +kernel
theorem dX6_isRight_400 : decode cX6_isRight 400 = .ok (.ireturn, 1) := by decide +kernel
theorem dX6_isRight_401 : decode cX6_isRight 401 = .ok (.iload_n 1, 1) := by decide +kernel
theorem dX6_isRight_402 : decode cX6_isRight 402 = .ok (.iconst 0, 1) := by decide +kernel
theorem dX6_isRight_403 : decode cX6_isRight 403 = .ok (.iconst 1, 1) := by decide +kernel
theorem dX6_isRight_404 : decode cX6_isRight 404 = .ok (.invokestatic 106, 3) := by decide +kernel
theorem dX6_isRight_407 : decode cX6_isRight 407 = .ok (.ifCond .eq 23, 3) := by decide +kernel
theorem dX6_isRight_410 : decode cX6_isRight 410 = .ok (.iload_n 2, 1) := by decide +kernel
theorem dX6_isRight_411 : decode cX6_isRight 411 = .ok (.invokestatic 114, 3) := by decide +kernel
theorem dX6_isRight_414 : decode cX6_isRight 414 = .ok (.ifCond .eq 16, 3) := by decide +kernel
theorem dX6_isRight_417 : decode cX6_isRight 417 = .ok (.iload_n 3, 1) := by decide +kernel
theorem dX6_isRight_418 : decode cX6_isRight 418 = .ok (.iconst 0, 1) := by decide +kernel
theorem dX6_isRight_419 : decode cX6_isRight 419 = .ok (.iconst 5, 1) := by decide +kernel
theorem dX6_isRight_420 : decode cX6_isRight 420 = .ok (.invokestatic 106, 3) := by decide +kernel
theorem dX6_isRight_423 : decode cX6_isRight 423 = .ok (.ifCond .eq 7, 3) := by decide +kernel
theorem dX6_isRight_426 : decode cX6_isRight 426 = .ok (.iconst 1, 1) := by decide +kernel
theorem dX6_isRight_427 : decode cX6_isRight 427 = .ok (.goto 4, 3) := by decide +kernel
theorem dX6_isRight_430 : decode cX6_isRight 430 = .ok (.iconst 0, 1) := by decide +kernel
theorem dX6_isRight_431 : decode cX6_isRight 431 = .ok (.ireturn, 1) := by decide +kernel
theorem dX6_isRight_432 : decode cX6_isRight 432 = .ok (.iload_n 1, 1) := by decide +kernel
theorem dX6_isRight_433 : decode cX6_isRight 433 = .ok (.invokestatic 114, 3) := by decide +kernel
theorem dX6_isRight_436 : decode cX6_isRight 436 = .ok (.ifCond .eq 16, 3) := by decide +kernel
theorem dX6_isRight_439 : decode cX6_isRight 439 = .ok (.iload_n 2, 1) := by decide +kernel
theorem dX6_isRight_440 : decode cX6_isRight 440 = .ok (.iconst 0, 1) := by decide +kernel
theorem dX6_isRight_441 : decode cX6_isRight 441 = .ok (.iconst 1, 1) := by decide +kernel
theorem dX6_isRight_442 : decode cX6_isRight 442 = .ok (.invokestatic 106, 3) := by decide +kernel
theorem dX6_isRight_445 : decode cX6_isRight 445 = .ok (.ifCond .eq 7, 3) := by decide +kernel
theorem dX6_isRight_448 : decode cX6_isRight 448 = .ok (.iconst 1, 1) := by decide +kernel
theorem dX6_isRight_449 : decode cX6_isRight 449 = .ok (.goto 4, 3) := by decide +kernel
theorem dX6_isRight_452 : decode cX6_isRight 452 = .ok (.iconst 0, 1) := by decide +kernel
theorem dX6_isRight_453 : decode cX6_isRight 453 = .ok (.ireturn, 1) := by decide +kernel
theorem dX6_isRight_454 : decode cX6_isRight 454 = .ok (.iload_n 1, 1) := by decide +kernel
theorem dX6_isRight_455 : decode cX6_isRight 455 = .ok (.iconst 0, 1) := by decide +kernel
theorem dX6_isRight_456 : decode cX6_isRight 456 = .ok (.iconst 2, 1) := by decide +kernel
theorem dX6_isRight_457 : decode cX6_isRight 457 = .ok (.invokestatic 106, 3) := by decide +kernel
theorem dX6_isRight_460 : decode cX6_isRight 460 = .ok (.ireturn, 1) := by decide +kernel
theorem dX6_isRight_461 : decode cX6_isRight 461 = .ok (.iload_n 1, 1) := by decide +kernel
theorem dX6_isRight_462 : decode cX6_isRight 462 = .ok (.invokestatic 114, 3) := by decide +kernel
theorem dX6_isRight_465 : decode cX6_isRight 465 = .ok (.ireturn, 1) := by decide +kernel
theorem dX6_isRight_466 : decode cX6_isRight 466 = .ok (.iload_n 1, 1) := by decide +kernel
theorem dX6_isRight_467 : decode cX6_isRight 467 = .ok (.invokestatic 114, 3) := by decide +kernel
theorem dX6_isRight_470 : decode cX6_isRight 470 = .ok (.ifCond .eq 14, 3) := by decide +kernel
theorem dX6_isRight_473 : decode cX6_isRight 473 = .ok (.iload_n 2, 1) := by decide +kernel
theorem dX6_isRight_474 : decode cX6_isRight 474 = .ok (.invokestatic 114, 3) := by decide +kernel
theorem dX6_isRight_477 : decode cX6_isRight 477 = .ok (.ifCond .eq 7, 3) := by decide +kernel
theorem dX6_isRight_480 : decode cX6_isRight 480 = .ok (.iconst 1, 1) := by decide +kernel
theorem dX6_isRight_481 : decode cX6_isRight 481 = .ok (.goto 4, 3) := by decide +kernel
theorem dX6_isRight_484 : decode cX6_isRight 484 = .ok (.iconst 0, 1) := by decide +kernel
theorem dX6_isRight_485 : decode cX6_isRight 485 = .ok (.ireturn, 1) := by decide +kernel
theorem dX6_isRight_486 : decode cX6_isRight 486 = .ok (.iload_n 1, 1) := by decide +kernel
theorem dX6_isRight_487 : decode cX6_isRight 487 = .ok (.iconst 0, 1) := by decide +kernel
theorem dX6_isRight_488 : decode cX6_isRight 488 = .ok (.bipush 40, 2) := by decide +kernel
theorem dX6_isRight_490 : decode cX6_isRight 490 = .ok (.invokestatic 106, 3) := by decide +kernel
theorem dX6_isRight_493 : decode cX6_isRight 493 = .ok (.ireturn, 1) := by decide +kernel
theorem dX6_isRight_494 : decode cX6_isRight 494 = .ok (.iload_n 1, 1) := by decide +kernel
theorem dX6_isRight_495 : decode cX6_isRight 495 = .ok (.invokestatic 114, 3) := by decide +kernel
theorem dX6_isRight_498 : decode cX6_isRight 498 = .ok (.ifCond .eq 17, 3) := by decide +kernel
theorem dX6_isRight_501 : decode cX6_isRight 501 = .ok (.iload_n 2, 1) := by decide +kernel
theorem dX6_isRight_502 : decode cX6_isRight 502 = .ok (.iconst 0, 1) := by decide +kernel
theorem dX6_isRight_503 : decode cX6_isRight 503 = .ok (.bipush 40, 2) := by decide +kernel
theorem dX6_isRight_505 : decode cX6_isRight 505 = .ok (.invokestatic 106, 3) := by decide +kernel
theorem dX6_isRight_508 : decode cX6_isRight 508 = .ok (.ifCond .eq 7, 3) := by decide +kernel
theorem dX6_isRight_511 : decode cX6_isRight 511 = .ok (.iconst 1, 1) := by decide +kernel
theorem dX6_isRight_512 : decode cX6_isRight 512 = .ok (.goto 4, 3) := by decide +kernel
theorem dX6_isRight_515 : decode cX6_isRight 515 = .ok (.iconst 0, 1) := by decide +kernel
theorem dX6_isRight_516 : decode cX6_isRight 516 = .ok (.ireturn, 1) := by decide +kernel
theorem dX6_isRight_517 : decode cX6_isRight 517 = .ok (.iconst 0, 1) := by decide +kernel
theorem dX6_isRight_518 : decode cX6_isRight 518 = .ok (.ireturn, 1) := by decide +kernel
theorem dX6_act_0 : decode cX6_act 0 = .ok (.iload_n 1, 1) := by decide +kernel
theorem dX6_act_1 : decode cX6_act 1 = .ok (.iload_n 2, 1) := by decide +kernel
theorem dX6_act_2 : decode cX6_act 2 = .ok (.iload_n 3, 1) := by decide +kernel
theorem dX6_act_3 : decode cX6_act 3 = .ok (.iload 4, 2) := by decide +kernel
theorem dX6_act_5 : decode cX6_act 5 = .ok (.invokestatic 117, 3) := by decide +kernel
theorem dX6_act_8 : decode cX6_act 8 = .ok (.ifCond .ne 6, 3) := by decide +kernel
theorem dX6_act_11 : decode cX6_act 11 = .ok (.bipush (-101), 2) := by decide +kernel
theorem dX6_act_13 : decode cX6_act 13 = .ok (.ireturn, 1) := by decide +kernel
theorem dX6_act_14 : decode cX6_act 14 = .ok (.aload_n 0, 1) := by decide +kernel
theorem dX6_act_15 : decode cX6_act 15 = .ok (.getfield 121, 3) := by decide +kernel
theorem dX6_act_18 : decode cX6_act 18 = .ok (.bipush 40, 2) := by decide +kernel
theorem dX6_act_20 : decode cX6_act 20 = .ok (.if_icmp .ne 6, 3) := by decide +kernel
theorem dX6_act_23 : decode cX6_act 23 = .ok (.bipush (-102), 2) := by decide +kernel
theorem dX6_act_25 : decode cX6_act 25 = .ok (.ireturn, 1) := by decide +kernel
theorem dX6_act_26 : decode cX6_act 26 = .ok (.aload_n 0, 1) := by decide +kernel
theorem dX6_act_27 : decode cX6_act 27 = .ok (.getfield 7, 3) := by decide +kernel
theorem dX6_act_30 : decode cX6_act 30 = .ok (.aload_n 0, 1) := by decide +kernel
theorem dX6_act_31 : decode cX6_act 31 = .ok (.getfield 121, 3) := by decide +kernel
theorem dX6_act_34 : decode cX6_act 34 = .ok (.iload_n 1, 1) := by decide +kernel
theorem dX6_act_35 : decode cX6_act 35 = .ok (.iastore, 1) := by decide +kernel
theorem dX6_act_36 : decode cX6_act 36 = .ok (.aload_n 0, 1) := by decide +kernel
theorem dX6_act_37 : decode cX6_act 37 = .ok (.getfield 13, 3) := by decide +kernel
theorem dX6_act_40 : decode cX6_act 40 = .ok (.aload_n 0, 1) := by decide +kernel
theorem dX6_act_41 : decode cX6_act 41 = .ok (.getfield 121, 3) := by decide +kernel
theorem dX6_act_44 : decode cX6_act 44 = .ok (.iload_n 2, 1) := by decide +kernel
theorem dX6_act_45 : decode cX6_act 45 = .ok (.iastore, 1) := by decide +kernel
theorem dX6_act_46 : decode cX6_act 46 = .ok (.aload_n 0, 1) := by decide +kernel
theorem dX6_act_47 : decode cX6_act 47 = .ok (.getfield 16, 3) := by decide +kernel
theorem dX6_act_50 : decode cX6_act 50 = .ok (.aload_n 0, 1) := by decide +kernel
theorem dX6_act_51 : decode cX6_act 51 = .ok (.getfield 121, 3) := by decide +kernel
theorem dX6_act_54 : decode cX6_act 54 = .ok (.iload_n 3, 1) := by decide +kernel
theorem dX6_act_55 : decode cX6_act 55 = .ok (.iastore, 1) := by decide +kernel
theorem dX6_act_56 : decode cX6_act 56 = .ok (.aload_n 0, 1) := by decide +kernel
theorem dX6_act_57 : decode cX6_act 57 = .ok (.getfield 19, 3) := by decide +kernel
theorem dX6_act_60 : decode cX6_act 60 = .ok (.aload_n 0, 1) := by decide +kernel
theorem dX6_act_61 : decode cX6_act 61 = .ok (.getfield 121, 3) := by decide +kernel
theorem dX6_act_64 : decode cX6_act 64 = .ok (.iload 4, 2) := by decide +kernel
theorem dX6_act_66 : decode cX6_act 66 = .ok (.iastore, 1) := by decide +kernel
theorem dX6_act_67 : decode cX6_act 67 = .ok (.aload_n 0, 1) := by decide +kernel
theorem dX6_act_68 : decode cX6_act 68 = .ok (.dup, 1) := by decide +kernel
theorem dX6_act_69 : decode cX6_act 69 = .ok (.getfield 121, 3) := by decide +kernel
theorem dX6_act_72 : decode cX6_act 72 = .ok (.iconst 1, 1) := by decide +kernel
theorem dX6_act_73 : decode cX6_act 73 = .ok (.iadd, 1) := by decide +kernel
theorem dX6_act_74 : decode cX6_act 74 = .ok (.putfield 121, 3) := by decide +kernel
theorem dX6_act_77 : decode cX6_act 77 = .ok (.aload_n 0, 1) := by decide +kernel
theorem dX6_act_78 : decode cX6_act 78 = .ok (.getfield 121, 3) := by decide +kernel
theorem dX6_act_81 : decode cX6_act 81 = .ok (.iconst 1, 1) := by decide +kernel
theorem dX6_act_82 : decode cX6_act 82 = .ok (.isub, 1) := by decide +kernel
theorem dX6_act_83 : decode cX6_act 83 = .ok (.ireturn, 1) := by decide +kernel
theorem dX6_guard_0 : decode cX6_guard 0 = .ok (.iload_n 1, 1) := by decide +kernel
theorem dX6_guard_1 : decode cX6_guard 1 = .ok (.ifCond .lt 35, 3) := by decide +kernel
theorem dX6_guard_4 : decode cX6_guard 4 = .ok (.iload_n 1, 1) := by decide +kernel
theorem dX6_guard_5 : decode cX6_guard 5 = .ok (.iload_n 2, 1) := by decide +kernel
theorem dX6_guard_6 : decode cX6_guard 6 = .ok (.if_icmp .ge 30, 3) := by decide +kernel
theorem dX6_guard_9 : decode cX6_guard 9 = .ok (.iload_n 2, 1) := by decide +kernel
theorem dX6_guard_10 : decode cX6_guard 10 = .ok (.bipush 40, 2) := by decide +kernel
theorem dX6_guard_12 : decode cX6_guard 12 = .ok (.if_icmp .gt 24, 3) := by decide +kernel
theorem dX6_guard_15 : decode cX6_guard 15 = .ok (.iload_n 3, 1) := by decide +kernel
theorem dX6_guard_16 : decode cX6_guard 16 = .ok (.iconst 0, 1) := by decide +kernel
theorem dX6_guard_17 : decode cX6_guard 17 = .ok (.bipush 7, 2) := by decide +kernel
theorem dX6_guard_19 : decode cX6_guard 19 = .ok (.invokestatic 106, 3) := by decide +kernel
theorem dX6_guard_22 : decode cX6_guard 22 = .ok (.ifCond .eq 14, 3) := by decide +kernel
theorem dX6_guard_25 : decode cX6_guard 25 = .ok (.iload 4, 2) := by decide +kernel
theorem dX6_guard_27 : decode cX6_guard 27 = .ok (.iconst 0, 1) := by decide +kernel
theorem dX6_guard_28 : decode cX6_guard 28 = .ok (.bipush 40, 2) := by decide +kernel
theorem dX6_guard_30 : decode cX6_guard 30 = .ok (.invokestatic 106, 3) := by decide +kernel
theorem dX6_guard_33 : decode cX6_guard 33 = .ok (.ifCond .ne 6, 3) := by decide +kernel
theorem dX6_guard_36 : decode cX6_guard 36 = .ok (.bipush (-101), 2) := by decide +kernel
theorem dX6_guard_38 : decode cX6_guard 38 = .ok (.ireturn, 1) := by decide +kernel
theorem dX6_guard_39 : decode cX6_guard 39 = .ok (.aload_n 0, 1) := by decide +kernel
theorem dX6_guard_40 : decode cX6_guard 40 = .ok (.getfield 124, 3) := by decide +kernel
theorem dX6_guard_43 : decode cX6_guard 43 = .ok (.iconst 5, 1) := by decide +kernel
theorem dX6_guard_44 : decode cX6_guard 44 = .ok (.if_icmp .ne 6, 3) := by decide +kernel
theorem dX6_guard_47 : decode cX6_guard 47 = .ok (.bipush (-102), 2) := by decide +kernel
theorem dX6_guard_49 : decode cX6_guard 49 = .ok (.ireturn, 1) := by decide +kernel
theorem dX6_guard_50 : decode cX6_guard 50 = .ok (.aload_n 0, 1) := by decide +kernel
theorem dX6_guard_51 : decode cX6_guard 51 = .ok (.getfield 22, 3) := by decide +kernel
theorem dX6_guard_54 : decode cX6_guard 54 = .ok (.aload_n 0, 1) := by decide +kernel
theorem dX6_guard_55 : decode cX6_guard 55 = .ok (.getfield 124, 3) := by decide +kernel
theorem dX6_guard_58 : decode cX6_guard 58 = .ok (.iload_n 1, 1) := by decide +kernel
theorem dX6_guard_59 : decode cX6_guard 59 = .ok (.iastore, 1) := by decide +kernel
theorem dX6_guard_60 : decode cX6_guard 60 = .ok (.aload_n 0, 1) := by decide +kernel
theorem dX6_guard_61 : decode cX6_guard 61 = .ok (.getfield 25, 3) := by decide +kernel
theorem dX6_guard_64 : decode cX6_guard 64 = .ok (.aload_n 0, 1) := by decide +kernel
theorem dX6_guard_65 : decode cX6_guard 65 = .ok (.getfield 124, 3) := by decide +kernel
theorem dX6_guard_68 : decode cX6_guard 68 = .ok (.iload_n 2, 1) := by decide +kernel
theorem dX6_guard_69 : decode cX6_guard 69 = .ok (.iastore, 1) := by decide +kernel
theorem dX6_guard_70 : decode cX6_guard 70 = .ok (.aload_n 0, 1) := by decide +kernel
theorem dX6_guard_71 : decode cX6_guard 71 = .ok (.getfield 28, 3) := by decide +kernel
theorem dX6_guard_74 : decode cX6_guard 74 = .ok (.aload_n 0, 1) := by decide +kernel
theorem dX6_guard_75 : decode cX6_guard 75 = .ok (.getfield 124, 3) := by decide +kernel
theorem dX6_guard_78 : decode cX6_guard 78 = .ok (.iload_n 3, 1) := by decide +kernel
theorem dX6_guard_79 : decode cX6_guard 79 = .ok (.iastore, 1) := by decide +kernel
theorem dX6_guard_80 : decode cX6_guard 80 = .ok (.aload_n 0, 1) := by decide +kernel
theorem dX6_guard_81 : decode cX6_guard 81 = .ok (.getfield 31, 3) := by decide +kernel
theorem dX6_guard_84 : decode cX6_guard 84 = .ok (.aload_n 0, 1) := by decide +kernel
theorem dX6_guard_85 : decode cX6_guard 85 = .ok (.getfield 124, 3) := by decide +kernel
theorem dX6_guard_88 : decode cX6_guard 88 = .ok (.iload 4, 2) := by decide +kernel
theorem dX6_guard_90 : decode cX6_guard 90 = .ok (.iastore, 1) := by decide +kernel
theorem dX6_guard_91 : decode cX6_guard 91 = .ok (.aload_n 0, 1) := by decide +kernel
theorem dX6_guard_92 : decode cX6_guard 92 = .ok (.dup, 1) := by decide +kernel
theorem dX6_guard_93 : decode cX6_guard 93 = .ok (.getfield 124, 3) := by decide +kernel
theorem dX6_guard_96 : decode cX6_guard 96 = .ok (.iconst 1, 1) := by decide +kernel
theorem dX6_guard_97 : decode cX6_guard 97 = .ok (.iadd, 1) := by decide +kernel
theorem dX6_guard_98 : decode cX6_guard 98 = .ok (.putfield 124, 3) := by decide +kernel
theorem dX6_guard_101 : decode cX6_guard 101 = .ok (.aload_n 0, 1) := by decide +kernel
theorem dX6_guard_102 : decode cX6_guard 102 = .ok (.getfield 124, 3) := by decide +kernel
theorem dX6_guard_105 : decode cX6_guard 105 = .ok (.iconst 1, 1) := by decide +kernel
theorem dX6_guard_106 : decode cX6_guard 106 = .ok (.isub, 1) := by decide +kernel
theorem dX6_guard_107 : decode cX6_guard 107 = .ok (.ireturn, 1) := by decide +kernel
theorem dX6_clear_0 : decode cX6_clear 0 = .ok (.aload_n 0, 1) := by decide +kernel
theorem dX6_clear_1 : decode cX6_clear 1 = .ok (.getfield 121, 3) := by decide +kernel
theorem dX6_clear_4 : decode cX6_clear 4 = .ok (.istore_n 1, 1) := by decide +kernel
theorem dX6_clear_5 : decode cX6_clear 5 = .ok (.aload_n 0, 1) := by decide +kernel
theorem dX6_clear_6 : decode cX6_clear 6 = .ok (.iconst 0, 1) := by decide +kernel
theorem dX6_clear_7 : decode cX6_clear 7 = .ok (.putfield 121, 3) := by decide +kernel
theorem dX6_clear_10 : decode cX6_clear 10 = .ok (.aload_n 0, 1) := by decide +kernel
theorem dX6_clear_11 : decode cX6_clear 11 = .ok (.iconst 0, 1) := by decide +kernel
theorem dX6_clear_12 : decode cX6_clear 12 = .ok (.putfield 124, 3) := by decide +kernel
theorem dX6_clear_15 : decode cX6_clear 15 = .ok (.iload_n 1, 1) := by decide +kernel
theorem dX6_clear_16 : decode cX6_clear 16 = .ok (.ireturn, 1) := by decide +kernel
theorem dX6_isOf_0 : decode cX6_isOf 0 = .ok (.iload_n 1, 1) := by decide +kernel
theorem dX6_isOf_1 : decode cX6_isOf 1 = .ok (.ifCond .eq 23, 3) := by decide +kernel
theorem dX6_isOf_4 : decode cX6_isOf 4 = .ok (.iload_n 0, 1) := by decide +kernel
theorem dX6_isOf_5 : decode cX6_isOf 5 = .ok (.iload_n 1, 1) := by decide +kernel
theorem dX6_isOf_6 : decode cX6_isOf 6 = .ok (.if_icmp .eq 18, 3) := by decide +kernel
theorem dX6_isOf_9 : decode cX6_isOf 9 = .ok (.iload_n 1, 1) := by decide +kernel
theorem dX6_isOf_10 : decode cX6_isOf 10 = .ok (.iconst 3, 1) := by decide +kernel
theorem dX6_isOf_11 : decode cX6_isOf 11 = .ok (.if_icmp .ge 17, 3) := by decide +kernel
theorem dX6_isOf_14 : decode cX6_isOf 14 = .ok (.iload_n 0, 1) := by decide +kernel
theorem dX6_isOf_15 : decode cX6_isOf 15 = .ok (.iload_n 1, 1) := by decide +kernel
theorem dX6_isOf_16 : decode cX6_isOf 16 = .ok (.if_icmp .le 12, 3) := by decide +kernel
theorem dX6_isOf_19 : decode cX6_isOf 19 = .ok (.iload_n 0, 1) := by decide +kernel
theorem dX6_isOf_20 : decode cX6_isOf 20 = .ok (.iconst 3, 1) := by decide +kernel
theorem dX6_isOf_21 : decode cX6_isOf 21 = .ok (.if_icmp .gt 7, 3) := by decide +kernel
theorem dX6_isOf_24 : decode cX6_isOf 24 = .ok (.iconst 1, 1) := by decide +kernel
theorem dX6_isOf_25 : decode cX6_isOf 25 = .ok (.goto 4, 3) := by decide +kernel
theorem dX6_isOf_28 : decode cX6_isOf 28 = .ok (.iconst 0, 1) := by decide +kernel
theorem dX6_isOf_29 : decode cX6_isOf 29 = .ok (.ireturn, 1) := by decide +kernel
theorem dX6_isSize_0 : decode cX6_isSize 0 = .ok (.aload_n 0, 1) := by decide +kernel
theorem dX6_isSize_1 : decode cX6_isSize 1 = .ok (.iload_n 1, 1) := by decide +kernel
theorem dX6_isSize_2 : decode cX6_isSize 2 = .ok (.ifCond .ge 7, 3) := by decide +kernel
theorem dX6_isSize_5 : decode cX6_isSize 5 = .ok (.iconst 2, 1) := by decide +kernel
theorem dX6_isSize_6 : decode cX6_isSize 6 = .ok (.goto 15, 3) := by decide +kernel
theorem dX6_isSize_9 : decode cX6_isSize 9 = .ok (.iload_n 1, 1) := by decide +kernel
theorem dX6_isSize_10 : decode cX6_isSize 10 = .ok (.bipush 8, 2) := by decide +kernel
theorem dX6_isSize_12 : decode cX6_isSize 12 = .ok (.if_icmp .le 8, 3) := by decide +kernel
theorem dX6_isSize_15 : decode cX6_isSize 15 = .ok (.bipush 6, 2) := by decide +kernel
theorem dX6_isSize_17 : decode cX6_isSize 17 = .ok (.goto 4, 3) := by decide +kernel
theorem dX6_isSize_20 : decode cX6_isSize 20 = .ok (.iconst 0, 1) := by decide +kernel
theorem dX6_isSize_21 : decode cX6_isSize 21 = .ok (.putfield 127, 3) := by decide +kernel
theorem dX6_isSize_24 : decode cX6_isSize 24 = .ok (.aload_n 0, 1) := by decide +kernel
theorem dX6_isSize_25 : decode cX6_isSize 25 = .ok (.getfield 127, 3) := by decide +kernel
theorem dX6_isSize_28 : decode cX6_isSize 28 = .ok (.ifCond .ne 7, 3) := by decide +kernel
theorem dX6_isSize_31 : decode cX6_isSize 31 = .ok (.iconst 1, 1) := by decide +kernel
theorem dX6_isSize_32 : decode cX6_isSize 32 = .ok (.goto 4, 3) := by decide +kernel
theorem dX6_isSize_35 : decode cX6_isSize 35 = .ok (.iconst 0, 1) := by decide +kernel
theorem dX6_isSize_36 : decode cX6_isSize 36 = .ok (.ireturn, 1) := by decide +kernel
theorem dX6_isThere_0 : decode cX6_isThere 0 = .ok (.aload_n 0, 1) := by decide +kernel
theorem dX6_isThere_1 : decode cX6_isThere 1 = .ok (.iload_n 1, 1) := by decide +kernel
theorem dX6_isThere_2 : decode cX6_isThere 2 = .ok (.ifCond .eq 7, 3) := by decide +kernel
theorem dX6_isThere_5 : decode cX6_isThere 5 = .ok (.iconst 0, 1) := by decide +kernel
theorem dX6_isThere_6 : decode cX6_isThere 6 = .ok (.goto 4, 3) := by decide +kernel
theorem dX6_isThere_9 : decode cX6_isThere 9 = .ok (.iconst 1, 1) := by decide +kernel
theorem dX6_isThere_10 : decode cX6_isThere 10 = .ok (.putfield 127, 3) := by decide +kernel
theorem dX6_isThere_13 : decode cX6_isThere 13 = .ok (.iload_n 1, 1) := by decide +kernel
theorem dX6_isThere_14 : decode cX6_isThere 14 = .ok (.ireturn, 1) := by decide +kernel
theorem dX6_isIndex_0 : decode cX6_isIndex 0 = .ok (.aload_n 0, 1) := by decide +kernel
theorem dX6_isIndex_1 : decode cX6_isIndex 1 = .ok (.iload_n 1, 1) := by decide +kernel
theorem dX6_isIndex_2 : decode cX6_isIndex 2 = .ok (.iconst 0, 1) := by decide +kernel
theorem dX6_isIndex_3 : decode cX6_isIndex 3 = .ok (.iload_n 2, 1) := by decide +kernel
theorem dX6_isIndex_4 : decode cX6_isIndex 4 = .ok (.iconst 1, 1) := by decide +kernel
theorem dX6_isIndex_5 : decode cX6_isIndex 5 = .ok (.isub, 1) := by decide +kernel
theorem dX6_isIndex_6 : decode cX6_isIndex 6 = .ok (.invokestatic 106, 3) := by decide +kernel
theorem dX6_isIndex_9 : decode cX6_isIndex 9 = .ok (.ifCond .eq 7, 3) := by decide +kernel
theorem dX6_isIndex_12 : decode cX6_isIndex 12 = .ok (.iconst 0, 1) := by decide +kernel
theorem dX6_isIndex_13 : decode cX6_isIndex 13 = .ok (.goto 4, 3) := by decide +kernel
theorem dX6_isIndex_16 : decode cX6_isIndex 16 = .ok (.iconst 3, 1) := by decide +kernel
theorem dX6_isIndex_17 : decode cX6_isIndex 17 = .ok (.putfield 127, 3) := by decide +kernel
theorem dX6_isIndex_20 : decode cX6_isIndex 20 = .ok (.aload_n 0, 1) := by decide +kernel
theorem dX6_isIndex_21 : decode cX6_isIndex 21 = .ok (.getfield 127, 3) := by decide +kernel
theorem dX6_isIndex_24 : decode cX6_isIndex 24 = .ok (.ifCond .ne 7, 3) := by decide +kernel
theorem dX6_isIndex_27 : decode cX6_isIndex 27 = .ok (.iconst 1, 1) := by decide +kernel
theorem dX6_isIndex_28 : decode cX6_isIndex 28 = .ok (.goto 4, 3) := by decide +kernel
theorem dX6_isIndex_31 : decode cX6_isIndex 31 = .ok (.iconst 0, 1) := by decide +kernel
theorem dX6_isIndex_32 : decode cX6_isIndex 32 = .ok (.ireturn, 1) := by decide +kernel
theorem dX6_belts_0 : decode cX6_belts 0 = .ok (.iload_n 1, 1) := by decide +kernel
theorem dX6_belts_1 : decode cX6_belts 1 = .ok (.iconst 3, 1) := by decide +kernel
theorem dX6_belts_2 : decode cX6_belts 2 = .ok (.if_icmp .ne 7, 3) := by decide +kernel
theorem dX6_belts_5 : decode cX6_belts 5 = .ok (.iload_n 2, 1) := by decide +kernel
theorem dX6_belts_6 : decode cX6_belts 6 = .ok (.goto 13, 3) := by decide +kernel
theorem dX6_belts_9 : decode cX6_belts 9 = .ok (.iload_n 1, 1) := by decide +kernel
theorem dX6_belts_10 : decode cX6_belts 10 = .ok (.iconst 4, 1) := by decide +kernel
theorem dX6_belts_11 : decode cX6_belts 11 = .ok (.if_icmp .ne 7, 3) := by decide +kernel
theorem dX6_belts_14 : decode cX6_belts 14 = .ok (.iload_n 2, 1) := by decide +kernel
theorem dX6_belts_15 : decode cX6_belts 15 = .ok (.goto 4, 3) := by decide +kernel
theorem dX6_belts_18 : decode cX6_belts 18 = .ok (.iload_n 3, 1) := by decide +kernel
theorem dX6_belts_19 : decode cX6_belts 19 = .ok (.istore 5, 2) := by decide +kernel
theorem dX6_belts_21 : decode cX6_belts 21 = .ok (.iload_n 1, 1) := by decide +kernel
theorem dX6_belts_22 : decode cX6_belts 22 = .ok (.iconst 3, 1) := by decide +kernel
theorem dX6_belts_23 : decode cX6_belts 23 = .ok (.if_icmp .ne 66, 3) := by decide +kernel
theorem dX6_belts_26 : decode cX6_belts 26 = .ok (.aload_n 0, 1) := by decide +kernel
theorem dX6_belts_27 : decode cX6_belts 27 = .ok (.getfield 74, 3) := by decide +kernel
theorem dX6_belts_30 : decode cX6_belts 30 = .ok (.iload 4, 2) := by decide +kernel
theorem dX6_belts_32 : decode cX6_belts 32 = .ok (.iaload, 1) := by decide +kernel
theorem dX6_belts_33 : decode cX6_belts 33 = .ok (.istore 6, 2) := by decide +kernel
theorem dX6_belts_35 : decode cX6_belts 35 = .ok (.aload_n 0, 1) := by decide +kernel
theorem dX6_belts_36 : decode cX6_belts 36 = .ok (.iload 6, 2) := by decide +kernel
theorem dX6_belts_38 : decode cX6_belts 38 = .ok (.invokevirtual 130, 3) := by decide +kernel
theorem dX6_belts_41 : decode cX6_belts 41 = .ok (.ifCond .eq 47, 3) := by decide +kernel
theorem dX6_belts_44 : decode cX6_belts 44 = .ok (.aload_n 0, 1) := by decide +kernel
theorem dX6_belts_45 : decode cX6_belts 45 = .ok (.getfield 46, 3) := by decide +kernel
theorem dX6_belts_48 : decode cX6_belts 48 = .ok (.iload_n 2, 1) := by decide +kernel
theorem dX6_belts_49 : decode cX6_belts 49 = .ok (.iload 6, 2) := by decide +kernel
theorem dX6_belts_51 : decode cX6_belts 51 = .ok (.iastore, 1) := by decide +kernel
theorem dX6_belts_52 : decode cX6_belts 52 = .ok (.aload_n 0, 1) := by decide +kernel
theorem dX6_belts_53 : decode cX6_belts 53 = .ok (.getfield 49, 3) := by decide +kernel
theorem dX6_belts_56 : decode cX6_belts 56 = .ok (.iload_n 2, 1) := by decide +kernel
theorem dX6_belts_57 : decode cX6_belts 57 = .ok (.iload_n 3, 1) := by decide +kernel
theorem dX6_belts_58 : decode cX6_belts 58 = .ok (.iastore, 1) := by decide +kernel
theorem dX6_belts_59 : decode cX6_belts 59 = .ok (.iconst 0, 1) := by decide +kernel
theorem dX6_belts_60 : decode cX6_belts 60 = .ok (.istore 7, 2) := by decide +kernel
theorem dX6_belts_62 : decode cX6_belts 62 = .ok (.iload 7, 2) := by decide +kernel
theorem dX6_belts_64 : decode cX6_belts 64 = .ok (.iload 6, 2) := by decide +kernel
theorem dX6_belts_66 : decode cX6_belts 66 = .ok (.if_icmp .ge 22, 3) := by decide +kernel
theorem dX6_belts_69 : decode cX6_belts 69 = .ok (.aload_n 0, 1) := by decide +kernel
theorem dX6_belts_70 : decode cX6_belts 70 = .ok (.getfield 52, 3) := by decide +kernel
theorem dX6_belts_73 : decode cX6_belts 73 = .ok (.bipush 8, 2) := by decide +kernel
theorem dX6_belts_75 : decode cX6_belts 75 = .ok (.iload_n 2, 1) := by decide +kernel
theorem dX6_belts_76 : decode cX6_belts 76 = .ok (.imul, 1) := by decide +kernel
theorem dX6_belts_77 : decode cX6_belts 77 = .ok (.iload 7, 2) := by decide +kernel
theorem dX6_belts_79 : decode cX6_belts 79 = .ok (.iadd, 1) := by decide +kernel
theorem dX6_belts_80 : decode cX6_belts 80 = .ok (.iconst (-1), 1) := by decide +kernel
theorem dX6_belts_81 : decode cX6_belts 81 = .ok (.iastore, 1) := by decide +kernel
theorem dX6_belts_82 : decode cX6_belts 82 = .ok (.iinc 7 1, 3) := by decide +kernel
theorem dX6_belts_85 : decode cX6_belts 85 = .ok (.goto (-23), 3) := by decide +kernel
theorem dX6_belts_88 : decode cX6_belts 88 = .ok (.return_, 1) := by decide +kernel
theorem dX6_belts_89 : decode cX6_belts 89 = .ok (.iload_n 1, 1) := by decide +kernel
theorem dX6_belts_90 : decode cX6_belts 90 = .ok (.iconst 4, 1) := by decide +kernel
theorem dX6_belts_91 : decode cX6_belts 91 = .ok (.if_icmp .ne 12, 3) := by decide +kernel
theorem dX6_belts_94 : decode cX6_belts 94 = .ok (.aload_n 0, 1) := by decide +kernel
theorem dX6_belts_95 : decode cX6_belts 95 = .ok (.getfield 74, 3) := by decide +kernel
theorem dX6_belts_98 : decode cX6_belts 98 = .ok (.iload_n 3, 1) := by decide +kernel
theorem dX6_belts_99 : decode cX6_belts 99 = .ok (.iaload, 1) := by decide +kernel
theorem dX6_belts_100 : decode cX6_belts 100 = .ok (.goto 10, 3) := by decide +kernel
theorem dX6_belts_103 : decode cX6_belts 103 = .ok (.aload_n 0, 1) := by decide +kernel
theorem dX6_belts_104 : decode cX6_belts 104 = .ok (.getfield 74, 3) := by decide +kernel
theorem dX6_belts_107 : decode cX6_belts 107 = .ok (.iload 4, 2) := by decide +kernel
theorem dX6_belts_109 : decode cX6_belts 109 = .ok (.iaload, 1) := by decide +kernel
theorem dX6_belts_110 : decode cX6_belts 110 = .ok (.istore 6, 2) := by decide +kernel
theorem dX6_belts_112 : decode cX6_belts 112 = .ok (.aload_n 0, 1) := by decide +kernel
theorem dX6_belts_113 : decode cX6_belts 113 = .ok (.aload_n 0, 1) := by decide +kernel
theorem dX6_belts_114 : decode cX6_belts 114 = .ok (.getfield 46, 3) := by decide +kernel
theorem dX6_belts_117 : decode cX6_belts 117 = .ok (.iload 5, 2) := by decide +kernel
theorem dX6_belts_119 : decode cX6_belts 119 = .ok (.iaload, 1) := by decide +kernel
theorem dX6_belts_120 : decode cX6_belts 120 = .ok (.iconst (-1), 1) := by decide +kernel
theorem dX6_belts_121 : decode cX6_belts 121 = .ok (.if_icmp .eq 7, 3) := by decide +kernel
theorem dX6_belts_124 : decode cX6_belts 124 = .ok (.iconst 1, 1) := by decide +kernel
theorem dX6_belts_125 : decode cX6_belts 125 = .ok (.goto 4, 3) := by decide +kernel
theorem dX6_belts_128 : decode cX6_belts 128 = .ok (.iconst 0, 1) := by decide +kernel
theorem dX6_belts_129 : decode cX6_belts 129 = .ok (.invokevirtual 133, 3) := by decide +kernel
theorem dX6_belts_132 : decode cX6_belts 132 = .ok (.ifCond .eq 19, 3) := by decide +kernel
theorem dX6_belts_135 : decode cX6_belts 135 = .ok (.aload_n 0, 1) := by decide +kernel
theorem dX6_belts_136 : decode cX6_belts 136 = .ok (.iload 6, 2) := by decide +kernel
theorem dX6_belts_138 : decode cX6_belts 138 = .ok (.aload_n 0, 1) := by decide +kernel
theorem dX6_belts_139 : decode cX6_belts 139 = .ok (.getfield 46, 3) := by decide +kernel
theorem dX6_belts_142 : decode cX6_belts 142 = .ok (.iload 5, 2) := by decide +kernel
theorem dX6_belts_144 : decode cX6_belts 144 = .ok (.iaload, 1) := by decide +kernel
theorem dX6_belts_145 : decode cX6_belts 145 = .ok (.invokevirtual 137, 3) := by decide +kernel
theorem dX6_belts_148 : decode cX6_belts 148 = .ok (.ifCond .ne 4, 3) := by decide +kernel
theorem dX6_belts_151 : decode cX6_belts 151 = .ok (.return_, 1) := by decide +kernel
theorem dX6_belts_152 : decode cX6_belts 152 = .ok (.iload_n 1, 1) := by decide +kernel
theorem dX6_belts_153 : decode cX6_belts 153 = .ok (.iconst 5, 1) := by decide +kernel
theorem dX6_belts_154 : decode cX6_belts 154 = .ok (.if_icmp .ne 25, 3) := by decide +kernel
theorem dX6_belts_157 : decode cX6_belts 157 = .ok (.aload_n 0, 1) := by decide +kernel
theorem dX6_belts_158 : decode cX6_belts 158 = .ok (.getfield 43, 3) := by decide +kernel
theorem dX6_belts_161 : decode cX6_belts 161 = .ok (.iload_n 2, 1) := by decide +kernel
theorem dX6_belts_162 : decode cX6_belts 162 = .ok (.aload_n 0, 1) := by decide +kernel
theorem dX6_belts_163 : decode cX6_belts 163 = .ok (.getfield 52, 3) := by decide +kernel
theorem dX6_belts_166 : decode cX6_belts 166 = .ok (.bipush 8, 2) := by decide +kernel
theorem dX6_belts_168 : decode cX6_belts 168 = .ok (.iload 5, 2) := by decide +kernel
theorem dX6_belts_170 : decode cX6_belts 170 = .ok (.imul, 1) := by decide +kernel
theorem dX6_belts_171 : decode cX6_belts 171 = .ok (.iload 6, 2) := by decide +kernel
theorem dX6_belts_173 : decode cX6_belts 173 = .ok (.iadd, 1) := by decide +kernel
theorem dX6_belts_174 : decode cX6_belts 174 = .ok (.iaload, 1) := by decide +kernel
theorem dX6_belts_175 : decode cX6_belts 175 = .ok (.iastore, 1) := by decide +kernel
theorem dX6_belts_176 : decode cX6_belts 176 = .ok (.goto 67, 3) := by decide +kernel
theorem dX6_belts_179 : decode cX6_belts 179 = .ok (.aload_n 0, 1) := by decide +kernel
theorem dX6_belts_180 : decode cX6_belts 180 = .ok (.getfield 43, 3) := by decide +kernel
theorem dX6_belts_183 : decode cX6_belts 183 = .ok (.iload 4, 2) := by decide +kernel
theorem dX6_belts_185 : decode cX6_belts 185 = .ok (.iaload, 1) := by decide +kernel
theorem dX6_belts_186 : decode cX6_belts 186 = .ok (.iconst (-1), 1) := by decide +kernel
theorem dX6_belts_187 : decode cX6_belts 187 = .ok (.if_icmp .eq 36, 3) := by decide +kernel
theorem dX6_belts_190 : decode cX6_belts 190 = .ok (.aload_n 0, 1) := by decide +kernel
theorem dX6_belts_191 : decode cX6_belts 191 = .ok (.getfield 34, 3) := by decide +kernel
theorem dX6_belts_194 : decode cX6_belts 194 = .ok (.aload_n 0, 1) := by decide +kernel
theorem dX6_belts_195 : decode cX6_belts 195 = .ok (.getfield 43, 3) := by decide +kernel
theorem dX6_belts_198 : decode cX6_belts 198 = .ok (.iload 4, 2) := by decide +kernel
theorem dX6_belts_200 : decode cX6_belts 200 = .ok (.iaload, 1) := by decide +kernel
theorem dX6_belts_201 : decode cX6_belts 201 = .ok (.iaload, 1) := by decide +kernel
theorem dX6_belts_202 : decode cX6_belts 202 = .ok (.aload_n 0, 1) := by decide +kernel
theorem dX6_belts_203 : decode cX6_belts 203 = .ok (.getfield 49, 3) := by decide +kernel
theorem dX6_belts_206 : decode cX6_belts 206 = .ok (.iload 5, 2) := by decide +kernel
theorem dX6_belts_208 : decode cX6_belts 208 = .ok (.iaload, 1) := by decide +kernel
theorem dX6_belts_209 : decode cX6_belts 209 = .ok (.invokestatic 141, 3) := by decide +kernel
theorem dX6_belts_212 : decode cX6_belts 212 = .ok (.ifCond .ne 11, 3) := by decide +kernel
theorem dX6_belts_215 : decode cX6_belts 215 = .ok (.aload_n 0, 1) := by decide +kernel
theorem dX6_belts_216 : decode cX6_belts 216 = .ok (.iconst 5, 1) := by decide +kernel
theorem dX6_belts_217 : decode cX6_belts 217 = .ok (.putfield 127, 3) := by decide +kernel
theorem dX6_belts_220 : decode cX6_belts 220 = .ok (.goto 23, 3) := by decide +kernel
theorem dX6_belts_223 : decode cX6_belts 223 = .ok (.aload_n 0, 1) := by decide +kernel
theorem dX6_belts_224 : decode cX6_belts 224 = .ok (.getfield 52, 3) := by decide +kernel
theorem dX6_belts_227 : decode cX6_belts 227 = .ok (.bipush 8, 2) := by decide +kernel
theorem dX6_belts_229 : decode cX6_belts 229 = .ok (.iload 5, 2) := by decide +kernel
theorem dX6_belts_231 : decode cX6_belts 231 = .ok (.imul, 1) := by decide +kernel
theorem dX6_belts_232 : decode cX6_belts 232 = .ok (.iload 6, 2) := by decide +kernel
theorem dX6_belts_234 : decode cX6_belts 234 = .ok (.iadd, 1) := by decide +kernel
theorem dX6_belts_235 : decode cX6_belts 235 = .ok (.aload_n 0, 1) := by decide +kernel
theorem dX6_belts_236 : decode cX6_belts 236 = .ok (.getfield 43, 3) := by decide +kernel
theorem dX6_belts_239 : decode cX6_belts 239 = .ok (.iload 4, 2) := by decide +kernel
theorem dX6_belts_241 : decode cX6_belts 241 = .ok (.iaload, 1) := by decide +kernel
theorem dX6_belts_242 : decode cX6_belts 242 = .ok (.iastore, 1) := by decide +kernel
theorem dX6_belts_243 : decode cX6_belts 243 = .ok (.return_, 1) := by decide +kernel
theorem dX6_stamped_0 : decode cX6_stamped 0 = .ok (.aload_n 0, 1) := by decide +kernel
theorem dX6_stamped_1 : decode cX6_stamped 1 = .ok (.getfield 40, 3) := by decide +kernel
theorem dX6_stamped_4 : decode cX6_stamped 4 = .ok (.iload_n 1, 1) := by decide +kernel
theorem dX6_stamped_5 : decode cX6_stamped 5 = .ok (.dup2, 1) := by decide +kernel
theorem dX6_stamped_6 : decode cX6_stamped 6 = .ok (.iaload, 1) := by decide +kernel
theorem dX6_stamped_7 : decode cX6_stamped 7 = .ok (.iconst 1, 1) := by decide +kernel
theorem dX6_stamped_8 : decode cX6_stamped 8 = .ok (.iadd, 1) := by decide +kernel
theorem dX6_stamped_9 : decode cX6_stamped 9 = .ok (.iastore, 1) := by decide +kernel
theorem dX6_stamped_10 : decode cX6_stamped 10 = .ok (.aload_n 0, 1) := by decide +kernel
theorem dX6_stamped_11 : decode cX6_stamped 11 = .ok (.getfield 37, 3) := by decide +kernel
theorem dX6_stamped_14 : decode cX6_stamped 14 = .ok (.iload_n 1, 1) := by decide +kernel
theorem dX6_stamped_15 : decode cX6_stamped 15 = .ok (.iaload, 1) := by decide +kernel
theorem dX6_stamped_16 : decode cX6_stamped 16 = .ok (.aload_n 0, 1) := by decide +kernel
theorem dX6_stamped_17 : decode cX6_stamped 17 = .ok (.getfield 40, 3) := by decide +kernel
theorem dX6_stamped_20 : decode cX6_stamped 20 = .ok (.iload_n 1, 1) := by decide +kernel
theorem dX6_stamped_21 : decode cX6_stamped 21 = .ok (.iaload, 1) := by decide +kernel
theorem dX6_stamped_22 : decode cX6_stamped 22 = .ok (.iadd, 1) := by decide +kernel
theorem dX6_stamped_23 : decode cX6_stamped 23 = .ok (.istore_n 2, 1) := by decide +kernel
theorem dX6_stamped_24 : decode cX6_stamped 24 = .ok (.aload_n 0, 1) := by decide +kernel
theorem dX6_stamped_25 : decode cX6_stamped 25 = .ok (.getfield 34, 3) := by decide +kernel
theorem dX6_stamped_28 : decode cX6_stamped 28 = .ok (.iload_n 1, 1) := by decide +kernel
theorem dX6_stamped_29 : decode cX6_stamped 29 = .ok (.iaload, 1) := by decide +kernel
theorem dX6_stamped_30 : decode cX6_stamped 30 = .ok (.ifCond .ne 7, 3) := by decide +kernel
theorem dX6_stamped_33 : decode cX6_stamped 33 = .ok (.iload_n 2, 1) := by decide +kernel
theorem dX6_stamped_34 : decode cX6_stamped 34 = .ok (.goto 40, 3) := by decide +kernel
theorem dX6_stamped_37 : decode cX6_stamped 37 = .ok (.aload_n 0, 1) := by decide +kernel
theorem dX6_stamped_38 : decode cX6_stamped 38 = .ok (.getfield 34, 3) := by decide +kernel
theorem dX6_stamped_41 : decode cX6_stamped 41 = .ok (.iload_n 1, 1) := by decide +kernel
theorem dX6_stamped_42 : decode cX6_stamped 42 = .ok (.iaload, 1) := by decide +kernel
theorem dX6_stamped_43 : decode cX6_stamped 43 = .ok (.iconst 4, 1) := by decide +kernel
theorem dX6_stamped_44 : decode cX6_stamped 44 = .ok (.if_icmp .ne 9, 3) := by decide +kernel
theorem dX6_stamped_47 : decode cX6_stamped 47 = .ok (.iconst 3, 1) := by decide +kernel
theorem dX6_stamped_48 : decode cX6_stamped 48 = .ok (.iload_n 2, 1) := by decide +kernel
theorem dX6_stamped_49 : decode cX6_stamped 49 = .ok (.imul, 1) := by decide +kernel
theorem dX6_stamped_50 : decode cX6_stamped 50 = .ok (.goto 24, 3) := by decide +kernel
theorem dX6_stamped_53 : decode cX6_stamped 53 = .ok (.aload_n 0, 1) := by decide +kernel
theorem dX6_stamped_54 : decode cX6_stamped 54 = .ok (.getfield 34, 3) := by decide +kernel
theorem dX6_stamped_57 : decode cX6_stamped 57 = .ok (.iload_n 1, 1) := by decide +kernel
theorem dX6_stamped_58 : decode cX6_stamped 58 = .ok (.iaload, 1) := by decide +kernel
theorem dX6_stamped_59 : decode cX6_stamped 59 = .ok (.iconst 3, 1) := by decide +kernel
theorem dX6_stamped_60 : decode cX6_stamped 60 = .ok (.if_icmp .ne 11, 3) := by decide +kernel
theorem dX6_stamped_63 : decode cX6_stamped 63 = .ok (.iconst 2, 1) := by decide +kernel
theorem dX6_stamped_64 : decode cX6_stamped 64 = .ok (.iload_n 2, 1) := by decide +kernel
theorem dX6_stamped_65 : decode cX6_stamped 65 = .ok (.imul, 1) := by decide +kernel
theorem dX6_stamped_66 : decode cX6_stamped 66 = .ok (.iconst 1, 1) := by decide +kernel
theorem dX6_stamped_67 : decode cX6_stamped 67 = .ok (.isub, 1) := by decide +kernel
theorem dX6_stamped_68 : decode cX6_stamped 68 = .ok (.goto 6, 3) := by decide +kernel
theorem dX6_stamped_71 : decode cX6_stamped 71 = .ok (.iconst 2, 1) := by decide +kernel
theorem dX6_stamped_72 : decode cX6_stamped 72 = .ok (.iload_n 2, 1) := by decide +kernel
theorem dX6_stamped_73 : decode cX6_stamped 73 = .ok (.imul, 1) := by decide +kernel
theorem dX6_stamped_74 : decode cX6_stamped 74 = .ok (.ireturn, 1) := by decide +kernel
theorem dX6_feed_0 : decode cX6_feed 0 = .ok (.aload_n 0, 1) := by decide +kernel
theorem dX6_feed_1 : decode cX6_feed 1 = .ok (.getfield 34, 3) := by decide +kernel
theorem dX6_feed_4 : decode cX6_feed 4 = .ok (.iload_n 2, 1) := by decide +kernel
theorem dX6_feed_5 : decode cX6_feed 5 = .ok (.iaload, 1) := by decide +kernel
theorem dX6_feed_6 : decode cX6_feed 6 = .ok (.iconst 3, 1) := by decide +kernel
theorem dX6_feed_7 : decode cX6_feed 7 = .ok (.if_icmp .ge 11, 3) := by decide +kernel
theorem dX6_feed_10 : decode cX6_feed 10 = .ok (.aload_n 0, 1) := by decide +kernel
theorem dX6_feed_11 : decode cX6_feed 11 = .ok (.iconst 4, 1) := by decide +kernel
theorem dX6_feed_12 : decode cX6_feed 12 = .ok (.putfield 127, 3) := by decide +kernel
theorem dX6_feed_15 : decode cX6_feed 15 = .ok (.goto 67, 3) := by decide +kernel
theorem dX6_feed_18 : decode cX6_feed 18 = .ok (.aload_n 0, 1) := by decide +kernel
theorem dX6_feed_19 : decode cX6_feed 19 = .ok (.getfield 34, 3) := by decide +kernel
theorem dX6_feed_22 : decode cX6_feed 22 = .ok (.iload_n 2, 1) := by decide +kernel
theorem dX6_feed_23 : decode cX6_feed 23 = .ok (.iaload, 1) := by decide +kernel
theorem dX6_feed_24 : decode cX6_feed 24 = .ok (.iconst 3, 1) := by decide +kernel
theorem dX6_feed_25 : decode cX6_feed 25 = .ok (.if_icmp .ne 28, 3) := by decide +kernel
theorem dX6_feed_28 : decode cX6_feed 28 = .ok (.aload_n 0, 1) := by decide +kernel
theorem dX6_feed_29 : decode cX6_feed 29 = .ok (.getfield 37, 3) := by decide +kernel
theorem dX6_feed_32 : decode cX6_feed 32 = .ok (.iload_n 2, 1) := by decide +kernel
theorem dX6_feed_33 : decode cX6_feed 33 = .ok (.dup2, 1) := by decide +kernel
theorem dX6_feed_34 : decode cX6_feed 34 = .ok (.iaload, 1) := by decide +kernel
theorem dX6_feed_35 : decode cX6_feed 35 = .ok (.iconst 5, 1) := by decide +kernel
theorem dX6_feed_36 : decode cX6_feed 36 = .ok (.iadd, 1) := by decide +kernel
theorem dX6_feed_37 : decode cX6_feed 37 = .ok (.iastore, 1) := by decide +kernel
theorem dX6_feed_38 : decode cX6_feed 38 = .ok (.aload_n 0, 1) := by decide +kernel
theorem dX6_feed_39 : decode cX6_feed 39 = .ok (.getfield 74, 3) := by decide +kernel
theorem dX6_feed_42 : decode cX6_feed 42 = .ok (.iload_n 1, 1) := by decide +kernel
theorem dX6_feed_43 : decode cX6_feed 43 = .ok (.aload_n 0, 1) := by decide +kernel
theorem dX6_feed_44 : decode cX6_feed 44 = .ok (.getfield 37, 3) := by decide +kernel
theorem dX6_feed_47 : decode cX6_feed 47 = .ok (.iload_n 2, 1) := by decide +kernel
theorem dX6_feed_48 : decode cX6_feed 48 = .ok (.iaload, 1) := by decide +kernel
theorem dX6_feed_49 : decode cX6_feed 49 = .ok (.iastore, 1) := by decide +kernel
theorem dX6_feed_50 : decode cX6_feed 50 = .ok (.goto 32, 3) := by decide +kernel
theorem dX6_feed_53 : decode cX6_feed 53 = .ok (.aload_n 0, 1) := by decide +kernel
theorem dX6_feed_54 : decode cX6_feed 54 = .ok (.getfield 37, 3) := by decide +kernel
theorem dX6_feed_57 : decode cX6_feed 57 = .ok (.iload_n 2, 1) := by decide +kernel
theorem dX6_feed_58 : decode cX6_feed 58 = .ok (.dup2, 1) := by decide +kernel
theorem dX6_feed_59 : decode cX6_feed 59 = .ok (.iaload, 1) := by decide +kernel
theorem dX6_feed_60 : decode cX6_feed 60 = .ok (.iconst 2, 1) := by decide +kernel
theorem dX6_feed_61 : decode cX6_feed 61 = .ok (.imul, 1) := by decide +kernel
theorem dX6_feed_62 : decode cX6_feed 62 = .ok (.iastore, 1) := by decide +kernel
theorem dX6_feed_63 : decode cX6_feed 63 = .ok (.aload_n 0, 1) := by decide +kernel
theorem dX6_feed_64 : decode cX6_feed 64 = .ok (.getfield 74, 3) := by decide +kernel
theorem dX6_feed_67 : decode cX6_feed 67 = .ok (.iload_n 1, 1) := by decide +kernel
theorem dX6_feed_68 : decode cX6_feed 68 = .ok (.aload_n 0, 1) := by decide +kernel
theorem dX6_feed_69 : decode cX6_feed 69 = .ok (.getfield 37, 3) := by decide +kernel
theorem dX6_feed_72 : decode cX6_feed 72 = .ok (.iload_n 2, 1) := by decide +kernel
theorem dX6_feed_73 : decode cX6_feed 73 = .ok (.iaload, 1) := by decide +kernel
theorem dX6_feed_74 : decode cX6_feed 74 = .ok (.aload_n 0, 1) := by decide +kernel
theorem dX6_feed_75 : decode cX6_feed 75 = .ok (.getfield 40, 3) := by decide +kernel
theorem dX6_feed_78 : decode cX6_feed 78 = .ok (.iload_n 2, 1) := by decide +kernel
theorem dX6_feed_79 : decode cX6_feed 79 = .ok (.iaload, 1) := by decide +kernel
theorem dX6_feed_80 : decode cX6_feed 80 = .ok (.isub, 1) := by decide +kernel
theorem dX6_feed_81 : decode cX6_feed 81 = .ok (.iastore, 1) := by decide +kernel
theorem dX6_feed_82 : decode cX6_feed 82 = .ok (.return_, 1) := by decide +kernel
theorem dX6_one_0 : decode cX6_one 0 = .ok (.iload_n 1, 1) := by decide +kernel
theorem dX6_one_1 : decode cX6_one 1 = .ok (.bipush 9, 2) := by decide +kernel
theorem dX6_one_3 : decode cX6_one 3 = .ok (.if_icmp .eq 9, 3) := by decide +kernel
theorem dX6_one_6 : decode cX6_one 6 = .ok (.iload_n 1, 1) := by decide +kernel
theorem dX6_one_7 : decode cX6_one 7 = .ok (.bipush 12, 2) := by decide +kernel
theorem dX6_one_9 : decode cX6_one 9 = .ok (.if_icmp .ne 12, 3) := by decide +kernel
theorem dX6_one_12 : decode cX6_one 12 = .ok (.aload_n 0, 1) := by decide +kernel
theorem dX6_one_13 : decode cX6_one 13 = .ok (.getfield 43, 3) := by decide +kernel
theorem dX6_one_16 : decode cX6_one 16 = .ok (.iload_n 2, 1) := by decide +kernel
theorem dX6_one_17 : decode cX6_one 17 = .ok (.iaload, 1) := by decide +kernel
theorem dX6_one_18 : decode cX6_one 18 = .ok (.goto 9, 3) := by decide +kernel
theorem dX6_one_21 : decode cX6_one 21 = .ok (.aload_n 0, 1) := by decide +kernel
theorem dX6_one_22 : decode cX6_one 22 = .ok (.getfield 43, 3) := by decide +kernel
theorem dX6_one_25 : decode cX6_one 25 = .ok (.iload_n 3, 1) := by decide +kernel
theorem dX6_one_26 : decode cX6_one 26 = .ok (.iaload, 1) := by decide +kernel
theorem dX6_one_27 : decode cX6_one 27 = .ok (.istore 4, 2) := by decide +kernel
theorem dX6_one_29 : decode cX6_one 29 = .ok (.iload_n 1, 1) := by decide +kernel
theorem dX6_one_30 : decode cX6_one 30 = .ok (.bipush 12, 2) := by decide +kernel
theorem dX6_one_32 : decode cX6_one 32 = .ok (.if_icmp .ne 33, 3) := by decide +kernel
theorem dX6_one_35 : decode cX6_one 35 = .ok (.aload_n 0, 1) := by decide +kernel
theorem dX6_one_36 : decode cX6_one 36 = .ok (.iload 4, 2) := by decide +kernel
theorem dX6_one_38 : decode cX6_one 38 = .ok (.iconst (-1), 1) := by decide +kernel
theorem dX6_one_39 : decode cX6_one 39 = .ok (.if_icmp .eq 17, 3) := by decide +kernel
theorem dX6_one_42 : decode cX6_one 42 = .ok (.aload_n 0, 1) := by decide +kernel
theorem dX6_one_43 : decode cX6_one 43 = .ok (.getfield 34, 3) := by decide +kernel
theorem dX6_one_46 : decode cX6_one 46 = .ok (.iload 4, 2) := by decide +kernel
theorem dX6_one_48 : decode cX6_one 48 = .ok (.iaload, 1) := by decide +kernel
theorem dX6_one_49 : decode cX6_one 49 = .ok (.iload_n 3, 1) := by decide +kernel
theorem dX6_one_50 : decode cX6_one 50 = .ok (.invokestatic 141, 3) := by decide +kernel
theorem dX6_one_53 : decode cX6_one 53 = .ok (.ifCond .eq 7, 3) := by decide +kernel
theorem dX6_one_56 : decode cX6_one 56 = .ok (.iconst 0, 1) := by decide +kernel
theorem dX6_one_57 : decode cX6_one 57 = .ok (.goto 4, 3) := by decide +kernel
theorem dX6_one_60 : decode cX6_one 60 = .ok (.iconst 4, 1) := by decide +kernel
theorem dX6_one_61 : decode cX6_one 61 = .ok (.putfield 127, 3) := by decide +kernel
theorem dX6_one_64 : decode cX6_one 64 = .ok (.return_, 1) := by decide +kernel
theorem dX6_one_65 : decode cX6_one 65 = .ok (.aload_n 0, 1) := by decide +kernel
theorem dX6_one_66 : decode cX6_one 66 = .ok (.iload 4, 2) := by decide +kernel
theorem dX6_one_68 : decode cX6_one 68 = .ok (.iconst (-1), 1) := by decide +kernel
theorem dX6_one_69 : decode cX6_one 69 = .ok (.if_icmp .eq 7, 3) := by decide +kernel
theorem dX6_one_72 : decode cX6_one 72 = .ok (.iconst 1, 1) := by decide +kernel
theorem dX6_one_73 : decode cX6_one 73 = .ok (.goto 4, 3) := by decide +kernel
theorem dX6_one_76 : decode cX6_one 76 = .ok (.iconst 0, 1) := by decide +kernel
theorem dX6_one_77 : decode cX6_one 77 = .ok (.invokevirtual 133, 3) := by decide +kernel
theorem dX6_one_80 : decode cX6_one 80 = .ok (.ifCond .ne 4, 3) := by decide +kernel
theorem dX6_one_83 : decode cX6_one 83 = .ok (.return_, 1) := by decide +kernel
theorem dX6_one_84 : decode cX6_one 84 = .ok (.iload_n 1, 1) := by decide +kernel
theorem dX6_one_85 : decode cX6_one 85 = .ok (.bipush 8, 2) := by decide +kernel
theorem dX6_one_87 : decode cX6_one 87 = .ok (.if_icmp .ne 19, 3) := by decide +kernel
theorem dX6_one_90 : decode cX6_one 90 = .ok (.aload_n 0, 1) := by decide +kernel
theorem dX6_one_91 : decode cX6_one 91 = .ok (.getfield 74, 3) := by decide +kernel
theorem dX6_one_94 : decode cX6_one 94 = .ok (.iload_n 2, 1) := by decide +kernel
theorem dX6_one_95 : decode cX6_one 95 = .ok (.aload_n 0, 1) := by decide +kernel
theorem dX6_one_96 : decode cX6_one 96 = .ok (.getfield 37, 3) := by decide +kernel
theorem dX6_one_99 : decode cX6_one 99 = .ok (.iload 4, 2) := by decide +kernel
theorem dX6_one_101 : decode cX6_one 101 = .ok (.iaload, 1) := by decide +kernel
theorem dX6_one_102 : decode cX6_one 102 = .ok (.iastore, 1) := by decide +kernel
theorem dX6_one_103 : decode cX6_one 103 = .ok (.goto 53, 3) := by decide +kernel
theorem dX6_one_106 : decode cX6_one 106 = .ok (.iload_n 1, 1) := by decide +kernel
theorem dX6_one_107 : decode cX6_one 107 = .ok (.bipush 9, 2) := by decide +kernel
theorem dX6_one_109 : decode cX6_one 109 = .ok (.if_icmp .ne 19, 3) := by decide +kernel
theorem dX6_one_112 : decode cX6_one 112 = .ok (.aload_n 0, 1) := by decide +kernel
theorem dX6_one_113 : decode cX6_one 113 = .ok (.getfield 37, 3) := by decide +kernel
theorem dX6_one_116 : decode cX6_one 116 = .ok (.iload 4, 2) := by decide +kernel
theorem dX6_one_118 : decode cX6_one 118 = .ok (.aload_n 0, 1) := by decide +kernel
theorem dX6_one_119 : decode cX6_one 119 = .ok (.getfield 74, 3) := by decide +kernel
theorem dX6_one_122 : decode cX6_one 122 = .ok (.iload_n 3, 1) := by decide +kernel
theorem dX6_one_123 : decode cX6_one 123 = .ok (.iaload, 1) := by decide +kernel
theorem dX6_one_124 : decode cX6_one 124 = .ok (.iastore, 1) := by decide +kernel
theorem dX6_one_125 : decode cX6_one 125 = .ok (.goto 31, 3) := by decide +kernel
theorem dX6_one_128 : decode cX6_one 128 = .ok (.iload_n 1, 1) := by decide +kernel
theorem dX6_one_129 : decode cX6_one 129 = .ok (.bipush 10, 2) := by decide +kernel
theorem dX6_one_131 : decode cX6_one 131 = .ok (.if_icmp .ne 18, 3) := by decide +kernel
theorem dX6_one_134 : decode cX6_one 134 = .ok (.aload_n 0, 1) := by decide +kernel
theorem dX6_one_135 : decode cX6_one 135 = .ok (.getfield 74, 3) := by decide +kernel
theorem dX6_one_138 : decode cX6_one 138 = .ok (.iload_n 2, 1) := by decide +kernel
theorem dX6_one_139 : decode cX6_one 139 = .ok (.aload_n 0, 1) := by decide +kernel
theorem dX6_one_140 : decode cX6_one 140 = .ok (.iload 4, 2) := by decide +kernel
theorem dX6_one_142 : decode cX6_one 142 = .ok (.invokevirtual 144, 3) := by decide +kernel
theorem dX6_one_145 : decode cX6_one 145 = .ok (.iastore, 1) := by decide +kernel
theorem dX6_one_146 : decode cX6_one 146 = .ok (.goto 10, 3) := by decide +kernel
theorem dX6_one_149 : decode cX6_one 149 = .ok (.aload_n 0, 1) := by decide +kernel
theorem dX6_one_150 : decode cX6_one 150 = .ok (.iload_n 2, 1) := by decide +kernel
theorem dX6_one_151 : decode cX6_one 151 = .ok (.iload 4, 2) := by decide +kernel
theorem dX6_one_153 : decode cX6_one 153 = .ok (.invokevirtual 148, 3) := by decide +kernel
theorem dX6_one_156 : decode cX6_one 156 = .ok (.return_, 1) := by decide +kernel
theorem dX6_counts_0 : decode cX6_counts 0 = .ok (.iload_n 1, 1) := by decide +kernel
theorem dX6_counts_1 : decode cX6_counts 1 = .ok (.bipush 13, 2) := by decide +kernel
theorem dX6_counts_3 : decode cX6_counts 3 = .ok (.if_icmp .ne 58, 3) := by decide +kernel
theorem dX6_counts_6 : decode cX6_counts 6 = .ok (.aload_n 0, 1) := by decide +kernel
theorem dX6_counts_7 : decode cX6_counts 7 = .ok (.getfield 74, 3) := by decide +kernel
theorem dX6_counts_10 : decode cX6_counts 10 = .ok (.iload_n 3, 1) := by decide +kernel
theorem dX6_counts_11 : decode cX6_counts 11 = .ok (.iaload, 1) := by decide +kernel
theorem dX6_counts_12 : decode cX6_counts 12 = .ok (.istore 5, 2) := by decide +kernel
theorem dX6_counts_14 : decode cX6_counts 14 = .ok (.aload_n 0, 1) := by decide +kernel
theorem dX6_counts_15 : decode cX6_counts 15 = .ok (.iload 5, 2) := by decide +kernel
theorem dX6_counts_17 : decode cX6_counts 17 = .ok (.invokevirtual 130, 3) := by decide +kernel
theorem dX6_counts_20 : decode cX6_counts 20 = .ok (.ifCond .eq 40, 3) := by decide +kernel
theorem dX6_counts_23 : decode cX6_counts 23 = .ok (.aload_n 0, 1) := by decide +kernel
theorem dX6_counts_24 : decode cX6_counts 24 = .ok (.getfield 55, 3) := by decide +kernel
theorem dX6_counts_27 : decode cX6_counts 27 = .ok (.iload_n 2, 1) := by decide +kernel
theorem dX6_counts_28 : decode cX6_counts 28 = .ok (.iload 5, 2) := by decide +kernel
theorem dX6_counts_30 : decode cX6_counts 30 = .ok (.iastore, 1) := by decide +kernel
theorem dX6_counts_31 : decode cX6_counts 31 = .ok (.iconst 0, 1) := by decide +kernel
theorem dX6_counts_32 : decode cX6_counts 32 = .ok (.istore 6, 2) := by decide +kernel
theorem dX6_counts_34 : decode cX6_counts 34 = .ok (.iload 6, 2) := by decide +kernel
theorem dX6_counts_36 : decode cX6_counts 36 = .ok (.iload 5, 2) := by decide +kernel
theorem dX6_counts_38 : decode cX6_counts 38 = .ok (.if_icmp .ge 22, 3) := by decide +kernel
theorem dX6_counts_41 : decode cX6_counts 41 = .ok (.aload_n 0, 1) := by decide +kernel
theorem dX6_counts_42 : decode cX6_counts 42 = .ok (.getfield 58, 3) := by decide +kernel
theorem dX6_counts_45 : decode cX6_counts 45 = .ok (.bipush 8, 2) := by decide +kernel
theorem dX6_counts_47 : decode cX6_counts 47 = .ok (.iload_n 2, 1) := by decide +kernel
theorem dX6_counts_48 : decode cX6_counts 48 = .ok (.imul, 1) := by decide +kernel
theorem dX6_counts_49 : decode cX6_counts 49 = .ok (.iload 6, 2) := by decide +kernel
theorem dX6_counts_51 : decode cX6_counts 51 = .ok (.iadd, 1) := by decide +kernel
theorem dX6_counts_52 : decode cX6_counts 52 = .ok (.iconst 0, 1) := by decide +kernel
theorem dX6_counts_53 : decode cX6_counts 53 = .ok (.iastore, 1) := by decide +kernel
theorem dX6_counts_54 : decode cX6_counts 54 = .ok (.iinc 6 1, 3) := by decide +kernel
theorem dX6_counts_57 : decode cX6_counts 57 = .ok (.goto (-23), 3) := by decide +kernel
theorem dX6_counts_60 : decode cX6_counts 60 = .ok (.return_, 1) := by decide +kernel
theorem dX6_counts_61 : decode cX6_counts 61 = .ok (.iload_n 1, 1) := by decide +kernel
theorem dX6_counts_62 : decode cX6_counts 62 = .ok (.bipush 14, 2) := by decide +kernel
theorem dX6_counts_64 : decode cX6_counts 64 = .ok (.if_icmp .ne 7, 3) := by decide +kernel
theorem dX6_counts_67 : decode cX6_counts 67 = .ok (.iload_n 2, 1) := by decide +kernel
theorem dX6_counts_68 : decode cX6_counts 68 = .ok (.goto 4, 3) := by decide +kernel
theorem dX6_counts_71 : decode cX6_counts 71 = .ok (.iload_n 3, 1) := by decide +kernel
theorem dX6_counts_72 : decode cX6_counts 72 = .ok (.istore 5, 2) := by decide +kernel
theorem dX6_counts_74 : decode cX6_counts 74 = .ok (.iload_n 1, 1) := by decide +kernel
theorem dX6_counts_75 : decode cX6_counts 75 = .ok (.bipush 14, 2) := by decide +kernel
theorem dX6_counts_77 : decode cX6_counts 77 = .ok (.if_icmp .ne 12, 3) := by decide +kernel
theorem dX6_counts_80 : decode cX6_counts 80 = .ok (.aload_n 0, 1) := by decide +kernel
theorem dX6_counts_81 : decode cX6_counts 81 = .ok (.getfield 74, 3) := by decide +kernel
theorem dX6_counts_84 : decode cX6_counts 84 = .ok (.iload_n 3, 1) := by decide +kernel
theorem dX6_counts_85 : decode cX6_counts 85 = .ok (.iaload, 1) := by decide +kernel
theorem dX6_counts_86 : decode cX6_counts 86 = .ok (.goto 10, 3) := by decide +kernel
theorem dX6_counts_89 : decode cX6_counts 89 = .ok (.aload_n 0, 1) := by decide +kernel
theorem dX6_counts_90 : decode cX6_counts 90 = .ok (.getfield 74, 3) := by decide +kernel
theorem dX6_counts_93 : decode cX6_counts 93 = .ok (.iload 4, 2) := by decide +kernel
theorem dX6_counts_95 : decode cX6_counts 95 = .ok (.iaload, 1) := by decide +kernel
theorem dX6_counts_96 : decode cX6_counts 96 = .ok (.istore 6, 2) := by decide +kernel
theorem dX6_counts_98 : decode cX6_counts 98 = .ok (.aload_n 0, 1) := by decide +kernel
theorem dX6_counts_99 : decode cX6_counts 99 = .ok (.aload_n 0, 1) := by decide +kernel
theorem dX6_counts_100 : decode cX6_counts 100 = .ok (.getfield 55, 3) := by decide +kernel
theorem dX6_counts_103 : decode cX6_counts 103 = .ok (.iload 5, 2) := by decide +kernel
theorem dX6_counts_105 : decode cX6_counts 105 = .ok (.iaload, 1) := by decide +kernel
theorem dX6_counts_106 : decode cX6_counts 106 = .ok (.iconst (-1), 1) := by decide +kernel
theorem dX6_counts_107 : decode cX6_counts 107 = .ok (.if_icmp .eq 7, 3) := by decide +kernel
theorem dX6_counts_110 : decode cX6_counts 110 = .ok (.iconst 1, 1) := by decide +kernel
theorem dX6_counts_111 : decode cX6_counts 111 = .ok (.goto 4, 3) := by decide +kernel
theorem dX6_counts_114 : decode cX6_counts 114 = .ok (.iconst 0, 1) := by decide +kernel
theorem dX6_counts_115 : decode cX6_counts 115 = .ok (.invokevirtual 133, 3) := by decide +kernel
theorem dX6_counts_118 : decode cX6_counts 118 = .ok (.ifCond .eq 19, 3) := by decide +kernel
theorem dX6_counts_121 : decode cX6_counts 121 = .ok (.aload_n 0, 1) := by decide +kernel
theorem dX6_counts_122 : decode cX6_counts 122 = .ok (.iload 6, 2) := by decide +kernel
theorem dX6_counts_124 : decode cX6_counts 124 = .ok (.aload_n 0, 1) := by decide +kernel
theorem dX6_counts_125 : decode cX6_counts 125 = .ok (.getfield 55, 3) := by decide +kernel
theorem dX6_counts_128 : decode cX6_counts 128 = .ok (.iload 5, 2) := by decide +kernel
theorem dX6_counts_130 : decode cX6_counts 130 = .ok (.iaload, 1) := by decide +kernel
theorem dX6_counts_131 : decode cX6_counts 131 = .ok (.invokevirtual 137, 3) := by decide +kernel
theorem dX6_counts_134 : decode cX6_counts 134 = .ok (.ifCond .ne 4, 3) := by decide +kernel
theorem dX6_counts_137 : decode cX6_counts 137 = .ok (.return_, 1) := by decide +kernel
theorem dX6_counts_138 : decode cX6_counts 138 = .ok (.iload_n 1, 1) := by decide +kernel
theorem dX6_counts_139 : decode cX6_counts 139 = .ok (.bipush 14, 2) := by decide +kernel
theorem dX6_counts_141 : decode cX6_counts 141 = .ok (.if_icmp .ne 23, 3) := by decide +kernel
theorem dX6_counts_144 : decode cX6_counts 144 = .ok (.aload_n 0, 1) := by decide +kernel
theorem dX6_counts_145 : decode cX6_counts 145 = .ok (.getfield 58, 3) := by decide +kernel
theorem dX6_counts_148 : decode cX6_counts 148 = .ok (.bipush 8, 2) := by decide +kernel
theorem dX6_counts_150 : decode cX6_counts 150 = .ok (.iload 5, 2) := by decide +kernel
theorem dX6_counts_152 : decode cX6_counts 152 = .ok (.imul, 1) := by decide +kernel
theorem dX6_counts_153 : decode cX6_counts 153 = .ok (.iload 6, 2) := by decide +kernel
theorem dX6_counts_155 : decode cX6_counts 155 = .ok (.iadd, 1) := by decide +kernel
theorem dX6_counts_156 : decode cX6_counts 156 = .ok (.dup2, 1) := by decide +kernel
theorem dX6_counts_157 : decode cX6_counts 157 = .ok (.iaload, 1) := by decide +kernel
theorem dX6_counts_158 : decode cX6_counts 158 = .ok (.iconst 1, 1) := by decide +kernel
theorem dX6_counts_159 : decode cX6_counts 159 = .ok (.iadd, 1) := by decide +kernel
theorem dX6_counts_160 : decode cX6_counts 160 = .ok (.iastore, 1) := by decide +kernel
theorem dX6_counts_161 : decode cX6_counts 161 = .ok (.goto 22, 3) := by decide +kernel
theorem dX6_counts_164 : decode cX6_counts 164 = .ok (.aload_n 0, 1) := by decide +kernel
theorem dX6_counts_165 : decode cX6_counts 165 = .ok (.getfield 74, 3) := by decide +kernel
theorem dX6_counts_168 : decode cX6_counts 168 = .ok (.iload_n 2, 1) := by decide +kernel
theorem dX6_counts_169 : decode cX6_counts 169 = .ok (.aload_n 0, 1) := by decide +kernel
theorem dX6_counts_170 : decode cX6_counts 170 = .ok (.getfield 58, 3) := by decide +kernel
theorem dX6_counts_173 : decode cX6_counts 173 = .ok (.bipush 8, 2) := by decide +kernel
theorem dX6_counts_175 : decode cX6_counts 175 = .ok (.iload 5, 2) := by decide +kernel
theorem dX6_counts_177 : decode cX6_counts 177 = .ok (.imul, 1) := by decide +kernel
theorem dX6_counts_178 : decode cX6_counts 178 = .ok (.iload 6, 2) := by decide +kernel
theorem dX6_counts_180 : decode cX6_counts 180 = .ok (.iadd, 1) := by decide +kernel
theorem dX6_counts_181 : decode cX6_counts 181 = .ok (.iaload, 1) := by decide +kernel
theorem dX6_counts_182 : decode cX6_counts 182 = .ok (.iastore, 1) := by decide +kernel
theorem dX6_counts_183 : decode cX6_counts 183 = .ok (.return_, 1) := by decide +kernel
theorem dX6_rest_0 : decode cX6_rest 0 = .ok (.iload_n 1, 1) := by decide +kernel
theorem dX6_rest_1 : decode cX6_rest 1 = .ok (.tableswitch 422 0 23 #[111, 170, 180, 422, 422, 422, 195, 232, 422, 422, 422, 422, 422, 422, 422, 422, 242, 278, 322, 344, 354, 386, 396, 414], 111) := by decide +kernel
theorem dX6_rest_112 : decode cX6_rest 112 = .ok (.aload_n 0, 1) := by decide +kernel
theorem dX6_rest_113 : decode cX6_rest 113 = .ok (.getfield 34, 3) := by decide +kernel
theorem dX6_rest_116 : decode cX6_rest 116 = .ok (.aload_n 0, 1) := by decide +kernel
theorem dX6_rest_117 : decode cX6_rest 117 = .ok (.getfield 84, 3) := by decide +kernel
theorem dX6_rest_120 : decode cX6_rest 120 = .ok (.iload_n 3, 1) := by decide +kernel
theorem dX6_rest_121 : decode cX6_rest 121 = .ok (.iastore, 1) := by decide +kernel
theorem dX6_rest_122 : decode cX6_rest 122 = .ok (.aload_n 0, 1) := by decide +kernel
theorem dX6_rest_123 : decode cX6_rest 123 = .ok (.getfield 37, 3) := by decide +kernel
theorem dX6_rest_126 : decode cX6_rest 126 = .ok (.aload_n 0, 1) := by decide +kernel
theorem dX6_rest_127 : decode cX6_rest 127 = .ok (.getfield 84, 3) := by decide +kernel
theorem dX6_rest_130 : decode cX6_rest 130 = .ok (.aload_n 0, 1) := by decide +kernel
theorem dX6_rest_131 : decode cX6_rest 131 = .ok (.getfield 74, 3) := by decide +kernel
theorem dX6_rest_134 : decode cX6_rest 134 = .ok (.iload 4, 2) := by decide +kernel
theorem dX6_rest_136 : decode cX6_rest 136 = .ok (.iaload, 1) := by decide +kernel
theorem dX6_rest_137 : decode cX6_rest 137 = .ok (.iastore, 1) := by decide +kernel
theorem dX6_rest_138 : decode cX6_rest 138 = .ok (.aload_n 0, 1) := by decide +kernel
theorem dX6_rest_139 : decode cX6_rest 139 = .ok (.getfield 40, 3) := by decide +kernel
theorem dX6_rest_142 : decode cX6_rest 142 = .ok (.aload_n 0, 1) := by decide +kernel
theorem dX6_rest_143 : decode cX6_rest 143 = .ok (.getfield 84, 3) := by decide +kernel
theorem dX6_rest_146 : decode cX6_rest 146 = .ok (.iconst 0, 1) := by decide +kernel
theorem dX6_rest_147 : decode cX6_rest 147 = .ok (.iastore, 1) := by decide +kernel
theorem dX6_rest_148 : decode cX6_rest 148 = .ok (.aload_n 0, 1) := by decide +kernel
theorem dX6_rest_149 : decode cX6_rest 149 = .ok (.getfield 43, 3) := by decide +kernel
theorem dX6_rest_152 : decode cX6_rest 152 = .ok (.iload_n 2, 1) := by decide +kernel
theorem dX6_rest_153 : decode cX6_rest 153 = .ok (.aload_n 0, 1) := by decide +kernel
theorem dX6_rest_154 : decode cX6_rest 154 = .ok (.getfield 84, 3) := by decide +kernel
theorem dX6_rest_157 : decode cX6_rest 157 = .ok (.iastore, 1) := by decide +kernel
theorem dX6_rest_158 : decode cX6_rest 158 = .ok (.aload_n 0, 1) := by decide +kernel
theorem dX6_rest_159 : decode cX6_rest 159 = .ok (.dup, 1) := by decide +kernel
