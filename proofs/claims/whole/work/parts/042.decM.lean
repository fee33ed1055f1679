theorem dX11_init_0 : decode cX11_init 0 = .ok (.aload_n 0, 1) := by decide +kernel
theorem dX11_init_1 : decode cX11_init 1 = .ok (.invokespecial 1, 3) := by decide +kernel
theorem dX11_init_4 : decode cX11_init 4 = .ok (.aload_n 0, 1) := by decide +kernel
theorem dX11_init_5 : decode cX11_init 5 = .ok (.sipush 5760, 3) := by decide +kernel
theorem dX11_init_8 : decode cX11_init 8 = .ok (.newarray .int, 2) := by decide +kernel
theorem dX11_init_10 : decode cX11_init 10 = .ok (.putfield 7, 3) := by decide +kernel
theorem dX11_init_13 : decode cX11_init 13 = .ok (.aload_n 0, 1) := by decide +kernel
theorem dX11_init_14 : decode cX11_init 14 = .ok (.bipush 120, 2) := by decide +kernel
theorem dX11_init_16 : decode cX11_init 16 = .ok (.newarray .int, 2) := by decide +kernel
theorem dX11_init_18 : decode cX11_init 18 = .ok (.putfield 13, 3) := by decide +kernel
theorem dX11_init_21 : decode cX11_init 21 = .ok (.aload_n 0, 1) := by decide +kernel
theorem dX11_init_22 : decode cX11_init 22 = .ok (.sipush 600, 3) := by decide +kernel
theorem dX11_init_25 : decode cX11_init 25 = .ok (.newarray .int, 2) := by decide +kernel
theorem dX11_init_27 : decode cX11_init 27 = .ok (.putfield 16, 3) := by decide +kernel
theorem dX11_init_30 : decode cX11_init 30 = .ok (.aload_n 0, 1) := by decide +kernel
theorem dX11_init_31 : decode cX11_init 31 = .ok (.sipush 160, 3) := by decide +kernel
theorem dX11_init_34 : decode cX11_init 34 = .ok (.newarray .int, 2) := by decide +kernel
theorem dX11_init_36 : decode cX11_init 36 = .ok (.putfield 19, 3) := by decide +kernel
theorem dX11_init_39 : decode cX11_init 39 = .ok (.aload_n 0, 1) := by decide +kernel
theorem dX11_init_40 : decode cX11_init 40 = .ok (.sipush 160, 3) := by decide +kernel
theorem dX11_init_43 : decode cX11_init 43 = .ok (.newarray .int, 2) := by decide +kernel
theorem dX11_init_45 : decode cX11_init 45 = .ok (.putfield 22, 3) := by decide +kernel
theorem dX11_init_48 : decode cX11_init 48 = .ok (.aload_n 0, 1) := by decide +kernel
theorem dX11_init_49 : decode cX11_init 49 = .ok (.bipush 8, 2) := by decide +kernel
theorem dX11_init_51 : decode cX11_init 51 = .ok (.newarray .int, 2) := by decide +kernel
theorem dX11_init_53 : decode cX11_init 53 = .ok (.putfield 25, 3) := by decide +kernel
theorem dX11_init_56 : decode cX11_init 56 = .ok (.aload_n 0, 1) := by decide +kernel
theorem dX11_init_57 : decode cX11_init 57 = .ok (.iconst 2, 1) := by decide +kernel
theorem dX11_init_58 : decode cX11_init 58 = .ok (.newarray .int, 2) := by decide +kernel
theorem dX11_init_60 : decode cX11_init 60 = .ok (.putfield 28, 3) := by decide +kernel
theorem dX11_init_63 : decode cX11_init 63 = .ok (.aload_n 0, 1) := by decide +kernel
theorem dX11_init_64 : decode cX11_init 64 = .ok (.iconst 2, 1) := by decide +kernel
theorem dX11_init_65 : decode cX11_init 65 = .ok (.newarray .int, 2) := by decide +kernel
theorem dX11_init_67 : decode cX11_init 67 = .ok (.putfield 31, 3) := by decide +kernel
theorem dX11_init_70 : decode cX11_init 70 = .ok (.aload_n 0, 1) := by decide +kernel
theorem dX11_init_71 : decode cX11_init 71 = .ok (.iconst 2, 1) := by decide +kernel
theorem dX11_init_72 : decode cX11_init 72 = .ok (.newarray .int, 2) := by decide +kernel
theorem dX11_init_74 : decode cX11_init 74 = .ok (.putfield 34, 3) := by decide +kernel
theorem dX11_init_77 : decode cX11_init 77 = .ok (.aload_n 0, 1) := by decide +kernel
theorem dX11_init_78 : decode cX11_init 78 = .ok (.iconst 2, 1) := by decide +kernel
theorem dX11_init_79 : decode cX11_init 79 = .ok (.newarray .int, 2) := by decide +kernel
theorem dX11_init_81 : decode cX11_init 81 = .ok (.putfield 37, 3) := by decide +kernel
theorem dX11_init_84 : decode cX11_init 84 = .ok (.aload_n 0, 1) := by decide +kernel
theorem dX11_init_85 : decode cX11_init 85 = .ok (.bipush 80, 2) := by decide +kernel
theorem dX11_init_87 : decode cX11_init 87 = .ok (.newarray .int, 2) := by decide +kernel
theorem dX11_init_89 : decode cX11_init 89 = .ok (.putfield 40, 3) := by decide +kernel
theorem dX11_init_92 : decode cX11_init 92 = .ok (.aload_n 0, 1) := by decide +kernel
theorem dX11_init_93 : decode cX11_init 93 = .ok (.bipush 80, 2) := by decide +kernel
theorem dX11_init_95 : decode cX11_init 95 = .ok (.newarray .int, 2) := by decide +kernel
theorem dX11_init_97 : decode cX11_init 97 = .ok (.putfield 43, 3) := by decide +kernel
theorem dX11_init_100 : decode cX11_init 100 = .ok (.aload_n 0, 1) := by decide +kernel
theorem dX11_init_101 : decode cX11_init 101 = .ok (.bipush 80, 2) := by decide +kernel
theorem dX11_init_103 : decode cX11_init 103 = .ok (.newarray .int, 2) := by decide +kernel
theorem dX11_init_105 : decode cX11_init 105 = .ok (.putfield 46, 3) := by decide +kernel
theorem dX11_init_108 : decode cX11_init 108 = .ok (.aload_n 0, 1) := by decide +kernel
theorem dX11_init_109 : decode cX11_init 109 = .ok (.bipush 80, 2) := by decide +kernel
theorem dX11_init_111 : decode cX11_init 111 = .ok (.newarray .int, 2) := by decide +kernel
theorem dX11_init_113 : decode cX11_init 113 = .ok (.putfield 49, 3) := by decide +kernel
theorem dX11_init_116 : decode cX11_init 116 = .ok (.aload_n 0, 1) := by decide +kernel
theorem dX11_init_117 : decode cX11_init 117 = .ok (.bipush 80, 2) := by decide +kernel
theorem dX11_init_119 : decode cX11_init 119 = .ok (.newarray .int, 2) := by decide +kernel
theorem dX11_init_121 : decode cX11_init 121 = .ok (.putfield 52, 3) := by decide +kernel
theorem dX11_init_124 : decode cX11_init 124 = .ok (.aload_n 0, 1) := by decide +kernel
theorem dX11_init_125 : decode cX11_init 125 = .ok (.bipush 80, 2) := by decide +kernel
theorem dX11_init_127 : decode cX11_init 127 = .ok (.newarray .int, 2) := by decide +kernel
theorem dX11_init_129 : decode cX11_init 129 = .ok (.putfield 55, 3) := by decide +kernel
theorem dX11_init_132 : decode cX11_init 132 = .ok (.aload_n 0, 1) := by decide +kernel
theorem dX11_init_133 : decode cX11_init 133 = .ok (.bipush 80, 2) := by decide +kernel
theorem dX11_init_135 : decode cX11_init 135 = .ok (.newarray .int, 2) := by decide +kernel
theorem dX11_init_137 : decode cX11_init 137 = .ok (.putfield 58, 3) := by decide +kernel
theorem dX11_init_140 : decode cX11_init 140 = .ok (.aload_n 0, 1) := by decide +kernel
theorem dX11_init_141 : decode cX11_init 141 = .ok (.bipush 80, 2) := by decide +kernel
theorem dX11_init_143 : decode cX11_init 143 = .ok (.newarray .int, 2) := by decide +kernel
theorem dX11_init_145 : decode cX11_init 145 = .ok (.putfield 61, 3) := by decide +kernel
theorem dX11_init_148 : decode cX11_init 148 = .ok (.aload_n 0, 1) := by decide +kernel
theorem dX11_init_149 : decode cX11_init 149 = .ok (.bipush 80, 2) := by decide +kernel
theorem dX11_init_151 : decode cX11_init 151 = .ok (.newarray .int, 2) := by decide +kernel
theorem dX11_init_153 : decode cX11_init 153 = .ok (.putfield 64, 3) := by decide +kernel
theorem dX11_init_156 : decode cX11_init 156 = .ok (.aload_n 0, 1) := by decide +kernel
theorem dX11_init_157 : decode cX11_init 157 = .ok (.bipush 48, 2) := by decide +kernel
theorem dX11_init_159 : decode cX11_init 159 = .ok (.newarray .int, 2) := by decide +kernel
theorem dX11_init_161 : decode cX11_init 161 = .ok (.putfield 67, 3) := by decide +kernel
theorem dX11_init_164 : decode cX11_init 164 = .ok (.aload_n 0, 1) := by decide +kernel
theorem dX11_init_165 : decode cX11_init 165 = .ok (.bipush 48, 2) := by decide +kernel
theorem dX11_init_167 : decode cX11_init 167 = .ok (.newarray .int, 2) := by decide +kernel
theorem dX11_init_169 : decode cX11_init 169 = .ok (.putfield 70, 3) := by decide +kernel
theorem dX11_init_172 : decode cX11_init 172 = .ok (.aload_n 0, 1) := by decide +kernel
theorem dX11_init_173 : decode cX11_init 173 = .ok (.bipush 48, 2) := by decide +kernel
theorem dX11_init_175 : decode cX11_init 175 = .ok (.newarray .int, 2) := by decide +kernel
theorem dX11_init_177 : decode cX11_init 177 = .ok (.putfield 73, 3) := by decide +kernel
theorem dX11_init_180 : decode cX11_init 180 = .ok (.aload_n 0, 1) := by decide +kernel
theorem dX11_init_181 : decode cX11_init 181 = .ok (.bipush 48, 2) := by decide +kernel
theorem dX11_init_183 : decode cX11_init 183 = .ok (.newarray .long, 2) := by decide +kernel
theorem dX11_init_185 : decode cX11_init 185 = .ok (.putfield 76, 3) := by decide +kernel
theorem dX11_init_188 : decode cX11_init 188 = .ok (.aload_n 0, 1) := by decide +kernel
theorem dX11_init_189 : decode cX11_init 189 = .ok (.bipush 48, 2) := by decide +kernel
theorem dX11_init_191 : decode cX11_init 191 = .ok (.newarray .int, 2) := by decide +kernel
theorem dX11_init_193 : decode cX11_init 193 = .ok (.putfield 80, 3) := by decide +kernel
theorem dX11_init_196 : decode cX11_init 196 = .ok (.aload_n 0, 1) := by decide +kernel
theorem dX11_init_197 : decode cX11_init 197 = .ok (.bipush 48, 2) := by decide +kernel
theorem dX11_init_199 : decode cX11_init 199 = .ok (.newarray .int, 2) := by decide +kernel
theorem dX11_init_201 : decode cX11_init 201 = .ok (.putfield 83, 3) := by decide +kernel
theorem dX11_init_204 : decode cX11_init 204 = .ok (.aload_n 0, 1) := by decide +kernel
theorem dX11_init_205 : decode cX11_init 205 = .ok (.bipush 48, 2) := by decide +kernel
theorem dX11_init_207 : decode cX11_init 207 = .ok (.newarray .int, 2) := by decide +kernel
theorem dX11_init_209 : decode cX11_init 209 = .ok (.putfield 86, 3) := by decide +kernel
theorem dX11_init_212 : decode cX11_init 212 = .ok (.aload_n 0, 1) := by decide +kernel
theorem dX11_init_213 : decode cX11_init 213 = .ok (.bipush 48, 2) := by decide +kernel
theorem dX11_init_215 : decode cX11_init 215 = .ok (.newarray .int, 2) := by decide +kernel
theorem dX11_init_217 : decode cX11_init 217 = .ok (.putfield 89, 3) := by decide +kernel
theorem dX11_init_220 : decode cX11_init 220 = .ok (.aload_n 0, 1) := by decide +kernel
theorem dX11_init_221 : decode cX11_init 221 = .ok (.bipush 48, 2) := by decide +kernel
theorem dX11_init_223 : decode cX11_init 223 = .ok (.newarray .int, 2) := by decide +kernel
theorem dX11_init_225 : decode cX11_init 225 = .ok (.putfield 92, 3) := by decide +kernel
theorem dX11_init_228 : decode cX11_init 228 = .ok (.aload_n 0, 1) := by decide +kernel
theorem dX11_init_229 : decode cX11_init 229 = .ok (.bipush 48, 2) := by decide +kernel
theorem dX11_init_231 : decode cX11_init 231 = .ok (.newarray .int, 2) := by decide +kernel
theorem dX11_init_233 : decode cX11_init 233 = .ok (.putfield 95, 3) := by decide +kernel
theorem dX11_init_236 : decode cX11_init 236 = .ok (.aload_n 0, 1) := by decide +kernel
theorem dX11_init_237 : decode cX11_init 237 = .ok (.bipush 48, 2) := by decide +kernel
theorem dX11_init_239 : decode cX11_init 239 = .ok (.newarray .int, 2) := by decide +kernel
theorem dX11_init_241 : decode cX11_init 241 = .ok (.putfield 98, 3) := by decide +kernel
theorem dX11_init_244 : decode cX11_init 244 = .ok (.aload_n 0, 1) := by decide +kernel
theorem dX11_init_245 : decode cX11_init 245 = .ok (.sipush 1920, 3) := by decide +kernel
theorem dX11_init_248 : decode cX11_init 248 = .ok (.newarray .int, 2) := by decide +kernel
theorem dX11_init_250 : decode cX11_init 250 = .ok (.putfield 101, 3) := by decide +kernel
theorem dX11_init_253 : decode cX11_init 253 = .ok (.aload_n 0, 1) := by decide +kernel
theorem dX11_init_254 : decode cX11_init 254 = .ok (.sipush 1920, 3) := by decide +kernel
theorem dX11_init_257 : decode cX11_init 257 = .ok (.newarray .int, 2) := by decide +kernel
theorem dX11_init_259 : decode cX11_init 259 = .ok (.putfield 104, 3) := by decide +kernel
theorem dX11_init_262 : decode cX11_init 262 = .ok (.aload_n 0, 1) := by decide +kernel
theorem dX11_init_263 : decode cX11_init 263 = .ok (.bipush 48, 2) := by decide +kernel
theorem dX11_init_265 : decode cX11_init 265 = .ok (.newarray .int, 2) := by decide +kernel
theorem dX11_init_267 : decode cX11_init 267 = .ok (.putfield 107, 3) := by decide +kernel
theorem dX11_init_270 : decode cX11_init 270 = .ok (.aload_n 0, 1) := by decide +kernel
theorem dX11_init_271 : decode cX11_init 271 = .ok (.sipush 1152, 3) := by decide +kernel
theorem dX11_init_274 : decode cX11_init 274 = .ok (.newarray .int, 2) := by decide +kernel
theorem dX11_init_276 : decode cX11_init 276 = .ok (.putfield 110, 3) := by decide +kernel
theorem dX11_init_279 : decode cX11_init 279 = .ok (.aload_n 0, 1) := by decide +kernel
theorem dX11_init_280 : decode cX11_init 280 = .ok (.sipush 160, 3) := by decide +kernel
theorem dX11_init_283 : decode cX11_init 283 = .ok (.newarray .int, 2) := by decide +kernel
theorem dX11_init_285 : decode cX11_init 285 = .ok (.putfield 113, 3) := by decide +kernel
theorem dX11_init_288 : decode cX11_init 288 = .ok (.aload_n 0, 1) := by decide +kernel
theorem dX11_init_289 : decode cX11_init 289 = .ok (.sipush 160, 3) := by decide +kernel
theorem dX11_init_292 : decode cX11_init 292 = .ok (.newarray .int, 2) := by decide +kernel
theorem dX11_init_294 : decode cX11_init 294 = .ok (.putfield 116, 3) := by decide +kernel
theorem dX11_init_297 : decode cX11_init 297 = .ok (.aload_n 0, 1) := by decide +kernel
theorem dX11_init_298 : decode cX11_init 298 = .ok (.sipush 160, 3) := by decide +kernel
theorem dX11_init_301 : decode cX11_init 301 = .ok (.newarray .int, 2) := by decide +kernel
theorem dX11_init_303 : decode cX11_init 303 = .ok (.putfield 119, 3) := by decide +kernel
theorem dX11_init_306 : decode cX11_init 306 = .ok (.aload_n 0, 1) := by decide +kernel
theorem dX11_init_307 : decode cX11_init 307 = .ok (.bipush 8, 2) := by decide +kernel
theorem dX11_init_309 : decode cX11_init 309 = .ok (.newarray .int, 2) := by decide +kernel
theorem dX11_init_311 : decode cX11_init 311 = .ok (.putfield 122, 3) := by decide +kernel
theorem dX11_init_314 : decode cX11_init 314 = .ok (.aload_n 0, 1) := by decide +kernel
theorem dX11_init_315 : decode cX11_init 315 = .ok (.bipush 8, 2) := by decide +kernel
theorem dX11_init_317 : decode cX11_init 317 = .ok (.newarray .int, 2) := by decide +kernel
theorem dX11_init_319 : decode cX11_init 319 = .ok (.putfield 125, 3) := by decide +kernel
theorem dX11_init_322 : decode cX11_init 322 = .ok (.aload_n 0, 1) := by decide +kernel
theorem dX11_init_323 : decode cX11_init 323 = .ok (.iconst 5, 1) := by decide +kernel
theorem dX11_init_324 : decode cX11_init 324 = .ok (.newarray .int, 2) := by decide +kernel
theorem dX11_init_326 : decode cX11_init 326 = .ok (.putfield 128, 3) := by decide +kernel
theorem dX11_init_329 : decode cX11_init 329 = .ok (.aload_n 0, 1) := by decide +kernel
theorem dX11_init_330 : decode cX11_init 330 = .ok (.iconst 5, 1) := by decide +kernel
theorem dX11_init_331 : decode cX11_init 331 = .ok (.newarray .int, 2) := by decide +kernel
theorem dX11_init_333 : decode cX11_init 333 = .ok (.putfield 131, 3) := by decide +kernel
theorem dX11_init_336 : decode cX11_init 336 = .ok (.aload_n 0, 1) := by decide +kernel
theorem dX11_init_337 : decode cX11_init 337 = .ok (.iconst 5, 1) := by decide +kernel
theorem dX11_init_338 : decode cX11_init 338 = .ok (.newarray .int, 2) := by decide +kernel
theorem dX11_init_340 : decode cX11_init 340 = .ok (.putfield 134, 3) := by decide +kernel
theorem dX11_init_343 : decode cX11_init 343 = .ok (.aload_n 0, 1) := by decide +kernel
theorem dX11_init_344 : decode cX11_init 344 = .ok (.iconst 5, 1) := by decide +kernel
theorem dX11_init_345 : decode cX11_init 345 = .ok (.newarray .int, 2) := by decide +kernel
theorem dX11_init_347 : decode cX11_init 347 = .ok (.putfield 137, 3) := by decide +kernel
theorem dX11_init_350 : decode cX11_init 350 = .ok (.aload_n 0, 1) := by decide +kernel
theorem dX11_init_351 : decode cX11_init 351 = .ok (.iconst 5, 1) := by decide +kernel
theorem dX11_init_352 : decode cX11_init 352 = .ok (.newarray .int, 2) := by decide +kernel
theorem dX11_init_354 : decode cX11_init 354 = .ok (.putfield 140, 3) := by decide +kernel
theorem dX11_init_357 : decode cX11_init 357 = .ok (.aload_n 0, 1) := by decide +kernel
theorem dX11_init_358 : decode cX11_init 358 = .ok (.iconst 5, 1) := by decide +kernel
theorem dX11_init_359 : decode cX11_init 359 = .ok (.newarray .int, 2) := by decide +kernel
theorem dX11_init_361 : decode cX11_init 361 = .ok (.putfield 143, 3) := by decide +kernel
theorem dX11_init_364 : decode cX11_init 364 = .ok (.aload_n 0, 1) := by decide +kernel
theorem dX11_init_365 : decode cX11_init 365 = .ok (.iconst 5, 1) := by decide +kernel
theorem dX11_init_366 : decode cX11_init 366 = .ok (.newarray .int, 2) := by decide +kernel
theorem dX11_init_368 : decode cX11_init 368 = .ok (.putfield 146, 3) := by decide +kernel
theorem dX11_init_371 : decode cX11_init 371 = .ok (.aload_n 0, 1) := by decide +kernel
theorem dX11_init_372 : decode cX11_init 372 = .ok (.bipush 80, 2) := by decide +kernel
theorem dX11_init_374 : decode cX11_init 374 = .ok (.newarray .int, 2) := by decide +kernel
theorem dX11_init_376 : decode cX11_init 376 = .ok (.putfield 149, 3) := by decide +kernel
theorem dX11_init_379 : decode cX11_init 379 = .ok (.aload_n 0, 1) := by decide +kernel
theorem dX11_init_380 : decode cX11_init 380 = .ok (.iconst 5, 1) := by decide +kernel
theorem dX11_init_381 : decode cX11_init 381 = .ok (.newarray .int, 2) := by decide +kernel
theorem dX11_init_383 : decode cX11_init 383 = .ok (.putfield 152, 3) := by decide +kernel
theorem dX11_init_386 : decode cX11_init 386 = .ok (.aload_n 0, 1) := by decide +kernel
theorem dX11_init_387 : decode cX11_init 387 = .ok (.bipush 80, 2) := by decide +kernel
theorem dX11_init_389 : decode cX11_init 389 = .ok (.newarray .int, 2) := by decide +kernel
theorem dX11_init_391 : decode cX11_init 391 = .ok (.putfield 155, 3) := by decide +kernel
theorem dX11_init_394 : decode cX11_init 394 = .ok (.aload_n 0, 1) := by decide +kernel
theorem dX11_init_395 : decode cX11_init 395 = .ok (.iconst 5, 1) := by decide +kernel
theorem dX11_init_396 : decode cX11_init 396 = .ok (.newarray .int, 2) := by decide +kernel
theorem dX11_init_398 : decode cX11_init 398 = .ok (.putfield 158, 3) := by decide +kernel
theorem dX11_init_401 : decode cX11_init 401 = .ok (.aload_n 0, 1) := by decide +kernel
theorem dX11_init_402 : decode cX11_init 402 = .ok (.iconst 5, 1) := by decide +kernel
theorem dX11_init_403 : decode cX11_init 403 = .ok (.newarray .int, 2) := by decide +kernel
theorem dX11_init_405 : decode cX11_init 405 = .ok (.putfield 161, 3) := by decide +kernel
theorem dX11_init_408 : decode cX11_init 408 = .ok (.aload_n 0, 1) := by decide +kernel
theorem dX11_init_409 : decode cX11_init 409 = .ok (.iconst 5, 1) := by decide +kernel
theorem dX11_init_410 : decode cX11_init 410 = .ok (.newarray .int, 2) := by decide +kernel
theorem dX11_init_412 : decode cX11_init 412 = .ok (.putfield 164, 3) := by decide +kernel
theorem dX11_init_415 : decode cX11_init 415 = .ok (.aload_n 0, 1) := by decide +kernel
theorem dX11_init_416 : decode cX11_init 416 = .ok (.bipush 16, 2) := by decide +kernel
theorem dX11_init_418 : decode cX11_init 418 = .ok (.newarray .int, 2) := by decide +kernel
theorem dX11_init_420 : decode cX11_init 420 = .ok (.putfield 167, 3) := by decide +kernel
theorem dX11_init_423 : decode cX11_init 423 = .ok (.iconst 0, 1) := by decide +kernel
theorem dX11_init_424 : decode cX11_init 424 = .ok (.istore_n 1, 1) := by decide +kernel
theorem dX11_init_425 : decode cX11_init 425 = .ok (.iload_n 1, 1) := by decide +kernel
theorem dX11_init_426 : decode cX11_init 426 = .ok (.iconst 2, 1) := by decide +kernel
theorem dX11_init_427 : decode cX11_init 427 = .ok (.if_icmp .ge 144, 3) := by decide +kernel
theorem dX11_init_430 : decode cX11_init 430 = .ok (.aload_n 0, 1) := by decide +kernel
theorem dX11_init_431 : decode cX11_init 431 = .ok (.getfield 28, 3) := by decide +kernel
theorem dX11_init_434 : decode cX11_init 434 = .ok (.iload_n 1, 1) := by decide +kernel
theorem dX11_init_435 : decode cX11_init 435 = .ok (.sipush 1000, 3) := by decide +kernel
theorem dX11_init_438 : decode cX11_init 438 = .ok (.iastore, 1) := by decide +kernel
theorem dX11_init_439 : decode cX11_init 439 = .ok (.aload_n 0, 1) := by decide +kernel
theorem dX11_init_440 : decode cX11_init 440 = .ok (.getfield 34, 3) := by decide +kernel
theorem dX11_init_443 : decode cX11_init 443 = .ok (.iload_n 1, 1) := by decide +kernel
theorem dX11_init_444 : decode cX11_init 444 = .ok (.iconst 1, 1) := by decide +kernel
theorem dX11_init_445 : decode cX11_init 445 = .ok (.iastore, 1) := by decide +kernel
theorem dX11_init_446 : decode cX11_init 446 = .ok (.aload_n 0, 1) := by decide +kernel
theorem dX11_init_447 : decode cX11_init 447 = .ok (.getfield 67, 3) := by decide +kernel
theorem dX11_init_450 : decode cX11_init 450 = .ok (.bipush 24, 2) := by decide +kernel
theorem dX11_init_452 : decode cX11_init 452 = .ok (.iload_n 1, 1) := by decide +kernel
theorem dX11_init_453 : decode cX11_init 453 = .ok (.imul, 1) := by decide +kernel
theorem dX11_init_454 : decode cX11_init 454 = .ok (.iconst (-1), 1) := by decide +kernel
theorem dX11_init_455 : decode cX11_init 455 = .ok (.iastore, 1) := by decide +kernel
theorem dX11_init_456 : decode cX11_init 456 = .ok (.aload_n 0, 1) := by decide +kernel
theorem dX11_init_457 : decode cX11_init 457 = .ok (.getfield 80, 3) := by decide +kernel
theorem dX11_init_460 : decode cX11_init 460 = .ok (.bipush 24, 2) := by decide +kernel
theorem dX11_init_462 : decode cX11_init 462 = .ok (.iload_n 1, 1) := by decide +kernel
theorem dX11_init_463 : decode cX11_init 463 = .ok (.imul, 1) := by decide +kernel
theorem dX11_init_464 : decode cX11_init 464 = .ok (.bipush 10, 2) := by decide +kernel
theorem dX11_init_466 : decode cX11_init 466 = .ok (.iastore, 1) := by decide +kernel
theorem dX11_init_467 : decode cX11_init 467 = .ok (.aload_n 0, 1) := by decide +kernel
theorem dX11_init_468 : decode cX11_init 468 = .ok (.getfield 107, 3) := by decide +kernel
theorem dX11_init_471 : decode cX11_init 471 = .ok (.bipush 24, 2) := by decide +kernel
theorem dX11_init_473 : decode cX11_init 473 = .ok (.iload_n 1, 1) := by decide +kernel
theorem dX11_init_474 : decode cX11_init 474 = .ok (.imul, 1) := by decide +kernel
theorem dX11_init_475 : decode cX11_init 475 = .ok (.iconst 1, 1) := by decide +kernel
theorem dX11_init_476 : decode cX11_init 476 = .ok (.iastore, 1) := by decide +kernel
theorem dX11_init_477 : decode cX11_init 477 = .ok (.iconst 0, 1) := by decide +kernel
theorem dX11_init_478 : decode cX11_init 478 = .ok (.istore_n 2, 1) := by decide +kernel
theorem dX11_init_479 : decode cX11_init 479 = .ok (.iload_n 2, 1) := by decide +kernel
theorem dX11_init_480 : decode cX11_init 480 = .ok (.bipush 6, 2) := by decide +kernel
theorem dX11_init_482 : decode cX11_init 482 = .ok (.if_icmp .ge 24, 3) := by decide +kernel
theorem dX11_init_485 : decode cX11_init 485 = .ok (.aload_n 0, 1) := by decide +kernel
theorem dX11_init_486 : decode cX11_init 486 = .ok (.getfield 7, 3) := by decide +kernel
theorem dX11_init_489 : decode cX11_init 489 = .ok (.sipush 2880, 3) := by decide +kernel
theorem dX11_init_492 : decode cX11_init 492 = .ok (.iload_n 1, 1) := by decide +kernel
theorem dX11_init_493 : decode cX11_init 493 = .ok (.imul, 1) := by decide +kernel
theorem dX11_init_494 : decode cX11_init 494 = .ok (.iload_n 2, 1) := by decide +kernel
theorem dX11_init_495 : decode cX11_init 495 = .ok (.iadd, 1) := by decide +kernel
theorem dX11_init_496 : decode cX11_init 496 = .ok (.sipush 10000, 3) := by decide +kernel
theorem dX11_init_499 : decode cX11_init 499 = .ok (.iastore, 1) := by decide +kernel
theorem dX11_init_500 : decode cX11_init 500 = .ok (.iinc 2 1, 3) := by decide +kernel
theorem dX11_init_503 : decode cX11_init 503 = .ok (.goto (-24), 3) := by decide +kernel
theorem dX11_init_506 : decode cX11_init 506 = .ok (.aload_n 0, 1) := by decide +kernel
theorem dX11_init_507 : decode cX11_init 507 = .ok (.getfield 7, 3) := by decide +kernel
theorem dX11_init_510 : decode cX11_init 510 = .ok (.sipush 2880, 3) := by decide +kernel
theorem dX11_init_513 : decode cX11_init 513 = .ok (.iload_n 1, 1) := by decide +kernel
theorem dX11_init_514 : decode cX11_init 514 = .ok (.imul, 1) := by decide +kernel
theorem dX11_init_515 : decode cX11_init 515 = .ok (.bipush 15, 2) := by decide +kernel
theorem dX11_init_517 : decode cX11_init 517 = .ok (.iadd, 1) := by decide +kernel
theorem dX11_init_518 : decode cX11_init 518 = .ok (.sipush 20000, 3) := by decide +kernel
theorem dX11_init_521 : decode cX11_init 521 = .ok (.iastore, 1) := by decide +kernel
theorem dX11_init_522 : decode cX11_init 522 = .ok (.iconst 0, 1) := by decide +kernel
theorem dX11_init_523 : decode cX11_init 523 = .ok (.istore_n 2, 1) := by decide +kernel
theorem dX11_init_524 : decode cX11_init 524 = .ok (.iload_n 2, 1) := by decide +kernel
theorem dX11_init_525 : decode cX11_init 525 = .ok (.iconst 4, 1) := by decide +kernel
theorem dX11_init_526 : decode cX11_init 526 = .ok (.if_icmp .ge 21, 3) := by decide +kernel
theorem dX11_init_529 : decode cX11_init 529 = .ok (.aload_n 0, 1) := by decide +kernel
theorem dX11_init_530 : decode cX11_init 530 = .ok (.getfield 125, 3) := by decide +kernel
theorem dX11_init_533 : decode cX11_init 533 = .ok (.iconst 4, 1) := by decide +kernel
theorem dX11_init_534 : decode cX11_init 534 = .ok (.iload_n 1, 1) := by decide +kernel
theorem dX11_init_535 : decode cX11_init 535 = .ok (.imul, 1) := by decide +kernel
theorem dX11_init_536 : decode cX11_init 536 = .ok (.iload_n 2, 1) := by decide +kernel
theorem dX11_init_537 : decode cX11_init 537 = .ok (.iadd, 1) := by decide +kernel
theorem dX11_init_538 : decode cX11_init 538 = .ok (.bipush 100, 2) := by decide +kernel
theorem dX11_init_540 : decode cX11_init 540 = .ok (.iastore, 1) := by decide +kernel
theorem dX11_init_541 : decode cX11_init 541 = .ok (.iinc 2 1, 3) := by decide +kernel
theorem dX11_init_544 : decode cX11_init 544 = .ok (.goto (-20), 3) := by decide +kernel
theorem dX11_init_547 : decode cX11_init 547 = .ok (.aload_n 0, 1) := by decide +kernel
theorem dX11_init_548 : decode cX11_init 548 = .ok (.getfield 89, 3) := by decide +kernel
theorem dX11_init_551 : decode cX11_init 551 = .ok (.bipush 24, 2) := by decide +kernel
theorem dX11_init_553 : decode cX11_init 553 = .ok (.iload_n 1, 1) := by decide +kernel
theorem dX11_init_554 : decode cX11_init 554 = .ok (.imul, 1) := by decide +kernel
theorem dX11_init_555 : decode cX11_init 555 = .ok (.aload_n 0, 1) := by decide +kernel
theorem dX11_init_556 : decode cX11_init 556 = .ok (.sipush 2880, 3) := by decide +kernel
theorem dX11_init_559 : decode cX11_init 559 = .ok (.iload_n 1, 1) := by decide +kernel
theorem dX11_init_560 : decode cX11_init 560 = .ok (.imul, 1) := by decide +kernel
theorem dX11_init_561 : decode cX11_init 561 = .ok (.invokevirtual 170, 3) := by decide +kernel
theorem dX11_init_564 : decode cX11_init 564 = .ok (.iastore, 1) := by decide +kernel
theorem dX11_init_565 : decode cX11_init 565 = .ok (.iinc 1 1, 3) := by decide +kernel
theorem dX11_init_568 : decode cX11_init 568 = .ok (.goto (-143), 3) := by decide +kernel
theorem dX11_init_571 : decode cX11_init 571 = .ok (.return_, 1) := by decide +kernel
theorem dX11_thrown_0 : decode cX11_thrown 0 = .ok (.aload_n 0, 1) := by decide +kernel
theorem dX11_thrown_1 : decode cX11_thrown 1 = .ok (.getfield 174, 3) := by decide +kernel
theorem dX11_thrown_4 : decode cX11_thrown 4 = .ok (.ireturn, 1) := by decide +kernel
theorem dX11_holds_0 : decode cX11_holds 0 = .ok (.aload_n 0, 1) := by decide +kernel
theorem dX11_holds_1 : decode cX11_holds 1 = .ok (.iload_n 1, 1) := by decide +kernel
theorem dX11_holds_2 : decode cX11_holds 2 = .ok (.putfield 174, 3) := by decide +kernel
theorem dX11_holds_5 : decode cX11_holds 5 = .ok (.iload_n 1, 1) := by decide +kernel
theorem dX11_holds_6 : decode cX11_holds 6 = .ok (.ifCond .le 7, 3) := by decide +kernel
theorem dX11_holds_9 : decode cX11_holds 9 = .ok (.iconst 1, 1) := by decide +kernel
theorem dX11_holds_10 : decode cX11_holds 10 = .ok (.goto 4, 3) := by decide +kernel
theorem dX11_holds_13 : decode cX11_holds 13 = .ok (.iconst 0, 1) := by decide +kernel
theorem dX11_holds_14 : decode cX11_holds 14 = .ok (.ireturn, 1) := by decide +kernel
theorem dX11_in_0 : decode cX11_in 0 = .ok (.iload_n 1, 1) := by decide +kernel
theorem dX11_in_1 : decode cX11_in 1 = .ok (.iload_n 2, 1) := by decide +kernel
theorem dX11_in_2 : decode cX11_in 2 = .ok (.if_icmp .lt 12, 3) := by decide +kernel
theorem dX11_in_5 : decode cX11_in 5 = .ok (.iload_n 1, 1) := by decide +kernel
theorem dX11_in_6 : decode cX11_in 6 = .ok (.iload_n 3, 1) := by decide +kernel
theorem dX11_in_7 : decode cX11_in 7 = .ok (.if_icmp .gt 7, 3) := by decide +kernel
theorem dX11_in_10 : decode cX11_in 10 = .ok (.iconst 1, 1) := by decide +kernel
theorem dX11_in_11 : decode cX11_in 11 = .ok (.goto 4, 3) := by decide +kernel
theorem dX11_in_14 : decode cX11_in 14 = .ok (.iconst 0, 1) := by decide +kernel
theorem dX11_in_15 : decode cX11_in 15 = .ok (.ireturn, 1) := by decide +kernel
theorem dX11_isChain_0 : decode cX11_isChain 0 = .ok (.aload_n 0, 1) := by decide +kernel
theorem dX11_isChain_1 : decode cX11_isChain 1 = .ok (.iload_n 1, 1) := by decide +kernel
theorem dX11_isChain_2 : decode cX11_isChain 2 = .ok (.iconst 0, 1) := by decide +kernel
theorem dX11_isChain_3 : decode cX11_isChain 3 = .ok (.iconst 1, 1) := by decide +kernel
theorem dX11_isChain_4 : decode cX11_isChain 4 = .ok (.invokevirtual 178, 3) := by decide +kernel
theorem dX11_isChain_7 : decode cX11_isChain 7 = .ok (.ireturn, 1) := by decide +kernel
theorem dX11_isBlock_0 : decode cX11_isBlock 0 = .ok (.aload_n 0, 1) := by decide +kernel
theorem dX11_isBlock_1 : decode cX11_isBlock 1 = .ok (.iload_n 1, 1) := by decide +kernel
theorem dX11_isBlock_2 : decode cX11_isBlock 2 = .ok (.invokevirtual 182, 3) := by decide +kernel
theorem dX11_isBlock_5 : decode cX11_isBlock 5 = .ok (.ifCond .eq 24, 3) := by decide +kernel
theorem dX11_isBlock_8 : decode cX11_isBlock 8 = .ok (.aload_n 0, 1) := by decide +kernel
theorem dX11_isBlock_9 : decode cX11_isBlock 9 = .ok (.iload_n 2, 1) := by decide +kernel
theorem dX11_isBlock_10 : decode cX11_isBlock 10 = .ok (.iconst 0, 1) := by decide +kernel
theorem dX11_isBlock_11 : decode cX11_isBlock 11 = .ok (.aload_n 0, 1) := by decide +kernel
theorem dX11_isBlock_12 : decode cX11_isBlock 12 = .ok (.getfield 34, 3) := by decide +kernel
theorem dX11_isBlock_15 : decode cX11_isBlock 15 = .ok (.iload_n 1, 1) := by decide +kernel
theorem dX11_isBlock_16 : decode cX11_isBlock 16 = .ok (.iaload, 1) := by decide +kernel
theorem dX11_isBlock_17 : decode cX11_isBlock 17 = .ok (.iconst 1, 1) := by decide +kernel
theorem dX11_isBlock_18 : decode cX11_isBlock 18 = .ok (.isub, 1) := by decide +kernel
theorem dX11_isBlock_19 : decode cX11_isBlock 19 = .ok (.invokevirtual 178, 3) := by decide +kernel
theorem dX11_isBlock_22 : decode cX11_isBlock 22 = .ok (.ifCond .eq 7, 3) := by decide +kernel
theorem dX11_isBlock_25 : decode cX11_isBlock 25 = .ok (.iconst 1, 1) := by decide +kernel
theorem dX11_isBlock_26 : decode cX11_isBlock 26 = .ok (.goto 4, 3) := by decide +kernel
theorem dX11_isBlock_29 : decode cX11_isBlock 29 = .ok (.iconst 0, 1) := by decide +kernel
theorem dX11_isBlock_30 : decode cX11_isBlock 30 = .ok (.ireturn, 1) := by decide +kernel
theorem dX11_isTx_0 : decode cX11_isTx 0 = .ok (.aload_n 0, 1) := by decide +kernel
theorem dX11_isTx_1 : decode cX11_isTx 1 = .ok (.iload_n 1, 1) := by decide +kernel
theorem dX11_isTx_2 : decode cX11_isTx 2 = .ok (.invokevirtual 182, 3) := by decide +kernel
theorem dX11_isTx_5 : decode cX11_isTx 5 = .ok (.ifCond .eq 24, 3) := by decide +kernel
theorem dX11_isTx_8 : decode cX11_isTx 8 = .ok (.aload_n 0, 1) := by decide +kernel
theorem dX11_isTx_9 : decode cX11_isTx 9 = .ok (.iload_n 2, 1) := by decide +kernel
theorem dX11_isTx_10 : decode cX11_isTx 10 = .ok (.iconst 0, 1) := by decide +kernel
theorem dX11_isTx_11 : decode cX11_isTx 11 = .ok (.aload_n 0, 1) := by decide +kernel
theorem dX11_isTx_12 : decode cX11_isTx 12 = .ok (.getfield 31, 3) := by decide +kernel
theorem dX11_isTx_15 : decode cX11_isTx 15 = .ok (.iload_n 1, 1) := by decide +kernel
theorem dX11_isTx_16 : decode cX11_isTx 16 = .ok (.iaload, 1) := by decide +kernel
theorem dX11_isTx_17 : decode cX11_isTx 17 = .ok (.iconst 1, 1) := by decide +kernel
theorem dX11_isTx_18 : decode cX11_isTx 18 = .ok (.isub, 1) := by decide +kernel
theorem dX11_isTx_19 : decode cX11_isTx 19 = .ok (.invokevirtual 178, 3) := by decide +kernel
theorem dX11_isTx_22 : decode cX11_isTx 22 = .ok (.ifCond .eq 7, 3) := by decide +kernel
theorem dX11_isTx_25 : decode cX11_isTx 25 = .ok (.iconst 1, 1) := by decide +kernel
theorem dX11_isTx_26 : decode cX11_isTx 26 = .ok (.goto 4, 3) := by decide +kernel
theorem dX11_isTx_29 : decode cX11_isTx 29 = .ok (.iconst 0, 1) := by decide +kernel
theorem dX11_isTx_30 : decode cX11_isTx 30 = .ok (.ireturn, 1) := by decide +kernel
theorem dX11_mix_0 : decode cX11_mix 0 = .ok (.ldc2_w 186, 3) := by decide +kernel
theorem dX11_mix_3 : decode cX11_mix 3 = .ok (.lload_n 1, 1) := by decide +kernel
theorem dX11_mix_4 : decode cX11_mix 4 = .ok (.lmul, 1) := by decide +kernel
theorem dX11_mix_5 : decode cX11_mix 5 = .ok (.ldc2_w 188, 3) := by decide +kernel
theorem dX11_mix_8 : decode cX11_mix 8 = .ok (.lload_n 3, 1) := by decide +kernel
theorem dX11_mix_9 : decode cX11_mix 9 = .ok (.lmul, 1) := by decide +kernel
theorem dX11_mix_10 : decode cX11_mix 10 = .ok (.ladd, 1) := by decide +kernel
theorem dX11_mix_11 : decode cX11_mix 11 = .ok (.ldc2_w 190, 3) := by decide +kernel
theorem dX11_mix_14 : decode cX11_mix 14 = .ok (.ladd, 1) := by decide +kernel
theorem dX11_mix_15 : decode cX11_mix 15 = .ok (.ldc2_w 192, 3) := by decide +kernel
theorem dX11_mix_18 : decode cX11_mix 18 = .ok (.lrem, 1) := by decide +kernel
theorem dX11_mix_19 : decode cX11_mix 19 = .ok (.l2i, 1) := by decide +kernel
theorem dX11_mix_20 : decode cX11_mix 20 = .ok (.ireturn, 1) := by decide +kernel
theorem dX11_leafOf_0 : decode cX11_leafOf 0 = .ok (.iload_n 1, 1) := by decide +kernel
theorem dX11_leafOf_1 : decode cX11_leafOf 1 = .ok (.bipush 48, 2) := by decide +kernel
theorem dX11_leafOf_3 : decode cX11_leafOf 3 = .ok (.iadd, 1) := by decide +kernel
theorem dX11_leafOf_4 : decode cX11_leafOf 4 = .ok (.iconst 4, 1) := by decide +kernel
theorem dX11_leafOf_5 : decode cX11_leafOf 5 = .ok (.iload_n 2, 1) := by decide +kernel
theorem dX11_leafOf_6 : decode cX11_leafOf 6 = .ok (.imul, 1) := by decide +kernel
theorem dX11_leafOf_7 : decode cX11_leafOf 7 = .ok (.iadd, 1) := by decide +kernel
theorem dX11_leafOf_8 : decode cX11_leafOf 8 = .ok (.istore_n 3, 1) := by decide +kernel
theorem dX11_leafOf_9 : decode cX11_leafOf 9 = .ok (.aload_n 0, 1) := by decide +kernel
theorem dX11_leafOf_10 : decode cX11_leafOf 10 = .ok (.aload_n 0, 1) := by decide +kernel
theorem dX11_leafOf_11 : decode cX11_leafOf 11 = .ok (.aload_n 0, 1) := by decide +kernel
theorem dX11_leafOf_12 : decode cX11_leafOf 12 = .ok (.getfield 7, 3) := by decide +kernel
theorem dX11_leafOf_15 : decode cX11_leafOf 15 = .ok (.iload_n 3, 1) := by decide +kernel
theorem dX11_leafOf_16 : decode cX11_leafOf 16 = .ok (.iaload, 1) := by decide +kernel
theorem dX11_leafOf_17 : decode cX11_leafOf 17 = .ok (.i2l, 1) := by decide +kernel
theorem dX11_leafOf_18 : decode cX11_leafOf 18 = .ok (.aload_n 0, 1) := by decide +kernel
theorem dX11_leafOf_19 : decode cX11_leafOf 19 = .ok (.getfield 7, 3) := by decide +kernel
theorem dX11_leafOf_22 : decode cX11_leafOf 22 = .ok (.iload_n 3, 1) := by decide +kernel
theorem dX11_leafOf_23 : decode cX11_leafOf 23 = .ok (.iconst 1, 1) := by decide +kernel
theorem dX11_leafOf_24 : decode cX11_leafOf 24 = .ok (.iadd, 1) := by decide +kernel
theorem dX11_leafOf_25 : decode cX11_leafOf 25 = .ok (.iaload, 1) := by decide +kernel
theorem dX11_leafOf_26 : decode cX11_leafOf 26 = .ok (.i2l, 1) := by decide +kernel
theorem dX11_leafOf_27 : decode cX11_leafOf 27 = .ok (.invokevirtual 194, 3) := by decide +kernel
theorem dX11_leafOf_30 : decode cX11_leafOf 30 = .ok (.i2l, 1) := by decide +kernel
theorem dX11_leafOf_31 : decode cX11_leafOf 31 = .ok (.aload_n 0, 1) := by decide +kernel
theorem dX11_leafOf_32 : decode cX11_leafOf 32 = .ok (.aload_n 0, 1) := by decide +kernel
theorem dX11_leafOf_33 : decode cX11_leafOf 33 = .ok (.getfield 7, 3) := by decide +kernel
theorem dX11_leafOf_36 : decode cX11_leafOf 36 = .ok (.iload_n 3, 1) := by decide +kernel
theorem dX11_leafOf_37 : decode cX11_leafOf 37 = .ok (.iconst 2, 1) := by decide +kernel
theorem dX11_leafOf_38 : decode cX11_leafOf 38 = .ok (.iadd, 1) := by decide +kernel
theorem dX11_leafOf_39 : decode cX11_leafOf 39 = .ok (.iaload, 1) := by decide +kernel
theorem dX11_leafOf_40 : decode cX11_leafOf 40 = .ok (.i2l, 1) := by decide +kernel
theorem dX11_leafOf_41 : decode cX11_leafOf 41 = .ok (.aload_n 0, 1) := by decide +kernel
theorem dX11_leafOf_42 : decode cX11_leafOf 42 = .ok (.getfield 7, 3) := by decide +kernel
theorem dX11_leafOf_45 : decode cX11_leafOf 45 = .ok (.iload_n 3, 1) := by decide +kernel
theorem dX11_leafOf_46 : decode cX11_leafOf 46 = .ok (.iconst 3, 1) := by decide +kernel
theorem dX11_leafOf_47 : decode cX11_leafOf 47 = .ok (.iadd, 1) := by decide +kernel
theorem dX11_leafOf_48 : decode cX11_leafOf 48 = .ok (.iaload, 1) := by decide +kernel
theorem dX11_leafOf_49 : decode cX11_leafOf 49 = .ok (.i2l, 1) := by decide +kernel
theorem dX11_leafOf_50 : decode cX11_leafOf 50 = .ok (.invokevirtual 194, 3) := by decide +kernel
theorem dX11_leafOf_53 : decode cX11_leafOf 53 = .ok (.i2l, 1) := by decide +kernel
theorem dX11_leafOf_54 : decode cX11_leafOf 54 = .ok (.invokevirtual 194, 3) := by decide +kernel
theorem dX11_leafOf_57 : decode cX11_leafOf 57 = .ok (.istore 4, 2) := by decide +kernel
theorem dX11_leafOf_59 : decode cX11_leafOf 59 = .ok (.aload_n 0, 1) := by decide +kernel
theorem dX11_leafOf_60 : decode cX11_leafOf 60 = .ok (.aload_n 0, 1) := by decide +kernel
theorem dX11_leafOf_61 : decode cX11_leafOf 61 = .ok (.getfield 7, 3) := by decide +kernel
theorem dX11_leafOf_64 : decode cX11_leafOf 64 = .ok (.iload_n 1, 1) := by decide +kernel
theorem dX11_leafOf_65 : decode cX11_leafOf 65 = .ok (.iload_n 2, 1) := by decide +kernel
theorem dX11_leafOf_66 : decode cX11_leafOf 66 = .ok (.iadd, 1) := by decide +kernel
theorem dX11_leafOf_67 : decode cX11_leafOf 67 = .ok (.iaload, 1) := by decide +kernel
theorem dX11_leafOf_68 : decode cX11_leafOf 68 = .ok (.ldc 198, 2) := by decide +kernel
theorem dX11_leafOf_70 : decode cX11_leafOf 70 = .ok (.irem, 1) := by decide +kernel
theorem dX11_leafOf_71 : decode cX11_leafOf 71 = .ok (.i2l, 1) := by decide +kernel
theorem dX11_leafOf_72 : decode cX11_leafOf 72 = .ok (.aload_n 0, 1) := by decide +kernel
theorem dX11_leafOf_73 : decode cX11_leafOf 73 = .ok (.aload_n 0, 1) := by decide +kernel
theorem dX11_leafOf_74 : decode cX11_leafOf 74 = .ok (.getfield 7, 3) := by decide +kernel
theorem dX11_leafOf_77 : decode cX11_leafOf 77 = .ok (.iload_n 1, 1) := by decide +kernel
theorem dX11_leafOf_78 : decode cX11_leafOf 78 = .ok (.bipush 16, 2) := by decide +kernel
theorem dX11_leafOf_80 : decode cX11_leafOf 80 = .ok (.iadd, 1) := by decide +kernel
theorem dX11_leafOf_81 : decode cX11_leafOf 81 = .ok (.iload_n 2, 1) := by decide +kernel
theorem dX11_leafOf_82 : decode cX11_leafOf 82 = .ok (.iadd, 1) := by decide +kernel
theorem dX11_leafOf_83 : decode cX11_leafOf 83 = .ok (.iaload, 1) := by decide +kernel
theorem dX11_leafOf_84 : decode cX11_leafOf 84 = .ok (.i2l, 1) := by decide +kernel
theorem dX11_leafOf_85 : decode cX11_leafOf 85 = .ok (.aload_n 0, 1) := by decide +kernel
theorem dX11_leafOf_86 : decode cX11_leafOf 86 = .ok (.aload_n 0, 1) := by decide +kernel
theorem dX11_leafOf_87 : decode cX11_leafOf 87 = .ok (.getfield 7, 3) := by decide +kernel
theorem dX11_leafOf_90 : decode cX11_leafOf 90 = .ok (.iload_n 1, 1) := by decide +kernel
theorem dX11_leafOf_91 : decode cX11_leafOf 91 = .ok (.bipush 32, 2) := by decide +kernel
theorem dX11_leafOf_93 : decode cX11_leafOf 93 = .ok (.iadd, 1) := by decide +kernel
theorem dX11_leafOf_94 : decode cX11_leafOf 94 = .ok (.iload_n 2, 1) := by decide +kernel
theorem dX11_leafOf_95 : decode cX11_leafOf 95 = .ok (.iadd, 1) := by decide +kernel
theorem dX11_leafOf_96 : decode cX11_leafOf 96 = .ok (.iaload, 1) := by decide +kernel
theorem dX11_leafOf_97 : decode cX11_leafOf 97 = .ok (.i2l, 1) := by decide +kernel
theorem dX11_leafOf_98 : decode cX11_leafOf 98 = .ok (.iload 4, 2) := by decide +kernel
theorem dX11_leafOf_100 : decode cX11_leafOf 100 = .ok (.i2l, 1) := by decide +kernel
theorem dX11_leafOf_101 : decode cX11_leafOf 101 = .ok (.invokevirtual 194, 3) := by decide +kernel
theorem dX11_leafOf_104 : decode cX11_leafOf 104 = .ok (.i2l, 1) := by decide +kernel
theorem dX11_leafOf_105 : decode cX11_leafOf 105 = .ok (.invokevirtual 194, 3) := by decide +kernel
theorem dX11_leafOf_108 : decode cX11_leafOf 108 = .ok (.i2l, 1) := by decide +kernel
theorem dX11_leafOf_109 : decode cX11_leafOf 109 = .ok (.invokevirtual 194, 3) := by decide +kernel
theorem dX11_leafOf_112 : decode cX11_leafOf 112 = .ok (.ireturn, 1) := by decide +kernel
theorem dX11_rootOf_0 : decode cX11_rootOf 0 = .ok (.iconst 0, 1) := by decide +kernel
theorem dX11_rootOf_1 : decode cX11_rootOf 1 = .ok (.istore_n 2, 1) := by decide +kernel
theorem dX11_rootOf_2 : decode cX11_rootOf 2 = .ok (.iload_n 2, 1) := by decide +kernel
theorem dX11_rootOf_3 : decode cX11_rootOf 3 = .ok (.bipush 16, 2) := by decide +kernel
theorem dX11_rootOf_5 : decode cX11_rootOf 5 = .ok (.if_icmp .ge 21, 3) := by decide +kernel
theorem dX11_rootOf_8 : decode cX11_rootOf 8 = .ok (.aload_n 0, 1) := by decide +kernel
theorem dX11_rootOf_9 : decode cX11_rootOf 9 = .ok (.getfield 167, 3) := by decide +kernel
theorem dX11_rootOf_12 : decode cX11_rootOf 12 = .ok (.iload_n 2, 1) := by decide +kernel
theorem dX11_rootOf_13 : decode cX11_rootOf 13 = .ok (.aload_n 0, 1) := by decide +kernel
theorem dX11_rootOf_14 : decode cX11_rootOf 14 = .ok (.iload_n 1, 1) := by decide +kernel
theorem dX11_rootOf_15 : decode cX11_rootOf 15 = .ok (.iload_n 2, 1) := by decide +kernel
theorem dX11_rootOf_16 : decode cX11_rootOf 16 = .ok (.invokevirtual 199, 3) := by decide +kernel
theorem dX11_rootOf_19 : decode cX11_rootOf 19 = .ok (.iastore, 1) := by decide +kernel
theorem dX11_rootOf_20 : decode cX11_rootOf 20 = .ok (.iinc 2 1, 3) := by decide +kernel
theorem dX11_rootOf_23 : decode cX11_rootOf 23 = .ok (.goto (-21), 3) := by decide +kernel
theorem dX11_rootOf_26 : decode cX11_rootOf 26 = .ok (.aload_n 0, 1) := by decide +kernel
theorem dX11_rootOf_27 : decode cX11_rootOf 27 = .ok (.iconst 4, 1) := by decide +kernel
theorem dX11_rootOf_28 : decode cX11_rootOf 28 = .ok (.invokevirtual 203, 3) := by decide +kernel
theorem dX11_rootOf_31 : decode cX11_rootOf 31 = .ok (.aload_n 0, 1) := by decide +kernel
theorem dX11_rootOf_32 : decode cX11_rootOf 32 = .ok (.getfield 167, 3) := by decide +kernel
theorem dX11_rootOf_35 : decode cX11_rootOf 35 = .ok (.iconst 0, 1) := by decide +kernel
theorem dX11_rootOf_36 : decode cX11_rootOf 36 = .ok (.iaload, 1) := by decide +kernel
theorem dX11_rootOf_37 : decode cX11_rootOf 37 = .ok (.ireturn, 1) := by decide +kernel
theorem dX11_fold_0 : decode cX11_fold 0 = .ok (.iconst 0, 1) := by decide +kernel
theorem dX11_fold_1 : decode cX11_fold 1 = .ok (.istore_n 2, 1) := by decide +kernel
theorem dX11_fold_2 : decode cX11_fold 2 = .ok (.iload_n 2, 1) := by decide +kernel
theorem dX11_fold_3 : decode cX11_fold 3 = .ok (.iload_n 1, 1) := by decide +kernel
theorem dX11_fold_4 : decode cX11_fold 4 = .ok (.if_icmp .ge 55, 3) := by decide +kernel
theorem dX11_fold_7 : decode cX11_fold 7 = .ok (.iconst 0, 1) := by decide +kernel
theorem dX11_fold_8 : decode cX11_fold 8 = .ok (.istore_n 3, 1) := by decide +kernel
theorem dX11_fold_9 : decode cX11_fold 9 = .ok (.iload_n 3, 1) := by decide +kernel
theorem dX11_fold_10 : decode cX11_fold 10 = .ok (.bipush 8, 2) := by decide +kernel
theorem dX11_fold_12 : decode cX11_fold 12 = .ok (.iload_n 2, 1) := by decide +kernel
theorem dX11_fold_13 : decode cX11_fold 13 = .ok (.ishr, 1) := by decide +kernel
theorem dX11_fold_14 : decode cX11_fold 14 = .ok (.if_icmp .ge 39, 3) := by decide +kernel
theorem dX11_fold_17 : decode cX11_fold 17 = .ok (.aload_n 0, 1) := by decide +kernel
theorem dX11_fold_18 : decode cX11_fold 18 = .ok (.getfield 167, 3) := by decide +kernel
theorem dX11_fold_21 : decode cX11_fold 21 = .ok (.iload_n 3, 1) := by decide +kernel
theorem dX11_fold_22 : decode cX11_fold 22 = .ok (.aload_n 0, 1) := by decide +kernel
theorem dX11_fold_23 : decode cX11_fold 23 = .ok (.aload_n 0, 1) := by decide +kernel
theorem dX11_fold_24 : decode cX11_fold 24 = .ok (.getfield 167, 3) := by decide +kernel
theorem dX11_fold_27 : decode cX11_fold 27 = .ok (.iconst 2, 1) := by decide +kernel
theorem dX11_fold_28 : decode cX11_fold 28 = .ok (.iload_n 3, 1) := by decide +kernel
theorem dX11_fold_29 : decode cX11_fold 29 = .ok (.imul, 1) := by decide +kernel
theorem dX11_fold_30 : decode cX11_fold 30 = .ok (.iaload, 1) := by decide +kernel
theorem dX11_fold_31 : decode cX11_fold 31 = .ok (.i2l, 1) := by decide +kernel
theorem dX11_fold_32 : decode cX11_fold 32 = .ok (.aload_n 0, 1) := by decide +kernel
theorem dX11_fold_33 : decode cX11_fold 33 = .ok (.getfield 167, 3) := by decide +kernel
theorem dX11_fold_36 : decode cX11_fold 36 = .ok (.iconst 2, 1) := by decide +kernel
theorem dX11_fold_37 : decode cX11_fold 37 = .ok (.iload_n 3, 1) := by decide +kernel
theorem dX11_fold_38 : decode cX11_fold 38 = .ok (.imul, 1) := by decide +kernel
theorem dX11_fold_39 : decode cX11_fold 39 = .ok (.iconst 1, 1) := by decide +kernel
theorem dX11_fold_40 : decode cX11_fold 40 = .ok (.iadd, 1) := by decide +kernel
theorem dX11_fold_41 : decode cX11_fold 41 = .ok (.iaload, 1) := by decide +kernel
theorem dX11_fold_42 : decode cX11_fold 42 = .ok (.i2l, 1) := by decide +kernel
theorem dX11_fold_43 : decode cX11_fold 43 = .ok (.invokevirtual 194, 3) := by decide +kernel
theorem dX11_fold_46 : decode cX11_fold 46 = .ok (.iastore, 1) := by decide +kernel
theorem dX11_fold_47 : decode cX11_fold 47 = .ok (.iinc 3 1, 3) := by decide +kernel
theorem dX11_fold_50 : decode cX11_fold 50 = .ok (.goto (-41), 3) := by decide +kernel
theorem dX11_fold_53 : decode cX11_fold 53 = .ok (.iinc 2 1, 3) := by decide +kernel
theorem dX11_fold_56 : decode cX11_fold 56 = .ok (.goto (-54), 3) := by decide +kernel
theorem dX11_fold_59 : decode cX11_fold 59 = .ok (.return_, 1) := by decide +kernel
theorem dX11_most_0 : decode cX11_most 0 = .ok (.iload_n 1, 1) := by decide +kernel
theorem dX11_most_1 : decode cX11_most 1 = .ok (.ifCond .ne 9, 3) := by decide +kernel
theorem dX11_most_4 : decode cX11_most 4 = .ok (.sipush 9999, 3) := by decide +kernel
theorem dX11_most_7 : decode cX11_most 7 = .ok (.goto 65, 3) := by decide +kernel
theorem dX11_most_10 : decode cX11_most 10 = .ok (.iload_n 1, 1) := by decide +kernel
theorem dX11_most_11 : decode cX11_most 11 = .ok (.bipush 9, 2) := by decide +kernel
theorem dX11_most_13 : decode cX11_most 13 = .ok (.if_icmp .eq 9, 3) := by decide +kernel
theorem dX11_most_16 : decode cX11_most 16 = .ok (.iload_n 1, 1) := by decide +kernel
theorem dX11_most_17 : decode cX11_most 17 = .ok (.bipush 10, 2) := by decide +kernel
theorem dX11_most_19 : decode cX11_most 19 = .ok (.if_icmp .ne 7, 3) := by decide +kernel
theorem dX11_most_22 : decode cX11_most 22 = .ok (.iconst 3, 1) := by decide +kernel
theorem dX11_most_23 : decode cX11_most 23 = .ok (.goto 49, 3) := by decide +kernel
theorem dX11_most_26 : decode cX11_most 26 = .ok (.iload_n 1, 1) := by decide +kernel
theorem dX11_most_27 : decode cX11_most 27 = .ok (.bipush 11, 2) := by decide +kernel
theorem dX11_most_29 : decode cX11_most 29 = .ok (.if_icmp .eq 9, 3) := by decide +kernel
theorem dX11_most_32 : decode cX11_most 32 = .ok (.iload_n 1, 1) := by decide +kernel
theorem dX11_most_33 : decode cX11_most 33 = .ok (.bipush 12, 2) := by decide +kernel
theorem dX11_most_35 : decode cX11_most 35 = .ok (.if_icmp .ne 8, 3) := by decide +kernel
theorem dX11_most_38 : decode cX11_most 38 = .ok (.bipush 20, 2) := by decide +kernel
theorem dX11_most_40 : decode cX11_most 40 = .ok (.goto 32, 3) := by decide +kernel
theorem dX11_most_43 : decode cX11_most 43 = .ok (.iload_n 1, 1) := by decide +kernel
theorem dX11_most_44 : decode cX11_most 44 = .ok (.bipush 17, 2) := by decide +kernel
theorem dX11_most_46 : decode cX11_most 46 = .ok (.if_icmp .eq 9, 3) := by decide +kernel
theorem dX11_most_49 : decode cX11_most 49 = .ok (.iload_n 1, 1) := by decide +kernel
theorem dX11_most_50 : decode cX11_most 50 = .ok (.bipush 18, 2) := by decide +kernel
theorem dX11_most_52 : decode cX11_most 52 = .ok (.if_icmp .ne 8, 3) := by decide +kernel
theorem dX11_most_55 : decode cX11_most 55 = .ok (.bipush 15, 2) := by decide +kernel
theorem dX11_most_57 : decode cX11_most 57 = .ok (.goto 15, 3) := by decide +kernel
theorem dX11_most_60 : decode cX11_most 60 = .ok (.iload_n 1, 1) := by decide +kernel
theorem dX11_most_61 : decode cX11_most 61 = .ok (.bipush 21, 2) := by decide +kernel
theorem dX11_most_63 : decode cX11_most 63 = .ok (.if_icmp .ne 8, 3) := by decide +kernel
theorem dX11_most_66 : decode cX11_most 66 = .ok (.bipush 7, 2) := by decide +kernel
theorem dX11_most_68 : decode cX11_most 68 = .ok (.goto 4, 3) := by decide +kernel
theorem dX11_most_71 : decode cX11_most 71 = .ok (.iconst 0, 1) := by decide +kernel
theorem dX11_most_72 : decode cX11_most 72 = .ok (.ireturn, 1) := by decide +kernel
theorem dX11_step_0 : decode cX11_step 0 = .ok (.aload_n 0, 1) := by decide +kernel
theorem dX11_step_1 : decode cX11_step 1 = .ok (.iload_n 2, 1) := by decide +kernel
theorem dX11_step_2 : decode cX11_step 2 = .ok (.iconst 0, 1) := by decide +kernel
theorem dX11_step_3 : decode cX11_step 3 = .ok (.bipush 24, 2) := by decide +kernel
theorem dX11_step_5 : decode cX11_step 5 = .ok (.invokevirtual 178, 3) := by decide +kernel
theorem dX11_step_8 : decode cX11_step 8 = .ok (.ifCond .eq 21, 3) := by decide +kernel
theorem dX11_step_11 : decode cX11_step 11 = .ok (.aload_n 0, 1) := by decide +kernel
theorem dX11_step_12 : decode cX11_step 12 = .ok (.iload_n 3, 1) := by decide +kernel
theorem dX11_step_13 : decode cX11_step 13 = .ok (.iconst 0, 1) := by decide +kernel
theorem dX11_step_14 : decode cX11_step 14 = .ok (.aload_n 0, 1) := by decide +kernel
theorem dX11_step_15 : decode cX11_step 15 = .ok (.iload_n 2, 1) := by decide +kernel
theorem dX11_step_16 : decode cX11_step 16 = .ok (.invokevirtual 207, 3) := by decide +kernel
theorem dX11_step_19 : decode cX11_step 19 = .ok (.invokevirtual 178, 3) := by decide +kernel
theorem dX11_step_22 : decode cX11_step 22 = .ok (.ifCond .eq 7, 3) := by decide +kernel
theorem dX11_step_25 : decode cX11_step 25 = .ok (.iconst 1, 1) := by decide +kernel
theorem dX11_step_26 : decode cX11_step 26 = .ok (.goto 4, 3) := by decide +kernel
theorem dX11_step_29 : decode cX11_step 29 = .ok (.iconst 0, 1) := by decide +kernel
theorem dX11_step_30 : decode cX11_step 30 = .ok (.istore 4, 2) := by decide +kernel
theorem dX11_step_32 : decode cX11_step 32 = .ok (.aload_n 0, 1) := by decide +kernel
theorem dX11_step_33 : decode cX11_step 33 = .ok (.iload_n 1, 1) := by decide +kernel
theorem dX11_step_34 : decode cX11_step 34 = .ok (.iconst 0, 1) := by decide +kernel
theorem dX11_step_35 : decode cX11_step 35 = .ok (.bipush 7, 2) := by decide +kernel
theorem dX11_step_37 : decode cX11_step 37 = .ok (.invokevirtual 178, 3) := by decide +kernel
theorem dX11_step_40 : decode cX11_step 40 = .ok (.istore 5, 2) := by decide +kernel
theorem dX11_step_42 : decode cX11_step 42 = .ok (.aload_n 0, 1) := by decide +kernel
theorem dX11_step_43 : decode cX11_step 43 = .ok (.iload 5, 2) := by decide +kernel
theorem dX11_step_45 : decode cX11_step 45 = .ok (.ifCond .ne 7, 3) := by decide +kernel
theorem dX11_step_48 : decode cX11_step 48 = .ok (.iconst 1, 1) := by decide +kernel
theorem dX11_step_49 : decode cX11_step 49 = .ok (.goto 35, 3) := by decide +kernel
theorem dX11_step_52 : decode cX11_step 52 = .ok (.iload 4, 2) := by decide +kernel
theorem dX11_step_54 : decode cX11_step 54 = .ok (.ifCond .ne 7, 3) := by decide +kernel
theorem dX11_step_57 : decode cX11_step 57 = .ok (.iconst 2, 1) := by decide +kernel
theorem dX11_step_58 : decode cX11_step 58 = .ok (.goto 26, 3) := by decide +kernel
theorem dX11_step_61 : decode cX11_step 61 = .ok (.aload_n 0, 1) := by decide +kernel
theorem dX11_step_62 : decode cX11_step 62 = .ok (.getfield 25, 3) := by decide +kernel
theorem dX11_step_65 : decode cX11_step 65 = .ok (.iload_n 1, 1) := by decide +kernel
theorem dX11_step_66 : decode cX11_step 66 = .ok (.iaload, 1) := by decide +kernel
theorem dX11_step_67 : decode cX11_step 67 = .ok (.bipush 20, 2) := by decide +kernel
theorem dX11_step_69 : decode cX11_step 69 = .ok (.if_icmp .eq 10, 3) := by decide +kernel
theorem dX11_step_72 : decode cX11_step 72 = .ok (.aload_n 0, 1) := by decide +kernel
theorem dX11_step_73 : decode cX11_step 73 = .ok (.getfield 210, 3) := by decide +kernel
theorem dX11_step_76 : decode cX11_step 76 = .ok (.ifCond .eq 7, 3) := by decide +kernel
theorem dX11_step_79 : decode cX11_step 79 = .ok (.iconst 3, 1) := by decide +kernel
theorem dX11_step_80 : decode cX11_step 80 = .ok (.goto 4, 3) := by decide +kernel
theorem dX11_step_83 : decode cX11_step 83 = .ok (.iconst 0, 1) := by decide +kernel
theorem dX11_step_84 : decode cX11_step 84 = .ok (.invokevirtual 214, 3) := by decide +kernel
theorem dX11_step_87 : decode cX11_step 87 = .ok (.ifCond .eq 5, 3) := by decide +kernel
theorem dX11_step_90 : decode cX11_step 90 = .ok (.iconst (-1), 1) := by decide +kernel
theorem dX11_step_91 : decode cX11_step 91 = .ok (.ireturn, 1) := by decide +kernel
theorem dX11_step_92 : decode cX11_step 92 = .ok (.aload_n 0, 1) := by decide +kernel
theorem dX11_step_93 : decode cX11_step 93 = .ok (.getfield 19, 3) := by decide +kernel
theorem dX11_step_96 : decode cX11_step 96 = .ok (.bipush 20, 2) := by decide +kernel
theorem dX11_step_98 : decode cX11_step 98 = .ok (.iload_n 1, 1) := by decide +kernel
theorem dX11_step_99 : decode cX11_step 99 = .ok (.imul, 1) := by decide +kernel
theorem dX11_step_100 : decode cX11_step 100 = .ok (.aload_n 0, 1) := by decide +kernel
theorem dX11_step_101 : decode cX11_step 101 = .ok (.getfield 25, 3) := by decide +kernel
theorem dX11_step_104 : decode cX11_step 104 = .ok (.iload_n 1, 1) := by decide +kernel
theorem dX11_step_105 : decode cX11_step 105 = .ok (.iaload, 1) := by decide +kernel
theorem dX11_step_106 : decode cX11_step 106 = .ok (.iadd, 1) := by decide +kernel
theorem dX11_step_107 : decode cX11_step 107 = .ok (.iload_n 2, 1) := by decide +kernel
theorem dX11_step_108 : decode cX11_step 108 = .ok (.iastore, 1) := by decide +kernel
theorem dX11_step_109 : decode cX11_step 109 = .ok (.aload_n 0, 1) := by decide +kernel
theorem dX11_step_110 : decode cX11_step 110 = .ok (.getfield 22, 3) := by decide +kernel
theorem dX11_step_113 : decode cX11_step 113 = .ok (.bipush 20, 2) := by decide +kernel
theorem dX11_step_115 : decode cX11_step 115 = .ok (.iload_n 1, 1) := by decide +kernel
theorem dX11_step_116 : decode cX11_step 116 = .ok (.imul, 1) := by decide +kernel
theorem dX11_step_117 : decode cX11_step 117 = .ok (.aload_n 0, 1) := by decide +kernel
theorem dX11_step_118 : decode cX11_step 118 = .ok (.getfield 25, 3) := by decide +kernel
theorem dX11_step_121 : decode cX11_step 121 = .ok (.iload_n 1, 1) := by decide +kernel
theorem dX11_step_122 : decode cX11_step 122 = .ok (.iaload, 1) := by decide +kernel
theorem dX11_step_123 : decode cX11_step 123 = .ok (.iadd, 1) := by decide +kernel
theorem dX11_step_124 : decode cX11_step 124 = .ok (.iload_n 3, 1) := by decide +kernel
theorem dX11_step_125 : decode cX11_step 125 = .ok (.iastore, 1) := by decide +kernel
theorem dX11_step_126 : decode cX11_step 126 = .ok (.aload_n 0, 1) := by decide +kernel
theorem dX11_step_127 : decode cX11_step 127 = .ok (.getfield 25, 3) := by decide +kernel
theorem dX11_step_130 : decode cX11_step 130 = .ok (.iload_n 1, 1) := by decide +kernel
theorem dX11_step_131 : decode cX11_step 131 = .ok (.dup2, 1) := by decide +kernel
theorem dX11_step_132 : decode cX11_step 132 = .ok (.iaload, 1) := by decide +kernel
theorem dX11_step_133 : decode cX11_step 133 = .ok (.iconst 1, 1) := by decide +kernel
theorem dX11_step_134 : decode cX11_step 134 = .ok (.iadd, 1) := by decide +kernel
theorem dX11_step_135 : decode cX11_step 135 = .ok (.iastore, 1) := by decide +kernel
theorem dX11_step_136 : decode cX11_step 136 = .ok (.aload_n 0, 1) := by decide +kernel
theorem dX11_step_137 : decode cX11_step 137 = .ok (.getfield 25, 3) := by decide +kernel
theorem dX11_step_140 : decode cX11_step 140 = .ok (.iload_n 1, 1) := by decide +kernel
theorem dX11_step_141 : decode cX11_step 141 = .ok (.iaload, 1) := by decide +kernel
theorem dX11_step_142 : decode cX11_step 142 = .ok (.ireturn, 1) := by decide +kernel
theorem dX11_upgrade_0 : decode cX11_upgrade 0 = .ok (.aload_n 0, 1) := by decide +kernel
theorem dX11_upgrade_1 : decode cX11_upgrade 1 = .ok (.aload_n 0, 1) := by decide +kernel
theorem dX11_upgrade_2 : decode cX11_upgrade 2 = .ok (.iload_n 1, 1) := by decide +kernel
theorem dX11_upgrade_3 : decode cX11_upgrade 3 = .ok (.invokevirtual 182, 3) := by decide +kernel
theorem dX11_upgrade_6 : decode cX11_upgrade 6 = .ok (.ifCond .ne 7, 3) := by decide +kernel
theorem dX11_upgrade_9 : decode cX11_upgrade 9 = .ok (.iconst 1, 1) := by decide +kernel
theorem dX11_upgrade_10 : decode cX11_upgrade 10 = .ok (.goto 34, 3) := by decide +kernel
theorem dX11_upgrade_13 : decode cX11_upgrade 13 = .ok (.aload_n 0, 1) := by decide +kernel
theorem dX11_upgrade_14 : decode cX11_upgrade 14 = .ok (.iload_n 2, 1) := by decide +kernel
theorem dX11_upgrade_15 : decode cX11_upgrade 15 = .ok (.iconst 1, 1) := by decide +kernel
theorem dX11_upgrade_16 : decode cX11_upgrade 16 = .ok (.sipush 1000, 3) := by decide +kernel
theorem dX11_upgrade_19 : decode cX11_upgrade 19 = .ok (.invokevirtual 178, 3) := by decide +kernel
theorem dX11_upgrade_22 : decode cX11_upgrade 22 = .ok (.ifCond .ne 7, 3) := by decide +kernel
theorem dX11_upgrade_25 : decode cX11_upgrade 25 = .ok (.iconst 2, 1) := by decide +kernel
theorem dX11_upgrade_26 : decode cX11_upgrade 26 = .ok (.goto 18, 3) := by decide +kernel
theorem dX11_upgrade_29 : decode cX11_upgrade 29 = .ok (.aload_n 0, 1) := by decide +kernel
theorem dX11_upgrade_30 : decode cX11_upgrade 30 = .ok (.getfield 34, 3) := by decide +kernel
theorem dX11_upgrade_33 : decode cX11_upgrade 33 = .ok (.iload_n 1, 1) := by decide +kernel
theorem dX11_upgrade_34 : decode cX11_upgrade 34 = .ok (.iaload, 1) := by decide +kernel
theorem dX11_upgrade_35 : decode cX11_upgrade 35 = .ok (.iconst 1, 1) := by decide +kernel
theorem dX11_upgrade_36 : decode cX11_upgrade 36 = .ok (.if_icmp .le 7, 3) := by decide +kernel
theorem dX11_upgrade_39 : decode cX11_upgrade 39 = .ok (.iconst 3, 1) := by decide +kernel
theorem dX11_upgrade_40 : decode cX11_upgrade 40 = .ok (.goto 4, 3) := by decide +kernel
theorem dX11_upgrade_43 : decode cX11_upgrade 43 = .ok (.iconst 0, 1) := by decide +kernel
theorem dX11_upgrade_44 : decode cX11_upgrade 44 = .ok (.invokevirtual 214, 3) := by decide +kernel
theorem dX11_upgrade_47 : decode cX11_upgrade 47 = .ok (.ifCond .eq 5, 3) := by decide +kernel
theorem dX11_upgrade_50 : decode cX11_upgrade 50 = .ok (.iconst (-1), 1) := by decide +kernel
theorem dX11_upgrade_51 : decode cX11_upgrade 51 = .ok (.ireturn, 1) := by decide +kernel
theorem dX11_upgrade_52 : decode cX11_upgrade 52 = .ok (.aload_n 0, 1) := by decide +kernel
theorem dX11_upgrade_53 : decode cX11_upgrade 53 = .ok (.getfield 28, 3) := by decide +kernel
theorem dX11_upgrade_56 : decode cX11_upgrade 56 = .ok (.iload_n 1, 1) := by decide +kernel
theorem dX11_upgrade_57 : decode cX11_upgrade 57 = .ok (.iaload, 1) := by decide +kernel
theorem dX11_upgrade_58 : decode cX11_upgrade 58 = .ok (.istore_n 3, 1) := by decide +kernel
theorem dX11_upgrade_59 : decode cX11_upgrade 59 = .ok (.aload_n 0, 1) := by decide +kernel
theorem dX11_upgrade_60 : decode cX11_upgrade 60 = .ok (.getfield 28, 3) := by decide +kernel
theorem dX11_upgrade_63 : decode cX11_upgrade 63 = .ok (.iload_n 1, 1) := by decide +kernel
theorem dX11_upgrade_64 : decode cX11_upgrade 64 = .ok (.iload_n 2, 1) := by decide +kernel
theorem dX11_upgrade_65 : decode cX11_upgrade 65 = .ok (.iastore, 1) := by decide +kernel
theorem dX11_upgrade_66 : decode cX11_upgrade 66 = .ok (.iload_n 3, 1) := by decide +kernel
theorem dX11_upgrade_67 : decode cX11_upgrade 67 = .ok (.ireturn, 1) := by decide +kernel
theorem dX11_isIn_0 : decode cX11_isIn 0 = .ok (.iconst 0, 1) := by decide +kernel
theorem dX11_isIn_1 : decode cX11_isIn 1 = .ok (.istore 4, 2) := by decide +kernel
theorem dX11_isIn_3 : decode cX11_isIn 3 = .ok (.iload_n 2, 1) := by decide +kernel
theorem dX11_isIn_4 : decode cX11_isIn 4 = .ok (.istore 5, 2) := by decide +kernel
theorem dX11_isIn_6 : decode cX11_isIn 6 = .ok (.iload 5, 2) := by decide +kernel
theorem dX11_isIn_8 : decode cX11_isIn 8 = .ok (.ifCond .lt 85, 3) := by decide +kernel
theorem dX11_isIn_11 : decode cX11_isIn 11 = .ok (.iconst 0, 1) := by decide +kernel
theorem dX11_isIn_12 : decode cX11_isIn 12 = .ok (.istore 6, 2) := by decide +kernel
theorem dX11_isIn_14 : decode cX11_isIn 14 = .ok (.iload 6, 2) := by decide +kernel
theorem dX11_isIn_16 : decode cX11_isIn 16 = .ok (.aload_n 0, 1) := by decide +kernel
theorem dX11_isIn_17 : decode cX11_isIn 17 = .ok (.getfield 95, 3) := by decide +kernel
theorem dX11_isIn_20 : decode cX11_isIn 20 = .ok (.bipush 24, 2) := by decide +kernel
theorem dX11_isIn_22 : decode cX11_isIn 22 = .ok (.iload_n 1, 1) := by decide +kernel
theorem dX11_isIn_23 : decode cX11_isIn 23 = .ok (.imul, 1) := by decide +kernel
theorem dX11_isIn_24 : decode cX11_isIn 24 = .ok (.iload 5, 2) := by decide +kernel
theorem dX11_isIn_26 : decode cX11_isIn 26 = .ok (.iadd, 1) := by decide +kernel
theorem dX11_isIn_27 : decode cX11_isIn 27 = .ok (.iaload, 1) := by decide +kernel
theorem dX11_isIn_28 : decode cX11_isIn 28 = .ok (.if_icmp .ge 48, 3) := by decide +kernel
theorem dX11_isIn_31 : decode cX11_isIn 31 = .ok (.iload 4, 2) := by decide +kernel
theorem dX11_isIn_33 : decode cX11_isIn 33 = .ok (.aload_n 0, 1) := by decide +kernel
theorem dX11_isIn_34 : decode cX11_isIn 34 = .ok (.getfield 101, 3) := by decide +kernel
theorem dX11_isIn_37 : decode cX11_isIn 37 = .ok (.bipush 40, 2) := by decide +kernel
theorem dX11_isIn_39 : decode cX11_isIn 39 = .ok (.bipush 24, 2) := by decide +kernel
theorem dX11_isIn_41 : decode cX11_isIn 41 = .ok (.iload_n 1, 1) := by decide +kernel
theorem dX11_isIn_42 : decode cX11_isIn 42 = .ok (.imul, 1) := by decide +kernel
theorem dX11_isIn_43 : decode cX11_isIn 43 = .ok (.iload 5, 2) := by decide +kernel
theorem dX11_isIn_45 : decode cX11_isIn 45 = .ok (.iadd, 1) := by decide +kernel
theorem dX11_isIn_46 : decode cX11_isIn 46 = .ok (.imul, 1) := by decide +kernel
theorem dX11_isIn_47 : decode cX11_isIn 47 = .ok (.iload 6, 2) := by decide +kernel
theorem dX11_isIn_49 : decode cX11_isIn 49 = .ok (.iadd, 1) := by decide +kernel
theorem dX11_isIn_50 : decode cX11_isIn 50 = .ok (.iaload, 1) := by decide +kernel
theorem dX11_isIn_51 : decode cX11_isIn 51 = .ok (.bipush 10, 2) := by decide +kernel
theorem dX11_isIn_53 : decode cX11_isIn 53 = .ok (.idiv, 1) := by decide +kernel
theorem dX11_isIn_54 : decode cX11_isIn 54 = .ok (.sipush 10000, 3) := by decide +kernel
theorem dX11_isIn_57 : decode cX11_isIn 57 = .ok (.irem, 1) := by decide +kernel
theorem dX11_isIn_58 : decode cX11_isIn 58 = .ok (.iload_n 3, 1) := by decide +kernel
theorem dX11_isIn_59 : decode cX11_isIn 59 = .ok (.if_icmp .ne 7, 3) := by decide +kernel
theorem dX11_isIn_62 : decode cX11_isIn 62 = .ok (.iconst 1, 1) := by decide +kernel
theorem dX11_isIn_63 : decode cX11_isIn 63 = .ok (.goto 4, 3) := by decide +kernel
theorem dX11_isIn_66 : decode cX11_isIn 66 = .ok (.iconst 0, 1) := by decide +kernel
theorem dX11_isIn_67 : decode cX11_isIn 67 = .ok (.ior, 1) := by decide +kernel
theorem dX11_isIn_68 : decode cX11_isIn 68 = .ok (.istore 4, 2) := by decide +kernel
theorem dX11_isIn_70 : decode cX11_isIn 70 = .ok (.iinc 6 1, 3) := by decide +kernel
theorem dX11_isIn_73 : decode cX11_isIn 73 = .ok (.goto (-59), 3) := by decide +kernel
theorem dX11_isIn_76 : decode cX11_isIn 76 = .ok (.aload_n 0, 1) := by decide +kernel
theorem dX11_isIn_77 : decode cX11_isIn 77 = .ok (.getfield 67, 3) := by decide +kernel
theorem dX11_isIn_80 : decode cX11_isIn 80 = .ok (.bipush 24, 2) := by decide +kernel
theorem dX11_isIn_82 : decode cX11_isIn 82 = .ok (.iload_n 1, 1) := by decide +kernel
theorem dX11_isIn_83 : decode cX11_isIn 83 = .ok (.imul, 1) := by decide +kernel
theorem dX11_isIn_84 : decode cX11_isIn 84 = .ok (.iload 5, 2) := by decide +kernel
theorem dX11_isIn_86 : decode cX11_isIn 86 = .ok (.iadd, 1) := by decide +kernel
theorem dX11_isIn_87 : decode cX11_isIn 87 = .ok (.iaload, 1) := by decide +kernel
theorem dX11_isIn_88 : decode cX11_isIn 88 = .ok (.istore 5, 2) := by decide +kernel
theorem dX11_isIn_90 : decode cX11_isIn 90 = .ok (.goto (-84), 3) := by decide +kernel
theorem dX11_isIn_93 : decode cX11_isIn 93 = .ok (.iload 4, 2) := by decide +kernel
theorem dX11_isIn_95 : decode cX11_isIn 95 = .ok (.ireturn, 1) := by decide +kernel
theorem dX11_pooled_0 : decode cX11_pooled 0 = .ok (.aload_n 0, 1) := by decide +kernel
theorem dX11_pooled_1 : decode cX11_pooled 1 = .ok (.getfield 64, 3) := by decide +kernel
theorem dX11_pooled_4 : decode cX11_pooled 4 = .ok (.bipush 40, 2) := by decide +kernel
theorem dX11_pooled_6 : decode cX11_pooled 6 = .ok (.iload_n 1, 1) := by decide +kernel
theorem dX11_pooled_7 : decode cX11_pooled 7 = .ok (.imul, 1) := by decide +kernel
theorem dX11_pooled_8 : decode cX11_pooled 8 = .ok (.iload_n 2, 1) := by decide +kernel
theorem dX11_pooled_9 : decode cX11_pooled 9 = .ok (.iadd, 1) := by decide +kernel
theorem dX11_pooled_10 : decode cX11_pooled 10 = .ok (.iaload, 1) := by decide +kernel
theorem dX11_pooled_11 : decode cX11_pooled 11 = .ok (.ifCond .ne 17, 3) := by decide +kernel
theorem dX11_pooled_14 : decode cX11_pooled 14 = .ok (.aload_n 0, 1) := by decide +kernel
theorem dX11_pooled_15 : decode cX11_pooled 15 = .ok (.iload_n 1, 1) := by decide +kernel
theorem dX11_pooled_16 : decode cX11_pooled 16 = .ok (.iload_n 3, 1) := by decide +kernel
theorem dX11_pooled_17 : decode cX11_pooled 17 = .ok (.iload_n 2, 1) := by decide +kernel
theorem dX11_pooled_18 : decode cX11_pooled 18 = .ok (.invokevirtual 217, 3) := by decide +kernel
theorem dX11_pooled_21 : decode cX11_pooled 21 = .ok (.ifCond .ne 7, 3) := by decide +kernel
theorem dX11_pooled_24 : decode cX11_pooled 24 = .ok (.iconst 1, 1) := by decide +kernel
theorem dX11_pooled_25 : decode cX11_pooled 25 = .ok (.goto 4, 3) := by decide +kernel
theorem dX11_pooled_28 : decode cX11_pooled 28 = .ok (.iconst 0, 1) := by decide +kernel
theorem dX11_pooled_29 : decode cX11_pooled 29 = .ok (.ireturn, 1) := by decide +kernel
theorem dX11_size_0 : decode cX11_size 0 = .ok (.aload_n 0, 1) := by decide +kernel
theorem dX11_size_1 : decode cX11_size 1 = .ok (.iload_n 1, 1) := by decide +kernel
theorem dX11_size_2 : decode cX11_size 2 = .ok (.invokevirtual 220, 3) := by decide +kernel
theorem dX11_size_5 : decode cX11_size 5 = .ok (.istore_n 2, 1) := by decide +kernel
theorem dX11_size_6 : decode cX11_size 6 = .ok (.iconst 0, 1) := by decide +kernel
theorem dX11_size_7 : decode cX11_size 7 = .ok (.istore_n 3, 1) := by decide +kernel
theorem dX11_size_8 : decode cX11_size 8 = .ok (.iconst 0, 1) := by decide +kernel
theorem dX11_size_9 : decode cX11_size 9 = .ok (.istore 4, 2) := by decide +kernel
theorem dX11_size_11 : decode cX11_size 11 = .ok (.iload 4, 2) := by decide +kernel
theorem dX11_size_13 : decode cX11_size 13 = .ok (.aload_n 0, 1) := by decide +kernel
theorem dX11_size_14 : decode cX11_size 14 = .ok (.getfield 31, 3) := by decide +kernel
theorem dX11_size_17 : decode cX11_size 17 = .ok (.iload_n 1, 1) := by decide +kernel
theorem dX11_size_18 : decode cX11_size 18 = .ok (.iaload, 1) := by decide +kernel
theorem dX11_size_19 : decode cX11_size 19 = .ok (.if_icmp .ge 28, 3) := by decide +kernel
theorem dX11_size_22 : decode cX11_size 22 = .ok (.iload_n 3, 1) := by decide +kernel
theorem dX11_size_23 : decode cX11_size 23 = .ok (.aload_n 0, 1) := by decide +kernel
theorem dX11_size_24 : decode cX11_size 24 = .ok (.iload_n 1, 1) := by decide +kernel
theorem dX11_size_25 : decode cX11_size 25 = .ok (.iload 4, 2) := by decide +kernel
theorem dX11_size_27 : decode cX11_size 27 = .ok (.iload_n 2, 1) := by decide +kernel
theorem dX11_size_28 : decode cX11_size 28 = .ok (.invokevirtual 223, 3) := by decide +kernel
theorem dX11_size_31 : decode cX11_size 31 = .ok (.ifCond .eq 7, 3) := by decide +kernel
theorem dX11_size_34 : decode cX11_size 34 = .ok (.iconst 1, 1) := by decide +kernel
theorem dX11_size_35 : decode cX11_size 35 = .ok (.goto 4, 3) := by decide +kernel
theorem dX11_size_38 : decode cX11_size 38 = .ok (.iconst 0, 1) := by decide +kernel
theorem dX11_size_39 : decode cX11_size 39 = .ok (.iadd, 1) := by decide +kernel
theorem dX11_size_40 : decode cX11_size 40 = .ok (.istore_n 3, 1) := by decide +kernel
theorem dX11_size_41 : decode cX11_size 41 = .ok (.iinc 4 1, 3) := by decide +kernel
theorem dX11_size_44 : decode cX11_size 44 = .ok (.goto (-33), 3) := by decide +kernel
theorem dX11_size_47 : decode cX11_size 47 = .ok (.iload_n 3, 1) := by decide +kernel
theorem dX11_size_48 : decode cX11_size 48 = .ok (.ireturn, 1) := by decide +kernel
theorem dX11_enter_0 : decode cX11_enter 0 = .ok (.aload_n 0, 1) := by decide +kernel
theorem dX11_enter_1 : decode cX11_enter 1 = .ok (.iload_n 1, 1) := by decide +kernel
theorem dX11_enter_2 : decode cX11_enter 2 = .ok (.invokevirtual 220, 3) := by decide +kernel
theorem dX11_enter_5 : decode cX11_enter 5 = .ok (.istore 10, 2) := by decide +kernel
theorem dX11_enter_7 : decode cX11_enter 7 = .ok (.iconst 0, 1) := by decide +kernel
theorem dX11_enter_8 : decode cX11_enter 8 = .ok (.istore 11, 2) := by decide +kernel
theorem dX11_enter_10 : decode cX11_enter 10 = .ok (.iconst (-1), 1) := by decide +kernel
theorem dX11_enter_11 : decode cX11_enter 11 = .ok (.istore 12, 2) := by decide +kernel
theorem dX11_enter_13 : decode cX11_enter 13 = .ok (.iconst 0, 1) := by decide +kernel
theorem dX11_enter_14 : decode cX11_enter 14 = .ok (.istore 13, 2) := by decide +kernel
theorem dX11_enter_16 : decode cX11_enter 16 = .ok (.iload 13, 2) := by decide +kernel
theorem dX11_enter_18 : decode cX11_enter 18 = .ok (.aload_n 0, 1) := by decide +kernel
theorem dX11_enter_19 : decode cX11_enter 19 = .ok (.getfield 31, 3) := by decide +kernel
theorem dX11_enter_22 : decode cX11_enter 22 = .ok (.iload_n 1, 1) := by decide +kernel
theorem dX11_enter_23 : decode cX11_enter 23 = .ok (.iaload, 1) := by decide +kernel
theorem dX11_enter_24 : decode cX11_enter 24 = .ok (.if_icmp .ge 133, 3) := by decide +kernel
theorem dX11_enter_27 : decode cX11_enter 27 = .ok (.bipush 40, 2) := by decide +kernel
theorem dX11_enter_29 : decode cX11_enter 29 = .ok (.iload_n 1, 1) := by decide +kernel
theorem dX11_enter_30 : decode cX11_enter 30 = .ok (.imul, 1) := by decide +kernel
theorem dX11_enter_31 : decode cX11_enter 31 = .ok (.iload 13, 2) := by decide +kernel
theorem dX11_enter_33 : decode cX11_enter 33 = .ok (.iadd, 1) := by decide +kernel
theorem dX11_enter_34 : decode cX11_enter 34 = .ok (.istore 14, 2) := by decide +kernel
theorem dX11_enter_36 : decode cX11_enter 36 = .ok (.aload_n 0, 1) := by decide +kernel
theorem dX11_enter_37 : decode cX11_enter 37 = .ok (.iload_n 1, 1) := by decide +kernel
theorem dX11_enter_38 : decode cX11_enter 38 = .ok (.iload 13, 2) := by decide +kernel
theorem dX11_enter_40 : decode cX11_enter 40 = .ok (.iload 10, 2) := by decide +kernel
theorem dX11_enter_42 : decode cX11_enter 42 = .ok (.invokevirtual 223, 3) := by decide +kernel
theorem dX11_enter_45 : decode cX11_enter 45 = .ok (.istore 15, 2) := by decide +kernel
theorem dX11_enter_47 : decode cX11_enter 47 = .ok (.iload 15, 2) := by decide +kernel
theorem dX11_enter_49 : decode cX11_enter 49 = .ok (.ifCond .eq 66, 3) := by decide +kernel
theorem dX11_enter_52 : decode cX11_enter 52 = .ok (.aload_n 0, 1) := by decide +kernel
theorem dX11_enter_53 : decode cX11_enter 53 = .ok (.getfield 40, 3) := by decide +kernel
theorem dX11_enter_56 : decode cX11_enter 56 = .ok (.iload 14, 2) := by decide +kernel
theorem dX11_enter_58 : decode cX11_enter 58 = .ok (.iaload, 1) := by decide +kernel
theorem dX11_enter_59 : decode cX11_enter 59 = .ok (.iload_n 2, 1) := by decide +kernel
theorem dX11_enter_60 : decode cX11_enter 60 = .ok (.if_icmp .ne 55, 3) := by decide +kernel
theorem dX11_enter_63 : decode cX11_enter 63 = .ok (.aload_n 0, 1) := by decide +kernel
theorem dX11_enter_64 : decode cX11_enter 64 = .ok (.getfield 43, 3) := by decide +kernel
theorem dX11_enter_67 : decode cX11_enter 67 = .ok (.iload 14, 2) := by decide +kernel
theorem dX11_enter_69 : decode cX11_enter 69 = .ok (.iaload, 1) := by decide +kernel
theorem dX11_enter_70 : decode cX11_enter 70 = .ok (.iload_n 3, 1) := by decide +kernel
theorem dX11_enter_71 : decode cX11_enter 71 = .ok (.if_icmp .ne 44, 3) := by decide +kernel
theorem dX11_enter_74 : decode cX11_enter 74 = .ok (.iinc 11 1, 3) := by decide +kernel
theorem dX11_enter_77 : decode cX11_enter 77 = .ok (.bipush 10, 2) := by decide +kernel
theorem dX11_enter_79 : decode cX11_enter 79 = .ok (.iload 8, 2) := by decide +kernel
theorem dX11_enter_81 : decode cX11_enter 81 = .ok (.imul, 1) := by decide +kernel
theorem dX11_enter_82 : decode cX11_enter 82 = .ok (.bipush 11, 2) := by decide +kernel
theorem dX11_enter_84 : decode cX11_enter 84 = .ok (.aload_n 0, 1) := by decide +kernel
theorem dX11_enter_85 : decode cX11_enter 85 = .ok (.getfield 58, 3) := by decide +kernel
theorem dX11_enter_88 : decode cX11_enter 88 = .ok (.iload 14, 2) := by decide +kernel
theorem dX11_enter_90 : decode cX11_enter 90 = .ok (.iaload, 1) := by decide +kernel
theorem dX11_enter_91 : decode cX11_enter 91 = .ok (.imul, 1) := by decide +kernel
theorem dX11_enter_92 : decode cX11_enter 92 = .ok (.if_icmp .lt 21, 3) := by decide +kernel
theorem dX11_enter_95 : decode cX11_enter 95 = .ok (.bipush 10, 2) := by decide +kernel
theorem dX11_enter_97 : decode cX11_enter 97 = .ok (.iload 9, 2) := by decide +kernel
theorem dX11_enter_99 : decode cX11_enter 99 = .ok (.imul, 1) := by decide +kernel
theorem dX11_enter_100 : decode cX11_enter 100 = .ok (.bipush 11, 2) := by decide +kernel
theorem dX11_enter_102 : decode cX11_enter 102 = .ok (.aload_n 0, 1) := by decide +kernel
theorem dX11_enter_103 : decode cX11_enter 103 = .ok (.getfield 61, 3) := by decide +kernel
theorem dX11_enter_106 : decode cX11_enter 106 = .ok (.iload 14, 2) := by decide +kernel
theorem dX11_enter_108 : decode cX11_enter 108 = .ok (.iaload, 1) := by decide +kernel
theorem dX11_enter_109 : decode cX11_enter 109 = .ok (.imul, 1) := by decide +kernel
theorem dX11_enter_110 : decode cX11_enter 110 = .ok (.if_icmp .ge 5, 3) := by decide +kernel
theorem dX11_enter_113 : decode cX11_enter 113 = .ok (.iconst (-1), 1) := by decide +kernel
theorem dX11_enter_114 : decode cX11_enter 114 = .ok (.ireturn, 1) := by decide +kernel
theorem dX11_enter_115 : decode cX11_enter 115 = .ok (.iload 15, 2) := by decide +kernel
theorem dX11_enter_117 : decode cX11_enter 117 = .ok (.ifCond .eq 30, 3) := by decide +kernel
theorem dX11_enter_120 : decode cX11_enter 120 = .ok (.iload 12, 2) := by decide +kernel
theorem dX11_enter_122 : decode cX11_enter 122 = .ok (.ifCond .lt 20, 3) := by decide +kernel
theorem dX11_enter_125 : decode cX11_enter 125 = .ok (.aload_n 0, 1) := by decide +kernel
theorem dX11_enter_126 : decode cX11_enter 126 = .ok (.getfield 61, 3) := by decide +kernel
theorem dX11_enter_129 : decode cX11_enter 129 = .ok (.iload 14, 2) := by decide +kernel
theorem dX11_enter_131 : decode cX11_enter 131 = .ok (.iaload, 1) := by decide +kernel
theorem dX11_enter_132 : decode cX11_enter 132 = .ok (.aload_n 0, 1) := by decide +kernel
theorem dX11_enter_133 : decode cX11_enter 133 = .ok (.getfield 61, 3) := by decide +kernel
theorem dX11_enter_136 : decode cX11_enter 136 = .ok (.iload 12, 2) := by decide +kernel
theorem dX11_enter_138 : decode cX11_enter 138 = .ok (.iaload, 1) := by decide +kernel
theorem dX11_enter_139 : decode cX11_enter 139 = .ok (.if_icmp .gt 8, 3) := by decide +kernel
theorem dX11_enter_142 : decode cX11_enter 142 = .ok (.iload 14, 2) := by decide +kernel
theorem dX11_enter_144 : decode cX11_enter 144 = .ok (.goto 5, 3) := by decide +kernel
theorem dX11_enter_147 : decode cX11_enter 147 = .ok (.iload 12, 2) := by decide +kernel
theorem dX11_enter_149 : decode cX11_enter 149 = .ok (.istore 12, 2) := by decide +kernel
theorem dX11_enter_151 : decode cX11_enter 151 = .ok (.iinc 13 1, 3) := by decide +kernel
theorem dX11_enter_154 : decode cX11_enter 154 = .ok (.goto (-138), 3) := by decide +kernel
theorem dX11_enter_157 : decode cX11_enter 157 = .ok (.iload 11, 2) := by decide +kernel
theorem dX11_enter_159 : decode cX11_enter 159 = .ok (.ifCond .ne 35, 3) := by decide +kernel
theorem dX11_enter_162 : decode cX11_enter 162 = .ok (.aload_n 0, 1) := by decide +kernel
theorem dX11_enter_163 : decode cX11_enter 163 = .ok (.iload_n 1, 1) := by decide +kernel
theorem dX11_enter_164 : decode cX11_enter 164 = .ok (.invokevirtual 226, 3) := by decide +kernel
theorem dX11_enter_167 : decode cX11_enter 167 = .ok (.bipush 10, 2) := by decide +kernel
theorem dX11_enter_169 : decode cX11_enter 169 = .ok (.if_icmp .lt 25, 3) := by decide +kernel
theorem dX11_enter_172 : decode cX11_enter 172 = .ok (.aload_n 0, 1) := by decide +kernel
theorem dX11_enter_173 : decode cX11_enter 173 = .ok (.getfield 61, 3) := by decide +kernel
theorem dX11_enter_176 : decode cX11_enter 176 = .ok (.iload 12, 2) := by decide +kernel
theorem dX11_enter_178 : decode cX11_enter 178 = .ok (.iaload, 1) := by decide +kernel
theorem dX11_enter_179 : decode cX11_enter 179 = .ok (.iload 9, 2) := by decide +kernel
theorem dX11_enter_181 : decode cX11_enter 181 = .ok (.if_icmp .lt 5, 3) := by decide +kernel
theorem dX11_enter_184 : decode cX11_enter 184 = .ok (.iconst (-1), 1) := by decide +kernel
theorem dX11_enter_185 : decode cX11_enter 185 = .ok (.ireturn, 1) := by decide +kernel
theorem dX11_enter_186 : decode cX11_enter 186 = .ok (.aload_n 0, 1) := by decide +kernel
theorem dX11_enter_187 : decode cX11_enter 187 = .ok (.getfield 64, 3) := by decide +kernel
theorem dX11_enter_190 : decode cX11_enter 190 = .ok (.iload 12, 2) := by decide +kernel
theorem dX11_enter_192 : decode cX11_enter 192 = .ok (.iconst 1, 1) := by decide +kernel
theorem dX11_enter_193 : decode cX11_enter 193 = .ok (.iastore, 1) := by decide +kernel
theorem dX11_enter_194 : decode cX11_enter 194 = .ok (.iconst 0, 1) := by decide +kernel
theorem dX11_enter_195 : decode cX11_enter 195 = .ok (.istore 13, 2) := by decide +kernel
theorem dX11_enter_197 : decode cX11_enter 197 = .ok (.iload 13, 2) := by decide +kernel
theorem dX11_enter_199 : decode cX11_enter 199 = .ok (.aload_n 0, 1) := by decide +kernel
theorem dX11_enter_200 : decode cX11_enter 200 = .ok (.getfield 31, 3) := by decide +kernel
theorem dX11_enter_203 : decode cX11_enter 203 = .ok (.iload_n 1, 1) := by decide +kernel
theorem dX11_enter_204 : decode cX11_enter 204 = .ok (.iaload, 1) := by decide +kernel
theorem dX11_enter_205 : decode cX11_enter 205 = .ok (.if_icmp .ge 70, 3) := by decide +kernel
theorem dX11_enter_208 : decode cX11_enter 208 = .ok (.bipush 40, 2) := by decide +kernel
theorem dX11_enter_210 : decode cX11_enter 210 = .ok (.iload_n 1, 1) := by decide +kernel
theorem dX11_enter_211 : decode cX11_enter 211 = .ok (.imul, 1) := by decide +kernel
theorem dX11_enter_212 : decode cX11_enter 212 = .ok (.iload 13, 2) := by decide +kernel
theorem dX11_enter_214 : decode cX11_enter 214 = .ok (.iadd, 1) := by decide +kernel
theorem dX11_enter_215 : decode cX11_enter 215 = .ok (.istore 14, 2) := by decide +kernel
theorem dX11_enter_217 : decode cX11_enter 217 = .ok (.aload_n 0, 1) := by decide +kernel
theorem dX11_enter_218 : decode cX11_enter 218 = .ok (.getfield 64, 3) := by decide +kernel
theorem dX11_enter_221 : decode cX11_enter 221 = .ok (.iload 14, 2) := by decide +kernel
theorem dX11_enter_223 : decode cX11_enter 223 = .ok (.aload_n 0, 1) := by decide +kernel
theorem dX11_enter_224 : decode cX11_enter 224 = .ok (.iload_n 1, 1) := by decide +kernel
theorem dX11_enter_225 : decode cX11_enter 225 = .ok (.iload 13, 2) := by decide +kernel
theorem dX11_enter_227 : decode cX11_enter 227 = .ok (.iload 10, 2) := by decide +kernel
theorem dX11_enter_229 : decode cX11_enter 229 = .ok (.invokevirtual 223, 3) := by decide +kernel
theorem dX11_enter_232 : decode cX11_enter 232 = .ok (.ifCond .eq 29, 3) := by decide +kernel
theorem dX11_enter_235 : decode cX11_enter 235 = .ok (.aload_n 0, 1) := by decide +kernel
theorem dX11_enter_236 : decode cX11_enter 236 = .ok (.getfield 40, 3) := by decide +kernel
theorem dX11_enter_239 : decode cX11_enter 239 = .ok (.iload 14, 2) := by decide +kernel
theorem dX11_enter_241 : decode cX11_enter 241 = .ok (.iaload, 1) := by decide +kernel
theorem dX11_enter_242 : decode cX11_enter 242 = .ok (.iload_n 2, 1) := by decide +kernel
theorem dX11_enter_243 : decode cX11_enter 243 = .ok (.if_icmp .ne 18, 3) := by decide +kernel
theorem dX11_enter_246 : decode cX11_enter 246 = .ok (.aload_n 0, 1) := by decide +kernel
theorem dX11_enter_247 : decode cX11_enter 247 = .ok (.getfield 43, 3) := by decide +kernel
theorem dX11_enter_250 : decode cX11_enter 250 = .ok (.iload 14, 2) := by decide +kernel
theorem dX11_enter_252 : decode cX11_enter 252 = .ok (.iaload, 1) := by decide +kernel
theorem dX11_enter_253 : decode cX11_enter 253 = .ok (.iload_n 3, 1) := by decide +kernel
theorem dX11_enter_254 : decode cX11_enter 254 = .ok (.if_icmp .ne 7, 3) := by decide +kernel
theorem dX11_enter_257 : decode cX11_enter 257 = .ok (.iconst 1, 1) := by decide +kernel
theorem dX11_enter_258 : decode cX11_enter 258 = .ok (.goto 10, 3) := by decide +kernel
theorem dX11_enter_261 : decode cX11_enter 261 = .ok (.aload_n 0, 1) := by decide +kernel
theorem dX11_enter_262 : decode cX11_enter 262 = .ok (.getfield 64, 3) := by decide +kernel
theorem dX11_enter_265 : decode cX11_enter 265 = .ok (.iload 14, 2) := by decide +kernel
theorem dX11_enter_267 : decode cX11_enter 267 = .ok (.iaload, 1) := by decide +kernel
theorem dX11_enter_268 : decode cX11_enter 268 = .ok (.iastore, 1) := by decide +kernel
theorem dX11_enter_269 : decode cX11_enter 269 = .ok (.iinc 13 1, 3) := by decide +kernel
theorem dX11_enter_272 : decode cX11_enter 272 = .ok (.goto (-75), 3) := by decide +kernel
theorem dX11_enter_275 : decode cX11_enter 275 = .ok (.bipush 40, 2) := by decide +kernel
theorem dX11_enter_277 : decode cX11_enter 277 = .ok (.iload_n 1, 1) := by decide +kernel
theorem dX11_enter_278 : decode cX11_enter 278 = .ok (.imul, 1) := by decide +kernel
theorem dX11_enter_279 : decode cX11_enter 279 = .ok (.aload_n 0, 1) := by decide +kernel
theorem dX11_enter_280 : decode cX11_enter 280 = .ok (.getfield 31, 3) := by decide +kernel
theorem dX11_enter_283 : decode cX11_enter 283 = .ok (.iload_n 1, 1) := by decide +kernel
theorem dX11_enter_284 : decode cX11_enter 284 = .ok (.iaload, 1) := by decide +kernel
theorem dX11_enter_285 : decode cX11_enter 285 = .ok (.iadd, 1) := by decide +kernel
theorem dX11_enter_286 : decode cX11_enter 286 = .ok (.istore 13, 2) := by decide +kernel
theorem dX11_enter_288 : decode cX11_enter 288 = .ok (.aload_n 0, 1) := by decide +kernel
theorem dX11_enter_289 : decode cX11_enter 289 = .ok (.getfield 40, 3) := by decide +kernel
theorem dX11_enter_292 : decode cX11_enter 292 = .ok (.iload 13, 2) := by decide +kernel
theorem dX11_enter_294 : decode cX11_enter 294 = .ok (.iload_n 2, 1) := by decide +kernel
theorem dX11_enter_295 : decode cX11_enter 295 = .ok (.iastore, 1) := by decide +kernel
theorem dX11_enter_296 : decode cX11_enter 296 = .ok (.aload_n 0, 1) := by decide +kernel
theorem dX11_enter_297 : decode cX11_enter 297 = .ok (.getfield 43, 3) := by decide +kernel
theorem dX11_enter_300 : decode cX11_enter 300 = .ok (.iload 13, 2) := by decide +kernel
theorem dX11_enter_302 : decode cX11_enter 302 = .ok (.iload_n 3, 1) := by decide +kernel
theorem dX11_enter_303 : decode cX11_enter 303 = .ok (.iastore, 1) := by decide +kernel
theorem dX11_enter_304 : decode cX11_enter 304 = .ok (.aload_n 0, 1) := by decide +kernel
theorem dX11_enter_305 : decode cX11_enter 305 = .ok (.getfield 46, 3) := by decide +kernel
theorem dX11_enter_308 : decode cX11_enter 308 = .ok (.iload 13, 2) := by decide +kernel
theorem dX11_enter_310 : decode cX11_enter 310 = .ok (.iload 4, 2) := by decide +kernel
theorem dX11_enter_312 : decode cX11_enter 312 = .ok (.iastore, 1) := by decide +kernel
theorem dX11_enter_313 : decode cX11_enter 313 = .ok (.aload_n 0, 1) := by decide +kernel
theorem dX11_enter_314 : decode cX11_enter 314 = .ok (.getfield 49, 3) := by decide +kernel
theorem dX11_enter_317 : decode cX11_enter 317 = .ok (.iload 13, 2) := by decide +kernel
theorem dX11_enter_319 : decode cX11_enter 319 = .ok (.iload 5, 2) := by decide +kernel
theorem dX11_enter_321 : decode cX11_enter 321 = .ok (.iastore, 1) := by decide +kernel
theorem dX11_enter_322 : decode cX11_enter 322 = .ok (.aload_n 0, 1) := by decide +kernel
theorem dX11_enter_323 : decode cX11_enter 323 = .ok (.getfield 52, 3) := by decide +kernel
theorem dX11_enter_326 : decode cX11_enter 326 = .ok (.iload 13, 2) := by decide +kernel
theorem dX11_enter_328 : decode cX11_enter 328 = .ok (.iload 6, 2) := by decide +kernel
theorem dX11_enter_330 : decode cX11_enter 330 = .ok (.iastore, 1) := by decide +kernel
theorem dX11_enter_331 : decode cX11_enter 331 = .ok (.aload_n 0, 1) := by decide +kernel
theorem dX11_enter_332 : decode cX11_enter 332 = .ok (.getfield 55, 3) := by decide +kernel
theorem dX11_enter_335 : decode cX11_enter 335 = .ok (.iload 13, 2) := by decide +kernel
theorem dX11_enter_337 : decode cX11_enter 337 = .ok (.iload 7, 2) := by decide +kernel
theorem dX11_enter_339 : decode cX11_enter 339 = .ok (.iastore, 1) := by decide +kernel
theorem dX11_enter_340 : decode cX11_enter 340 = .ok (.aload_n 0, 1) := by decide +kernel
theorem dX11_enter_341 : decode cX11_enter 341 = .ok (.getfield 58, 3) := by decide +kernel
theorem dX11_enter_344 : decode cX11_enter 344 = .ok (.iload 13, 2) := by decide +kernel
theorem dX11_enter_346 : decode cX11_enter 346 = .ok (.iload 8, 2) := by decide +kernel
theorem dX11_enter_348 : decode cX11_enter 348 = .ok (.iastore, 1) := by decide +kernel
theorem dX11_enter_349 : decode cX11_enter 349 = .ok (.aload_n 0, 1) := by decide +kernel
theorem dX11_enter_350 : decode cX11_enter 350 = .ok (.getfield 61, 3) := by decide +kernel
theorem dX11_enter_353 : decode cX11_enter 353 = .ok (.iload 13, 2) := by decide +kernel
theorem dX11_enter_355 : decode cX11_enter 355 = .ok (.iload 9, 2) := by decide +kernel
theorem dX11_enter_357 : decode cX11_enter 357 = .ok (.iastore, 1) := by decide +kernel
theorem dX11_enter_358 : decode cX11_enter 358 = .ok (.aload_n 0, 1) := by decide +kernel
theorem dX11_enter_359 : decode cX11_enter 359 = .ok (.iconst 1, 1) := by decide +kernel
theorem dX11_enter_360 : decode cX11_enter 360 = .ok (.putfield 210, 3) := by decide +kernel
theorem dX11_enter_363 : decode cX11_enter 363 = .ok (.aload_n 0, 1) := by decide +kernel
theorem dX11_enter_364 : decode cX11_enter 364 = .ok (.getfield 31, 3) := by decide +kernel
theorem dX11_enter_367 : decode cX11_enter 367 = .ok (.iload_n 1, 1) := by decide +kernel
theorem dX11_enter_368 : decode cX11_enter 368 = .ok (.dup2, 1) := by decide +kernel
theorem dX11_enter_369 : decode cX11_enter 369 = .ok (.iaload, 1) := by decide +kernel
theorem dX11_enter_370 : decode cX11_enter 370 = .ok (.iconst 1, 1) := by decide +kernel
theorem dX11_enter_371 : decode cX11_enter 371 = .ok (.iadd, 1) := by decide +kernel
theorem dX11_enter_372 : decode cX11_enter 372 = .ok (.iastore, 1) := by decide +kernel
theorem dX11_enter_373 : decode cX11_enter 373 = .ok (.aload_n 0, 1) := by decide +kernel
theorem dX11_enter_374 : decode cX11_enter 374 = .ok (.getfield 31, 3) := by decide +kernel
theorem dX11_enter_377 : decode cX11_enter 377 = .ok (.iload_n 1, 1) := by decide +kernel
theorem dX11_enter_378 : decode cX11_enter 378 = .ok (.iaload, 1) := by decide +kernel
theorem dX11_enter_379 : decode cX11_enter 379 = .ok (.iconst 1, 1) := by decide +kernel
theorem dX11_enter_380 : decode cX11_enter 380 = .ok (.isub, 1) := by decide +kernel
theorem dX11_enter_381 : decode cX11_enter 381 = .ok (.ireturn, 1) := by decide +kernel
theorem dX11_submit_0 : decode cX11_submit 0 = .ok (.aload_n 0, 1) := by decide +kernel
theorem dX11_submit_1 : decode cX11_submit 1 = .ok (.iload_n 3, 1) := by decide +kernel
theorem dX11_submit_2 : decode cX11_submit 2 = .ok (.iconst 0, 1) := by decide +kernel
theorem dX11_submit_3 : decode cX11_submit 3 = .ok (.bipush 9, 2) := by decide +kernel
theorem dX11_submit_5 : decode cX11_submit 5 = .ok (.invokevirtual 178, 3) := by decide +kernel
theorem dX11_submit_8 : decode cX11_submit 8 = .ok (.ifCond .eq 83, 3) := by decide +kernel
theorem dX11_submit_11 : decode cX11_submit 11 = .ok (.aload_n 0, 1) := by decide +kernel
theorem dX11_submit_12 : decode cX11_submit 12 = .ok (.iload 4, 2) := by decide +kernel
theorem dX11_submit_14 : decode cX11_submit 14 = .ok (.iconst 0, 1) := by decide +kernel
theorem dX11_submit_15 : decode cX11_submit 15 = .ok (.bipush 23, 2) := by decide +kernel
theorem dX11_submit_17 : decode cX11_submit 17 = .ok (.invokevirtual 178, 3) := by decide +kernel
theorem dX11_submit_20 : decode cX11_submit 20 = .ok (.ifCond .eq 71, 3) := by decide +kernel
theorem dX11_submit_23 : decode cX11_submit 23 = .ok (.aload_n 0, 1) := by decide +kernel
theorem dX11_submit_24 : decode cX11_submit 24 = .ok (.iload 5, 2) := by decide +kernel
theorem dX11_submit_26 : decode cX11_submit 26 = .ok (.iconst 0, 1) := by decide +kernel
theorem dX11_submit_27 : decode cX11_submit 27 = .ok (.sipush 10000, 3) := by decide +kernel
theorem dX11_submit_30 : decode cX11_submit 30 = .ok (.invokevirtual 178, 3) := by decide +kernel
theorem dX11_submit_33 : decode cX11_submit 33 = .ok (.ifCond .eq 58, 3) := by decide +kernel
theorem dX11_submit_36 : decode cX11_submit 36 = .ok (.aload_n 0, 1) := by decide +kernel
theorem dX11_submit_37 : decode cX11_submit 37 = .ok (.iload 6, 2) := by decide +kernel
theorem dX11_submit_39 : decode cX11_submit 39 = .ok (.iconst 0, 1) := by decide +kernel
theorem dX11_submit_40 : decode cX11_submit 40 = .ok (.sipush 9999, 3) := by decide +kernel
theorem dX11_submit_43 : decode cX11_submit 43 = .ok (.invokevirtual 178, 3) := by decide +kernel
theorem dX11_submit_46 : decode cX11_submit 46 = .ok (.ifCond .eq 45, 3) := by decide +kernel
theorem dX11_submit_49 : decode cX11_submit 49 = .ok (.aload_n 0, 1) := by decide +kernel
theorem dX11_submit_50 : decode cX11_submit 50 = .ok (.iload 7, 2) := by decide +kernel
theorem dX11_submit_52 : decode cX11_submit 52 = .ok (.bipush 20, 2) := by decide +kernel
theorem dX11_submit_54 : decode cX11_submit 54 = .ok (.sipush 600, 3) := by decide +kernel
theorem dX11_submit_57 : decode cX11_submit 57 = .ok (.invokevirtual 178, 3) := by decide +kernel
theorem dX11_submit_60 : decode cX11_submit 60 = .ok (.ifCond .eq 31, 3) := by decide +kernel
theorem dX11_submit_63 : decode cX11_submit 63 = .ok (.aload_n 0, 1) := by decide +kernel
theorem dX11_submit_64 : decode cX11_submit 64 = .ok (.iload 8, 2) := by decide +kernel
theorem dX11_submit_66 : decode cX11_submit 66 = .ok (.iconst 1, 1) := by decide +kernel
theorem dX11_submit_67 : decode cX11_submit 67 = .ok (.bipush 100, 2) := by decide +kernel
theorem dX11_submit_69 : decode cX11_submit 69 = .ok (.invokevirtual 178, 3) := by decide +kernel
theorem dX11_submit_72 : decode cX11_submit 72 = .ok (.ifCond .eq 19, 3) := by decide +kernel
theorem dX11_submit_75 : decode cX11_submit 75 = .ok (.aload_n 0, 1) := by decide +kernel
theorem dX11_submit_76 : decode cX11_submit 76 = .ok (.iload 9, 2) := by decide +kernel
theorem dX11_submit_78 : decode cX11_submit 78 = .ok (.iconst 0, 1) := by decide +kernel
theorem dX11_submit_79 : decode cX11_submit 79 = .ok (.iload 8, 2) := by decide +kernel
theorem dX11_submit_81 : decode cX11_submit 81 = .ok (.invokevirtual 178, 3) := by decide +kernel
theorem dX11_submit_84 : decode cX11_submit 84 = .ok (.ifCond .eq 7, 3) := by decide +kernel
theorem dX11_submit_87 : decode cX11_submit 87 = .ok (.iconst 1, 1) := by decide +kernel
theorem dX11_submit_88 : decode cX11_submit 88 = .ok (.goto 4, 3) := by decide +kernel
theorem dX11_submit_91 : decode cX11_submit 91 = .ok (.iconst 0, 1) := by decide +kernel
theorem dX11_submit_92 : decode cX11_submit 92 = .ok (.istore 10, 2) := by decide +kernel
theorem dX11_submit_94 : decode cX11_submit 94 = .ok (.aload_n 0, 1) := by decide +kernel
theorem dX11_submit_95 : decode cX11_submit 95 = .ok (.aload_n 0, 1) := by decide +kernel
theorem dX11_submit_96 : decode cX11_submit 96 = .ok (.iload_n 1, 1) := by decide +kernel
theorem dX11_submit_97 : decode cX11_submit 97 = .ok (.invokevirtual 182, 3) := by decide +kernel
theorem dX11_submit_100 : decode cX11_submit 100 = .ok (.ifCond .eq 13, 3) := by decide +kernel
theorem dX11_submit_103 : decode cX11_submit 103 = .ok (.aload_n 0, 1) := by decide +kernel
theorem dX11_submit_104 : decode cX11_submit 104 = .ok (.iload_n 2, 1) := by decide +kernel
theorem dX11_submit_105 : decode cX11_submit 105 = .ok (.iconst 0, 1) := by decide +kernel
theorem dX11_submit_106 : decode cX11_submit 106 = .ok (.iconst 5, 1) := by decide +kernel
theorem dX11_submit_107 : decode cX11_submit 107 = .ok (.invokevirtual 178, 3) := by decide +kernel
theorem dX11_submit_110 : decode cX11_submit 110 = .ok (.ifCond .ne 7, 3) := by decide +kernel
theorem dX11_submit_113 : decode cX11_submit 113 = .ok (.iconst 1, 1) := by decide +kernel
theorem dX11_submit_114 : decode cX11_submit 114 = .ok (.goto 28, 3) := by decide +kernel
theorem dX11_submit_117 : decode cX11_submit 117 = .ok (.iload 10, 2) := by decide +kernel
theorem dX11_submit_119 : decode cX11_submit 119 = .ok (.ifCond .ne 7, 3) := by decide +kernel
theorem dX11_submit_122 : decode cX11_submit 122 = .ok (.iconst 2, 1) := by decide +kernel
theorem dX11_submit_123 : decode cX11_submit 123 = .ok (.goto 19, 3) := by decide +kernel
theorem dX11_submit_126 : decode cX11_submit 126 = .ok (.aload_n 0, 1) := by decide +kernel
theorem dX11_submit_127 : decode cX11_submit 127 = .ok (.getfield 31, 3) := by decide +kernel
theorem dX11_submit_130 : decode cX11_submit 130 = .ok (.iload_n 1, 1) := by decide +kernel
theorem dX11_submit_131 : decode cX11_submit 131 = .ok (.iaload, 1) := by decide +kernel
theorem dX11_submit_132 : decode cX11_submit 132 = .ok (.bipush 40, 2) := by decide +kernel
theorem dX11_submit_134 : decode cX11_submit 134 = .ok (.if_icmp .ne 7, 3) := by decide +kernel
theorem dX11_submit_137 : decode cX11_submit 137 = .ok (.iconst 3, 1) := by decide +kernel
theorem dX11_submit_138 : decode cX11_submit 138 = .ok (.goto 4, 3) := by decide +kernel
theorem dX11_submit_141 : decode cX11_submit 141 = .ok (.iconst 0, 1) := by decide +kernel
theorem dX11_submit_142 : decode cX11_submit 142 = .ok (.invokevirtual 214, 3) := by decide +kernel
theorem dX11_submit_145 : decode cX11_submit 145 = .ok (.ifCond .eq 5, 3) := by decide +kernel
theorem dX11_submit_148 : decode cX11_submit 148 = .ok (.iconst (-1), 1) := by decide +kernel
theorem dX11_submit_149 : decode cX11_submit 149 = .ok (.ireturn, 1) := by decide +kernel
theorem dX11_submit_150 : decode cX11_submit 150 = .ok (.aload_n 0, 1) := by decide +kernel
theorem dX11_submit_151 : decode cX11_submit 151 = .ok (.iload_n 1, 1) := by decide +kernel
theorem dX11_submit_152 : decode cX11_submit 152 = .ok (.iload_n 2, 1) := by decide +kernel
theorem dX11_submit_153 : decode cX11_submit 153 = .ok (.iload_n 3, 1) := by decide +kernel
theorem dX11_submit_154 : decode cX11_submit 154 = .ok (.iload 4, 2) := by decide +kernel
theorem dX11_submit_156 : decode cX11_submit 156 = .ok (.iload 5, 2) := by decide +kernel
theorem dX11_submit_158 : decode cX11_submit 158 = .ok (.iload 6, 2) := by decide +kernel
theorem dX11_submit_160 : decode cX11_submit 160 = .ok (.iload 7, 2) := by decide +kernel
theorem dX11_submit_162 : decode cX11_submit 162 = .ok (.iload 8, 2) := by decide +kernel
theorem dX11_submit_164 : decode cX11_submit 164 = .ok (.iload 9, 2) := by decide +kernel
theorem dX11_submit_166 : decode cX11_submit 166 = .ok (.invokevirtual 229, 3) := by decide +kernel
theorem dX11_submit_169 : decode cX11_submit 169 = .ok (.ireturn, 1) := by decide +kernel
theorem dX11_claim_0 : decode cX11_claim 0 = .ok (.aload_n 0, 1) := by decide +kernel
theorem dX11_claim_1 : decode cX11_claim 1 = .ok (.iload_n 1, 1) := by decide +kernel
theorem dX11_claim_2 : decode cX11_claim 2 = .ok (.invokevirtual 182, 3) := by decide +kernel
theorem dX11_claim_5 : decode cX11_claim 5 = .ok (.ifCond .eq 29, 3) := by decide +kernel
theorem dX11_claim_8 : decode cX11_claim 8 = .ok (.aload_n 0, 1) := by decide +kernel
theorem dX11_claim_9 : decode cX11_claim 9 = .ok (.iconst 1, 1) := by decide +kernel
theorem dX11_claim_10 : decode cX11_claim 10 = .ok (.iload_n 1, 1) := by decide +kernel
theorem dX11_claim_11 : decode cX11_claim 11 = .ok (.isub, 1) := by decide +kernel
theorem dX11_claim_12 : decode cX11_claim 12 = .ok (.iload 4, 2) := by decide +kernel
theorem dX11_claim_14 : decode cX11_claim 14 = .ok (.invokevirtual 233, 3) := by decide +kernel
theorem dX11_claim_17 : decode cX11_claim 17 = .ok (.ifCond .eq 17, 3) := by decide +kernel
theorem dX11_claim_20 : decode cX11_claim 20 = .ok (.aload_n 0, 1) := by decide +kernel
theorem dX11_claim_21 : decode cX11_claim 21 = .ok (.iload_n 2, 1) := by decide +kernel
theorem dX11_claim_22 : decode cX11_claim 22 = .ok (.iconst 0, 1) := by decide +kernel
theorem dX11_claim_23 : decode cX11_claim 23 = .ok (.iconst 5, 1) := by decide +kernel
theorem dX11_claim_24 : decode cX11_claim 24 = .ok (.invokevirtual 178, 3) := by decide +kernel
theorem dX11_claim_27 : decode cX11_claim 27 = .ok (.ifCond .eq 7, 3) := by decide +kernel
theorem dX11_claim_30 : decode cX11_claim 30 = .ok (.iconst 1, 1) := by decide +kernel
theorem dX11_claim_31 : decode cX11_claim 31 = .ok (.goto 4, 3) := by decide +kernel
theorem dX11_claim_34 : decode cX11_claim 34 = .ok (.iconst 0, 1) := by decide +kernel
theorem dX11_claim_35 : decode cX11_claim 35 = .ok (.istore 7, 2) := by decide +kernel
theorem dX11_claim_37 : decode cX11_claim 37 = .ok (.iload 7, 2) := by decide +kernel
theorem dX11_claim_39 : decode cX11_claim 39 = .ok (.ifCond .eq 15, 3) := by decide +kernel
theorem dX11_claim_42 : decode cX11_claim 42 = .ok (.bipush 40, 2) := by decide +kernel
theorem dX11_claim_44 : decode cX11_claim 44 = .ok (.iconst 1, 1) := by decide +kernel
theorem dX11_claim_45 : decode cX11_claim 45 = .ok (.iload_n 1, 1) := by decide +kernel
theorem dX11_claim_46 : decode cX11_claim 46 = .ok (.isub, 1) := by decide +kernel
theorem dX11_claim_47 : decode cX11_claim 47 = .ok (.imul, 1) := by decide +kernel
theorem dX11_claim_48 : decode cX11_claim 48 = .ok (.iload 4, 2) := by decide +kernel
theorem dX11_claim_50 : decode cX11_claim 50 = .ok (.iadd, 1) := by decide +kernel
theorem dX11_claim_51 : decode cX11_claim 51 = .ok (.goto 4, 3) := by decide +kernel
theorem dX11_claim_54 : decode cX11_claim 54 = .ok (.iconst 0, 1) := by decide +kernel
theorem dX11_claim_55 : decode cX11_claim 55 = .ok (.istore 8, 2) := by decide +kernel
theorem dX11_claim_57 : decode cX11_claim 57 = .ok (.aload_n 0, 1) := by decide +kernel
theorem dX11_claim_58 : decode cX11_claim 58 = .ok (.iload_n 3, 1) := by decide +kernel
theorem dX11_claim_59 : decode cX11_claim 59 = .ok (.iconst 0, 1) := by decide +kernel
theorem dX11_claim_60 : decode cX11_claim 60 = .ok (.bipush 9, 2) := by decide +kernel
theorem dX11_claim_62 : decode cX11_claim 62 = .ok (.invokevirtual 178, 3) := by decide +kernel
theorem dX11_claim_65 : decode cX11_claim 65 = .ok (.ifCond .eq 53, 3) := by decide +kernel
theorem dX11_claim_68 : decode cX11_claim 68 = .ok (.aload_n 0, 1) := by decide +kernel
theorem dX11_claim_69 : decode cX11_claim 69 = .ok (.iload 5, 2) := by decide +kernel
theorem dX11_claim_71 : decode cX11_claim 71 = .ok (.iconst 1, 1) := by decide +kernel
theorem dX11_claim_72 : decode cX11_claim 72 = .ok (.bipush 100, 2) := by decide +kernel
theorem dX11_claim_74 : decode cX11_claim 74 = .ok (.invokevirtual 178, 3) := by decide +kernel
theorem dX11_claim_77 : decode cX11_claim 77 = .ok (.ifCond .eq 41, 3) := by decide +kernel
theorem dX11_claim_80 : decode cX11_claim 80 = .ok (.aload_n 0, 1) := by decide +kernel
theorem dX11_claim_81 : decode cX11_claim 81 = .ok (.iload 6, 2) := by decide +kernel
theorem dX11_claim_83 : decode cX11_claim 83 = .ok (.iconst 0, 1) := by decide +kernel
theorem dX11_claim_84 : decode cX11_claim 84 = .ok (.iload 5, 2) := by decide +kernel
theorem dX11_claim_86 : decode cX11_claim 86 = .ok (.invokevirtual 178, 3) := by decide +kernel
theorem dX11_claim_89 : decode cX11_claim 89 = .ok (.ifCond .eq 29, 3) := by decide +kernel
theorem dX11_claim_92 : decode cX11_claim 92 = .ok (.aload_n 0, 1) := by decide +kernel
theorem dX11_claim_93 : decode cX11_claim 93 = .ok (.getfield 46, 3) := by decide +kernel
theorem dX11_claim_96 : decode cX11_claim 96 = .ok (.iload 8, 2) := by decide +kernel
theorem dX11_claim_98 : decode cX11_claim 98 = .ok (.iaload, 1) := by decide +kernel
theorem dX11_claim_99 : decode cX11_claim 99 = .ok (.bipush 15, 2) := by decide +kernel
theorem dX11_claim_101 : decode cX11_claim 101 = .ok (.if_icmp .ne 17, 3) := by decide +kernel
theorem dX11_claim_104 : decode cX11_claim 104 = .ok (.aload_n 0, 1) := by decide +kernel
theorem dX11_claim_105 : decode cX11_claim 105 = .ok (.getfield 49, 3) := by decide +kernel
theorem dX11_claim_108 : decode cX11_claim 108 = .ok (.iload 8, 2) := by decide +kernel
theorem dX11_claim_110 : decode cX11_claim 110 = .ok (.iaload, 1) := by decide +kernel
theorem dX11_claim_111 : decode cX11_claim 111 = .ok (.ifCond .le 7, 3) := by decide +kernel
theorem dX11_claim_114 : decode cX11_claim 114 = .ok (.iconst 1, 1) := by decide +kernel
theorem dX11_claim_115 : decode cX11_claim 115 = .ok (.goto 4, 3) := by decide +kernel
theorem dX11_claim_118 : decode cX11_claim 118 = .ok (.iconst 0, 1) := by decide +kernel
theorem dX11_claim_119 : decode cX11_claim 119 = .ok (.istore 9, 2) := by decide +kernel
theorem dX11_claim_121 : decode cX11_claim 121 = .ok (.iload 7, 2) := by decide +kernel
theorem dX11_claim_123 : decode cX11_claim 123 = .ok (.ifCond .eq 38, 3) := by decide +kernel
theorem dX11_claim_126 : decode cX11_claim 126 = .ok (.aload_n 0, 1) := by decide +kernel
theorem dX11_claim_127 : decode cX11_claim 127 = .ok (.iconst 1, 1) := by decide +kernel
theorem dX11_claim_128 : decode cX11_claim 128 = .ok (.iload_n 1, 1) := by decide +kernel
theorem dX11_claim_129 : decode cX11_claim 129 = .ok (.isub, 1) := by decide +kernel
theorem dX11_claim_130 : decode cX11_claim 130 = .ok (.aload_n 0, 1) := by decide +kernel
theorem dX11_claim_131 : decode cX11_claim 131 = .ok (.getfield 37, 3) := by decide +kernel
theorem dX11_claim_134 : decode cX11_claim 134 = .ok (.iconst 1, 1) := by decide +kernel
theorem dX11_claim_135 : decode cX11_claim 135 = .ok (.iload_n 1, 1) := by decide +kernel
theorem dX11_claim_136 : decode cX11_claim 136 = .ok (.isub, 1) := by decide +kernel
theorem dX11_claim_137 : decode cX11_claim 137 = .ok (.iaload, 1) := by decide +kernel
theorem dX11_claim_138 : decode cX11_claim 138 = .ok (.iload 4, 2) := by decide +kernel
theorem dX11_claim_140 : decode cX11_claim 140 = .ok (.invokevirtual 217, 3) := by decide +kernel
theorem dX11_claim_143 : decode cX11_claim 143 = .ok (.ifCond .eq 14, 3) := by decide +kernel
theorem dX11_claim_146 : decode cX11_claim 146 = .ok (.aload_n 0, 1) := by decide +kernel
theorem dX11_claim_147 : decode cX11_claim 147 = .ok (.getfield 31, 3) := by decide +kernel
theorem dX11_claim_150 : decode cX11_claim 150 = .ok (.iload_n 1, 1) := by decide +kernel
theorem dX11_claim_151 : decode cX11_claim 151 = .ok (.iaload, 1) := by decide +kernel
theorem dX11_claim_152 : decode cX11_claim 152 = .ok (.bipush 40, 2) := by decide +kernel
theorem dX11_claim_154 : decode cX11_claim 154 = .ok (.if_icmp .ne 7, 3) := by decide +kernel
theorem dX11_claim_157 : decode cX11_claim 157 = .ok (.iconst 1, 1) := by decide +kernel
theorem dX11_claim_158 : decode cX11_claim 158 = .ok (.goto 4, 3) := by decide +kernel
theorem dX11_claim_161 : decode cX11_claim 161 = .ok (.iconst 0, 1) := by decide +kernel
theorem dX11_claim_162 : decode cX11_claim 162 = .ok (.istore 10, 2) := by decide +kernel
theorem dX11_claim_164 : decode cX11_claim 164 = .ok (.aload_n 0, 1) := by decide +kernel
theorem dX11_claim_165 : decode cX11_claim 165 = .ok (.iload 7, 2) := by decide +kernel
theorem dX11_claim_167 : decode cX11_claim 167 = .ok (.ifCond .ne 7, 3) := by decide +kernel
theorem dX11_claim_170 : decode cX11_claim 170 = .ok (.iconst 1, 1) := by decide +kernel
theorem dX11_claim_171 : decode cX11_claim 171 = .ok (.goto 22, 3) := by decide +kernel
theorem dX11_claim_174 : decode cX11_claim 174 = .ok (.iload 9, 2) := by decide +kernel
theorem dX11_claim_176 : decode cX11_claim 176 = .ok (.ifCond .ne 7, 3) := by decide +kernel
theorem dX11_claim_179 : decode cX11_claim 179 = .ok (.iconst 2, 1) := by decide +kernel
theorem dX11_claim_180 : decode cX11_claim 180 = .ok (.goto 13, 3) := by decide +kernel
theorem dX11_claim_183 : decode cX11_claim 183 = .ok (.iload 10, 2) := by decide +kernel
theorem dX11_claim_185 : decode cX11_claim 185 = .ok (.ifCond .eq 7, 3) := by decide +kernel
theorem dX11_claim_188 : decode cX11_claim 188 = .ok (.iconst 3, 1) := by decide +kernel
theorem dX11_claim_189 : decode cX11_claim 189 = .ok (.goto 4, 3) := by decide +kernel
theorem dX11_claim_192 : decode cX11_claim 192 = .ok (.iconst 0, 1) := by decide +kernel
theorem dX11_claim_193 : decode cX11_claim 193 = .ok (.invokevirtual 214, 3) := by decide +kernel
theorem dX11_claim_196 : decode cX11_claim 196 = .ok (.ifCond .eq 5, 3) := by decide +kernel
theorem dX11_claim_199 : decode cX11_claim 199 = .ok (.iconst (-1), 1) := by decide +kernel
theorem dX11_claim_200 : decode cX11_claim 200 = .ok (.ireturn, 1) := by decide +kernel
theorem dX11_claim_201 : decode cX11_claim 201 = .ok (.aload_n 0, 1) := by decide +kernel
theorem dX11_claim_202 : decode cX11_claim 202 = .ok (.iload_n 1, 1) := by decide +kernel
theorem dX11_claim_203 : decode cX11_claim 203 = .ok (.iload_n 2, 1) := by decide +kernel
theorem dX11_claim_204 : decode cX11_claim 204 = .ok (.iload_n 3, 1) := by decide +kernel
theorem dX11_claim_205 : decode cX11_claim 205 = .ok (.bipush 24, 2) := by decide +kernel
theorem dX11_claim_207 : decode cX11_claim 207 = .ok (.iconst 0, 1) := by decide +kernel
theorem dX11_claim_208 : decode cX11_claim 208 = .ok (.iload 4, 2) := by decide +kernel
theorem dX11_claim_210 : decode cX11_claim 210 = .ok (.bipush 60, 2) := by decide +kernel
theorem dX11_claim_212 : decode cX11_claim 212 = .ok (.iload 5, 2) := by decide +kernel
theorem dX11_claim_214 : decode cX11_claim 214 = .ok (.iload 6, 2) := by decide +kernel
theorem dX11_claim_216 : decode cX11_claim 216 = .ok (.invokevirtual 229, 3) := by decide +kernel
theorem dX11_claim_219 : decode cX11_claim 219 = .ok (.ireturn, 1) := by decide +kernel
theorem dX11_pool_0 : decode cX11_pool 0 = .ok (.aload_n 0, 1) := by decide +kernel
theorem dX11_pool_1 : decode cX11_pool 1 = .ok (.aload_n 0, 1) := by decide +kernel
theorem dX11_pool_2 : decode cX11_pool 2 = .ok (.iload_n 1, 1) := by decide +kernel
theorem dX11_pool_3 : decode cX11_pool 3 = .ok (.invokevirtual 182, 3) := by decide +kernel
theorem dX11_pool_6 : decode cX11_pool 6 = .ok (.ifCond .eq 7, 3) := by decide +kernel
theorem dX11_pool_9 : decode cX11_pool 9 = .ok (.iconst 0, 1) := by decide +kernel
theorem dX11_pool_10 : decode cX11_pool 10 = .ok (.goto 4, 3) := by decide +kernel
theorem dX11_pool_13 : decode cX11_pool 13 = .ok (.iconst 1, 1) := by decide +kernel
theorem dX11_pool_14 : decode cX11_pool 14 = .ok (.invokevirtual 214, 3) := by decide +kernel
theorem dX11_pool_17 : decode cX11_pool 17 = .ok (.ifCond .eq 7, 3) := by decide +kernel
theorem dX11_pool_20 : decode cX11_pool 20 = .ok (.iconst (-1), 1) := by decide +kernel
theorem dX11_pool_21 : decode cX11_pool 21 = .ok (.goto 8, 3) := by decide +kernel
theorem dX11_pool_24 : decode cX11_pool 24 = .ok (.aload_n 0, 1) := by decide +kernel
theorem dX11_pool_25 : decode cX11_pool 25 = .ok (.iload_n 1, 1) := by decide +kernel
theorem dX11_pool_26 : decode cX11_pool 26 = .ok (.invokevirtual 226, 3) := by decide +kernel
theorem dX11_pool_29 : decode cX11_pool 29 = .ok (.ireturn, 1) := by decide +kernel
theorem dX11_copyIn_0 : decode cX11_copyIn 0 = .ok (.iconst 0, 1) := by decide +kernel
theorem dX11_copyIn_1 : decode cX11_copyIn 1 = .ok (.istore_n 2, 1) := by decide +kernel
theorem dX11_copyIn_2 : decode cX11_copyIn 2 = .ok (.iload_n 2, 1) := by decide +kernel
theorem dX11_copyIn_3 : decode cX11_copyIn 3 = .ok (.bipush 120, 2) := by decide +kernel
theorem dX11_copyIn_5 : decode cX11_copyIn 5 = .ok (.if_icmp .ge 23, 3) := by decide +kernel
theorem dX11_copyIn_8 : decode cX11_copyIn 8 = .ok (.aload_n 0, 1) := by decide +kernel
theorem dX11_copyIn_9 : decode cX11_copyIn 9 = .ok (.getfield 13, 3) := by decide +kernel
theorem dX11_copyIn_12 : decode cX11_copyIn 12 = .ok (.iload_n 2, 1) := by decide +kernel
theorem dX11_copyIn_13 : decode cX11_copyIn 13 = .ok (.aload_n 0, 1) := by decide +kernel
theorem dX11_copyIn_14 : decode cX11_copyIn 14 = .ok (.getfield 7, 3) := by decide +kernel
theorem dX11_copyIn_17 : decode cX11_copyIn 17 = .ok (.iload_n 1, 1) := by decide +kernel
theorem dX11_copyIn_18 : decode cX11_copyIn 18 = .ok (.iload_n 2, 1) := by decide +kernel
theorem dX11_copyIn_19 : decode cX11_copyIn 19 = .ok (.iadd, 1) := by decide +kernel
theorem dX11_copyIn_20 : decode cX11_copyIn 20 = .ok (.iaload, 1) := by decide +kernel
theorem dX11_copyIn_21 : decode cX11_copyIn 21 = .ok (.iastore, 1) := by decide +kernel
theorem dX11_copyIn_22 : decode cX11_copyIn 22 = .ok (.iinc 2 1, 3) := by decide +kernel
theorem dX11_copyIn_25 : decode cX11_copyIn 25 = .ok (.goto (-23), 3) := by decide +kernel
theorem dX11_copyIn_28 : decode cX11_copyIn 28 = .ok (.return_, 1) := by decide +kernel
theorem dX11_snap_0 : decode cX11_snap 0 = .ok (.iconst 0, 1) := by decide +kernel
theorem dX11_snap_1 : decode cX11_snap 1 = .ok (.istore_n 2, 1) := by decide +kernel
theorem dX11_snap_2 : decode cX11_snap 2 = .ok (.iload_n 2, 1) := by decide +kernel
theorem dX11_snap_3 : decode cX11_snap 3 = .ok (.bipush 120, 2) := by decide +kernel
theorem dX11_snap_5 : decode cX11_snap 5 = .ok (.if_icmp .ge 26, 3) := by decide +kernel
theorem dX11_snap_8 : decode cX11_snap 8 = .ok (.aload_n 0, 1) := by decide +kernel
theorem dX11_snap_9 : decode cX11_snap 9 = .ok (.getfield 16, 3) := by decide +kernel
theorem dX11_snap_12 : decode cX11_snap 12 = .ok (.bipush 120, 2) := by decide +kernel
theorem dX11_snap_14 : decode cX11_snap 14 = .ok (.iload_n 1, 1) := by decide +kernel
theorem dX11_snap_15 : decode cX11_snap 15 = .ok (.imul, 1) := by decide +kernel
theorem dX11_snap_16 : decode cX11_snap 16 = .ok (.iload_n 2, 1) := by decide +kernel
theorem dX11_snap_17 : decode cX11_snap 17 = .ok (.iadd, 1) := by decide +kernel
theorem dX11_snap_18 : decode cX11_snap 18 = .ok (.aload_n 0, 1) := by decide +kernel
theorem dX11_snap_19 : decode cX11_snap 19 = .ok (.getfield 13, 3) := by decide +kernel
theorem dX11_snap_22 : decode cX11_snap 22 = .ok (.iload_n 2, 1) := by decide +kernel
theorem dX11_snap_23 : decode cX11_snap 23 = .ok (.iaload, 1) := by decide +kernel
theorem dX11_snap_24 : decode cX11_snap 24 = .ok (.iastore, 1) := by decide +kernel
theorem dX11_snap_25 : decode cX11_snap 25 = .ok (.iinc 2 1, 3) := by decide +kernel
theorem dX11_snap_28 : decode cX11_snap 28 = .ok (.goto (-26), 3) := by decide +kernel
theorem dX11_snap_31 : decode cX11_snap 31 = .ok (.return_, 1) := by decide +kernel
theorem dX11_undo_0 : decode cX11_undo 0 = .ok (.iconst 0, 1) := by decide +kernel
theorem dX11_undo_1 : decode cX11_undo 1 = .ok (.istore_n 2, 1) := by decide +kernel
theorem dX11_undo_2 : decode cX11_undo 2 = .ok (.iload_n 2, 1) := by decide +kernel
theorem dX11_undo_3 : decode cX11_undo 3 = .ok (.bipush 120, 2) := by decide +kernel
theorem dX11_undo_5 : decode cX11_undo 5 = .ok (.if_icmp .ge 26, 3) := by decide +kernel
theorem dX11_undo_8 : decode cX11_undo 8 = .ok (.aload_n 0, 1) := by decide +kernel
theorem dX11_undo_9 : decode cX11_undo 9 = .ok (.getfield 13, 3) := by decide +kernel
theorem dX11_undo_12 : decode cX11_undo 12 = .ok (.iload_n 2, 1) := by decide +kernel
theorem dX11_undo_13 : decode cX11_undo 13 = .ok (.aload_n 0, 1) := by decide +kernel
theorem dX11_undo_14 : decode cX11_undo 14 = .ok (.getfield 16, 3) := by decide +kernel
theorem dX11_undo_17 : decode cX11_undo 17 = .ok (.bipush 120, 2) := by decide +kernel
theorem dX11_undo_19 : decode cX11_undo 19 = .ok (.iload_n 1, 1) := by decide +kernel
theorem dX11_undo_20 : decode cX11_undo 20 = .ok (.imul, 1) := by decide +kernel
theorem dX11_undo_21 : decode cX11_undo 21 = .ok (.iload_n 2, 1) := by decide +kernel
theorem dX11_undo_22 : decode cX11_undo 22 = .ok (.iadd, 1) := by decide +kernel
theorem dX11_undo_23 : decode cX11_undo 23 = .ok (.iaload, 1) := by decide +kernel
theorem dX11_undo_24 : decode cX11_undo 24 = .ok (.iastore, 1) := by decide +kernel
theorem dX11_undo_25 : decode cX11_undo 25 = .ok (.iinc 2 1, 3) := by decide +kernel
theorem dX11_undo_28 : decode cX11_undo 28 = .ok (.goto (-26), 3) := by decide +kernel
theorem dX11_undo_31 : decode cX11_undo 31 = .ok (.return_, 1) := by decide +kernel
theorem dX11_begin_0 : decode cX11_begin 0 = .ok (.aload_n 0, 1) := by decide +kernel
theorem dX11_begin_1 : decode cX11_begin 1 = .ok (.getfield 237, 3) := by decide +kernel
theorem dX11_begin_4 : decode cX11_begin 4 = .ok (.istore 6, 2) := by decide +kernel
theorem dX11_begin_6 : decode cX11_begin 6 = .ok (.aload_n 0, 1) := by decide +kernel
theorem dX11_begin_7 : decode cX11_begin 7 = .ok (.getfield 128, 3) := by decide +kernel
theorem dX11_begin_10 : decode cX11_begin 10 = .ok (.iload 6, 2) := by decide +kernel
theorem dX11_begin_12 : decode cX11_begin 12 = .ok (.iload_n 1, 1) := by decide +kernel
theorem dX11_begin_13 : decode cX11_begin 13 = .ok (.iastore, 1) := by decide +kernel
theorem dX11_begin_14 : decode cX11_begin 14 = .ok (.aload_n 0, 1) := by decide +kernel
theorem dX11_begin_15 : decode cX11_begin 15 = .ok (.getfield 131, 3) := by decide +kernel
theorem dX11_begin_18 : decode cX11_begin 18 = .ok (.iload 6, 2) := by decide +kernel
theorem dX11_begin_20 : decode cX11_begin 20 = .ok (.iload_n 2, 1) := by decide +kernel
theorem dX11_begin_21 : decode cX11_begin 21 = .ok (.iastore, 1) := by decide +kernel
theorem dX11_begin_22 : decode cX11_begin 22 = .ok (.aload_n 0, 1) := by decide +kernel
theorem dX11_begin_23 : decode cX11_begin 23 = .ok (.getfield 134, 3) := by decide +kernel
theorem dX11_begin_26 : decode cX11_begin 26 = .ok (.iload 6, 2) := by decide +kernel
theorem dX11_begin_28 : decode cX11_begin 28 = .ok (.iload_n 3, 1) := by decide +kernel
theorem dX11_begin_29 : decode cX11_begin 29 = .ok (.iastore, 1) := by decide +kernel
theorem dX11_begin_30 : decode cX11_begin 30 = .ok (.aload_n 0, 1) := by decide +kernel
theorem dX11_begin_31 : decode cX11_begin 31 = .ok (.getfield 137, 3) := by decide +kernel
theorem dX11_begin_34 : decode cX11_begin 34 = .ok (.iload 6, 2) := by decide +kernel
theorem dX11_begin_36 : decode cX11_begin 36 = .ok (.iload 4, 2) := by decide +kernel
theorem dX11_begin_38 : decode cX11_begin 38 = .ok (.iastore, 1) := by decide +kernel
theorem dX11_begin_39 : decode cX11_begin 39 = .ok (.aload_n 0, 1) := by decide +kernel
theorem dX11_begin_40 : decode cX11_begin 40 = .ok (.getfield 140, 3) := by decide +kernel
theorem dX11_begin_43 : decode cX11_begin 43 = .ok (.iload 6, 2) := by decide +kernel
theorem dX11_begin_45 : decode cX11_begin 45 = .ok (.iload 5, 2) := by decide +kernel
theorem dX11_begin_47 : decode cX11_begin 47 = .ok (.iastore, 1) := by decide +kernel
theorem dX11_begin_48 : decode cX11_begin 48 = .ok (.aload_n 0, 1) := by decide +kernel
theorem dX11_begin_49 : decode cX11_begin 49 = .ok (.getfield 143, 3) := by decide +kernel
theorem dX11_begin_52 : decode cX11_begin 52 = .ok (.iload 6, 2) := by decide +kernel
theorem dX11_begin_54 : decode cX11_begin 54 = .ok (.aload_n 0, 1) := by decide +kernel
theorem dX11_begin_55 : decode cX11_begin 55 = .ok (.getfield 13, 3) := by decide +kernel
theorem dX11_begin_58 : decode cX11_begin 58 = .ok (.bipush 32, 2) := by decide +kernel
theorem dX11_begin_60 : decode cX11_begin 60 = .ok (.iload_n 1, 1) := by decide +kernel
theorem dX11_begin_61 : decode cX11_begin 61 = .ok (.iadd, 1) := by decide +kernel
theorem dX11_begin_62 : decode cX11_begin 62 = .ok (.iaload, 1) := by decide +kernel
theorem dX11_begin_63 : decode cX11_begin 63 = .ok (.iconst 1, 1) := by decide +kernel
theorem dX11_begin_64 : decode cX11_begin 64 = .ok (.isub, 1) := by decide +kernel
theorem dX11_begin_65 : decode cX11_begin 65 = .ok (.iastore, 1) := by decide +kernel
theorem dX11_begin_66 : decode cX11_begin 66 = .ok (.aload_n 0, 1) := by decide +kernel
theorem dX11_begin_67 : decode cX11_begin 67 = .ok (.getfield 146, 3) := by decide +kernel
theorem dX11_begin_70 : decode cX11_begin 70 = .ok (.iload 6, 2) := by decide +kernel
theorem dX11_begin_72 : decode cX11_begin 72 = .ok (.iconst 0, 1) := by decide +kernel
theorem dX11_begin_73 : decode cX11_begin 73 = .ok (.iastore, 1) := by decide +kernel
theorem dX11_begin_74 : decode cX11_begin 74 = .ok (.aload_n 0, 1) := by decide +kernel
theorem dX11_begin_75 : decode cX11_begin 75 = .ok (.getfield 152, 3) := by decide +kernel
theorem dX11_begin_78 : decode cX11_begin 78 = .ok (.iload 6, 2) := by decide +kernel
theorem dX11_begin_80 : decode cX11_begin 80 = .ok (.iconst 0, 1) := by decide +kernel
theorem dX11_begin_81 : decode cX11_begin 81 = .ok (.iastore, 1) := by decide +kernel
theorem dX11_begin_82 : decode cX11_begin 82 = .ok (.aload_n 0, 1) := by decide +kernel
theorem dX11_begin_83 : decode cX11_begin 83 = .ok (.getfield 158, 3) := by decide +kernel
theorem dX11_begin_86 : decode cX11_begin 86 = .ok (.iload 6, 2) := by decide +kernel
theorem dX11_begin_88 : decode cX11_begin 88 = .ok (.iconst (-1), 1) := by decide +kernel
theorem dX11_begin_89 : decode cX11_begin 89 = .ok (.iastore, 1) := by decide +kernel
theorem dX11_begin_90 : decode cX11_begin 90 = .ok (.iconst 0, 1) := by decide +kernel
theorem dX11_begin_91 : decode cX11_begin 91 = .ok (.istore 7, 2) := by decide +kernel
theorem dX11_begin_93 : decode cX11_begin 93 = .ok (.iload 7, 2) := by decide +kernel
theorem dX11_begin_95 : decode cX11_begin 95 = .ok (.bipush 16, 2) := by decide +kernel
theorem dX11_begin_97 : decode cX11_begin 97 = .ok (.if_icmp .ge 23, 3) := by decide +kernel
theorem dX11_begin_100 : decode cX11_begin 100 = .ok (.aload_n 0, 1) := by decide +kernel
theorem dX11_begin_101 : decode cX11_begin 101 = .ok (.getfield 155, 3) := by decide +kernel
theorem dX11_begin_104 : decode cX11_begin 104 = .ok (.bipush 16, 2) := by decide +kernel
theorem dX11_begin_106 : decode cX11_begin 106 = .ok (.iload 6, 2) := by decide +kernel
theorem dX11_begin_108 : decode cX11_begin 108 = .ok (.imul, 1) := by decide +kernel
theorem dX11_begin_109 : decode cX11_begin 109 = .ok (.iload 7, 2) := by decide +kernel
theorem dX11_begin_111 : decode cX11_begin 111 = .ok (.iadd, 1) := by decide +kernel
theorem dX11_begin_112 : decode cX11_begin 112 = .ok (.iconst 0, 1) := by decide +kernel
theorem dX11_begin_113 : decode cX11_begin 113 = .ok (.iastore, 1) := by decide +kernel
theorem dX11_begin_114 : decode cX11_begin 114 = .ok (.iinc 7 1, 3) := by decide +kernel
theorem dX11_begin_117 : decode cX11_begin 117 = .ok (.goto (-24), 3) := by decide +kernel
theorem dX11_begin_120 : decode cX11_begin 120 = .ok (.aload_n 0, 1) := by decide +kernel
theorem dX11_begin_121 : decode cX11_begin 121 = .ok (.dup, 1) := by decide +kernel
theorem dX11_begin_122 : decode cX11_begin 122 = .ok (.getfield 237, 3) := by decide +kernel
theorem dX11_begin_125 : decode cX11_begin 125 = .ok (.iconst 1, 1) := by decide +kernel
theorem dX11_begin_126 : decode cX11_begin 126 = .ok (.iadd, 1) := by decide +kernel
theorem dX11_begin_127 : decode cX11_begin 127 = .ok (.putfield 237, 3) := by decide +kernel
theorem dX11_begin_130 : decode cX11_begin 130 = .ok (.return_, 1) := by decide +kernel
theorem dX11_mark_0 : decode cX11_mark 0 = .ok (.aload_n 0, 1) := by decide +kernel
theorem dX11_mark_1 : decode cX11_mark 1 = .ok (.iload_n 1, 1) := by decide +kernel
theorem dX11_mark_2 : decode cX11_mark 2 = .ok (.invokevirtual 240, 3) := by decide +kernel
theorem dX11_mark_5 : decode cX11_mark 5 = .ok (.aload_n 0, 1) := by decide +kernel
theorem dX11_mark_6 : decode cX11_mark 6 = .ok (.getfield 161, 3) := by decide +kernel
theorem dX11_mark_9 : decode cX11_mark 9 = .ok (.iload_n 1, 1) := by decide +kernel
theorem dX11_mark_10 : decode cX11_mark 10 = .ok (.aload_n 0, 1) := by decide +kernel
theorem dX11_mark_11 : decode cX11_mark 11 = .ok (.getfield 243, 3) := by decide +kernel
theorem dX11_mark_14 : decode cX11_mark 14 = .ok (.iastore, 1) := by decide +kernel
theorem dX11_mark_15 : decode cX11_mark 15 = .ok (.aload_n 0, 1) := by decide +kernel
theorem dX11_mark_16 : decode cX11_mark 16 = .ok (.getfield 164, 3) := by decide +kernel
theorem dX11_mark_19 : decode cX11_mark 19 = .ok (.iload_n 1, 1) := by decide +kernel
theorem dX11_mark_20 : decode cX11_mark 20 = .ok (.aload_n 0, 1) := by decide +kernel
theorem dX11_mark_21 : decode cX11_mark 21 = .ok (.getfield 98, 3) := by decide +kernel
theorem dX11_mark_24 : decode cX11_mark 24 = .ok (.aload_n 0, 1) := by decide +kernel
theorem dX11_mark_25 : decode cX11_mark 25 = .ok (.getfield 246, 3) := by decide +kernel
theorem dX11_mark_28 : decode cX11_mark 28 = .ok (.iaload, 1) := by decide +kernel
theorem dX11_mark_29 : decode cX11_mark 29 = .ok (.iastore, 1) := by decide +kernel
theorem dX11_mark_30 : decode cX11_mark 30 = .ok (.return_, 1) := by decide +kernel
theorem dX11_undone_0 : decode cX11_undone 0 = .ok (.aload_n 0, 1) := by decide +kernel
theorem dX11_undone_1 : decode cX11_undone 1 = .ok (.iload_n 1, 1) := by decide +kernel
theorem dX11_undone_2 : decode cX11_undone 2 = .ok (.invokevirtual 249, 3) := by decide +kernel
theorem dX11_undone_5 : decode cX11_undone 5 = .ok (.aload_n 0, 1) := by decide +kernel
theorem dX11_undone_6 : decode cX11_undone 6 = .ok (.aload_n 0, 1) := by decide +kernel
theorem dX11_undone_7 : decode cX11_undone 7 = .ok (.getfield 161, 3) := by decide +kernel
theorem dX11_undone_10 : decode cX11_undone 10 = .ok (.iload_n 1, 1) := by decide +kernel
theorem dX11_undone_11 : decode cX11_undone 11 = .ok (.iaload, 1) := by decide +kernel
theorem dX11_undone_12 : decode cX11_undone 12 = .ok (.putfield 243, 3) := by decide +kernel
theorem dX11_undone_15 : decode cX11_undone 15 = .ok (.aload_n 0, 1) := by decide +kernel
theorem dX11_undone_16 : decode cX11_undone 16 = .ok (.getfield 98, 3) := by decide +kernel
theorem dX11_undone_19 : decode cX11_undone 19 = .ok (.aload_n 0, 1) := by decide +kernel
theorem dX11_undone_20 : decode cX11_undone 20 = .ok (.getfield 246, 3) := by decide +kernel
theorem dX11_undone_23 : decode cX11_undone 23 = .ok (.aload_n 0, 1) := by decide +kernel
theorem dX11_undone_24 : decode cX11_undone 24 = .ok (.getfield 164, 3) := by decide +kernel
theorem dX11_undone_27 : decode cX11_undone 27 = .ok (.iload_n 1, 1) := by decide +kernel
theorem dX11_undone_28 : decode cX11_undone 28 = .ok (.iaload, 1) := by decide +kernel
theorem dX11_undone_29 : decode cX11_undone 29 = .ok (.iastore, 1) := by decide +kernel
theorem dX11_undone_30 : decode cX11_undone 30 = .ok (.return_, 1) := by decide +kernel
theorem dX11_need_0 : decode cX11_need 0 = .ok (.iload_n 1, 1) := by decide +kernel
theorem dX11_need_1 : decode cX11_need 1 = .ok (.iconst 1, 1) := by decide +kernel
theorem dX11_need_2 : decode cX11_need 2 = .ok (.if_icmp .eq 29, 3) := by decide +kernel
theorem dX11_need_5 : decode cX11_need 5 = .ok (.iload_n 1, 1) := by decide +kernel
theorem dX11_need_6 : decode cX11_need 6 = .ok (.iconst 2, 1) := by decide +kernel
theorem dX11_need_7 : decode cX11_need 7 = .ok (.if_icmp .eq 24, 3) := by decide +kernel
theorem dX11_need_10 : decode cX11_need 10 = .ok (.iload_n 1, 1) := by decide +kernel
theorem dX11_need_11 : decode cX11_need 11 = .ok (.iconst 3, 1) := by decide +kernel
theorem dX11_need_12 : decode cX11_need 12 = .ok (.if_icmp .eq 19, 3) := by decide +kernel
theorem dX11_need_15 : decode cX11_need 15 = .ok (.iload_n 1, 1) := by decide +kernel
theorem dX11_need_16 : decode cX11_need 16 = .ok (.iconst 4, 1) := by decide +kernel
theorem dX11_need_17 : decode cX11_need 17 = .ok (.if_icmp .eq 14, 3) := by decide +kernel
theorem dX11_need_20 : decode cX11_need 20 = .ok (.iload_n 1, 1) := by decide +kernel
theorem dX11_need_21 : decode cX11_need 21 = .ok (.iconst 5, 1) := by decide +kernel
theorem dX11_need_22 : decode cX11_need 22 = .ok (.if_icmp .eq 9, 3) := by decide +kernel
theorem dX11_need_25 : decode cX11_need 25 = .ok (.iload_n 1, 1) := by decide +kernel
theorem dX11_need_26 : decode cX11_need 26 = .ok (.bipush 7, 2) := by decide +kernel
theorem dX11_need_28 : decode cX11_need 28 = .ok (.if_icmp .ne 7, 3) := by decide +kernel
theorem dX11_need_31 : decode cX11_need 31 = .ok (.iconst 2, 1) := by decide +kernel
theorem dX11_need_32 : decode cX11_need 32 = .ok (.goto 72, 3) := by decide +kernel
theorem dX11_need_35 : decode cX11_need 35 = .ok (.iload_n 1, 1) := by decide +kernel
theorem dX11_need_36 : decode cX11_need 36 = .ok (.bipush 19, 2) := by decide +kernel
theorem dX11_need_38 : decode cX11_need 38 = .ok (.if_icmp .ne 7, 3) := by decide +kernel
theorem dX11_need_41 : decode cX11_need 41 = .ok (.iconst 3, 1) := by decide +kernel
theorem dX11_need_42 : decode cX11_need 42 = .ok (.goto 62, 3) := by decide +kernel
theorem dX11_need_45 : decode cX11_need 45 = .ok (.iload_n 1, 1) := by decide +kernel
theorem dX11_need_46 : decode cX11_need 46 = .ok (.bipush 6, 2) := by decide +kernel
theorem dX11_need_48 : decode cX11_need 48 = .ok (.if_icmp .eq 51, 3) := by decide +kernel
theorem dX11_need_51 : decode cX11_need 51 = .ok (.iload_n 1, 1) := by decide +kernel
theorem dX11_need_52 : decode cX11_need 52 = .ok (.bipush 8, 2) := by decide +kernel
theorem dX11_need_54 : decode cX11_need 54 = .ok (.if_icmp .eq 45, 3) := by decide +kernel
theorem dX11_need_57 : decode cX11_need 57 = .ok (.iload_n 1, 1) := by decide +kernel
theorem dX11_need_58 : decode cX11_need 58 = .ok (.bipush 10, 2) := by decide +kernel
theorem dX11_need_60 : decode cX11_need 60 = .ok (.if_icmp .eq 39, 3) := by decide +kernel
theorem dX11_need_63 : decode cX11_need 63 = .ok (.iload_n 1, 1) := by decide +kernel
theorem dX11_need_64 : decode cX11_need 64 = .ok (.bipush 12, 2) := by decide +kernel
theorem dX11_need_66 : decode cX11_need 66 = .ok (.if_icmp .eq 33, 3) := by decide +kernel
theorem dX11_need_69 : decode cX11_need 69 = .ok (.iload_n 1, 1) := by decide +kernel
theorem dX11_need_70 : decode cX11_need 70 = .ok (.bipush 16, 2) := by decide +kernel
theorem dX11_need_72 : decode cX11_need 72 = .ok (.if_icmp .eq 27, 3) := by decide +kernel
theorem dX11_need_75 : decode cX11_need 75 = .ok (.iload_n 1, 1) := by decide +kernel
theorem dX11_need_76 : decode cX11_need 76 = .ok (.bipush 17, 2) := by decide +kernel
theorem dX11_need_78 : decode cX11_need 78 = .ok (.if_icmp .eq 21, 3) := by decide +kernel
theorem dX11_need_81 : decode cX11_need 81 = .ok (.iload_n 1, 1) := by decide +kernel
theorem dX11_need_82 : decode cX11_need 82 = .ok (.bipush 20, 2) := by decide +kernel
theorem dX11_need_84 : decode cX11_need 84 = .ok (.if_icmp .eq 15, 3) := by decide +kernel
theorem dX11_need_87 : decode cX11_need 87 = .ok (.iload_n 1, 1) := by decide +kernel
theorem dX11_need_88 : decode cX11_need 88 = .ok (.bipush 21, 2) := by decide +kernel
theorem dX11_need_90 : decode cX11_need 90 = .ok (.if_icmp .eq 9, 3) := by decide +kernel
theorem dX11_need_93 : decode cX11_need 93 = .ok (.iload_n 1, 1) := by decide +kernel
theorem dX11_need_94 : decode cX11_need 94 = .ok (.bipush 22, 2) := by decide +kernel
theorem dX11_need_96 : decode cX11_need 96 = .ok (.if_icmp .ne 7, 3) := by decide +kernel
theorem dX11_need_99 : decode cX11_need 99 = .ok (.iconst 1, 1) := by decide +kernel
theorem dX11_need_100 : decode cX11_need 100 = .ok (.goto 4, 3) := by decide +kernel
theorem dX11_need_103 : decode cX11_need 103 = .ok (.iconst 0, 1) := by decide +kernel
theorem dX11_need_104 : decode cX11_need 104 = .ok (.ireturn, 1) := by decide +kernel
theorem dX11_grows_0 : decode cX11_grows 0 = .ok (.iload_n 1, 1) := by decide +kernel
theorem dX11_grows_1 : decode cX11_grows 1 = .ok (.ifCond .eq 39, 3) := by decide +kernel
theorem dX11_grows_4 : decode cX11_grows 4 = .ok (.iload_n 1, 1) := by decide +kernel
theorem dX11_grows_5 : decode cX11_grows 5 = .ok (.bipush 6, 2) := by decide +kernel
theorem dX11_grows_7 : decode cX11_grows 7 = .ok (.if_icmp .eq 33, 3) := by decide +kernel
theorem dX11_grows_10 : decode cX11_grows 10 = .ok (.iload_n 1, 1) := by decide +kernel
theorem dX11_grows_11 : decode cX11_grows 11 = .ok (.bipush 9, 2) := by decide +kernel
theorem dX11_grows_13 : decode cX11_grows 13 = .ok (.if_icmp .eq 27, 3) := by decide +kernel
theorem dX11_grows_16 : decode cX11_grows 16 = .ok (.iload_n 1, 1) := by decide +kernel
theorem dX11_grows_17 : decode cX11_grows 17 = .ok (.bipush 13, 2) := by decide +kernel
theorem dX11_grows_19 : decode cX11_grows 19 = .ok (.if_icmp .eq 21, 3) := by decide +kernel
theorem dX11_grows_22 : decode cX11_grows 22 = .ok (.iload_n 1, 1) := by decide +kernel
theorem dX11_grows_23 : decode cX11_grows 23 = .ok (.bipush 14, 2) := by decide +kernel
theorem dX11_grows_25 : decode cX11_grows 25 = .ok (.if_icmp .eq 15, 3) := by decide +kernel
theorem dX11_grows_28 : decode cX11_grows 28 = .ok (.iload_n 1, 1) := by decide +kernel
theorem dX11_grows_29 : decode cX11_grows 29 = .ok (.bipush 15, 2) := by decide +kernel
theorem dX11_grows_31 : decode cX11_grows 31 = .ok (.if_icmp .eq 9, 3) := by decide +kernel
theorem dX11_grows_34 : decode cX11_grows 34 = .ok (.iload_n 1, 1) := by decide +kernel
theorem dX11_grows_35 : decode cX11_grows 35 = .ok (.bipush 18, 2) := by decide +kernel
theorem dX11_grows_37 : decode cX11_grows 37 = .ok (.if_icmp .ne 7, 3) := by decide +kernel
theorem dX11_grows_40 : decode cX11_grows 40 = .ok (.iconst 1, 1) := by decide +kernel
theorem dX11_grows_41 : decode cX11_grows 41 = .ok (.goto 4, 3) := by decide +kernel
theorem dX11_grows_44 : decode cX11_grows 44 = .ok (.iconst 0, 1) := by decide +kernel
theorem dX11_grows_45 : decode cX11_grows 45 = .ok (.ireturn, 1) := by decide +kernel
theorem dX11_square_0 : decode cX11_square 0 = .ok (.iload_n 1, 1) := by decide +kernel
theorem dX11_square_1 : decode cX11_square 1 = .ok (.iconst 1, 1) := by decide +kernel
theorem dX11_square_2 : decode cX11_square 2 = .ok (.iadd, 1) := by decide +kernel
theorem dX11_square_3 : decode cX11_square 3 = .ok (.iload_n 1, 1) := by decide +kernel
theorem dX11_square_4 : decode cX11_square 4 = .ok (.iconst 1, 1) := by decide +kernel
theorem dX11_square_5 : decode cX11_square 5 = .ok (.iadd, 1) := by decide +kernel
theorem dX11_square_6 : decode cX11_square 6 = .ok (.imul, 1) := by decide +kernel
theorem dX11_square_7 : decode cX11_square 7 = .ok (.iconst 2, 1) := by decide +kernel
theorem dX11_square_8 : decode cX11_square 8 = .ok (.idiv, 1) := by decide +kernel
theorem dX11_square_9 : decode cX11_square 9 = .ok (.ireturn, 1) := by decide +kernel
theorem dX11_cost_0 : decode cX11_cost 0 = .ok (.aload_n 0, 1) := by decide +kernel
theorem dX11_cost_1 : decode cX11_cost 1 = .ok (.getfield 152, 3) := by decide +kernel
theorem dX11_cost_4 : decode cX11_cost 4 = .ok (.iload_n 3, 1) := by decide +kernel
theorem dX11_cost_5 : decode cX11_cost 5 = .ok (.iaload, 1) := by decide +kernel
theorem dX11_cost_6 : decode cX11_cost 6 = .ok (.ifCond .le 24, 3) := by decide +kernel
theorem dX11_cost_9 : decode cX11_cost 9 = .ok (.aload_n 0, 1) := by decide +kernel
theorem dX11_cost_10 : decode cX11_cost 10 = .ok (.getfield 149, 3) := by decide +kernel
theorem dX11_cost_13 : decode cX11_cost 13 = .ok (.bipush 16, 2) := by decide +kernel
theorem dX11_cost_15 : decode cX11_cost 15 = .ok (.iload_n 3, 1) := by decide +kernel
theorem dX11_cost_16 : decode cX11_cost 16 = .ok (.imul, 1) := by decide +kernel
theorem dX11_cost_17 : decode cX11_cost 17 = .ok (.aload_n 0, 1) := by decide +kernel
theorem dX11_cost_18 : decode cX11_cost 18 = .ok (.getfield 152, 3) := by decide +kernel
theorem dX11_cost_21 : decode cX11_cost 21 = .ok (.iload_n 3, 1) := by decide +kernel
theorem dX11_cost_22 : decode cX11_cost 22 = .ok (.iaload, 1) := by decide +kernel
theorem dX11_cost_23 : decode cX11_cost 23 = .ok (.iadd, 1) := by decide +kernel
theorem dX11_cost_24 : decode cX11_cost 24 = .ok (.iconst 1, 1) := by decide +kernel
theorem dX11_cost_25 : decode cX11_cost 25 = .ok (.isub, 1) := by decide +kernel
theorem dX11_cost_26 : decode cX11_cost 26 = .ok (.iaload, 1) := by decide +kernel
theorem dX11_cost_27 : decode cX11_cost 27 = .ok (.goto 4, 3) := by decide +kernel
theorem dX11_cost_30 : decode cX11_cost 30 = .ok (.iconst 0, 1) := by decide +kernel
theorem dX11_cost_31 : decode cX11_cost 31 = .ok (.istore 4, 2) := by decide +kernel
theorem dX11_cost_33 : decode cX11_cost 33 = .ok (.iload_n 1, 1) := by decide +kernel
theorem dX11_cost_34 : decode cX11_cost 34 = .ok (.bipush 10, 2) := by decide +kernel
theorem dX11_cost_36 : decode cX11_cost 36 = .ok (.if_icmp .ne 24, 3) := by decide +kernel
theorem dX11_cost_39 : decode cX11_cost 39 = .ok (.aload_n 0, 1) := by decide +kernel
theorem dX11_cost_40 : decode cX11_cost 40 = .ok (.getfield 13, 3) := by decide +kernel
theorem dX11_cost_43 : decode cX11_cost 43 = .ok (.bipush 48, 2) := by decide +kernel
theorem dX11_cost_45 : decode cX11_cost 45 = .ok (.iconst 4, 1) := by decide +kernel
theorem dX11_cost_46 : decode cX11_cost 46 = .ok (.aload_n 0, 1) := by decide +kernel
theorem dX11_cost_47 : decode cX11_cost 47 = .ok (.getfield 128, 3) := by decide +kernel
theorem dX11_cost_50 : decode cX11_cost 50 = .ok (.iload_n 3, 1) := by decide +kernel
theorem dX11_cost_51 : decode cX11_cost 51 = .ok (.iaload, 1) := by decide +kernel
theorem dX11_cost_52 : decode cX11_cost 52 = .ok (.imul, 1) := by decide +kernel
theorem dX11_cost_53 : decode cX11_cost 53 = .ok (.iadd, 1) := by decide +kernel
theorem dX11_cost_54 : decode cX11_cost 54 = .ok (.iload_n 2, 1) := by decide +kernel
theorem dX11_cost_55 : decode cX11_cost 55 = .ok (.iadd, 1) := by decide +kernel
theorem dX11_cost_56 : decode cX11_cost 56 = .ok (.iaload, 1) := by decide +kernel
theorem dX11_cost_57 : decode cX11_cost 57 = .ok (.goto 4, 3) := by decide +kernel
theorem dX11_cost_60 : decode cX11_cost 60 = .ok (.iconst 0, 1) := by decide +kernel
theorem dX11_cost_61 : decode cX11_cost 61 = .ok (.istore 5, 2) := by decide +kernel
theorem dX11_cost_63 : decode cX11_cost 63 = .ok (.iload_n 2, 1) := by decide +kernel
theorem dX11_cost_64 : decode cX11_cost 64 = .ok (.aload_n 0, 1) := by decide +kernel
theorem dX11_cost_65 : decode cX11_cost 65 = .ok (.getfield 158, 3) := by decide +kernel
theorem dX11_cost_68 : decode cX11_cost 68 = .ok (.iload_n 3, 1) := by decide +kernel
theorem dX11_cost_69 : decode cX11_cost 69 = .ok (.iaload, 1) := by decide +kernel
theorem dX11_cost_70 : decode cX11_cost 70 = .ok (.if_icmp .gt 7, 3) := by decide +kernel
theorem dX11_cost_73 : decode cX11_cost 73 = .ok (.iconst 0, 1) := by decide +kernel
theorem dX11_cost_74 : decode cX11_cost 74 = .ok (.goto 32, 3) := by decide +kernel
theorem dX11_cost_77 : decode cX11_cost 77 = .ok (.aload_n 0, 1) := by decide +kernel
theorem dX11_cost_78 : decode cX11_cost 78 = .ok (.iload_n 2, 1) := by decide +kernel
theorem dX11_cost_79 : decode cX11_cost 79 = .ok (.invokevirtual 252, 3) := by decide +kernel
theorem dX11_cost_82 : decode cX11_cost 82 = .ok (.aload_n 0, 1) := by decide +kernel
theorem dX11_cost_83 : decode cX11_cost 83 = .ok (.getfield 158, 3) := by decide +kernel
theorem dX11_cost_86 : decode cX11_cost 86 = .ok (.iload_n 3, 1) := by decide +kernel
theorem dX11_cost_87 : decode cX11_cost 87 = .ok (.iaload, 1) := by decide +kernel
theorem dX11_cost_88 : decode cX11_cost 88 = .ok (.ifCond .ge 7, 3) := by decide +kernel
theorem dX11_cost_91 : decode cX11_cost 91 = .ok (.iconst 0, 1) := by decide +kernel
theorem dX11_cost_92 : decode cX11_cost 92 = .ok (.goto 13, 3) := by decide +kernel
theorem dX11_cost_95 : decode cX11_cost 95 = .ok (.aload_n 0, 1) := by decide +kernel
theorem dX11_cost_96 : decode cX11_cost 96 = .ok (.aload_n 0, 1) := by decide +kernel
theorem dX11_cost_97 : decode cX11_cost 97 = .ok (.getfield 158, 3) := by decide +kernel
theorem dX11_cost_100 : decode cX11_cost 100 = .ok (.iload_n 3, 1) := by decide +kernel
theorem dX11_cost_101 : decode cX11_cost 101 = .ok (.iaload, 1) := by decide +kernel
theorem dX11_cost_102 : decode cX11_cost 102 = .ok (.invokevirtual 252, 3) := by decide +kernel
theorem dX11_cost_105 : decode cX11_cost 105 = .ok (.isub, 1) := by decide +kernel
theorem dX11_cost_106 : decode cX11_cost 106 = .ok (.istore 6, 2) := by decide +kernel
theorem dX11_cost_108 : decode cX11_cost 108 = .ok (.iload_n 1, 1) := by decide +kernel
theorem dX11_cost_109 : decode cX11_cost 109 = .ok (.tableswitch 171 3 24 #[103, 171, 171, 171, 171, 105, 107, 110, 103, 103, 105, 105, 105, 155, 158, 158, 163, 107, 166, 107, 169, 169], 103) := by decide +kernel
theorem dX11_cost_212 : decode cX11_cost 212 = .ok (.iconst 5, 1) := by decide +kernel
theorem dX11_cost_213 : decode cX11_cost 213 = .ok (.ireturn, 1) := by decide +kernel
theorem dX11_cost_214 : decode cX11_cost 214 = .ok (.iconst 2, 1) := by decide +kernel
theorem dX11_cost_215 : decode cX11_cost 215 = .ok (.ireturn, 1) := by decide +kernel
theorem dX11_cost_216 : decode cX11_cost 216 = .ok (.bipush 20, 2) := by decide +kernel
theorem dX11_cost_218 : decode cX11_cost 218 = .ok (.ireturn, 1) := by decide +kernel
theorem dX11_cost_219 : decode cX11_cost 219 = .ok (.iload 5, 2) := by decide +kernel
theorem dX11_cost_221 : decode cX11_cost 221 = .ok (.ifCond .ne 40, 3) := by decide +kernel
theorem dX11_cost_224 : decode cX11_cost 224 = .ok (.iload 4, 2) := by decide +kernel
theorem dX11_cost_226 : decode cX11_cost 226 = .ok (.ifCond .eq 35, 3) := by decide +kernel
theorem dX11_cost_229 : decode cX11_cost 229 = .ok (.aload_n 0, 1) := by decide +kernel
theorem dX11_cost_230 : decode cX11_cost 230 = .ok (.getfield 70, 3) := by decide +kernel
theorem dX11_cost_233 : decode cX11_cost 233 = .ok (.aload_n 0, 1) := by decide +kernel
theorem dX11_cost_234 : decode cX11_cost 234 = .ok (.getfield 246, 3) := by decide +kernel
theorem dX11_cost_237 : decode cX11_cost 237 = .ok (.iaload, 1) := by decide +kernel
theorem dX11_cost_238 : decode cX11_cost 238 = .ok (.aload_n 0, 1) := by decide +kernel
theorem dX11_cost_239 : decode cX11_cost 239 = .ok (.getfield 28, 3) := by decide +kernel
theorem dX11_cost_242 : decode cX11_cost 242 = .ok (.aload_n 0, 1) := by decide +kernel
theorem dX11_cost_243 : decode cX11_cost 243 = .ok (.getfield 255, 3) := by decide +kernel
theorem dX11_cost_246 : decode cX11_cost 246 = .ok (.iaload, 1) := by decide +kernel
theorem dX11_cost_247 : decode cX11_cost 247 = .ok (.if_icmp .lt 9, 3) := by decide +kernel
theorem dX11_cost_250 : decode cX11_cost 250 = .ok (.sipush 150, 3) := by decide +kernel
theorem dX11_cost_253 : decode cX11_cost 253 = .ok (.goto 10, 3) := by decide +kernel
theorem dX11_cost_256 : decode cX11_cost 256 = .ok (.bipush 100, 2) := by decide +kernel
theorem dX11_cost_258 : decode cX11_cost 258 = .ok (.goto 5, 3) := by decide +kernel
theorem dX11_cost_261 : decode cX11_cost 261 = .ok (.bipush 30, 2) := by decide +kernel
theorem dX11_cost_263 : decode cX11_cost 263 = .ok (.ireturn, 1) := by decide +kernel
theorem dX11_cost_264 : decode cX11_cost 264 = .ok (.bipush 10, 2) := by decide +kernel
theorem dX11_cost_266 : decode cX11_cost 266 = .ok (.ireturn, 1) := by decide +kernel
theorem dX11_cost_267 : decode cX11_cost 267 = .ok (.iconst 3, 1) := by decide +kernel
theorem dX11_cost_268 : decode cX11_cost 268 = .ok (.iload 6, 2) := by decide +kernel
theorem dX11_cost_270 : decode cX11_cost 270 = .ok (.iadd, 1) := by decide +kernel
theorem dX11_cost_271 : decode cX11_cost 271 = .ok (.ireturn, 1) := by decide +kernel
theorem dX11_cost_272 : decode cX11_cost 272 = .ok (.bipush 40, 2) := by decide +kernel
theorem dX11_cost_274 : decode cX11_cost 274 = .ok (.ireturn, 1) := by decide +kernel
theorem dX11_cost_275 : decode cX11_cost 275 = .ok (.bipush 80, 2) := by decide +kernel
theorem dX11_cost_277 : decode cX11_cost 277 = .ok (.ireturn, 1) := by decide +kernel
theorem dX11_cost_278 : decode cX11_cost 278 = .ok (.iconst 0, 1) := by decide +kernel
theorem dX11_cost_279 : decode cX11_cost 279 = .ok (.ireturn, 1) := by decide +kernel
theorem dX11_cost_280 : decode cX11_cost 280 = .ok (.iconst 3, 1) := by decide +kernel
theorem dX11_cost_281 : decode cX11_cost 281 = .ok (.ireturn, 1) := by decide +kernel
theorem dX11_pop_0 : decode cX11_pop 0 = .ok (.aload_n 0, 1) := by decide +kernel
theorem dX11_pop_1 : decode cX11_pop 1 = .ok (.getfield 152, 3) := by decide +kernel
theorem dX11_pop_4 : decode cX11_pop 4 = .ok (.iload_n 1, 1) := by decide +kernel
theorem dX11_pop_5 : decode cX11_pop 5 = .ok (.dup2, 1) := by decide +kernel
theorem dX11_pop_6 : decode cX11_pop 6 = .ok (.iaload, 1) := by decide +kernel
theorem dX11_pop_7 : decode cX11_pop 7 = .ok (.iconst 1, 1) := by decide +kernel
theorem dX11_pop_8 : decode cX11_pop 8 = .ok (.isub, 1) := by decide +kernel
theorem dX11_pop_9 : decode cX11_pop 9 = .ok (.iastore, 1) := by decide +kernel
theorem dX11_pop_10 : decode cX11_pop 10 = .ok (.aload_n 0, 1) := by decide +kernel
theorem dX11_pop_11 : decode cX11_pop 11 = .ok (.getfield 149, 3) := by decide +kernel
theorem dX11_pop_14 : decode cX11_pop 14 = .ok (.bipush 16, 2) := by decide +kernel
theorem dX11_pop_16 : decode cX11_pop 16 = .ok (.iload_n 1, 1) := by decide +kernel
theorem dX11_pop_17 : decode cX11_pop 17 = .ok (.imul, 1) := by decide +kernel
theorem dX11_pop_18 : decode cX11_pop 18 = .ok (.aload_n 0, 1) := by decide +kernel
theorem dX11_pop_19 : decode cX11_pop 19 = .ok (.getfield 152, 3) := by decide +kernel
theorem dX11_pop_22 : decode cX11_pop 22 = .ok (.iload_n 1, 1) := by decide +kernel
theorem dX11_pop_23 : decode cX11_pop 23 = .ok (.iaload, 1) := by decide +kernel
theorem dX11_pop_24 : decode cX11_pop 24 = .ok (.iadd, 1) := by decide +kernel
theorem dX11_pop_25 : decode cX11_pop 25 = .ok (.iaload, 1) := by decide +kernel
theorem dX11_pop_26 : decode cX11_pop 26 = .ok (.ireturn, 1) := by decide +kernel
theorem dX11_push_0 : decode cX11_push 0 = .ok (.aload_n 0, 1) := by decide +kernel
theorem dX11_push_1 : decode cX11_push 1 = .ok (.getfield 149, 3) := by decide +kernel
theorem dX11_push_4 : decode cX11_push 4 = .ok (.bipush 16, 2) := by decide +kernel
theorem dX11_push_6 : decode cX11_push 6 = .ok (.iload_n 1, 1) := by decide +kernel
theorem dX11_push_7 : decode cX11_push 7 = .ok (.imul, 1) := by decide +kernel
theorem dX11_push_8 : decode cX11_push 8 = .ok (.aload_n 0, 1) := by decide +kernel
theorem dX11_push_9 : decode cX11_push 9 = .ok (.getfield 152, 3) := by decide +kernel
theorem dX11_push_12 : decode cX11_push 12 = .ok (.iload_n 1, 1) := by decide +kernel
theorem dX11_push_13 : decode cX11_push 13 = .ok (.iaload, 1) := by decide +kernel
theorem dX11_push_14 : decode cX11_push 14 = .ok (.iadd, 1) := by decide +kernel
theorem dX11_push_15 : decode cX11_push 15 = .ok (.iload_n 2, 1) := by decide +kernel
theorem dX11_push_16 : decode cX11_push 16 = .ok (.iastore, 1) := by decide +kernel
theorem dX11_push_17 : decode cX11_push 17 = .ok (.aload_n 0, 1) := by decide +kernel
theorem dX11_push_18 : decode cX11_push 18 = .ok (.getfield 152, 3) := by decide +kernel
theorem dX11_push_21 : decode cX11_push 21 = .ok (.iload_n 1, 1) := by decide +kernel
theorem dX11_push_22 : decode cX11_push 22 = .ok (.dup2, 1) := by decide +kernel
theorem dX11_push_23 : decode cX11_push 23 = .ok (.iaload, 1) := by decide +kernel
theorem dX11_push_24 : decode cX11_push 24 = .ok (.iconst 1, 1) := by decide +kernel
theorem dX11_push_25 : decode cX11_push 25 = .ok (.iadd, 1) := by decide +kernel
theorem dX11_push_26 : decode cX11_push 26 = .ok (.iastore, 1) := by decide +kernel
theorem dX11_push_27 : decode cX11_push 27 = .ok (.return_, 1) := by decide +kernel
theorem dX11_finish_0 : decode cX11_finish 0 = .ok (.aload_n 0, 1) := by decide +kernel
theorem dX11_finish_1 : decode cX11_finish 1 = .ok (.dup, 1) := by decide +kernel
theorem dX11_finish_2 : decode cX11_finish 2 = .ok (.getfield 237, 3) := by decide +kernel
theorem dX11_finish_5 : decode cX11_finish 5 = .ok (.iconst 1, 1) := by decide +kernel
theorem dX11_finish_6 : decode cX11_finish 6 = .ok (.isub, 1) := by decide +kernel
theorem dX11_finish_7 : decode cX11_finish 7 = .ok (.putfield 237, 3) := by decide +kernel
theorem dX11_finish_10 : decode cX11_finish 10 = .ok (.iload_n 1, 1) := by decide +kernel
theorem dX11_finish_11 : decode cX11_finish 11 = .ok (.ifCond .ne 11, 3) := by decide +kernel
theorem dX11_finish_14 : decode cX11_finish 14 = .ok (.aload_n 0, 1) := by decide +kernel
theorem dX11_finish_15 : decode cX11_finish 15 = .ok (.aload_n 0, 1) := by decide +kernel
theorem dX11_finish_16 : decode cX11_finish 16 = .ok (.getfield 237, 3) := by decide +kernel
theorem dX11_finish_19 : decode cX11_finish 19 = .ok (.invokevirtual 258, 3) := by decide +kernel
theorem dX11_finish_22 : decode cX11_finish 22 = .ok (.aload_n 0, 1) := by decide +kernel
theorem dX11_finish_23 : decode cX11_finish 23 = .ok (.iload_n 1, 1) := by decide +kernel
theorem dX11_finish_24 : decode cX11_finish 24 = .ok (.putfield 261, 3) := by decide +kernel
theorem dX11_finish_27 : decode cX11_finish 27 = .ok (.aload_n 0, 1) := by decide +kernel
theorem dX11_finish_28 : decode cX11_finish 28 = .ok (.iload_n 2, 1) := by decide +kernel
theorem dX11_finish_29 : decode cX11_finish 29 = .ok (.putfield 264, 3) := by decide +kernel
theorem dX11_finish_32 : decode cX11_finish 32 = .ok (.aload_n 0, 1) := by decide +kernel
theorem dX11_finish_33 : decode cX11_finish 33 = .ok (.getfield 237, 3) := by decide +kernel
theorem dX11_finish_36 : decode cX11_finish 36 = .ok (.ifCond .le 37, 3) := by decide +kernel
theorem dX11_finish_39 : decode cX11_finish 39 = .ok (.aload_n 0, 1) := by decide +kernel
theorem dX11_finish_40 : decode cX11_finish 40 = .ok (.getfield 140, 3) := by decide +kernel
theorem dX11_finish_43 : decode cX11_finish 43 = .ok (.aload_n 0, 1) := by decide +kernel
theorem dX11_finish_44 : decode cX11_finish 44 = .ok (.getfield 237, 3) := by decide +kernel
theorem dX11_finish_47 : decode cX11_finish 47 = .ok (.iconst 1, 1) := by decide +kernel
theorem dX11_finish_48 : decode cX11_finish 48 = .ok (.isub, 1) := by decide +kernel
theorem dX11_finish_49 : decode cX11_finish 49 = .ok (.dup2, 1) := by decide +kernel
theorem dX11_finish_50 : decode cX11_finish 50 = .ok (.iaload, 1) := by decide +kernel
theorem dX11_finish_51 : decode cX11_finish 51 = .ok (.iload_n 2, 1) := by decide +kernel
theorem dX11_finish_52 : decode cX11_finish 52 = .ok (.iadd, 1) := by decide +kernel
theorem dX11_finish_53 : decode cX11_finish 53 = .ok (.iastore, 1) := by decide +kernel
theorem dX11_finish_54 : decode cX11_finish 54 = .ok (.aload_n 0, 1) := by decide +kernel
theorem dX11_finish_55 : decode cX11_finish 55 = .ok (.aload_n 0, 1) := by decide +kernel
theorem dX11_finish_56 : decode cX11_finish 56 = .ok (.getfield 237, 3) := by decide +kernel
theorem dX11_finish_59 : decode cX11_finish 59 = .ok (.iconst 1, 1) := by decide +kernel
theorem dX11_finish_60 : decode cX11_finish 60 = .ok (.isub, 1) := by decide +kernel
theorem dX11_finish_61 : decode cX11_finish 61 = .ok (.iload_n 1, 1) := by decide +kernel
theorem dX11_finish_62 : decode cX11_finish 62 = .ok (.ifCond .eq 7, 3) := by decide +kernel
theorem dX11_finish_65 : decode cX11_finish 65 = .ok (.iconst 1, 1) := by decide +kernel
theorem dX11_finish_66 : decode cX11_finish 66 = .ok (.goto 4, 3) := by decide +kernel
theorem dX11_finish_69 : decode cX11_finish 69 = .ok (.iconst 0, 1) := by decide +kernel
theorem dX11_finish_70 : decode cX11_finish 70 = .ok (.invokevirtual 267, 3) := by decide +kernel
theorem dX11_finish_73 : decode cX11_finish 73 = .ok (.return_, 1) := by decide +kernel
theorem dX11_reckoned_0 : decode cX11_reckoned 0 = .ok (.iload_n 1, 1) := by decide +kernel
theorem dX11_reckoned_1 : decode cX11_reckoned 1 = .ok (.iconst 1, 1) := by decide +kernel
theorem dX11_reckoned_2 : decode cX11_reckoned 2 = .ok (.if_icmp .ne 13, 3) := by decide +kernel
theorem dX11_reckoned_5 : decode cX11_reckoned 5 = .ok (.iload_n 2, 1) := by decide +kernel
theorem dX11_reckoned_6 : decode cX11_reckoned 6 = .ok (.iload_n 3, 1) := by decide +kernel
theorem dX11_reckoned_7 : decode cX11_reckoned 7 = .ok (.iadd, 1) := by decide +kernel
theorem dX11_reckoned_8 : decode cX11_reckoned 8 = .ok (.ldc_w 271, 3) := by decide +kernel
theorem dX11_reckoned_11 : decode cX11_reckoned 11 = .ok (.irem, 1) := by decide +kernel
theorem dX11_reckoned_12 : decode cX11_reckoned 12 = .ok (.goto 68, 3) := by decide +kernel
theorem dX11_reckoned_15 : decode cX11_reckoned 15 = .ok (.iload_n 1, 1) := by decide +kernel
theorem dX11_reckoned_16 : decode cX11_reckoned 16 = .ok (.iconst 2, 1) := by decide +kernel
theorem dX11_reckoned_17 : decode cX11_reckoned 17 = .ok (.if_icmp .ne 17, 3) := by decide +kernel
theorem dX11_reckoned_20 : decode cX11_reckoned 20 = .ok (.iload_n 2, 1) := by decide +kernel
theorem dX11_reckoned_21 : decode cX11_reckoned 21 = .ok (.iload_n 3, 1) := by decide +kernel
theorem dX11_reckoned_22 : decode cX11_reckoned 22 = .ok (.isub, 1) := by decide +kernel
theorem dX11_reckoned_23 : decode cX11_reckoned 23 = .ok (.ldc_w 271, 3) := by decide +kernel
theorem dX11_reckoned_26 : decode cX11_reckoned 26 = .ok (.iadd, 1) := by decide +kernel
theorem dX11_reckoned_27 : decode cX11_reckoned 27 = .ok (.ldc_w 271, 3) := by decide +kernel
theorem dX11_reckoned_30 : decode cX11_reckoned 30 = .ok (.irem, 1) := by decide +kernel
theorem dX11_reckoned_31 : decode cX11_reckoned 31 = .ok (.goto 49, 3) := by decide +kernel
theorem dX11_reckoned_34 : decode cX11_reckoned 34 = .ok (.iload_n 1, 1) := by decide +kernel
theorem dX11_reckoned_35 : decode cX11_reckoned 35 = .ok (.iconst 3, 1) := by decide +kernel
theorem dX11_reckoned_36 : decode cX11_reckoned 36 = .ok (.if_icmp .ne 16, 3) := by decide +kernel
theorem dX11_reckoned_39 : decode cX11_reckoned 39 = .ok (.iload_n 2, 1) := by decide +kernel
theorem dX11_reckoned_40 : decode cX11_reckoned 40 = .ok (.i2l, 1) := by decide +kernel
theorem dX11_reckoned_41 : decode cX11_reckoned 41 = .ok (.iload_n 3, 1) := by decide +kernel
theorem dX11_reckoned_42 : decode cX11_reckoned 42 = .ok (.i2l, 1) := by decide +kernel
theorem dX11_reckoned_43 : decode cX11_reckoned 43 = .ok (.lmul, 1) := by decide +kernel
theorem dX11_reckoned_44 : decode cX11_reckoned 44 = .ok (.ldc2_w 272, 3) := by decide +kernel
theorem dX11_reckoned_47 : decode cX11_reckoned 47 = .ok (.lrem, 1) := by decide +kernel
theorem dX11_reckoned_48 : decode cX11_reckoned 48 = .ok (.l2i, 1) := by decide +kernel
theorem dX11_reckoned_49 : decode cX11_reckoned 49 = .ok (.goto 31, 3) := by decide +kernel
theorem dX11_reckoned_52 : decode cX11_reckoned 52 = .ok (.iload_n 1, 1) := by decide +kernel
theorem dX11_reckoned_53 : decode cX11_reckoned 53 = .ok (.iconst 4, 1) := by decide +kernel
theorem dX11_reckoned_54 : decode cX11_reckoned 54 = .ok (.if_icmp .ne 16, 3) := by decide +kernel
theorem dX11_reckoned_57 : decode cX11_reckoned 57 = .ok (.iload_n 2, 1) := by decide +kernel
theorem dX11_reckoned_58 : decode cX11_reckoned 58 = .ok (.iload_n 3, 1) := by decide +kernel
theorem dX11_reckoned_59 : decode cX11_reckoned 59 = .ok (.if_icmp .ge 7, 3) := by decide +kernel
theorem dX11_reckoned_62 : decode cX11_reckoned 62 = .ok (.iconst 1, 1) := by decide +kernel
theorem dX11_reckoned_63 : decode cX11_reckoned 63 = .ok (.goto 17, 3) := by decide +kernel
theorem dX11_reckoned_66 : decode cX11_reckoned 66 = .ok (.iconst 0, 1) := by decide +kernel
theorem dX11_reckoned_67 : decode cX11_reckoned 67 = .ok (.goto 13, 3) := by decide +kernel
theorem dX11_reckoned_70 : decode cX11_reckoned 70 = .ok (.iload_n 2, 1) := by decide +kernel
theorem dX11_reckoned_71 : decode cX11_reckoned 71 = .ok (.iload_n 3, 1) := by decide +kernel
theorem dX11_reckoned_72 : decode cX11_reckoned 72 = .ok (.if_icmp .ne 7, 3) := by decide +kernel
theorem dX11_reckoned_75 : decode cX11_reckoned 75 = .ok (.iconst 1, 1) := by decide +kernel
theorem dX11_reckoned_76 : decode cX11_reckoned 76 = .ok (.goto 4, 3) := by decide +kernel
theorem dX11_reckoned_79 : decode cX11_reckoned 79 = .ok (.iconst 0, 1) := by decide +kernel
theorem dX11_reckoned_80 : decode cX11_reckoned 80 = .ok (.ireturn, 1) := by decide +kernel
theorem dX11_move_0 : decode cX11_move 0 = .ok (.aload_n 0, 1) := by decide +kernel
theorem dX11_move_1 : decode cX11_move 1 = .ok (.getfield 13, 3) := by decide +kernel
theorem dX11_move_4 : decode cX11_move 4 = .ok (.iload_n 1, 1) := by decide +kernel
theorem dX11_move_5 : decode cX11_move 5 = .ok (.dup2, 1) := by decide +kernel
theorem dX11_move_6 : decode cX11_move 6 = .ok (.iaload, 1) := by decide +kernel
theorem dX11_move_7 : decode cX11_move 7 = .ok (.iload_n 3, 1) := by decide +kernel
theorem dX11_move_8 : decode cX11_move 8 = .ok (.isub, 1) := by decide +kernel
theorem dX11_move_9 : decode cX11_move 9 = .ok (.iastore, 1) := by decide +kernel
theorem dX11_move_10 : decode cX11_move 10 = .ok (.aload_n 0, 1) := by decide +kernel
theorem dX11_move_11 : decode cX11_move 11 = .ok (.getfield 13, 3) := by decide +kernel
theorem dX11_move_14 : decode cX11_move 14 = .ok (.iload_n 2, 1) := by decide +kernel
theorem dX11_move_15 : decode cX11_move 15 = .ok (.dup2, 1) := by decide +kernel
theorem dX11_move_16 : decode cX11_move 16 = .ok (.iaload, 1) := by decide +kernel
theorem dX11_move_17 : decode cX11_move 17 = .ok (.iload_n 3, 1) := by decide +kernel
theorem dX11_move_18 : decode cX11_move 18 = .ok (.iadd, 1) := by decide +kernel
theorem dX11_move_19 : decode cX11_move 19 = .ok (.iastore, 1) := by decide +kernel
theorem dX11_move_20 : decode cX11_move 20 = .ok (.return_, 1) := by decide +kernel
theorem dX11_address_0 : decode cX11_address 0 = .ok (.bipush 6, 2) := by decide +kernel
theorem dX11_address_2 : decode cX11_address 2 = .ok (.iconst 5, 1) := by decide +kernel
theorem dX11_address_3 : decode cX11_address 3 = .ok (.iload_n 1, 1) := by decide +kernel
theorem dX11_address_4 : decode cX11_address 4 = .ok (.imul, 1) := by decide +kernel
theorem dX11_address_5 : decode cX11_address 5 = .ok (.iconst 3, 1) := by decide +kernel
theorem dX11_address_6 : decode cX11_address 6 = .ok (.iload_n 2, 1) := by decide +kernel
theorem dX11_address_7 : decode cX11_address 7 = .ok (.imul, 1) := by decide +kernel
theorem dX11_address_8 : decode cX11_address 8 = .ok (.iadd, 1) := by decide +kernel
theorem dX11_address_9 : decode cX11_address 9 = .ok (.bipush 9, 2) := by decide +kernel
theorem dX11_address_11 : decode cX11_address 11 = .ok (.irem, 1) := by decide +kernel
theorem dX11_address_12 : decode cX11_address 12 = .ok (.iadd, 1) := by decide +kernel
theorem dX11_address_13 : decode cX11_address 13 = .ok (.ireturn, 1) := by decide +kernel
theorem dX11_made_0 : decode cX11_made 0 = .ok (.aload_n 0, 1) := by decide +kernel
theorem dX11_made_1 : decode cX11_made 1 = .ok (.iload_n 1, 1) := by decide +kernel
theorem dX11_made_2 : decode cX11_made 2 = .ok (.iload_n 2, 1) := by decide +kernel
theorem dX11_made_3 : decode cX11_made 3 = .ok (.invokevirtual 274, 3) := by decide +kernel
theorem dX11_made_6 : decode cX11_made 6 = .ok (.istore 5, 2) := by decide +kernel
theorem dX11_made_8 : decode cX11_made 8 = .ok (.aload_n 0, 1) := by decide +kernel
theorem dX11_made_9 : decode cX11_made 9 = .ok (.getfield 13, 3) := by decide +kernel
theorem dX11_made_12 : decode cX11_made 12 = .ok (.iload_n 1, 1) := by decide +kernel
theorem dX11_made_13 : decode cX11_made 13 = .ok (.iaload, 1) := by decide +kernel
theorem dX11_made_14 : decode cX11_made 14 = .ok (.iload 4, 2) := by decide +kernel
theorem dX11_made_16 : decode cX11_made 16 = .ok (.if_icmp .lt 29, 3) := by decide +kernel
theorem dX11_made_19 : decode cX11_made 19 = .ok (.aload_n 0, 1) := by decide +kernel
theorem dX11_made_20 : decode cX11_made 20 = .ok (.getfield 13, 3) := by decide +kernel
theorem dX11_made_23 : decode cX11_made 23 = .ok (.bipush 32, 2) := by decide +kernel
theorem dX11_made_25 : decode cX11_made 25 = .ok (.iload 5, 2) := by decide +kernel
theorem dX11_made_27 : decode cX11_made 27 = .ok (.iadd, 1) := by decide +kernel
theorem dX11_made_28 : decode cX11_made 28 = .ok (.iaload, 1) := by decide +kernel
theorem dX11_made_29 : decode cX11_made 29 = .ok (.ifCond .ne 16, 3) := by decide +kernel
theorem dX11_made_32 : decode cX11_made 32 = .ok (.aload_n 0, 1) := by decide +kernel
theorem dX11_made_33 : decode cX11_made 33 = .ok (.getfield 13, 3) := by decide +kernel
theorem dX11_made_36 : decode cX11_made 36 = .ok (.bipush 16, 2) := by decide +kernel
theorem dX11_made_38 : decode cX11_made 38 = .ok (.iload 5, 2) := by decide +kernel
theorem dX11_made_40 : decode cX11_made 40 = .ok (.iadd, 1) := by decide +kernel
theorem dX11_made_41 : decode cX11_made 41 = .ok (.iaload, 1) := by decide +kernel
theorem dX11_made_42 : decode cX11_made 42 = .ok (.ifCond .eq 5, 3) := by decide +kernel
theorem dX11_made_45 : decode cX11_made 45 = .ok (.iconst (-1), 1) := by decide +kernel
theorem dX11_made_46 : decode cX11_made 46 = .ok (.ireturn, 1) := by decide +kernel
theorem dX11_made_47 : decode cX11_made 47 = .ok (.aload_n 0, 1) := by decide +kernel
theorem dX11_made_48 : decode cX11_made 48 = .ok (.iload_n 1, 1) := by decide +kernel
theorem dX11_made_49 : decode cX11_made 49 = .ok (.iload 5, 2) := by decide +kernel
theorem dX11_made_51 : decode cX11_made 51 = .ok (.iload 4, 2) := by decide +kernel
theorem dX11_made_53 : decode cX11_made 53 = .ok (.invokevirtual 277, 3) := by decide +kernel
theorem dX11_made_56 : decode cX11_made 56 = .ok (.aload_n 0, 1) := by decide +kernel
theorem dX11_made_57 : decode cX11_made 57 = .ok (.getfield 13, 3) := by decide +kernel
theorem dX11_made_60 : decode cX11_made 60 = .ok (.bipush 32, 2) := by decide +kernel
theorem dX11_made_62 : decode cX11_made 62 = .ok (.iload 5, 2) := by decide +kernel
theorem dX11_made_64 : decode cX11_made 64 = .ok (.iadd, 1) := by decide +kernel
theorem dX11_made_65 : decode cX11_made 65 = .ok (.iload_n 3, 1) := by decide +kernel
theorem dX11_made_66 : decode cX11_made 66 = .ok (.iconst 1, 1) := by decide +kernel
theorem dX11_made_67 : decode cX11_made 67 = .ok (.iadd, 1) := by decide +kernel
theorem dX11_made_68 : decode cX11_made 68 = .ok (.iastore, 1) := by decide +kernel
theorem dX11_made_69 : decode cX11_made 69 = .ok (.aload_n 0, 1) := by decide +kernel
theorem dX11_made_70 : decode cX11_made 70 = .ok (.getfield 13, 3) := by decide +kernel
theorem dX11_made_73 : decode cX11_made 73 = .ok (.bipush 16, 2) := by decide +kernel
theorem dX11_made_75 : decode cX11_made 75 = .ok (.iload 5, 2) := by decide +kernel
theorem dX11_made_77 : decode cX11_made 77 = .ok (.iadd, 1) := by decide +kernel
theorem dX11_made_78 : decode cX11_made 78 = .ok (.iconst 1, 1) := by decide +kernel
theorem dX11_made_79 : decode cX11_made 79 = .ok (.iastore, 1) := by decide +kernel
theorem dX11_made_80 : decode cX11_made 80 = .ok (.iload 5, 2) := by decide +kernel
theorem dX11_made_82 : decode cX11_made 82 = .ok (.ireturn, 1) := by decide +kernel
theorem dX11_calls_0 : decode cX11_calls 0 = .ok (.aload_n 0, 1) := by decide +kernel
theorem dX11_calls_1 : decode cX11_calls 1 = .ok (.iload_n 1, 1) := by decide +kernel
theorem dX11_calls_2 : decode cX11_calls 2 = .ok (.invokevirtual 281, 3) := by decide +kernel
theorem dX11_calls_5 : decode cX11_calls 5 = .ok (.istore_n 2, 1) := by decide +kernel
theorem dX11_calls_6 : decode cX11_calls 6 = .ok (.aload_n 0, 1) := by decide +kernel
theorem dX11_calls_7 : decode cX11_calls 7 = .ok (.iload_n 1, 1) := by decide +kernel
theorem dX11_calls_8 : decode cX11_calls 8 = .ok (.invokevirtual 281, 3) := by decide +kernel
theorem dX11_calls_11 : decode cX11_calls 11 = .ok (.istore_n 3, 1) := by decide +kernel
theorem dX11_calls_12 : decode cX11_calls 12 = .ok (.aload_n 0, 1) := by decide +kernel
theorem dX11_calls_13 : decode cX11_calls 13 = .ok (.iload_n 1, 1) := by decide +kernel
theorem dX11_calls_14 : decode cX11_calls 14 = .ok (.invokevirtual 281, 3) := by decide +kernel
theorem dX11_calls_17 : decode cX11_calls 17 = .ok (.bipush 16, 2) := by decide +kernel
theorem dX11_calls_19 : decode cX11_calls 19 = .ok (.irem, 1) := by decide +kernel
theorem dX11_calls_20 : decode cX11_calls 20 = .ok (.istore 4, 2) := by decide +kernel
theorem dX11_calls_22 : decode cX11_calls 22 = .ok (.iload_n 1, 1) := by decide +kernel
theorem dX11_calls_23 : decode cX11_calls 23 = .ok (.iconst 3, 1) := by decide +kernel
theorem dX11_calls_24 : decode cX11_calls 24 = .ok (.if_icmp .eq 18, 3) := by decide +kernel
theorem dX11_calls_27 : decode cX11_calls 27 = .ok (.aload_n 0, 1) := by decide +kernel
theorem dX11_calls_28 : decode cX11_calls 28 = .ok (.getfield 13, 3) := by decide +kernel
theorem dX11_calls_31 : decode cX11_calls 31 = .ok (.aload_n 0, 1) := by decide +kernel
theorem dX11_calls_32 : decode cX11_calls 32 = .ok (.getfield 128, 3) := by decide +kernel
theorem dX11_calls_35 : decode cX11_calls 35 = .ok (.iload_n 1, 1) := by decide +kernel
theorem dX11_calls_36 : decode cX11_calls 36 = .ok (.iaload, 1) := by decide +kernel
theorem dX11_calls_37 : decode cX11_calls 37 = .ok (.iaload, 1) := by decide +kernel
theorem dX11_calls_38 : decode cX11_calls 38 = .ok (.iload_n 3, 1) := by decide +kernel
theorem dX11_calls_39 : decode cX11_calls 39 = .ok (.if_icmp .ge 10, 3) := by decide +kernel
theorem dX11_calls_42 : decode cX11_calls 42 = .ok (.aload_n 0, 1) := by decide +kernel
theorem dX11_calls_43 : decode cX11_calls 43 = .ok (.iload_n 1, 1) := by decide +kernel
theorem dX11_calls_44 : decode cX11_calls 44 = .ok (.iconst 0, 1) := by decide +kernel
theorem dX11_calls_45 : decode cX11_calls 45 = .ok (.invokevirtual 267, 3) := by decide +kernel
theorem dX11_calls_48 : decode cX11_calls 48 = .ok (.return_, 1) := by decide +kernel
theorem dX11_calls_49 : decode cX11_calls 49 = .ok (.aload_n 0, 1) := by decide +kernel
theorem dX11_calls_50 : decode cX11_calls 50 = .ok (.iload_n 1, 1) := by decide +kernel
theorem dX11_calls_51 : decode cX11_calls 51 = .ok (.iconst 1, 1) := by decide +kernel
theorem dX11_calls_52 : decode cX11_calls 52 = .ok (.iadd, 1) := by decide +kernel
theorem dX11_calls_53 : decode cX11_calls 53 = .ok (.invokevirtual 284, 3) := by decide +kernel
theorem dX11_calls_56 : decode cX11_calls 56 = .ok (.aload_n 0, 1) := by decide +kernel
theorem dX11_calls_57 : decode cX11_calls 57 = .ok (.aload_n 0, 1) := by decide +kernel
theorem dX11_calls_58 : decode cX11_calls 58 = .ok (.getfield 128, 3) := by decide +kernel
theorem dX11_calls_61 : decode cX11_calls 61 = .ok (.iload_n 1, 1) := by decide +kernel
theorem dX11_calls_62 : decode cX11_calls 62 = .ok (.iaload, 1) := by decide +kernel
theorem dX11_calls_63 : decode cX11_calls 63 = .ok (.iload 4, 2) := by decide +kernel
theorem dX11_calls_65 : decode cX11_calls 65 = .ok (.iload_n 3, 1) := by decide +kernel
theorem dX11_calls_66 : decode cX11_calls 66 = .ok (.invokevirtual 277, 3) := by decide +kernel
theorem dX11_calls_69 : decode cX11_calls 69 = .ok (.aload_n 0, 1) := by decide +kernel
theorem dX11_calls_70 : decode cX11_calls 70 = .ok (.getfield 13, 3) := by decide +kernel
theorem dX11_calls_73 : decode cX11_calls 73 = .ok (.bipush 32, 2) := by decide +kernel
theorem dX11_calls_75 : decode cX11_calls 75 = .ok (.iload 4, 2) := by decide +kernel
theorem dX11_calls_77 : decode cX11_calls 77 = .ok (.iadd, 1) := by decide +kernel
theorem dX11_calls_78 : decode cX11_calls 78 = .ok (.iaload, 1) := by decide +kernel
theorem dX11_calls_79 : decode cX11_calls 79 = .ok (.ifCond .ne 10, 3) := by decide +kernel
theorem dX11_calls_82 : decode cX11_calls 82 = .ok (.aload_n 0, 1) := by decide +kernel
theorem dX11_calls_83 : decode cX11_calls 83 = .ok (.iload_n 1, 1) := by decide +kernel
theorem dX11_calls_84 : decode cX11_calls 84 = .ok (.iconst 1, 1) := by decide +kernel
theorem dX11_calls_85 : decode cX11_calls 85 = .ok (.invokevirtual 267, 3) := by decide +kernel
theorem dX11_calls_88 : decode cX11_calls 88 = .ok (.return_, 1) := by decide +kernel
theorem dX11_calls_89 : decode cX11_calls 89 = .ok (.aload_n 0, 1) := by decide +kernel
theorem dX11_calls_90 : decode cX11_calls 90 = .ok (.getfield 140, 3) := by decide +kernel
theorem dX11_calls_93 : decode cX11_calls 93 = .ok (.iload_n 1, 1) := by decide +kernel
theorem dX11_calls_94 : decode cX11_calls 94 = .ok (.iaload, 1) := by decide +kernel
theorem dX11_calls_95 : decode cX11_calls 95 = .ok (.aload_n 0, 1) := by decide +kernel
theorem dX11_calls_96 : decode cX11_calls 96 = .ok (.getfield 140, 3) := by decide +kernel
theorem dX11_calls_99 : decode cX11_calls 99 = .ok (.iload_n 1, 1) := by decide +kernel
theorem dX11_calls_100 : decode cX11_calls 100 = .ok (.iaload, 1) := by decide +kernel
theorem dX11_calls_101 : decode cX11_calls 101 = .ok (.iconst 4, 1) := by decide +kernel
theorem dX11_calls_102 : decode cX11_calls 102 = .ok (.idiv, 1) := by decide +kernel
theorem dX11_calls_103 : decode cX11_calls 103 = .ok (.isub, 1) := by decide +kernel
theorem dX11_calls_104 : decode cX11_calls 104 = .ok (.istore 5, 2) := by decide +kernel
theorem dX11_calls_106 : decode cX11_calls 106 = .ok (.aload_n 0, 1) := by decide +kernel
theorem dX11_calls_107 : decode cX11_calls 107 = .ok (.getfield 140, 3) := by decide +kernel
theorem dX11_calls_110 : decode cX11_calls 110 = .ok (.iload_n 1, 1) := by decide +kernel
theorem dX11_calls_111 : decode cX11_calls 111 = .ok (.dup2, 1) := by decide +kernel
theorem dX11_calls_112 : decode cX11_calls 112 = .ok (.iaload, 1) := by decide +kernel
theorem dX11_calls_113 : decode cX11_calls 113 = .ok (.iload 5, 2) := by decide +kernel
theorem dX11_calls_115 : decode cX11_calls 115 = .ok (.isub, 1) := by decide +kernel
theorem dX11_calls_116 : decode cX11_calls 116 = .ok (.iastore, 1) := by decide +kernel
theorem dX11_calls_117 : decode cX11_calls 117 = .ok (.aload_n 0, 1) := by decide +kernel
theorem dX11_calls_118 : decode cX11_calls 118 = .ok (.iload 4, 2) := by decide +kernel
theorem dX11_calls_120 : decode cX11_calls 120 = .ok (.aload_n 0, 1) := by decide +kernel
theorem dX11_calls_121 : decode cX11_calls 121 = .ok (.getfield 128, 3) := by decide +kernel
theorem dX11_calls_124 : decode cX11_calls 124 = .ok (.iload_n 1, 1) := by decide +kernel
theorem dX11_calls_125 : decode cX11_calls 125 = .ok (.iaload, 1) := by decide +kernel
theorem dX11_calls_126 : decode cX11_calls 126 = .ok (.iload_n 3, 1) := by decide +kernel
theorem dX11_calls_127 : decode cX11_calls 127 = .ok (.iload_n 2, 1) := by decide +kernel
theorem dX11_calls_128 : decode cX11_calls 128 = .ok (.iload 5, 2) := by decide +kernel
theorem dX11_calls_130 : decode cX11_calls 130 = .ok (.invokevirtual 287, 3) := by decide +kernel
theorem dX11_calls_133 : decode cX11_calls 133 = .ok (.return_, 1) := by decide +kernel
theorem dX11_ends_0 : decode cX11_ends 0 = .ok (.aload_n 0, 1) := by decide +kernel
theorem dX11_ends_1 : decode cX11_ends 1 = .ok (.iload_n 1, 1) := by decide +kernel
theorem dX11_ends_2 : decode cX11_ends 2 = .ok (.invokevirtual 281, 3) := by decide +kernel
theorem dX11_ends_5 : decode cX11_ends 5 = .ok (.bipush 16, 2) := by decide +kernel
theorem dX11_ends_7 : decode cX11_ends 7 = .ok (.irem, 1) := by decide +kernel
theorem dX11_ends_8 : decode cX11_ends 8 = .ok (.istore_n 2, 1) := by decide +kernel
theorem dX11_ends_9 : decode cX11_ends 9 = .ok (.aload_n 0, 1) := by decide +kernel
theorem dX11_ends_10 : decode cX11_ends 10 = .ok (.getfield 128, 3) := by decide +kernel
theorem dX11_ends_13 : decode cX11_ends 13 = .ok (.iload_n 1, 1) := by decide +kernel
theorem dX11_ends_14 : decode cX11_ends 14 = .ok (.iaload, 1) := by decide +kernel
theorem dX11_ends_15 : decode cX11_ends 15 = .ok (.istore_n 3, 1) := by decide +kernel
theorem dX11_ends_16 : decode cX11_ends 16 = .ok (.aload_n 0, 1) := by decide +kernel
theorem dX11_ends_17 : decode cX11_ends 17 = .ok (.getfield 13, 3) := by decide +kernel
theorem dX11_ends_20 : decode cX11_ends 20 = .ok (.iload_n 3, 1) := by decide +kernel
theorem dX11_ends_21 : decode cX11_ends 21 = .ok (.iaload, 1) := by decide +kernel
theorem dX11_ends_22 : decode cX11_ends 22 = .ok (.istore 4, 2) := by decide +kernel
theorem dX11_ends_24 : decode cX11_ends 24 = .ok (.aload_n 0, 1) := by decide +kernel
theorem dX11_ends_25 : decode cX11_ends 25 = .ok (.getfield 13, 3) := by decide +kernel
theorem dX11_ends_28 : decode cX11_ends 28 = .ok (.bipush 112, 2) := by decide +kernel
theorem dX11_ends_30 : decode cX11_ends 30 = .ok (.dup2, 1) := by decide +kernel
theorem dX11_ends_31 : decode cX11_ends 31 = .ok (.iaload, 1) := by decide +kernel
theorem dX11_ends_32 : decode cX11_ends 32 = .ok (.iload_n 2, 1) := by decide +kernel
theorem dX11_ends_33 : decode cX11_ends 33 = .ok (.iload_n 3, 1) := by decide +kernel
theorem dX11_ends_34 : decode cX11_ends 34 = .ok (.if_icmp .ne 8, 3) := by decide +kernel
theorem dX11_ends_37 : decode cX11_ends 37 = .ok (.iload 4, 2) := by decide +kernel
theorem dX11_ends_39 : decode cX11_ends 39 = .ok (.goto 4, 3) := by decide +kernel
theorem dX11_ends_42 : decode cX11_ends 42 = .ok (.iconst 0, 1) := by decide +kernel
theorem dX11_ends_43 : decode cX11_ends 43 = .ok (.iadd, 1) := by decide +kernel
theorem dX11_ends_44 : decode cX11_ends 44 = .ok (.iastore, 1) := by decide +kernel
theorem dX11_ends_45 : decode cX11_ends 45 = .ok (.aload_n 0, 1) := by decide +kernel
theorem dX11_ends_46 : decode cX11_ends 46 = .ok (.getfield 13, 3) := by decide +kernel
theorem dX11_ends_49 : decode cX11_ends 49 = .ok (.iload_n 3, 1) := by decide +kernel
theorem dX11_ends_50 : decode cX11_ends 50 = .ok (.iconst 0, 1) := by decide +kernel
theorem dX11_ends_51 : decode cX11_ends 51 = .ok (.iastore, 1) := by decide +kernel
theorem dX11_ends_52 : decode cX11_ends 52 = .ok (.aload_n 0, 1) := by decide +kernel
theorem dX11_ends_53 : decode cX11_ends 53 = .ok (.getfield 13, 3) := by decide +kernel
theorem dX11_ends_56 : decode cX11_ends 56 = .ok (.iload_n 2, 1) := by decide +kernel
theorem dX11_ends_57 : decode cX11_ends 57 = .ok (.dup2, 1) := by decide +kernel
theorem dX11_ends_58 : decode cX11_ends 58 = .ok (.iaload, 1) := by decide +kernel
theorem dX11_ends_59 : decode cX11_ends 59 = .ok (.iload_n 2, 1) := by decide +kernel
theorem dX11_ends_60 : decode cX11_ends 60 = .ok (.iload_n 3, 1) := by decide +kernel
theorem dX11_ends_61 : decode cX11_ends 61 = .ok (.if_icmp .ne 7, 3) := by decide +kernel
theorem dX11_ends_64 : decode cX11_ends 64 = .ok (.iconst 0, 1) := by decide +kernel
theorem dX11_ends_65 : decode cX11_ends 65 = .ok (.goto 5, 3) := by decide +kernel
theorem dX11_ends_68 : decode cX11_ends 68 = .ok (.iload 4, 2) := by decide +kernel
theorem dX11_ends_70 : decode cX11_ends 70 = .ok (.iadd, 1) := by decide +kernel
theorem dX11_ends_71 : decode cX11_ends 71 = .ok (.iastore, 1) := by decide +kernel
theorem dX11_ends_72 : decode cX11_ends 72 = .ok (.aload_n 0, 1) := by decide +kernel
theorem dX11_ends_73 : decode cX11_ends 73 = .ok (.getfield 13, 3) := by decide +kernel
theorem dX11_ends_76 : decode cX11_ends 76 = .ok (.bipush 32, 2) := by decide +kernel
theorem dX11_ends_78 : decode cX11_ends 78 = .ok (.iload_n 3, 1) := by decide +kernel
theorem dX11_ends_79 : decode cX11_ends 79 = .ok (.iadd, 1) := by decide +kernel
theorem dX11_ends_80 : decode cX11_ends 80 = .ok (.iconst 0, 1) := by decide +kernel
theorem dX11_ends_81 : decode cX11_ends 81 = .ok (.iastore, 1) := by decide +kernel
theorem dX11_ends_82 : decode cX11_ends 82 = .ok (.iconst 0, 1) := by decide +kernel
theorem dX11_ends_83 : decode cX11_ends 83 = .ok (.istore 5, 2) := by decide +kernel
theorem dX11_ends_85 : decode cX11_ends 85 = .ok (.iload 5, 2) := by decide +kernel
theorem dX11_ends_87 : decode cX11_ends 87 = .ok (.iconst 4, 1) := by decide +kernel
theorem dX11_ends_88 : decode cX11_ends 88 = .ok (.if_icmp .ge 24, 3) := by decide +kernel
theorem dX11_ends_91 : decode cX11_ends 91 = .ok (.aload_n 0, 1) := by decide +kernel
theorem dX11_ends_92 : decode cX11_ends 92 = .ok (.getfield 13, 3) := by decide +kernel
theorem dX11_ends_95 : decode cX11_ends 95 = .ok (.bipush 48, 2) := by decide +kernel
theorem dX11_ends_97 : decode cX11_ends 97 = .ok (.iconst 4, 1) := by decide +kernel
theorem dX11_ends_98 : decode cX11_ends 98 = .ok (.iload_n 3, 1) := by decide +kernel
theorem dX11_ends_99 : decode cX11_ends 99 = .ok (.imul, 1) := by decide +kernel
theorem dX11_ends_100 : decode cX11_ends 100 = .ok (.iadd, 1) := by decide +kernel
theorem dX11_ends_101 : decode cX11_ends 101 = .ok (.iload 5, 2) := by decide +kernel
theorem dX11_ends_103 : decode cX11_ends 103 = .ok (.iadd, 1) := by decide +kernel
theorem dX11_ends_104 : decode cX11_ends 104 = .ok (.iconst 0, 1) := by decide +kernel
theorem dX11_ends_105 : decode cX11_ends 105 = .ok (.iastore, 1) := by decide +kernel
theorem dX11_ends_106 : decode cX11_ends 106 = .ok (.iinc 5 1, 3) := by decide +kernel
theorem dX11_ends_109 : decode cX11_ends 109 = .ok (.goto (-24), 3) := by decide +kernel
theorem dX11_ends_112 : decode cX11_ends 112 = .ok (.aload_n 0, 1) := by decide +kernel
theorem dX11_ends_113 : decode cX11_ends 113 = .ok (.dup, 1) := by decide +kernel
theorem dX11_ends_114 : decode cX11_ends 114 = .ok (.getfield 243, 3) := by decide +kernel
theorem dX11_ends_117 : decode cX11_ends 117 = .ok (.bipush 60, 2) := by decide +kernel
theorem dX11_ends_119 : decode cX11_ends 119 = .ok (.iadd, 1) := by decide +kernel
theorem dX11_ends_120 : decode cX11_ends 120 = .ok (.putfield 243, 3) := by decide +kernel
theorem dX11_ends_123 : decode cX11_ends 123 = .ok (.aload_n 0, 1) := by decide +kernel
theorem dX11_ends_124 : decode cX11_ends 124 = .ok (.iconst 1, 1) := by decide +kernel
theorem dX11_ends_125 : decode cX11_ends 125 = .ok (.aload_n 0, 1) := by decide +kernel
theorem dX11_ends_126 : decode cX11_ends 126 = .ok (.getfield 140, 3) := by decide +kernel
theorem dX11_ends_129 : decode cX11_ends 129 = .ok (.iload_n 1, 1) := by decide +kernel
theorem dX11_ends_130 : decode cX11_ends 130 = .ok (.iaload, 1) := by decide +kernel
theorem dX11_ends_131 : decode cX11_ends 131 = .ok (.invokevirtual 291, 3) := by decide +kernel
theorem dX11_ends_134 : decode cX11_ends 134 = .ok (.return_, 1) := by decide +kernel
theorem dX11_writes_0 : decode cX11_writes 0 = .ok (.bipush 48, 2) := by decide +kernel
theorem dX11_writes_2 : decode cX11_writes 2 = .ok (.iconst 4, 1) := by decide +kernel
theorem dX11_writes_3 : decode cX11_writes 3 = .ok (.aload_n 0, 1) := by decide +kernel
theorem dX11_writes_4 : decode cX11_writes 4 = .ok (.getfield 128, 3) := by decide +kernel
theorem dX11_writes_7 : decode cX11_writes 7 = .ok (.iload_n 1, 1) := by decide +kernel
theorem dX11_writes_8 : decode cX11_writes 8 = .ok (.iaload, 1) := by decide +kernel
theorem dX11_writes_9 : decode cX11_writes 9 = .ok (.imul, 1) := by decide +kernel
theorem dX11_writes_10 : decode cX11_writes 10 = .ok (.iadd, 1) := by decide +kernel
theorem dX11_writes_11 : decode cX11_writes 11 = .ok (.iload_n 2, 1) := by decide +kernel
theorem dX11_writes_12 : decode cX11_writes 12 = .ok (.iadd, 1) := by decide +kernel
theorem dX11_writes_13 : decode cX11_writes 13 = .ok (.istore_n 3, 1) := by decide +kernel
theorem dX11_writes_14 : decode cX11_writes 14 = .ok (.aload_n 0, 1) := by decide +kernel
theorem dX11_writes_15 : decode cX11_writes 15 = .ok (.iload_n 1, 1) := by decide +kernel
theorem dX11_writes_16 : decode cX11_writes 16 = .ok (.invokevirtual 281, 3) := by decide +kernel
theorem dX11_writes_19 : decode cX11_writes 19 = .ok (.istore 4, 2) := by decide +kernel
theorem dX11_writes_21 : decode cX11_writes 21 = .ok (.aload_n 0, 1) := by decide +kernel
theorem dX11_writes_22 : decode cX11_writes 22 = .ok (.dup, 1) := by decide +kernel
theorem dX11_writes_23 : decode cX11_writes 23 = .ok (.getfield 243, 3) := by decide +kernel
theorem dX11_writes_26 : decode cX11_writes 26 = .ok (.aload_n 0, 1) := by decide +kernel
theorem dX11_writes_27 : decode cX11_writes 27 = .ok (.getfield 13, 3) := by decide +kernel
theorem dX11_writes_30 : decode cX11_writes 30 = .ok (.iload_n 3, 1) := by decide +kernel
theorem dX11_writes_31 : decode cX11_writes 31 = .ok (.iaload, 1) := by decide +kernel
theorem dX11_writes_32 : decode cX11_writes 32 = .ok (.ifCond .eq 13, 3) := by decide +kernel
theorem dX11_writes_35 : decode cX11_writes 35 = .ok (.iload 4, 2) := by decide +kernel
theorem dX11_writes_37 : decode cX11_writes 37 = .ok (.ifCond .ne 8, 3) := by decide +kernel
theorem dX11_writes_40 : decode cX11_writes 40 = .ok (.bipush 40, 2) := by decide +kernel
theorem dX11_writes_42 : decode cX11_writes 42 = .ok (.goto 4, 3) := by decide +kernel
theorem dX11_writes_45 : decode cX11_writes 45 = .ok (.iconst 0, 1) := by decide +kernel
theorem dX11_writes_46 : decode cX11_writes 46 = .ok (.iadd, 1) := by decide +kernel
theorem dX11_writes_47 : decode cX11_writes 47 = .ok (.putfield 243, 3) := by decide +kernel
theorem dX11_writes_50 : decode cX11_writes 50 = .ok (.aload_n 0, 1) := by decide +kernel
theorem dX11_writes_51 : decode cX11_writes 51 = .ok (.getfield 13, 3) := by decide +kernel
theorem dX11_writes_54 : decode cX11_writes 54 = .ok (.iload_n 3, 1) := by decide +kernel
theorem dX11_writes_55 : decode cX11_writes 55 = .ok (.iload 4, 2) := by decide +kernel
theorem dX11_writes_57 : decode cX11_writes 57 = .ok (.iastore, 1) := by decide +kernel
theorem dX11_writes_58 : decode cX11_writes 58 = .ok (.return_, 1) := by decide +kernel
theorem dX11_logs_0 : decode cX11_logs 0 = .ok (.aload_n 0, 1) := by decide +kernel
theorem dX11_logs_1 : decode cX11_logs 1 = .ok (.iload_n 1, 1) := by decide +kernel
theorem dX11_logs_2 : decode cX11_logs 2 = .ok (.invokevirtual 281, 3) := by decide +kernel
theorem dX11_logs_5 : decode cX11_logs 5 = .ok (.bipush 16, 2) := by decide +kernel
theorem dX11_logs_7 : decode cX11_logs 7 = .ok (.irem, 1) := by decide +kernel
theorem dX11_logs_8 : decode cX11_logs 8 = .ok (.istore_n 2, 1) := by decide +kernel
theorem dX11_logs_9 : decode cX11_logs 9 = .ok (.aload_n 0, 1) := by decide +kernel
theorem dX11_logs_10 : decode cX11_logs 10 = .ok (.getfield 104, 3) := by decide +kernel
theorem dX11_logs_13 : decode cX11_logs 13 = .ok (.bipush 40, 2) := by decide +kernel
theorem dX11_logs_15 : decode cX11_logs 15 = .ok (.aload_n 0, 1) := by decide +kernel
theorem dX11_logs_16 : decode cX11_logs 16 = .ok (.getfield 246, 3) := by decide +kernel
theorem dX11_logs_19 : decode cX11_logs 19 = .ok (.imul, 1) := by decide +kernel
theorem dX11_logs_20 : decode cX11_logs 20 = .ok (.aload_n 0, 1) := by decide +kernel
theorem dX11_logs_21 : decode cX11_logs 21 = .ok (.getfield 98, 3) := by decide +kernel
theorem dX11_logs_24 : decode cX11_logs 24 = .ok (.aload_n 0, 1) := by decide +kernel
theorem dX11_logs_25 : decode cX11_logs 25 = .ok (.getfield 246, 3) := by decide +kernel
theorem dX11_logs_28 : decode cX11_logs 28 = .ok (.iaload, 1) := by decide +kernel
theorem dX11_logs_29 : decode cX11_logs 29 = .ok (.iadd, 1) := by decide +kernel
theorem dX11_logs_30 : decode cX11_logs 30 = .ok (.bipush 100, 2) := by decide +kernel
theorem dX11_logs_32 : decode cX11_logs 32 = .ok (.iload_n 2, 1) := by decide +kernel
theorem dX11_logs_33 : decode cX11_logs 33 = .ok (.imul, 1) := by decide +kernel
theorem dX11_logs_34 : decode cX11_logs 34 = .ok (.aload_n 0, 1) := by decide +kernel
theorem dX11_logs_35 : decode cX11_logs 35 = .ok (.getfield 128, 3) := by decide +kernel
theorem dX11_logs_38 : decode cX11_logs 38 = .ok (.iload_n 1, 1) := by decide +kernel
theorem dX11_logs_39 : decode cX11_logs 39 = .ok (.iaload, 1) := by decide +kernel
theorem dX11_logs_40 : decode cX11_logs 40 = .ok (.iadd, 1) := by decide +kernel
theorem dX11_logs_41 : decode cX11_logs 41 = .ok (.iastore, 1) := by decide +kernel
theorem dX11_logs_42 : decode cX11_logs 42 = .ok (.aload_n 0, 1) := by decide +kernel
theorem dX11_logs_43 : decode cX11_logs 43 = .ok (.getfield 98, 3) := by decide +kernel
theorem dX11_logs_46 : decode cX11_logs 46 = .ok (.aload_n 0, 1) := by decide +kernel
theorem dX11_logs_47 : decode cX11_logs 47 = .ok (.getfield 246, 3) := by decide +kernel
theorem dX11_logs_50 : decode cX11_logs 50 = .ok (.dup2, 1) := by decide +kernel
theorem dX11_logs_51 : decode cX11_logs 51 = .ok (.iaload, 1) := by decide +kernel
theorem dX11_logs_52 : decode cX11_logs 52 = .ok (.iconst 1, 1) := by decide +kernel
theorem dX11_logs_53 : decode cX11_logs 53 = .ok (.iadd, 1) := by decide +kernel
theorem dX11_logs_54 : decode cX11_logs 54 = .ok (.iastore, 1) := by decide +kernel
theorem dX11_logs_55 : decode cX11_logs 55 = .ok (.return_, 1) := by decide +kernel
theorem dX11_makes_0 : decode cX11_makes 0 = .ok (.aload_n 0, 1) := by decide +kernel
theorem dX11_makes_1 : decode cX11_makes 1 = .ok (.iload_n 1, 1) := by decide +kernel
theorem dX11_makes_2 : decode cX11_makes 2 = .ok (.invokevirtual 281, 3) := by decide +kernel
theorem dX11_makes_5 : decode cX11_makes 5 = .ok (.istore_n 3, 1) := by decide +kernel
theorem dX11_makes_6 : decode cX11_makes 6 = .ok (.aload_n 0, 1) := by decide +kernel
theorem dX11_makes_7 : decode cX11_makes 7 = .ok (.getfield 128, 3) := by decide +kernel
theorem dX11_makes_10 : decode cX11_makes 10 = .ok (.iload_n 1, 1) := by decide +kernel
theorem dX11_makes_11 : decode cX11_makes 11 = .ok (.iaload, 1) := by decide +kernel
theorem dX11_makes_12 : decode cX11_makes 12 = .ok (.istore 4, 2) := by decide +kernel
theorem dX11_makes_14 : decode cX11_makes 14 = .ok (.aload_n 0, 1) := by decide +kernel
theorem dX11_makes_15 : decode cX11_makes 15 = .ok (.iload 4, 2) := by decide +kernel
theorem dX11_makes_17 : decode cX11_makes 17 = .ok (.aload_n 0, 1) := by decide +kernel
theorem dX11_makes_18 : decode cX11_makes 18 = .ok (.getfield 13, 3) := by decide +kernel
theorem dX11_makes_21 : decode cX11_makes 21 = .ok (.bipush 16, 2) := by decide +kernel
theorem dX11_makes_23 : decode cX11_makes 23 = .ok (.iload 4, 2) := by decide +kernel
theorem dX11_makes_25 : decode cX11_makes 25 = .ok (.iadd, 1) := by decide +kernel
theorem dX11_makes_26 : decode cX11_makes 26 = .ok (.iaload, 1) := by decide +kernel
theorem dX11_makes_27 : decode cX11_makes 27 = .ok (.iload_n 2, 1) := by decide +kernel
theorem dX11_makes_28 : decode cX11_makes 28 = .ok (.iload_n 3, 1) := by decide +kernel
theorem dX11_makes_29 : decode cX11_makes 29 = .ok (.invokevirtual 295, 3) := by decide +kernel
theorem dX11_makes_32 : decode cX11_makes 32 = .ok (.istore 5, 2) := by decide +kernel
theorem dX11_makes_34 : decode cX11_makes 34 = .ok (.aload_n 0, 1) := by decide +kernel
theorem dX11_makes_35 : decode cX11_makes 35 = .ok (.getfield 13, 3) := by decide +kernel
theorem dX11_makes_38 : decode cX11_makes 38 = .ok (.bipush 16, 2) := by decide +kernel
theorem dX11_makes_40 : decode cX11_makes 40 = .ok (.iload 4, 2) := by decide +kernel
theorem dX11_makes_42 : decode cX11_makes 42 = .ok (.iadd, 1) := by decide +kernel
theorem dX11_makes_43 : decode cX11_makes 43 = .ok (.dup2, 1) := by decide +kernel
theorem dX11_makes_44 : decode cX11_makes 44 = .ok (.iaload, 1) := by decide +kernel
theorem dX11_makes_45 : decode cX11_makes 45 = .ok (.iconst 1, 1) := by decide +kernel
theorem dX11_makes_46 : decode cX11_makes 46 = .ok (.iadd, 1) := by decide +kernel
theorem dX11_makes_47 : decode cX11_makes 47 = .ok (.iastore, 1) := by decide +kernel
theorem dX11_makes_48 : decode cX11_makes 48 = .ok (.aload_n 0, 1) := by decide +kernel
theorem dX11_makes_49 : decode cX11_makes 49 = .ok (.iload_n 1, 1) := by decide +kernel
theorem dX11_makes_50 : decode cX11_makes 50 = .ok (.iload 5, 2) := by decide +kernel
theorem dX11_makes_52 : decode cX11_makes 52 = .ok (.ifCond .ge 7, 3) := by decide +kernel
theorem dX11_makes_55 : decode cX11_makes 55 = .ok (.iconst 0, 1) := by decide +kernel
theorem dX11_makes_56 : decode cX11_makes 56 = .ok (.goto 5, 3) := by decide +kernel
theorem dX11_makes_59 : decode cX11_makes 59 = .ok (.iload 5, 2) := by decide +kernel
theorem dX11_makes_61 : decode cX11_makes 61 = .ok (.invokevirtual 267, 3) := by decide +kernel
theorem dX11_makes_64 : decode cX11_makes 64 = .ok (.return_, 1) := by decide +kernel
theorem dX11_cells_0 : decode cX11_cells 0 = .ok (.aload_n 0, 1) := by decide +kernel
theorem dX11_cells_1 : decode cX11_cells 1 = .ok (.getfield 158, 3) := by decide +kernel
theorem dX11_cells_4 : decode cX11_cells 4 = .ok (.iload_n 1, 1) := by decide +kernel
theorem dX11_cells_5 : decode cX11_cells 5 = .ok (.iload_n 3, 1) := by decide +kernel
theorem dX11_cells_6 : decode cX11_cells 6 = .ok (.aload_n 0, 1) := by decide +kernel
theorem dX11_cells_7 : decode cX11_cells 7 = .ok (.getfield 158, 3) := by decide +kernel
theorem dX11_cells_10 : decode cX11_cells 10 = .ok (.iload_n 1, 1) := by decide +kernel
theorem dX11_cells_11 : decode cX11_cells 11 = .ok (.iaload, 1) := by decide +kernel
theorem dX11_cells_12 : decode cX11_cells 12 = .ok (.if_icmp .le 7, 3) := by decide +kernel
theorem dX11_cells_15 : decode cX11_cells 15 = .ok (.iload_n 3, 1) := by decide +kernel
theorem dX11_cells_16 : decode cX11_cells 16 = .ok (.goto 9, 3) := by decide +kernel
theorem dX11_cells_19 : decode cX11_cells 19 = .ok (.aload_n 0, 1) := by decide +kernel
theorem dX11_cells_20 : decode cX11_cells 20 = .ok (.getfield 158, 3) := by decide +kernel
theorem dX11_cells_23 : decode cX11_cells 23 = .ok (.iload_n 1, 1) := by decide +kernel
theorem dX11_cells_24 : decode cX11_cells 24 = .ok (.iaload, 1) := by decide +kernel
theorem dX11_cells_25 : decode cX11_cells 25 = .ok (.iastore, 1) := by decide +kernel
theorem dX11_cells_26 : decode cX11_cells 26 = .ok (.iload_n 2, 1) := by decide +kernel
theorem dX11_cells_27 : decode cX11_cells 27 = .ok (.bipush 17, 2) := by decide +kernel
theorem dX11_cells_29 : decode cX11_cells 29 = .ok (.if_icmp .ne 22, 3) := by decide +kernel
theorem dX11_cells_32 : decode cX11_cells 32 = .ok (.aload_n 0, 1) := by decide +kernel
theorem dX11_cells_33 : decode cX11_cells 33 = .ok (.getfield 155, 3) := by decide +kernel
theorem dX11_cells_36 : decode cX11_cells 36 = .ok (.bipush 16, 2) := by decide +kernel
theorem dX11_cells_38 : decode cX11_cells 38 = .ok (.iload_n 1, 1) := by decide +kernel
theorem dX11_cells_39 : decode cX11_cells 39 = .ok (.imul, 1) := by decide +kernel
theorem dX11_cells_40 : decode cX11_cells 40 = .ok (.iload_n 3, 1) := by decide +kernel
theorem dX11_cells_41 : decode cX11_cells 41 = .ok (.iadd, 1) := by decide +kernel
theorem dX11_cells_42 : decode cX11_cells 42 = .ok (.aload_n 0, 1) := by decide +kernel
theorem dX11_cells_43 : decode cX11_cells 43 = .ok (.iload_n 1, 1) := by decide +kernel
theorem dX11_cells_44 : decode cX11_cells 44 = .ok (.invokevirtual 281, 3) := by decide +kernel
theorem dX11_cells_47 : decode cX11_cells 47 = .ok (.iastore, 1) := by decide +kernel
theorem dX11_cells_48 : decode cX11_cells 48 = .ok (.goto 19, 3) := by decide +kernel
theorem dX11_cells_51 : decode cX11_cells 51 = .ok (.aload_n 0, 1) := by decide +kernel
theorem dX11_cells_52 : decode cX11_cells 52 = .ok (.iload_n 1, 1) := by decide +kernel
theorem dX11_cells_53 : decode cX11_cells 53 = .ok (.aload_n 0, 1) := by decide +kernel
theorem dX11_cells_54 : decode cX11_cells 54 = .ok (.getfield 155, 3) := by decide +kernel
theorem dX11_cells_57 : decode cX11_cells 57 = .ok (.bipush 16, 2) := by decide +kernel
theorem dX11_cells_59 : decode cX11_cells 59 = .ok (.iload_n 1, 1) := by decide +kernel
theorem dX11_cells_60 : decode cX11_cells 60 = .ok (.imul, 1) := by decide +kernel
theorem dX11_cells_61 : decode cX11_cells 61 = .ok (.iload_n 3, 1) := by decide +kernel
theorem dX11_cells_62 : decode cX11_cells 62 = .ok (.iadd, 1) := by decide +kernel
theorem dX11_cells_63 : decode cX11_cells 63 = .ok (.iaload, 1) := by decide +kernel
theorem dX11_cells_64 : decode cX11_cells 64 = .ok (.invokevirtual 267, 3) := by decide +kernel
theorem dX11_cells_67 : decode cX11_cells 67 = .ok (.return_, 1) := by decide +kernel
theorem dX11_does_0 : decode cX11_does 0 = .ok (.iload_n 2, 1) := by decide +kernel
theorem dX11_does_1 : decode cX11_does 1 = .ok (.tableswitch 409 0 23 #[111, 120, 120, 120, 120, 120, 147, 173, 204, 213, 239, 248, 258, 285, 299, 313, 327, 352, 352, 362, 370, 378, 387, 395], 111) := by decide +kernel
theorem dX11_does_112 : decode cX11_does 112 = .ok (.aload_n 0, 1) := by decide +kernel
theorem dX11_does_113 : decode cX11_does 113 = .ok (.iload_n 1, 1) := by decide +kernel
theorem dX11_does_114 : decode cX11_does 114 = .ok (.iload_n 3, 1) := by decide +kernel
theorem dX11_does_115 : decode cX11_does 115 = .ok (.invokevirtual 267, 3) := by decide +kernel
theorem dX11_does_118 : decode cX11_does 118 = .ok (.goto 303, 3) := by decide +kernel
theorem dX11_does_121 : decode cX11_does 121 = .ok (.aload_n 0, 1) := by decide +kernel
theorem dX11_does_122 : decode cX11_does 122 = .ok (.iload_n 1, 1) := by decide +kernel
theorem dX11_does_123 : decode cX11_does 123 = .ok (.invokevirtual 281, 3) := by decide +kernel
theorem dX11_does_126 : decode cX11_does 126 = .ok (.istore 4, 2) := by decide +kernel
theorem dX11_does_128 : decode cX11_does 128 = .ok (.aload_n 0, 1) := by decide +kernel
theorem dX11_does_129 : decode cX11_does 129 = .ok (.iload_n 1, 1) := by decide +kernel
theorem dX11_does_130 : decode cX11_does 130 = .ok (.aload_n 0, 1) := by decide +kernel
theorem dX11_does_131 : decode cX11_does 131 = .ok (.iload_n 2, 1) := by decide +kernel
theorem dX11_does_132 : decode cX11_does 132 = .ok (.aload_n 0, 1) := by decide +kernel
theorem dX11_does_133 : decode cX11_does 133 = .ok (.iload_n 1, 1) := by decide +kernel
theorem dX11_does_134 : decode cX11_does 134 = .ok (.invokevirtual 281, 3) := by decide +kernel
theorem dX11_does_137 : decode cX11_does 137 = .ok (.iload 4, 2) := by decide +kernel
theorem dX11_does_139 : decode cX11_does 139 = .ok (.invokevirtual 299, 3) := by decide +kernel
theorem dX11_does_142 : decode cX11_does 142 = .ok (.invokevirtual 267, 3) := by decide +kernel
theorem dX11_does_145 : decode cX11_does 145 = .ok (.goto 276, 3) := by decide +kernel
theorem dX11_does_148 : decode cX11_does 148 = .ok (.aload_n 0, 1) := by decide +kernel
theorem dX11_does_149 : decode cX11_does 149 = .ok (.iload_n 1, 1) := by decide +kernel
theorem dX11_does_150 : decode cX11_does 150 = .ok (.aload_n 0, 1) := by decide +kernel
theorem dX11_does_151 : decode cX11_does 151 = .ok (.getfield 149, 3) := by decide +kernel
theorem dX11_does_154 : decode cX11_does 154 = .ok (.bipush 16, 2) := by decide +kernel
theorem dX11_does_156 : decode cX11_does 156 = .ok (.iload_n 1, 1) := by decide +kernel
theorem dX11_does_157 : decode cX11_does 157 = .ok (.imul, 1) := by decide +kernel
theorem dX11_does_158 : decode cX11_does 158 = .ok (.aload_n 0, 1) := by decide +kernel
theorem dX11_does_159 : decode cX11_does 159 = .ok (.getfield 152, 3) := by decide +kernel
theorem dX11_does_162 : decode cX11_does 162 = .ok (.iload_n 1, 1) := by decide +kernel
theorem dX11_does_163 : decode cX11_does 163 = .ok (.iaload, 1) := by decide +kernel
theorem dX11_does_164 : decode cX11_does 164 = .ok (.iadd, 1) := by decide +kernel
theorem dX11_does_165 : decode cX11_does 165 = .ok (.iconst 1, 1) := by decide +kernel
theorem dX11_does_166 : decode cX11_does 166 = .ok (.isub, 1) := by decide +kernel
theorem dX11_does_167 : decode cX11_does 167 = .ok (.iaload, 1) := by decide +kernel
theorem dX11_does_168 : decode cX11_does 168 = .ok (.invokevirtual 267, 3) := by decide +kernel
theorem dX11_does_171 : decode cX11_does 171 = .ok (.goto 250, 3) := by decide +kernel
theorem dX11_does_174 : decode cX11_does 174 = .ok (.aload_n 0, 1) := by decide +kernel
theorem dX11_does_175 : decode cX11_does 175 = .ok (.iload_n 1, 1) := by decide +kernel
theorem dX11_does_176 : decode cX11_does 176 = .ok (.invokevirtual 281, 3) := by decide +kernel
theorem dX11_does_179 : decode cX11_does 179 = .ok (.istore 4, 2) := by decide +kernel
theorem dX11_does_181 : decode cX11_does 181 = .ok (.aload_n 0, 1) := by decide +kernel
theorem dX11_does_182 : decode cX11_does 182 = .ok (.iload_n 1, 1) := by decide +kernel
theorem dX11_does_183 : decode cX11_does 183 = .ok (.invokevirtual 281, 3) := by decide +kernel
theorem dX11_does_186 : decode cX11_does 186 = .ok (.istore 5, 2) := by decide +kernel
theorem dX11_does_188 : decode cX11_does 188 = .ok (.aload_n 0, 1) := by decide +kernel
theorem dX11_does_189 : decode cX11_does 189 = .ok (.iload_n 1, 1) := by decide +kernel
theorem dX11_does_190 : decode cX11_does 190 = .ok (.iload 4, 2) := by decide +kernel
theorem dX11_does_192 : decode cX11_does 192 = .ok (.invokevirtual 267, 3) := by decide +kernel
theorem dX11_does_195 : decode cX11_does 195 = .ok (.aload_n 0, 1) := by decide +kernel
theorem dX11_does_196 : decode cX11_does 196 = .ok (.iload_n 1, 1) := by decide +kernel
theorem dX11_does_197 : decode cX11_does 197 = .ok (.iload 5, 2) := by decide +kernel
theorem dX11_does_199 : decode cX11_does 199 = .ok (.invokevirtual 267, 3) := by decide +kernel
theorem dX11_does_202 : decode cX11_does 202 = .ok (.goto 219, 3) := by decide +kernel
theorem dX11_does_205 : decode cX11_does 205 = .ok (.aload_n 0, 1) := by decide +kernel
theorem dX11_does_206 : decode cX11_does 206 = .ok (.iload_n 1, 1) := by decide +kernel
theorem dX11_does_207 : decode cX11_does 207 = .ok (.invokevirtual 281, 3) := by decide +kernel
theorem dX11_does_210 : decode cX11_does 210 = .ok (.pop, 1) := by decide +kernel
theorem dX11_does_211 : decode cX11_does 211 = .ok (.goto 210, 3) := by decide +kernel
theorem dX11_does_214 : decode cX11_does 214 = .ok (.aload_n 0, 1) := by decide +kernel
theorem dX11_does_215 : decode cX11_does 215 = .ok (.iload_n 1, 1) := by decide +kernel
theorem dX11_does_216 : decode cX11_does 216 = .ok (.aload_n 0, 1) := by decide +kernel
theorem dX11_does_217 : decode cX11_does 217 = .ok (.getfield 13, 3) := by decide +kernel
theorem dX11_does_220 : decode cX11_does 220 = .ok (.bipush 48, 2) := by decide +kernel
theorem dX11_does_222 : decode cX11_does 222 = .ok (.iconst 4, 1) := by decide +kernel
theorem dX11_does_223 : decode cX11_does 223 = .ok (.aload_n 0, 1) := by decide +kernel
theorem dX11_does_224 : decode cX11_does 224 = .ok (.getfield 128, 3) := by decide +kernel
theorem dX11_does_227 : decode cX11_does 227 = .ok (.iload_n 1, 1) := by decide +kernel
theorem dX11_does_228 : decode cX11_does 228 = .ok (.iaload, 1) := by decide +kernel
theorem dX11_does_229 : decode cX11_does 229 = .ok (.imul, 1) := by decide +kernel
theorem dX11_does_230 : decode cX11_does 230 = .ok (.iadd, 1) := by decide +kernel
theorem dX11_does_231 : decode cX11_does 231 = .ok (.iload_n 3, 1) := by decide +kernel
theorem dX11_does_232 : decode cX11_does 232 = .ok (.iadd, 1) := by decide +kernel
theorem dX11_does_233 : decode cX11_does 233 = .ok (.iaload, 1) := by decide +kernel
theorem dX11_does_234 : decode cX11_does 234 = .ok (.invokevirtual 267, 3) := by decide +kernel
theorem dX11_does_237 : decode cX11_does 237 = .ok (.goto 184, 3) := by decide +kernel
theorem dX11_does_240 : decode cX11_does 240 = .ok (.aload_n 0, 1) := by decide +kernel
theorem dX11_does_241 : decode cX11_does 241 = .ok (.iload_n 1, 1) := by decide +kernel
theorem dX11_does_242 : decode cX11_does 242 = .ok (.iload_n 3, 1) := by decide +kernel
theorem dX11_does_243 : decode cX11_does 243 = .ok (.invokevirtual 303, 3) := by decide +kernel
theorem dX11_does_246 : decode cX11_does 246 = .ok (.goto 175, 3) := by decide +kernel
theorem dX11_does_249 : decode cX11_does 249 = .ok (.aload_n 0, 1) := by decide +kernel
theorem dX11_does_250 : decode cX11_does 250 = .ok (.getfield 146, 3) := by decide +kernel
theorem dX11_does_253 : decode cX11_does 253 = .ok (.iload_n 1, 1) := by decide +kernel
theorem dX11_does_254 : decode cX11_does 254 = .ok (.iload_n 3, 1) := by decide +kernel
theorem dX11_does_255 : decode cX11_does 255 = .ok (.iastore, 1) := by decide +kernel
theorem dX11_does_256 : decode cX11_does 256 = .ok (.goto 165, 3) := by decide +kernel
theorem dX11_does_259 : decode cX11_does 259 = .ok (.aload_n 0, 1) := by decide +kernel
theorem dX11_does_260 : decode cX11_does 260 = .ok (.getfield 146, 3) := by decide +kernel
theorem dX11_does_263 : decode cX11_does 263 = .ok (.iload_n 1, 1) := by decide +kernel
theorem dX11_does_264 : decode cX11_does 264 = .ok (.aload_n 0, 1) := by decide +kernel
theorem dX11_does_265 : decode cX11_does 265 = .ok (.iload_n 1, 1) := by decide +kernel
theorem dX11_does_266 : decode cX11_does 266 = .ok (.invokevirtual 281, 3) := by decide +kernel
theorem dX11_does_269 : decode cX11_does 269 = .ok (.ifCond .ne 7, 3) := by decide +kernel
theorem dX11_does_272 : decode cX11_does 272 = .ok (.iload_n 3, 1) := by decide +kernel
theorem dX11_does_273 : decode cX11_does 273 = .ok (.goto 9, 3) := by decide +kernel
theorem dX11_does_276 : decode cX11_does 276 = .ok (.aload_n 0, 1) := by decide +kernel
theorem dX11_does_277 : decode cX11_does 277 = .ok (.getfield 146, 3) := by decide +kernel
theorem dX11_does_280 : decode cX11_does 280 = .ok (.iload_n 1, 1) := by decide +kernel
theorem dX11_does_281 : decode cX11_does 281 = .ok (.iaload, 1) := by decide +kernel
theorem dX11_does_282 : decode cX11_does 282 = .ok (.iastore, 1) := by decide +kernel
theorem dX11_does_283 : decode cX11_does 283 = .ok (.goto 138, 3) := by decide +kernel
theorem dX11_does_286 : decode cX11_does 286 = .ok (.aload_n 0, 1) := by decide +kernel
theorem dX11_does_287 : decode cX11_does 287 = .ok (.iload_n 1, 1) := by decide +kernel
theorem dX11_does_288 : decode cX11_does 288 = .ok (.aload_n 0, 1) := by decide +kernel
theorem dX11_does_289 : decode cX11_does 289 = .ok (.getfield 131, 3) := by decide +kernel
theorem dX11_does_292 : decode cX11_does 292 = .ok (.iload_n 1, 1) := by decide +kernel
theorem dX11_does_293 : decode cX11_does 293 = .ok (.iaload, 1) := by decide +kernel
theorem dX11_does_294 : decode cX11_does 294 = .ok (.invokevirtual 267, 3) := by decide +kernel
theorem dX11_does_297 : decode cX11_does 297 = .ok (.goto 124, 3) := by decide +kernel
theorem dX11_does_300 : decode cX11_does 300 = .ok (.aload_n 0, 1) := by decide +kernel
theorem dX11_does_301 : decode cX11_does 301 = .ok (.iload_n 1, 1) := by decide +kernel
theorem dX11_does_302 : decode cX11_does 302 = .ok (.aload_n 0, 1) := by decide +kernel
theorem dX11_does_303 : decode cX11_does 303 = .ok (.getfield 134, 3) := by decide +kernel
theorem dX11_does_306 : decode cX11_does 306 = .ok (.iload_n 1, 1) := by decide +kernel
theorem dX11_does_307 : decode cX11_does 307 = .ok (.iaload, 1) := by decide +kernel
theorem dX11_does_308 : decode cX11_does 308 = .ok (.invokevirtual 267, 3) := by decide +kernel
theorem dX11_does_311 : decode cX11_does 311 = .ok (.goto 110, 3) := by decide +kernel
theorem dX11_does_314 : decode cX11_does 314 = .ok (.aload_n 0, 1) := by decide +kernel
theorem dX11_does_315 : decode cX11_does 315 = .ok (.iload_n 1, 1) := by decide +kernel
theorem dX11_does_316 : decode cX11_does 316 = .ok (.aload_n 0, 1) := by decide +kernel
theorem dX11_does_317 : decode cX11_does 317 = .ok (.getfield 137, 3) := by decide +kernel
theorem dX11_does_320 : decode cX11_does 320 = .ok (.iload_n 1, 1) := by decide +kernel
theorem dX11_does_321 : decode cX11_does 321 = .ok (.iaload, 1) := by decide +kernel
theorem dX11_does_322 : decode cX11_does 322 = .ok (.invokevirtual 267, 3) := by decide +kernel
theorem dX11_does_325 : decode cX11_does 325 = .ok (.goto 96, 3) := by decide +kernel
theorem dX11_does_328 : decode cX11_does 328 = .ok (.aload_n 0, 1) := by decide +kernel
theorem dX11_does_329 : decode cX11_does 329 = .ok (.iload_n 1, 1) := by decide +kernel
theorem dX11_does_330 : decode cX11_does 330 = .ok (.aload_n 0, 1) := by decide +kernel
theorem dX11_does_331 : decode cX11_does 331 = .ok (.getfield 13, 3) := by decide +kernel
theorem dX11_does_334 : decode cX11_does 334 = .ok (.aload_n 0, 1) := by decide +kernel
theorem dX11_does_335 : decode cX11_does 335 = .ok (.iload_n 1, 1) := by decide +kernel
theorem dX11_does_336 : decode cX11_does 336 = .ok (.invokevirtual 281, 3) := by decide +kernel
theorem dX11_does_339 : decode cX11_does 339 = .ok (.bipush 16, 2) := by decide +kernel
theorem dX11_does_341 : decode cX11_does 341 = .ok (.irem, 1) := by decide +kernel
theorem dX11_does_342 : decode cX11_does 342 = .ok (.iaload, 1) := by decide +kernel
theorem dX11_does_343 : decode cX11_does 343 = .ok (.ldc_w 271, 3) := by decide +kernel
theorem dX11_does_346 : decode cX11_does 346 = .ok (.irem, 1) := by decide +kernel
theorem dX11_does_347 : decode cX11_does 347 = .ok (.invokevirtual 267, 3) := by decide +kernel
theorem dX11_does_350 : decode cX11_does 350 = .ok (.goto 71, 3) := by decide +kernel
theorem dX11_does_353 : decode cX11_does 353 = .ok (.aload_n 0, 1) := by decide +kernel
theorem dX11_does_354 : decode cX11_does 354 = .ok (.iload_n 1, 1) := by decide +kernel
theorem dX11_does_355 : decode cX11_does 355 = .ok (.iload_n 2, 1) := by decide +kernel
theorem dX11_does_356 : decode cX11_does 356 = .ok (.iload_n 3, 1) := by decide +kernel
theorem dX11_does_357 : decode cX11_does 357 = .ok (.invokevirtual 306, 3) := by decide +kernel
theorem dX11_does_360 : decode cX11_does 360 = .ok (.goto 61, 3) := by decide +kernel
theorem dX11_does_363 : decode cX11_does 363 = .ok (.aload_n 0, 1) := by decide +kernel
theorem dX11_does_364 : decode cX11_does 364 = .ok (.iload_n 1, 1) := by decide +kernel
theorem dX11_does_365 : decode cX11_does 365 = .ok (.invokevirtual 309, 3) := by decide +kernel
theorem dX11_does_368 : decode cX11_does 368 = .ok (.goto 53, 3) := by decide +kernel
theorem dX11_does_371 : decode cX11_does 371 = .ok (.aload_n 0, 1) := by decide +kernel
theorem dX11_does_372 : decode cX11_does 372 = .ok (.iload_n 1, 1) := by decide +kernel
theorem dX11_does_373 : decode cX11_does 373 = .ok (.invokevirtual 312, 3) := by decide +kernel
theorem dX11_does_376 : decode cX11_does 376 = .ok (.goto 45, 3) := by decide +kernel
theorem dX11_does_379 : decode cX11_does 379 = .ok (.aload_n 0, 1) := by decide +kernel
theorem dX11_does_380 : decode cX11_does 380 = .ok (.iload_n 1, 1) := by decide +kernel
theorem dX11_does_381 : decode cX11_does 381 = .ok (.iload_n 3, 1) := by decide +kernel
theorem dX11_does_382 : decode cX11_does 382 = .ok (.invokevirtual 315, 3) := by decide +kernel
theorem dX11_does_385 : decode cX11_does 385 = .ok (.goto 36, 3) := by decide +kernel
theorem dX11_does_388 : decode cX11_does 388 = .ok (.aload_n 0, 1) := by decide +kernel
theorem dX11_does_389 : decode cX11_does 389 = .ok (.iload_n 1, 1) := by decide +kernel
theorem dX11_does_390 : decode cX11_does 390 = .ok (.invokevirtual 318, 3) := by decide +kernel
theorem dX11_does_393 : decode cX11_does 393 = .ok (.goto 28, 3) := by decide +kernel
theorem dX11_does_396 : decode cX11_does 396 = .ok (.aload_n 0, 1) := by decide +kernel
theorem dX11_does_397 : decode cX11_does 397 = .ok (.iconst 0, 1) := by decide +kernel
theorem dX11_does_398 : decode cX11_does 398 = .ok (.aload_n 0, 1) := by decide +kernel
theorem dX11_does_399 : decode cX11_does 399 = .ok (.getfield 140, 3) := by decide +kernel
theorem dX11_does_402 : decode cX11_does 402 = .ok (.iload_n 1, 1) := by decide +kernel
theorem dX11_does_403 : decode cX11_does 403 = .ok (.iaload, 1) := by decide +kernel
theorem dX11_does_404 : decode cX11_does 404 = .ok (.invokevirtual 291, 3) := by decide +kernel
theorem dX11_does_407 : decode cX11_does 407 = .ok (.goto 14, 3) := by decide +kernel
theorem dX11_does_410 : decode cX11_does 410 = .ok (.aload_n 0, 1) := by decide +kernel
theorem dX11_does_411 : decode cX11_does 411 = .ok (.iconst 1, 1) := by decide +kernel
theorem dX11_does_412 : decode cX11_does 412 = .ok (.aload_n 0, 1) := by decide +kernel
theorem dX11_does_413 : decode cX11_does 413 = .ok (.getfield 140, 3) := by decide +kernel
theorem dX11_does_416 : decode cX11_does 416 = .ok (.iload_n 1, 1) := by decide +kernel
theorem dX11_does_417 : decode cX11_does 417 = .ok (.iaload, 1) := by decide +kernel
theorem dX11_does_418 : decode cX11_does 418 = .ok (.invokevirtual 291, 3) := by decide +kernel
theorem dX11_does_421 : decode cX11_does 421 = .ok (.return_, 1) := by decide +kernel
theorem dX11_machine_0 : decode cX11_machine 0 = .ok (.aload_n 0, 1) := by decide +kernel
theorem dX11_machine_1 : decode cX11_machine 1 = .ok (.getfield 237, 3) := by decide +kernel
theorem dX11_machine_4 : decode cX11_machine 4 = .ok (.ifCond .le 195, 3) := by decide +kernel
theorem dX11_machine_7 : decode cX11_machine 7 = .ok (.aload_n 0, 1) := by decide +kernel
theorem dX11_machine_8 : decode cX11_machine 8 = .ok (.getfield 237, 3) := by decide +kernel
theorem dX11_machine_11 : decode cX11_machine 11 = .ok (.iconst 1, 1) := by decide +kernel
theorem dX11_machine_12 : decode cX11_machine 12 = .ok (.isub, 1) := by decide +kernel
theorem dX11_machine_13 : decode cX11_machine 13 = .ok (.istore_n 1, 1) := by decide +kernel
theorem dX11_machine_14 : decode cX11_machine 14 = .ok (.aload_n 0, 1) := by decide +kernel
theorem dX11_machine_15 : decode cX11_machine 15 = .ok (.getfield 146, 3) := by decide +kernel
theorem dX11_machine_18 : decode cX11_machine 18 = .ok (.iload_n 1, 1) := by decide +kernel
theorem dX11_machine_19 : decode cX11_machine 19 = .ok (.iaload, 1) := by decide +kernel
theorem dX11_machine_20 : decode cX11_machine 20 = .ok (.aload_n 0, 1) := by decide +kernel
theorem dX11_machine_21 : decode cX11_machine 21 = .ok (.getfield 25, 3) := by decide +kernel
theorem dX11_machine_24 : decode cX11_machine 24 = .ok (.aload_n 0, 1) := by decide +kernel
theorem dX11_machine_25 : decode cX11_machine 25 = .ok (.getfield 143, 3) := by decide +kernel
theorem dX11_machine_28 : decode cX11_machine 28 = .ok (.iload_n 1, 1) := by decide +kernel
theorem dX11_machine_29 : decode cX11_machine 29 = .ok (.iaload, 1) := by decide +kernel
theorem dX11_machine_30 : decode cX11_machine 30 = .ok (.iaload, 1) := by decide +kernel
theorem dX11_machine_31 : decode cX11_machine 31 = .ok (.if_icmp .lt 17, 3) := by decide +kernel
theorem dX11_machine_34 : decode cX11_machine 34 = .ok (.aload_n 0, 1) := by decide +kernel
theorem dX11_machine_35 : decode cX11_machine 35 = .ok (.iconst 1, 1) := by decide +kernel
theorem dX11_machine_36 : decode cX11_machine 36 = .ok (.aload_n 0, 1) := by decide +kernel
theorem dX11_machine_37 : decode cX11_machine 37 = .ok (.getfield 140, 3) := by decide +kernel
theorem dX11_machine_40 : decode cX11_machine 40 = .ok (.iload_n 1, 1) := by decide +kernel
theorem dX11_machine_41 : decode cX11_machine 41 = .ok (.iaload, 1) := by decide +kernel
theorem dX11_machine_42 : decode cX11_machine 42 = .ok (.invokevirtual 291, 3) := by decide +kernel
theorem dX11_machine_45 : decode cX11_machine 45 = .ok (.goto 151, 3) := by decide +kernel
theorem dX11_machine_48 : decode cX11_machine 48 = .ok (.bipush 20, 2) := by decide +kernel
theorem dX11_machine_50 : decode cX11_machine 50 = .ok (.aload_n 0, 1) := by decide +kernel
theorem dX11_machine_51 : decode cX11_machine 51 = .ok (.getfield 143, 3) := by decide +kernel
theorem dX11_machine_54 : decode cX11_machine 54 = .ok (.iload_n 1, 1) := by decide +kernel
theorem dX11_machine_55 : decode cX11_machine 55 = .ok (.iaload, 1) := by decide +kernel
theorem dX11_machine_56 : decode cX11_machine 56 = .ok (.imul, 1) := by decide +kernel
theorem dX11_machine_57 : decode cX11_machine 57 = .ok (.aload_n 0, 1) := by decide +kernel
theorem dX11_machine_58 : decode cX11_machine 58 = .ok (.getfield 146, 3) := by decide +kernel
theorem dX11_machine_61 : decode cX11_machine 61 = .ok (.iload_n 1, 1) := by decide +kernel
theorem dX11_machine_62 : decode cX11_machine 62 = .ok (.iaload, 1) := by decide +kernel
theorem dX11_machine_63 : decode cX11_machine 63 = .ok (.iadd, 1) := by decide +kernel
theorem dX11_machine_64 : decode cX11_machine 64 = .ok (.istore_n 2, 1) := by decide +kernel
theorem dX11_machine_65 : decode cX11_machine 65 = .ok (.aload_n 0, 1) := by decide +kernel
theorem dX11_machine_66 : decode cX11_machine 66 = .ok (.getfield 19, 3) := by decide +kernel
theorem dX11_machine_69 : decode cX11_machine 69 = .ok (.iload_n 2, 1) := by decide +kernel
theorem dX11_machine_70 : decode cX11_machine 70 = .ok (.iaload, 1) := by decide +kernel
theorem dX11_machine_71 : decode cX11_machine 71 = .ok (.istore_n 3, 1) := by decide +kernel
theorem dX11_machine_72 : decode cX11_machine 72 = .ok (.aload_n 0, 1) := by decide +kernel
theorem dX11_machine_73 : decode cX11_machine 73 = .ok (.iload_n 3, 1) := by decide +kernel
theorem dX11_machine_74 : decode cX11_machine 74 = .ok (.aload_n 0, 1) := by decide +kernel
theorem dX11_machine_75 : decode cX11_machine 75 = .ok (.getfield 22, 3) := by decide +kernel
theorem dX11_machine_78 : decode cX11_machine 78 = .ok (.iload_n 2, 1) := by decide +kernel
theorem dX11_machine_79 : decode cX11_machine 79 = .ok (.iaload, 1) := by decide +kernel
theorem dX11_machine_80 : decode cX11_machine 80 = .ok (.iload_n 1, 1) := by decide +kernel
theorem dX11_machine_81 : decode cX11_machine 81 = .ok (.invokevirtual 321, 3) := by decide +kernel
theorem dX11_machine_84 : decode cX11_machine 84 = .ok (.istore 4, 2) := by decide +kernel
theorem dX11_machine_86 : decode cX11_machine 86 = .ok (.aload_n 0, 1) := by decide +kernel
theorem dX11_machine_87 : decode cX11_machine 87 = .ok (.getfield 140, 3) := by decide +kernel
theorem dX11_machine_90 : decode cX11_machine 90 = .ok (.iload_n 1, 1) := by decide +kernel
theorem dX11_machine_91 : decode cX11_machine 91 = .ok (.iaload, 1) := by decide +kernel
theorem dX11_machine_92 : decode cX11_machine 92 = .ok (.iload 4, 2) := by decide +kernel
theorem dX11_machine_94 : decode cX11_machine 94 = .ok (.if_icmp .lt 34, 3) := by decide +kernel
theorem dX11_machine_97 : decode cX11_machine 97 = .ok (.aload_n 0, 1) := by decide +kernel
theorem dX11_machine_98 : decode cX11_machine 98 = .ok (.getfield 152, 3) := by decide +kernel
theorem dX11_machine_101 : decode cX11_machine 101 = .ok (.iload_n 1, 1) := by decide +kernel
theorem dX11_machine_102 : decode cX11_machine 102 = .ok (.iaload, 1) := by decide +kernel
theorem dX11_machine_103 : decode cX11_machine 103 = .ok (.aload_n 0, 1) := by decide +kernel
theorem dX11_machine_104 : decode cX11_machine 104 = .ok (.iload_n 3, 1) := by decide +kernel
theorem dX11_machine_105 : decode cX11_machine 105 = .ok (.invokevirtual 324, 3) := by decide +kernel
theorem dX11_machine_108 : decode cX11_machine 108 = .ok (.if_icmp .lt 20, 3) := by decide +kernel
theorem dX11_machine_111 : decode cX11_machine 111 = .ok (.aload_n 0, 1) := by decide +kernel
theorem dX11_machine_112 : decode cX11_machine 112 = .ok (.getfield 152, 3) := by decide +kernel
theorem dX11_machine_115 : decode cX11_machine 115 = .ok (.iload_n 1, 1) := by decide +kernel
theorem dX11_machine_116 : decode cX11_machine 116 = .ok (.iaload, 1) := by decide +kernel
theorem dX11_machine_117 : decode cX11_machine 117 = .ok (.aload_n 0, 1) := by decide +kernel
theorem dX11_machine_118 : decode cX11_machine 118 = .ok (.iload_n 3, 1) := by decide +kernel
theorem dX11_machine_119 : decode cX11_machine 119 = .ok (.invokevirtual 327, 3) := by decide +kernel
theorem dX11_machine_122 : decode cX11_machine 122 = .ok (.iadd, 1) := by decide +kernel
theorem dX11_machine_123 : decode cX11_machine 123 = .ok (.bipush 16, 2) := by decide +kernel
theorem dX11_machine_125 : decode cX11_machine 125 = .ok (.if_icmp .le 7, 3) := by decide +kernel
theorem dX11_machine_128 : decode cX11_machine 128 = .ok (.iconst 1, 1) := by decide +kernel
theorem dX11_machine_129 : decode cX11_machine 129 = .ok (.goto 4, 3) := by decide +kernel
theorem dX11_machine_132 : decode cX11_machine 132 = .ok (.iconst 0, 1) := by decide +kernel
theorem dX11_machine_133 : decode cX11_machine 133 = .ok (.istore 5, 2) := by decide +kernel
theorem dX11_machine_135 : decode cX11_machine 135 = .ok (.aload_n 0, 1) := by decide +kernel
theorem dX11_machine_136 : decode cX11_machine 136 = .ok (.getfield 146, 3) := by decide +kernel
theorem dX11_machine_139 : decode cX11_machine 139 = .ok (.iload_n 1, 1) := by decide +kernel
theorem dX11_machine_140 : decode cX11_machine 140 = .ok (.dup2, 1) := by decide +kernel
theorem dX11_machine_141 : decode cX11_machine 141 = .ok (.iaload, 1) := by decide +kernel
theorem dX11_machine_142 : decode cX11_machine 142 = .ok (.iconst 1, 1) := by decide +kernel
theorem dX11_machine_143 : decode cX11_machine 143 = .ok (.iadd, 1) := by decide +kernel
theorem dX11_machine_144 : decode cX11_machine 144 = .ok (.iastore, 1) := by decide +kernel
theorem dX11_machine_145 : decode cX11_machine 145 = .ok (.aload_n 0, 1) := by decide +kernel
theorem dX11_machine_146 : decode cX11_machine 146 = .ok (.getfield 140, 3) := by decide +kernel
theorem dX11_machine_149 : decode cX11_machine 149 = .ok (.iload_n 1, 1) := by decide +kernel
theorem dX11_machine_150 : decode cX11_machine 150 = .ok (.dup2, 1) := by decide +kernel
theorem dX11_machine_151 : decode cX11_machine 151 = .ok (.iaload, 1) := by decide +kernel
theorem dX11_machine_152 : decode cX11_machine 152 = .ok (.iload 5, 2) := by decide +kernel
theorem dX11_machine_154 : decode cX11_machine 154 = .ok (.ifCond .eq 12, 3) := by decide +kernel
theorem dX11_machine_157 : decode cX11_machine 157 = .ok (.aload_n 0, 1) := by decide +kernel
theorem dX11_machine_158 : decode cX11_machine 158 = .ok (.getfield 140, 3) := by decide +kernel
theorem dX11_machine_161 : decode cX11_machine 161 = .ok (.iload_n 1, 1) := by decide +kernel
theorem dX11_machine_162 : decode cX11_machine 162 = .ok (.iaload, 1) := by decide +kernel
theorem dX11_machine_163 : decode cX11_machine 163 = .ok (.goto 5, 3) := by decide +kernel
theorem dX11_machine_166 : decode cX11_machine 166 = .ok (.iload 4, 2) := by decide +kernel
theorem dX11_machine_168 : decode cX11_machine 168 = .ok (.isub, 1) := by decide +kernel
theorem dX11_machine_169 : decode cX11_machine 169 = .ok (.iastore, 1) := by decide +kernel
theorem dX11_machine_170 : decode cX11_machine 170 = .ok (.iload 5, 2) := by decide +kernel
theorem dX11_machine_172 : decode cX11_machine 172 = .ok (.ifCond .eq 12, 3) := by decide +kernel
theorem dX11_machine_175 : decode cX11_machine 175 = .ok (.aload_n 0, 1) := by decide +kernel
theorem dX11_machine_176 : decode cX11_machine 176 = .ok (.iconst 0, 1) := by decide +kernel
theorem dX11_machine_177 : decode cX11_machine 177 = .ok (.iconst 0, 1) := by decide +kernel
theorem dX11_machine_178 : decode cX11_machine 178 = .ok (.invokevirtual 291, 3) := by decide +kernel
theorem dX11_machine_181 : decode cX11_machine 181 = .ok (.goto 15, 3) := by decide +kernel
theorem dX11_machine_184 : decode cX11_machine 184 = .ok (.aload_n 0, 1) := by decide +kernel
theorem dX11_machine_185 : decode cX11_machine 185 = .ok (.iload_n 1, 1) := by decide +kernel
theorem dX11_machine_186 : decode cX11_machine 186 = .ok (.iload_n 3, 1) := by decide +kernel
theorem dX11_machine_187 : decode cX11_machine 187 = .ok (.aload_n 0, 1) := by decide +kernel
theorem dX11_machine_188 : decode cX11_machine 188 = .ok (.getfield 22, 3) := by decide +kernel
theorem dX11_machine_191 : decode cX11_machine 191 = .ok (.iload_n 2, 1) := by decide +kernel
theorem dX11_machine_192 : decode cX11_machine 192 = .ok (.iaload, 1) := by decide +kernel
theorem dX11_machine_193 : decode cX11_machine 193 = .ok (.invokevirtual 330, 3) := by decide +kernel
theorem dX11_machine_196 : decode cX11_machine 196 = .ok (.goto (-196), 3) := by decide +kernel
theorem dX11_machine_199 : decode cX11_machine 199 = .ok (.return_, 1) := by decide +kernel
theorem dX11_fit_0 : decode cX11_fit 0 = .ok (.aload_n 0, 1) := by decide +kernel
theorem dX11_fit_1 : decode cX11_fit 1 = .ok (.getfield 40, 3) := by decide +kernel
theorem dX11_fit_4 : decode cX11_fit 4 = .ok (.iload_n 1, 1) := by decide +kernel
theorem dX11_fit_5 : decode cX11_fit 5 = .ok (.iaload, 1) := by decide +kernel
theorem dX11_fit_6 : decode cX11_fit 6 = .ok (.istore_n 3, 1) := by decide +kernel
theorem dX11_fit_7 : decode cX11_fit 7 = .ok (.aload_n 0, 1) := by decide +kernel
theorem dX11_fit_8 : decode cX11_fit 8 = .ok (.getfield 13, 3) := by decide +kernel
theorem dX11_fit_11 : decode cX11_fit 11 = .ok (.bipush 16, 2) := by decide +kernel
theorem dX11_fit_13 : decode cX11_fit 13 = .ok (.iload_n 3, 1) := by decide +kernel
theorem dX11_fit_14 : decode cX11_fit 14 = .ok (.iadd, 1) := by decide +kernel
theorem dX11_fit_15 : decode cX11_fit 15 = .ok (.iaload, 1) := by decide +kernel
theorem dX11_fit_16 : decode cX11_fit 16 = .ok (.aload_n 0, 1) := by decide +kernel
theorem dX11_fit_17 : decode cX11_fit 17 = .ok (.getfield 43, 3) := by decide +kernel
theorem dX11_fit_20 : decode cX11_fit 20 = .ok (.iload_n 1, 1) := by decide +kernel
theorem dX11_fit_21 : decode cX11_fit 21 = .ok (.iaload, 1) := by decide +kernel
theorem dX11_fit_22 : decode cX11_fit 22 = .ok (.if_icmp .ne 46, 3) := by decide +kernel
theorem dX11_fit_25 : decode cX11_fit 25 = .ok (.aload_n 0, 1) := by decide +kernel
theorem dX11_fit_26 : decode cX11_fit 26 = .ok (.getfield 13, 3) := by decide +kernel
theorem dX11_fit_29 : decode cX11_fit 29 = .ok (.iload_n 3, 1) := by decide +kernel
theorem dX11_fit_30 : decode cX11_fit 30 = .ok (.iaload, 1) := by decide +kernel
theorem dX11_fit_31 : decode cX11_fit 31 = .ok (.aload_n 0, 1) := by decide +kernel
theorem dX11_fit_32 : decode cX11_fit 32 = .ok (.getfield 49, 3) := by decide +kernel
theorem dX11_fit_35 : decode cX11_fit 35 = .ok (.iload_n 1, 1) := by decide +kernel
theorem dX11_fit_36 : decode cX11_fit 36 = .ok (.iaload, 1) := by decide +kernel
theorem dX11_fit_37 : decode cX11_fit 37 = .ok (.aload_n 0, 1) := by decide +kernel
theorem dX11_fit_38 : decode cX11_fit 38 = .ok (.getfield 55, 3) := by decide +kernel
theorem dX11_fit_41 : decode cX11_fit 41 = .ok (.iload_n 1, 1) := by decide +kernel
theorem dX11_fit_42 : decode cX11_fit 42 = .ok (.iaload, 1) := by decide +kernel
theorem dX11_fit_43 : decode cX11_fit 43 = .ok (.aload_n 0, 1) := by decide +kernel
theorem dX11_fit_44 : decode cX11_fit 44 = .ok (.getfield 58, 3) := by decide +kernel
theorem dX11_fit_47 : decode cX11_fit 47 = .ok (.iload_n 1, 1) := by decide +kernel
theorem dX11_fit_48 : decode cX11_fit 48 = .ok (.iaload, 1) := by decide +kernel
theorem dX11_fit_49 : decode cX11_fit 49 = .ok (.imul, 1) := by decide +kernel
theorem dX11_fit_50 : decode cX11_fit 50 = .ok (.iadd, 1) := by decide +kernel
theorem dX11_fit_51 : decode cX11_fit 51 = .ok (.if_icmp .lt 17, 3) := by decide +kernel
theorem dX11_fit_54 : decode cX11_fit 54 = .ok (.aload_n 0, 1) := by decide +kernel
theorem dX11_fit_55 : decode cX11_fit 55 = .ok (.getfield 58, 3) := by decide +kernel
theorem dX11_fit_58 : decode cX11_fit 58 = .ok (.iload_n 1, 1) := by decide +kernel
theorem dX11_fit_59 : decode cX11_fit 59 = .ok (.iaload, 1) := by decide +kernel
theorem dX11_fit_60 : decode cX11_fit 60 = .ok (.iload_n 2, 1) := by decide +kernel
theorem dX11_fit_61 : decode cX11_fit 61 = .ok (.if_icmp .lt 7, 3) := by decide +kernel
theorem dX11_fit_64 : decode cX11_fit 64 = .ok (.iconst 1, 1) := by decide +kernel
theorem dX11_fit_65 : decode cX11_fit 65 = .ok (.goto 4, 3) := by decide +kernel
theorem dX11_fit_68 : decode cX11_fit 68 = .ok (.iconst 0, 1) := by decide +kernel
theorem dX11_fit_69 : decode cX11_fit 69 = .ok (.ireturn, 1) := by decide +kernel
theorem dX11_price_0 : decode cX11_price 0 = .ok (.aload_n 0, 1) := by decide +kernel
theorem dX11_price_1 : decode cX11_price 1 = .ok (.getfield 58, 3) := by decide +kernel
theorem dX11_price_4 : decode cX11_price 4 = .ok (.iload_n 1, 1) := by decide +kernel
theorem dX11_price_5 : decode cX11_price 5 = .ok (.iaload, 1) := by decide +kernel
theorem dX11_price_6 : decode cX11_price 6 = .ok (.iload_n 2, 1) := by decide +kernel
theorem dX11_price_7 : decode cX11_price 7 = .ok (.aload_n 0, 1) := by decide +kernel
theorem dX11_price_8 : decode cX11_price 8 = .ok (.getfield 61, 3) := by decide +kernel
theorem dX11_price_11 : decode cX11_price 11 = .ok (.iload_n 1, 1) := by decide +kernel
theorem dX11_price_12 : decode cX11_price 12 = .ok (.iaload, 1) := by decide +kernel
theorem dX11_price_13 : decode cX11_price 13 = .ok (.iadd, 1) := by decide +kernel
theorem dX11_price_14 : decode cX11_price 14 = .ok (.if_icmp .ge 12, 3) := by decide +kernel
theorem dX11_price_17 : decode cX11_price 17 = .ok (.aload_n 0, 1) := by decide +kernel
theorem dX11_price_18 : decode cX11_price 18 = .ok (.getfield 58, 3) := by decide +kernel
theorem dX11_price_21 : decode cX11_price 21 = .ok (.iload_n 1, 1) := by decide +kernel
theorem dX11_price_22 : decode cX11_price 22 = .ok (.iaload, 1) := by decide +kernel
theorem dX11_price_23 : decode cX11_price 23 = .ok (.goto 11, 3) := by decide +kernel
theorem dX11_price_26 : decode cX11_price 26 = .ok (.iload_n 2, 1) := by decide +kernel
theorem dX11_price_27 : decode cX11_price 27 = .ok (.aload_n 0, 1) := by decide +kernel
theorem dX11_price_28 : decode cX11_price 28 = .ok (.getfield 61, 3) := by decide +kernel
theorem dX11_price_31 : decode cX11_price 31 = .ok (.iload_n 1, 1) := by decide +kernel
theorem dX11_price_32 : decode cX11_price 32 = .ok (.iaload, 1) := by decide +kernel
theorem dX11_price_33 : decode cX11_price 33 = .ok (.iadd, 1) := by decide +kernel
theorem dX11_price_34 : decode cX11_price 34 = .ok (.ireturn, 1) := by decide +kernel
theorem dX11_paysLock_0 : decode cX11_paysLock 0 = .ok (.aload_n 0, 1) := by decide +kernel
theorem dX11_paysLock_1 : decode cX11_paysLock 1 = .ok (.getfield 52, 3) := by decide +kernel
theorem dX11_paysLock_4 : decode cX11_paysLock 4 = .ok (.iload_n 2, 1) := by decide +kernel
theorem dX11_paysLock_5 : decode cX11_paysLock 5 = .ok (.iaload, 1) := by decide +kernel
theorem dX11_paysLock_6 : decode cX11_paysLock 6 = .ok (.istore_n 3, 1) := by decide +kernel
theorem dX11_paysLock_7 : decode cX11_paysLock 7 = .ok (.bipush 113, 2) := by decide +kernel
theorem dX11_paysLock_9 : decode cX11_paysLock 9 = .ok (.iload_n 3, 1) := by decide +kernel
theorem dX11_paysLock_10 : decode cX11_paysLock 10 = .ok (.bipush 20, 2) := by decide +kernel
theorem dX11_paysLock_12 : decode cX11_paysLock 12 = .ok (.idiv, 1) := by decide +kernel
theorem dX11_paysLock_13 : decode cX11_paysLock 13 = .ok (.iadd, 1) := by decide +kernel
theorem dX11_paysLock_14 : decode cX11_paysLock 14 = .ok (.istore 4, 2) := by decide +kernel
theorem dX11_paysLock_16 : decode cX11_paysLock 16 = .ok (.aload_n 0, 1) := by decide +kernel
theorem dX11_paysLock_17 : decode cX11_paysLock 17 = .ok (.getfield 49, 3) := by decide +kernel
theorem dX11_paysLock_20 : decode cX11_paysLock 20 = .ok (.bipush 40, 2) := by decide +kernel
theorem dX11_paysLock_22 : decode cX11_paysLock 22 = .ok (.iconst 1, 1) := by decide +kernel
theorem dX11_paysLock_23 : decode cX11_paysLock 23 = .ok (.iload_n 1, 1) := by decide +kernel
theorem dX11_paysLock_24 : decode cX11_paysLock 24 = .ok (.isub, 1) := by decide +kernel
theorem dX11_paysLock_25 : decode cX11_paysLock 25 = .ok (.imul, 1) := by decide +kernel
theorem dX11_paysLock_26 : decode cX11_paysLock 26 = .ok (.iload_n 3, 1) := by decide +kernel
theorem dX11_paysLock_27 : decode cX11_paysLock 27 = .ok (.iadd, 1) := by decide +kernel
theorem dX11_paysLock_28 : decode cX11_paysLock 28 = .ok (.iaload, 1) := by decide +kernel
theorem dX11_paysLock_29 : decode cX11_paysLock 29 = .ok (.istore 5, 2) := by decide +kernel
theorem dX11_paysLock_31 : decode cX11_paysLock 31 = .ok (.aload_n 0, 1) := by decide +kernel
theorem dX11_paysLock_32 : decode cX11_paysLock 32 = .ok (.getfield 13, 3) := by decide +kernel
theorem dX11_paysLock_35 : decode cX11_paysLock 35 = .ok (.iload 4, 2) := by decide +kernel
theorem dX11_paysLock_37 : decode cX11_paysLock 37 = .ok (.iaload, 1) := by decide +kernel
theorem dX11_paysLock_38 : decode cX11_paysLock 38 = .ok (.iload_n 3, 1) := by decide +kernel
theorem dX11_paysLock_39 : decode cX11_paysLock 39 = .ok (.bipush 20, 2) := by decide +kernel
theorem dX11_paysLock_41 : decode cX11_paysLock 41 = .ok (.irem, 1) := by decide +kernel
theorem dX11_paysLock_42 : decode cX11_paysLock 42 = .ok (.ishr, 1) := by decide +kernel
theorem dX11_paysLock_43 : decode cX11_paysLock 43 = .ok (.iconst 1, 1) := by decide +kernel
theorem dX11_paysLock_44 : decode cX11_paysLock 44 = .ok (.iand, 1) := by decide +kernel
theorem dX11_paysLock_45 : decode cX11_paysLock 45 = .ok (.iconst 1, 1) := by decide +kernel
theorem dX11_paysLock_46 : decode cX11_paysLock 46 = .ok (.if_icmp .eq 15, 3) := by decide +kernel
theorem dX11_paysLock_49 : decode cX11_paysLock 49 = .ok (.aload_n 0, 1) := by decide +kernel
theorem dX11_paysLock_50 : decode cX11_paysLock 50 = .ok (.getfield 13, 3) := by decide +kernel
theorem dX11_paysLock_53 : decode cX11_paysLock 53 = .ok (.bipush 15, 2) := by decide +kernel
theorem dX11_paysLock_55 : decode cX11_paysLock 55 = .ok (.iaload, 1) := by decide +kernel
theorem dX11_paysLock_56 : decode cX11_paysLock 56 = .ok (.iload 5, 2) := by decide +kernel
theorem dX11_paysLock_58 : decode cX11_paysLock 58 = .ok (.if_icmp .ge 5, 3) := by decide +kernel
theorem dX11_paysLock_61 : decode cX11_paysLock 61 = .ok (.iconst 0, 1) := by decide +kernel
theorem dX11_paysLock_62 : decode cX11_paysLock 62 = .ok (.ireturn, 1) := by decide +kernel
theorem dX11_paysLock_63 : decode cX11_paysLock 63 = .ok (.aload_n 0, 1) := by decide +kernel
theorem dX11_paysLock_64 : decode cX11_paysLock 64 = .ok (.getfield 13, 3) := by decide +kernel
theorem dX11_paysLock_67 : decode cX11_paysLock 67 = .ok (.iload 4, 2) := by decide +kernel
theorem dX11_paysLock_69 : decode cX11_paysLock 69 = .ok (.dup2, 1) := by decide +kernel
theorem dX11_paysLock_70 : decode cX11_paysLock 70 = .ok (.iaload, 1) := by decide +kernel
theorem dX11_paysLock_71 : decode cX11_paysLock 71 = .ok (.iconst 1, 1) := by decide +kernel
theorem dX11_paysLock_72 : decode cX11_paysLock 72 = .ok (.iload_n 3, 1) := by decide +kernel
theorem dX11_paysLock_73 : decode cX11_paysLock 73 = .ok (.bipush 20, 2) := by decide +kernel
theorem dX11_paysLock_75 : decode cX11_paysLock 75 = .ok (.irem, 1) := by decide +kernel
theorem dX11_paysLock_76 : decode cX11_paysLock 76 = .ok (.ishl, 1) := by decide +kernel
theorem dX11_paysLock_77 : decode cX11_paysLock 77 = .ok (.ior, 1) := by decide +kernel
theorem dX11_paysLock_78 : decode cX11_paysLock 78 = .ok (.iastore, 1) := by decide +kernel
theorem dX11_paysLock_79 : decode cX11_paysLock 79 = .ok (.aload_n 0, 1) := by decide +kernel
theorem dX11_paysLock_80 : decode cX11_paysLock 80 = .ok (.bipush 15, 2) := by decide +kernel
theorem dX11_paysLock_82 : decode cX11_paysLock 82 = .ok (.aload_n 0, 1) := by decide +kernel
theorem dX11_paysLock_83 : decode cX11_paysLock 83 = .ok (.getfield 52, 3) := by decide +kernel
theorem dX11_paysLock_86 : decode cX11_paysLock 86 = .ok (.bipush 40, 2) := by decide +kernel
theorem dX11_paysLock_88 : decode cX11_paysLock 88 = .ok (.iconst 1, 1) := by decide +kernel
theorem dX11_paysLock_89 : decode cX11_paysLock 89 = .ok (.iload_n 1, 1) := by decide +kernel
theorem dX11_paysLock_90 : decode cX11_paysLock 90 = .ok (.isub, 1) := by decide +kernel
theorem dX11_paysLock_91 : decode cX11_paysLock 91 = .ok (.imul, 1) := by decide +kernel
theorem dX11_paysLock_92 : decode cX11_paysLock 92 = .ok (.iload_n 3, 1) := by decide +kernel
theorem dX11_paysLock_93 : decode cX11_paysLock 93 = .ok (.iadd, 1) := by decide +kernel
theorem dX11_paysLock_94 : decode cX11_paysLock 94 = .ok (.iaload, 1) := by decide +kernel
theorem dX11_paysLock_95 : decode cX11_paysLock 95 = .ok (.bipush 6, 2) := by decide +kernel
theorem dX11_paysLock_97 : decode cX11_paysLock 97 = .ok (.irem, 1) := by decide +kernel
theorem dX11_paysLock_98 : decode cX11_paysLock 98 = .ok (.iload 5, 2) := by decide +kernel
theorem dX11_paysLock_100 : decode cX11_paysLock 100 = .ok (.invokevirtual 277, 3) := by decide +kernel
theorem dX11_paysLock_103 : decode cX11_paysLock 103 = .ok (.iconst 1, 1) := by decide +kernel
theorem dX11_paysLock_104 : decode cX11_paysLock 104 = .ok (.ireturn, 1) := by decide +kernel
theorem dX11_effect_0 : decode cX11_effect 0 = .ok (.aload_n 0, 1) := by decide +kernel
theorem dX11_effect_1 : decode cX11_effect 1 = .ok (.getfield 40, 3) := by decide +kernel
theorem dX11_effect_4 : decode cX11_effect 4 = .ok (.iload_n 2, 1) := by decide +kernel
theorem dX11_effect_5 : decode cX11_effect 5 = .ok (.iaload, 1) := by decide +kernel
theorem dX11_effect_6 : decode cX11_effect 6 = .ok (.istore_n 3, 1) := by decide +kernel
theorem dX11_effect_7 : decode cX11_effect 7 = .ok (.aload_n 0, 1) := by decide +kernel
theorem dX11_effect_8 : decode cX11_effect 8 = .ok (.aload_n 0, 1) := by decide +kernel
theorem dX11_effect_9 : decode cX11_effect 9 = .ok (.getfield 55, 3) := by decide +kernel
theorem dX11_effect_12 : decode cX11_effect 12 = .ok (.iload_n 2, 1) := by decide +kernel
theorem dX11_effect_13 : decode cX11_effect 13 = .ok (.iaload, 1) := by decide +kernel
theorem dX11_effect_14 : decode cX11_effect 14 = .ok (.bipush 20, 2) := by decide +kernel
theorem dX11_effect_16 : decode cX11_effect 16 = .ok (.isub, 1) := by decide +kernel
theorem dX11_effect_17 : decode cX11_effect 17 = .ok (.putfield 264, 3) := by decide +kernel
theorem dX11_effect_20 : decode cX11_effect 20 = .ok (.aload_n 0, 1) := by decide +kernel
theorem dX11_effect_21 : decode cX11_effect 21 = .ok (.getfield 46, 3) := by decide +kernel
theorem dX11_effect_24 : decode cX11_effect 24 = .ok (.iload_n 2, 1) := by decide +kernel
theorem dX11_effect_25 : decode cX11_effect 25 = .ok (.iaload, 1) := by decide +kernel
theorem dX11_effect_26 : decode cX11_effect 26 = .ok (.bipush 24, 2) := by decide +kernel
theorem dX11_effect_28 : decode cX11_effect 28 = .ok (.if_icmp .ne 16, 3) := by decide +kernel
theorem dX11_effect_31 : decode cX11_effect 31 = .ok (.aload_n 0, 1) := by decide +kernel
theorem dX11_effect_32 : decode cX11_effect 32 = .ok (.aload_n 0, 1) := by decide +kernel
theorem dX11_effect_33 : decode cX11_effect 33 = .ok (.iload_n 1, 1) := by decide +kernel
theorem dX11_effect_34 : decode cX11_effect 34 = .ok (.iload_n 2, 1) := by decide +kernel
theorem dX11_effect_35 : decode cX11_effect 35 = .ok (.invokevirtual 333, 3) := by decide +kernel
theorem dX11_effect_38 : decode cX11_effect 38 = .ok (.putfield 261, 3) := by decide +kernel
theorem dX11_effect_41 : decode cX11_effect 41 = .ok (.goto 130, 3) := by decide +kernel
theorem dX11_effect_44 : decode cX11_effect 44 = .ok (.aload_n 0, 1) := by decide +kernel
theorem dX11_effect_45 : decode cX11_effect 45 = .ok (.getfield 46, 3) := by decide +kernel
theorem dX11_effect_48 : decode cX11_effect 48 = .ok (.iload_n 2, 1) := by decide +kernel
theorem dX11_effect_49 : decode cX11_effect 49 = .ok (.iaload, 1) := by decide +kernel
theorem dX11_effect_50 : decode cX11_effect 50 = .ok (.bipush 15, 2) := by decide +kernel
theorem dX11_effect_52 : decode cX11_effect 52 = .ok (.if_icmp .le 44, 3) := by decide +kernel
theorem dX11_effect_55 : decode cX11_effect 55 = .ok (.aload_n 0, 1) := by decide +kernel
theorem dX11_effect_56 : decode cX11_effect 56 = .ok (.aload_n 0, 1) := by decide +kernel
theorem dX11_effect_57 : decode cX11_effect 57 = .ok (.iload_n 3, 1) := by decide +kernel
theorem dX11_effect_58 : decode cX11_effect 58 = .ok (.aload_n 0, 1) := by decide +kernel
theorem dX11_effect_59 : decode cX11_effect 59 = .ok (.getfield 43, 3) := by decide +kernel
theorem dX11_effect_62 : decode cX11_effect 62 = .ok (.iload_n 2, 1) := by decide +kernel
theorem dX11_effect_63 : decode cX11_effect 63 = .ok (.iaload, 1) := by decide +kernel
theorem dX11_effect_64 : decode cX11_effect 64 = .ok (.aload_n 0, 1) := by decide +kernel
theorem dX11_effect_65 : decode cX11_effect 65 = .ok (.getfield 46, 3) := by decide +kernel
theorem dX11_effect_68 : decode cX11_effect 68 = .ok (.iload_n 2, 1) := by decide +kernel
theorem dX11_effect_69 : decode cX11_effect 69 = .ok (.iaload, 1) := by decide +kernel
theorem dX11_effect_70 : decode cX11_effect 70 = .ok (.bipush 16, 2) := by decide +kernel
theorem dX11_effect_72 : decode cX11_effect 72 = .ok (.isub, 1) := by decide +kernel
theorem dX11_effect_73 : decode cX11_effect 73 = .ok (.aload_n 0, 1) := by decide +kernel
theorem dX11_effect_74 : decode cX11_effect 74 = .ok (.getfield 49, 3) := by decide +kernel
theorem dX11_effect_77 : decode cX11_effect 77 = .ok (.iload_n 2, 1) := by decide +kernel
theorem dX11_effect_78 : decode cX11_effect 78 = .ok (.iaload, 1) := by decide +kernel
theorem dX11_effect_79 : decode cX11_effect 79 = .ok (.invokevirtual 295, 3) := by decide +kernel
theorem dX11_effect_82 : decode cX11_effect 82 = .ok (.ifCond .lt 7, 3) := by decide +kernel
theorem dX11_effect_85 : decode cX11_effect 85 = .ok (.iconst 1, 1) := by decide +kernel
theorem dX11_effect_86 : decode cX11_effect 86 = .ok (.goto 4, 3) := by decide +kernel
theorem dX11_effect_89 : decode cX11_effect 89 = .ok (.iconst 0, 1) := by decide +kernel
theorem dX11_effect_90 : decode cX11_effect 90 = .ok (.putfield 261, 3) := by decide +kernel
theorem dX11_effect_93 : decode cX11_effect 93 = .ok (.goto 78, 3) := by decide +kernel
theorem dX11_effect_96 : decode cX11_effect 96 = .ok (.aload_n 0, 1) := by decide +kernel
theorem dX11_effect_97 : decode cX11_effect 97 = .ok (.iconst 0, 1) := by decide +kernel
theorem dX11_effect_98 : decode cX11_effect 98 = .ok (.invokevirtual 284, 3) := by decide +kernel
theorem dX11_effect_101 : decode cX11_effect 101 = .ok (.aload_n 0, 1) := by decide +kernel
theorem dX11_effect_102 : decode cX11_effect 102 = .ok (.iload_n 3, 1) := by decide +kernel
theorem dX11_effect_103 : decode cX11_effect 103 = .ok (.aload_n 0, 1) := by decide +kernel
theorem dX11_effect_104 : decode cX11_effect 104 = .ok (.getfield 46, 3) := by decide +kernel
theorem dX11_effect_107 : decode cX11_effect 107 = .ok (.iload_n 2, 1) := by decide +kernel
theorem dX11_effect_108 : decode cX11_effect 108 = .ok (.iaload, 1) := by decide +kernel
theorem dX11_effect_109 : decode cX11_effect 109 = .ok (.aload_n 0, 1) := by decide +kernel
theorem dX11_effect_110 : decode cX11_effect 110 = .ok (.getfield 49, 3) := by decide +kernel
theorem dX11_effect_113 : decode cX11_effect 113 = .ok (.iload_n 2, 1) := by decide +kernel
theorem dX11_effect_114 : decode cX11_effect 114 = .ok (.iaload, 1) := by decide +kernel
theorem dX11_effect_115 : decode cX11_effect 115 = .ok (.invokevirtual 277, 3) := by decide +kernel
theorem dX11_effect_118 : decode cX11_effect 118 = .ok (.aload_n 0, 1) := by decide +kernel
theorem dX11_effect_119 : decode cX11_effect 119 = .ok (.iconst 1, 1) := by decide +kernel
theorem dX11_effect_120 : decode cX11_effect 120 = .ok (.putfield 261, 3) := by decide +kernel
theorem dX11_effect_123 : decode cX11_effect 123 = .ok (.aload_n 0, 1) := by decide +kernel
theorem dX11_effect_124 : decode cX11_effect 124 = .ok (.getfield 13, 3) := by decide +kernel
theorem dX11_effect_127 : decode cX11_effect 127 = .ok (.bipush 32, 2) := by decide +kernel
theorem dX11_effect_129 : decode cX11_effect 129 = .ok (.aload_n 0, 1) := by decide +kernel
theorem dX11_effect_130 : decode cX11_effect 130 = .ok (.getfield 46, 3) := by decide +kernel
theorem dX11_effect_133 : decode cX11_effect 133 = .ok (.iload_n 2, 1) := by decide +kernel
theorem dX11_effect_134 : decode cX11_effect 134 = .ok (.iaload, 1) := by decide +kernel
theorem dX11_effect_135 : decode cX11_effect 135 = .ok (.iadd, 1) := by decide +kernel
theorem dX11_effect_136 : decode cX11_effect 136 = .ok (.iaload, 1) := by decide +kernel
theorem dX11_effect_137 : decode cX11_effect 137 = .ok (.ifCond .eq 34, 3) := by decide +kernel
theorem dX11_effect_140 : decode cX11_effect 140 = .ok (.aload_n 0, 1) := by decide +kernel
theorem dX11_effect_141 : decode cX11_effect 141 = .ok (.aload_n 0, 1) := by decide +kernel
theorem dX11_effect_142 : decode cX11_effect 142 = .ok (.getfield 46, 3) := by decide +kernel
theorem dX11_effect_145 : decode cX11_effect 145 = .ok (.iload_n 2, 1) := by decide +kernel
theorem dX11_effect_146 : decode cX11_effect 146 = .ok (.iaload, 1) := by decide +kernel
theorem dX11_effect_147 : decode cX11_effect 147 = .ok (.iload_n 3, 1) := by decide +kernel
theorem dX11_effect_148 : decode cX11_effect 148 = .ok (.aload_n 0, 1) := by decide +kernel
theorem dX11_effect_149 : decode cX11_effect 149 = .ok (.getfield 49, 3) := by decide +kernel
theorem dX11_effect_152 : decode cX11_effect 152 = .ok (.iload_n 2, 1) := by decide +kernel
theorem dX11_effect_153 : decode cX11_effect 153 = .ok (.iaload, 1) := by decide +kernel
theorem dX11_effect_154 : decode cX11_effect 154 = .ok (.aload_n 0, 1) := by decide +kernel
theorem dX11_effect_155 : decode cX11_effect 155 = .ok (.getfield 52, 3) := by decide +kernel
theorem dX11_effect_158 : decode cX11_effect 158 = .ok (.iload_n 2, 1) := by decide +kernel
theorem dX11_effect_159 : decode cX11_effect 159 = .ok (.iaload, 1) := by decide +kernel
theorem dX11_effect_160 : decode cX11_effect 160 = .ok (.aload_n 0, 1) := by decide +kernel
theorem dX11_effect_161 : decode cX11_effect 161 = .ok (.getfield 264, 3) := by decide +kernel
theorem dX11_effect_164 : decode cX11_effect 164 = .ok (.invokevirtual 287, 3) := by decide +kernel
theorem dX11_effect_167 : decode cX11_effect 167 = .ok (.aload_n 0, 1) := by decide +kernel
theorem dX11_effect_168 : decode cX11_effect 168 = .ok (.invokevirtual 336, 3) := by decide +kernel
theorem dX11_effect_171 : decode cX11_effect 171 = .ok (.return_, 1) := by decide +kernel
theorem dX11_runs_0 : decode cX11_runs 0 = .ok (.bipush 40, 2) := by decide +kernel
theorem dX11_runs_2 : decode cX11_runs 2 = .ok (.iload_n 1, 1) := by decide +kernel
theorem dX11_runs_3 : decode cX11_runs 3 = .ok (.imul, 1) := by decide +kernel
theorem dX11_runs_4 : decode cX11_runs 4 = .ok (.iload_n 2, 1) := by decide +kernel
theorem dX11_runs_5 : decode cX11_runs 5 = .ok (.iadd, 1) := by decide +kernel
theorem dX11_runs_6 : decode cX11_runs 6 = .ok (.istore 4, 2) := by decide +kernel
theorem dX11_runs_8 : decode cX11_runs 8 = .ok (.aload_n 0, 1) := by decide +kernel
theorem dX11_runs_9 : decode cX11_runs 9 = .ok (.getfield 40, 3) := by decide +kernel
theorem dX11_runs_12 : decode cX11_runs 12 = .ok (.iload 4, 2) := by decide +kernel
theorem dX11_runs_14 : decode cX11_runs 14 = .ok (.iaload, 1) := by decide +kernel
theorem dX11_runs_15 : decode cX11_runs 15 = .ok (.istore 5, 2) := by decide +kernel
theorem dX11_runs_17 : decode cX11_runs 17 = .ok (.aload_n 0, 1) := by decide +kernel
theorem dX11_runs_18 : decode cX11_runs 18 = .ok (.iload 4, 2) := by decide +kernel
theorem dX11_runs_20 : decode cX11_runs 20 = .ok (.iload_n 3, 1) := by decide +kernel
theorem dX11_runs_21 : decode cX11_runs 21 = .ok (.invokevirtual 339, 3) := by decide +kernel
theorem dX11_runs_24 : decode cX11_runs 24 = .ok (.istore 6, 2) := by decide +kernel
theorem dX11_runs_26 : decode cX11_runs 26 = .ok (.aload_n 0, 1) := by decide +kernel
theorem dX11_runs_27 : decode cX11_runs 27 = .ok (.getfield 13, 3) := by decide +kernel
theorem dX11_runs_30 : decode cX11_runs 30 = .ok (.bipush 16, 2) := by decide +kernel
theorem dX11_runs_32 : decode cX11_runs 32 = .ok (.iload 5, 2) := by decide +kernel
theorem dX11_runs_34 : decode cX11_runs 34 = .ok (.iadd, 1) := by decide +kernel
theorem dX11_runs_35 : decode cX11_runs 35 = .ok (.dup2, 1) := by decide +kernel
theorem dX11_runs_36 : decode cX11_runs 36 = .ok (.iaload, 1) := by decide +kernel
theorem dX11_runs_37 : decode cX11_runs 37 = .ok (.iconst 1, 1) := by decide +kernel
theorem dX11_runs_38 : decode cX11_runs 38 = .ok (.iadd, 1) := by decide +kernel
theorem dX11_runs_39 : decode cX11_runs 39 = .ok (.iastore, 1) := by decide +kernel
theorem dX11_runs_40 : decode cX11_runs 40 = .ok (.aload_n 0, 1) := by decide +kernel
theorem dX11_runs_41 : decode cX11_runs 41 = .ok (.getfield 13, 3) := by decide +kernel
theorem dX11_runs_44 : decode cX11_runs 44 = .ok (.iload 5, 2) := by decide +kernel
theorem dX11_runs_46 : decode cX11_runs 46 = .ok (.dup2, 1) := by decide +kernel
theorem dX11_runs_47 : decode cX11_runs 47 = .ok (.iaload, 1) := by decide +kernel
theorem dX11_runs_48 : decode cX11_runs 48 = .ok (.aload_n 0, 1) := by decide +kernel
theorem dX11_runs_49 : decode cX11_runs 49 = .ok (.getfield 55, 3) := by decide +kernel
theorem dX11_runs_52 : decode cX11_runs 52 = .ok (.iload 4, 2) := by decide +kernel
theorem dX11_runs_54 : decode cX11_runs 54 = .ok (.iaload, 1) := by decide +kernel
theorem dX11_runs_55 : decode cX11_runs 55 = .ok (.iload 6, 2) := by decide +kernel
theorem dX11_runs_57 : decode cX11_runs 57 = .ok (.imul, 1) := by decide +kernel
theorem dX11_runs_58 : decode cX11_runs 58 = .ok (.isub, 1) := by decide +kernel
theorem dX11_runs_59 : decode cX11_runs 59 = .ok (.iastore, 1) := by decide +kernel
theorem dX11_runs_60 : decode cX11_runs 60 = .ok (.aload_n 0, 1) := by decide +kernel
theorem dX11_runs_61 : decode cX11_runs 61 = .ok (.iconst 0, 1) := by decide +kernel
theorem dX11_runs_62 : decode cX11_runs 62 = .ok (.putfield 243, 3) := by decide +kernel
theorem dX11_runs_65 : decode cX11_runs 65 = .ok (.aload_n 0, 1) := by decide +kernel
theorem dX11_runs_66 : decode cX11_runs 66 = .ok (.iconst 0, 1) := by decide +kernel
theorem dX11_runs_67 : decode cX11_runs 67 = .ok (.putfield 237, 3) := by decide +kernel
theorem dX11_runs_70 : decode cX11_runs 70 = .ok (.aload_n 0, 1) := by decide +kernel
theorem dX11_runs_71 : decode cX11_runs 71 = .ok (.iload_n 1, 1) := by decide +kernel
theorem dX11_runs_72 : decode cX11_runs 72 = .ok (.iload 4, 2) := by decide +kernel
theorem dX11_runs_74 : decode cX11_runs 74 = .ok (.invokevirtual 342, 3) := by decide +kernel
theorem dX11_runs_77 : decode cX11_runs 77 = .ok (.aload_n 0, 1) := by decide +kernel
theorem dX11_runs_78 : decode cX11_runs 78 = .ok (.getfield 55, 3) := by decide +kernel
theorem dX11_runs_81 : decode cX11_runs 81 = .ok (.iload 4, 2) := by decide +kernel
theorem dX11_runs_83 : decode cX11_runs 83 = .ok (.iaload, 1) := by decide +kernel
theorem dX11_runs_84 : decode cX11_runs 84 = .ok (.aload_n 0, 1) := by decide +kernel
theorem dX11_runs_85 : decode cX11_runs 85 = .ok (.getfield 264, 3) := by decide +kernel
theorem dX11_runs_88 : decode cX11_runs 88 = .ok (.isub, 1) := by decide +kernel
theorem dX11_runs_89 : decode cX11_runs 89 = .ok (.istore 7, 2) := by decide +kernel
theorem dX11_runs_91 : decode cX11_runs 91 = .ok (.iload 7, 2) := by decide +kernel
theorem dX11_runs_93 : decode cX11_runs 93 = .ok (.aload_n 0, 1) := by decide +kernel
theorem dX11_runs_94 : decode cX11_runs 94 = .ok (.getfield 243, 3) := by decide +kernel
theorem dX11_runs_97 : decode cX11_runs 97 = .ok (.iload 7, 2) := by decide +kernel
theorem dX11_runs_99 : decode cX11_runs 99 = .ok (.iconst 5, 1) := by decide +kernel
theorem dX11_runs_100 : decode cX11_runs 100 = .ok (.idiv, 1) := by decide +kernel
theorem dX11_runs_101 : decode cX11_runs 101 = .ok (.if_icmp .ge 10, 3) := by decide +kernel
theorem dX11_runs_104 : decode cX11_runs 104 = .ok (.aload_n 0, 1) := by decide +kernel
theorem dX11_runs_105 : decode cX11_runs 105 = .ok (.getfield 243, 3) := by decide +kernel
theorem dX11_runs_108 : decode cX11_runs 108 = .ok (.goto 7, 3) := by decide +kernel
theorem dX11_runs_111 : decode cX11_runs 111 = .ok (.iload 7, 2) := by decide +kernel
theorem dX11_runs_113 : decode cX11_runs 113 = .ok (.iconst 5, 1) := by decide +kernel
theorem dX11_runs_114 : decode cX11_runs 114 = .ok (.idiv, 1) := by decide +kernel
theorem dX11_runs_115 : decode cX11_runs 115 = .ok (.isub, 1) := by decide +kernel
theorem dX11_runs_116 : decode cX11_runs 116 = .ok (.istore 7, 2) := by decide +kernel
theorem dX11_runs_118 : decode cX11_runs 118 = .ok (.aload_n 0, 1) := by decide +kernel
theorem dX11_runs_119 : decode cX11_runs 119 = .ok (.getfield 13, 3) := by decide +kernel
theorem dX11_runs_122 : decode cX11_runs 122 = .ok (.iload 5, 2) := by decide +kernel
theorem dX11_runs_124 : decode cX11_runs 124 = .ok (.dup2, 1) := by decide +kernel
theorem dX11_runs_125 : decode cX11_runs 125 = .ok (.iaload, 1) := by decide +kernel
theorem dX11_runs_126 : decode cX11_runs 126 = .ok (.aload_n 0, 1) := by decide +kernel
theorem dX11_runs_127 : decode cX11_runs 127 = .ok (.getfield 55, 3) := by decide +kernel
theorem dX11_runs_130 : decode cX11_runs 130 = .ok (.iload 4, 2) := by decide +kernel
theorem dX11_runs_132 : decode cX11_runs 132 = .ok (.iaload, 1) := by decide +kernel
theorem dX11_runs_133 : decode cX11_runs 133 = .ok (.iload 7, 2) := by decide +kernel
theorem dX11_runs_135 : decode cX11_runs 135 = .ok (.isub, 1) := by decide +kernel
theorem dX11_runs_136 : decode cX11_runs 136 = .ok (.iload 6, 2) := by decide +kernel
theorem dX11_runs_138 : decode cX11_runs 138 = .ok (.imul, 1) := by decide +kernel
theorem dX11_runs_139 : decode cX11_runs 139 = .ok (.iadd, 1) := by decide +kernel
theorem dX11_runs_140 : decode cX11_runs 140 = .ok (.iastore, 1) := by decide +kernel
theorem dX11_runs_141 : decode cX11_runs 141 = .ok (.aload_n 0, 1) := by decide +kernel
theorem dX11_runs_142 : decode cX11_runs 142 = .ok (.getfield 13, 3) := by decide +kernel
theorem dX11_runs_145 : decode cX11_runs 145 = .ok (.bipush 112, 2) := by decide +kernel
theorem dX11_runs_147 : decode cX11_runs 147 = .ok (.dup2, 1) := by decide +kernel
theorem dX11_runs_148 : decode cX11_runs 148 = .ok (.iaload, 1) := by decide +kernel
theorem dX11_runs_149 : decode cX11_runs 149 = .ok (.iload 7, 2) := by decide +kernel
theorem dX11_runs_151 : decode cX11_runs 151 = .ok (.iload_n 3, 1) := by decide +kernel
theorem dX11_runs_152 : decode cX11_runs 152 = .ok (.imul, 1) := by decide +kernel
theorem dX11_runs_153 : decode cX11_runs 153 = .ok (.iadd, 1) := by decide +kernel
theorem dX11_runs_154 : decode cX11_runs 154 = .ok (.iastore, 1) := by decide +kernel
theorem dX11_runs_155 : decode cX11_runs 155 = .ok (.aload_n 0, 1) := by decide +kernel
theorem dX11_runs_156 : decode cX11_runs 156 = .ok (.getfield 13, 3) := by decide +kernel
theorem dX11_runs_159 : decode cX11_runs 159 = .ok (.aload_n 0, 1) := by decide +kernel
theorem dX11_runs_160 : decode cX11_runs 160 = .ok (.getfield 73, 3) := by decide +kernel
theorem dX11_runs_163 : decode cX11_runs 163 = .ok (.aload_n 0, 1) := by decide +kernel
theorem dX11_runs_164 : decode cX11_runs 164 = .ok (.getfield 246, 3) := by decide +kernel
theorem dX11_runs_167 : decode cX11_runs 167 = .ok (.iaload, 1) := by decide +kernel
theorem dX11_runs_168 : decode cX11_runs 168 = .ok (.dup2, 1) := by decide +kernel
theorem dX11_runs_169 : decode cX11_runs 169 = .ok (.iaload, 1) := by decide +kernel
theorem dX11_runs_170 : decode cX11_runs 170 = .ok (.iload 7, 2) := by decide +kernel
theorem dX11_runs_172 : decode cX11_runs 172 = .ok (.iload 6, 2) := by decide +kernel
theorem dX11_runs_174 : decode cX11_runs 174 = .ok (.iload_n 3, 1) := by decide +kernel
theorem dX11_runs_175 : decode cX11_runs 175 = .ok (.isub, 1) := by decide +kernel
theorem dX11_runs_176 : decode cX11_runs 176 = .ok (.imul, 1) := by decide +kernel
theorem dX11_runs_177 : decode cX11_runs 177 = .ok (.iadd, 1) := by decide +kernel
theorem dX11_runs_178 : decode cX11_runs 178 = .ok (.iastore, 1) := by decide +kernel
theorem dX11_runs_179 : decode cX11_runs 179 = .ok (.aload_n 0, 1) := by decide +kernel
theorem dX11_runs_180 : decode cX11_runs 180 = .ok (.getfield 101, 3) := by decide +kernel
theorem dX11_runs_183 : decode cX11_runs 183 = .ok (.bipush 40, 2) := by decide +kernel
theorem dX11_runs_185 : decode cX11_runs 185 = .ok (.aload_n 0, 1) := by decide +kernel
theorem dX11_runs_186 : decode cX11_runs 186 = .ok (.getfield 246, 3) := by decide +kernel
theorem dX11_runs_189 : decode cX11_runs 189 = .ok (.imul, 1) := by decide +kernel
theorem dX11_runs_190 : decode cX11_runs 190 = .ok (.aload_n 0, 1) := by decide +kernel
theorem dX11_runs_191 : decode cX11_runs 191 = .ok (.getfield 95, 3) := by decide +kernel
theorem dX11_runs_194 : decode cX11_runs 194 = .ok (.aload_n 0, 1) := by decide +kernel
theorem dX11_runs_195 : decode cX11_runs 195 = .ok (.getfield 246, 3) := by decide +kernel
theorem dX11_runs_198 : decode cX11_runs 198 = .ok (.iaload, 1) := by decide +kernel
theorem dX11_runs_199 : decode cX11_runs 199 = .ok (.iadd, 1) := by decide +kernel
theorem dX11_runs_200 : decode cX11_runs 200 = .ok (.ldc_w 345, 3) := by decide +kernel
theorem dX11_runs_203 : decode cX11_runs 203 = .ok (.iload 7, 2) := by decide +kernel
theorem dX11_runs_205 : decode cX11_runs 205 = .ok (.imul, 1) := by decide +kernel
theorem dX11_runs_206 : decode cX11_runs 206 = .ok (.bipush 10, 2) := by decide +kernel
theorem dX11_runs_208 : decode cX11_runs 208 = .ok (.iload_n 2, 1) := by decide +kernel
theorem dX11_runs_209 : decode cX11_runs 209 = .ok (.imul, 1) := by decide +kernel
theorem dX11_runs_210 : decode cX11_runs 210 = .ok (.iadd, 1) := by decide +kernel
theorem dX11_runs_211 : decode cX11_runs 211 = .ok (.aload_n 0, 1) := by decide +kernel
theorem dX11_runs_212 : decode cX11_runs 212 = .ok (.getfield 261, 3) := by decide +kernel
theorem dX11_runs_215 : decode cX11_runs 215 = .ok (.ifCond .eq 7, 3) := by decide +kernel
theorem dX11_runs_218 : decode cX11_runs 218 = .ok (.iconst 1, 1) := by decide +kernel
theorem dX11_runs_219 : decode cX11_runs 219 = .ok (.goto 4, 3) := by decide +kernel
theorem dX11_runs_222 : decode cX11_runs 222 = .ok (.iconst 0, 1) := by decide +kernel
theorem dX11_runs_223 : decode cX11_runs 223 = .ok (.iadd, 1) := by decide +kernel
theorem dX11_runs_224 : decode cX11_runs 224 = .ok (.iastore, 1) := by decide +kernel
theorem dX11_runs_225 : decode cX11_runs 225 = .ok (.aload_n 0, 1) := by decide +kernel
theorem dX11_runs_226 : decode cX11_runs 226 = .ok (.getfield 95, 3) := by decide +kernel
theorem dX11_runs_229 : decode cX11_runs 229 = .ok (.aload_n 0, 1) := by decide +kernel
theorem dX11_runs_230 : decode cX11_runs 230 = .ok (.getfield 246, 3) := by decide +kernel
theorem dX11_runs_233 : decode cX11_runs 233 = .ok (.dup2, 1) := by decide +kernel
theorem dX11_runs_234 : decode cX11_runs 234 = .ok (.iaload, 1) := by decide +kernel
theorem dX11_runs_235 : decode cX11_runs 235 = .ok (.iconst 1, 1) := by decide +kernel
theorem dX11_runs_236 : decode cX11_runs 236 = .ok (.iadd, 1) := by decide +kernel
theorem dX11_runs_237 : decode cX11_runs 237 = .ok (.iastore, 1) := by decide +kernel
theorem dX11_runs_238 : decode cX11_runs 238 = .ok (.aload_n 0, 1) := by decide +kernel
theorem dX11_runs_239 : decode cX11_runs 239 = .ok (.getfield 83, 3) := by decide +kernel
theorem dX11_runs_242 : decode cX11_runs 242 = .ok (.aload_n 0, 1) := by decide +kernel
theorem dX11_runs_243 : decode cX11_runs 243 = .ok (.getfield 246, 3) := by decide +kernel
theorem dX11_runs_246 : decode cX11_runs 246 = .ok (.dup2, 1) := by decide +kernel
theorem dX11_runs_247 : decode cX11_runs 247 = .ok (.iaload, 1) := by decide +kernel
theorem dX11_runs_248 : decode cX11_runs 248 = .ok (.iload 7, 2) := by decide +kernel
theorem dX11_runs_250 : decode cX11_runs 250 = .ok (.iadd, 1) := by decide +kernel
theorem dX11_runs_251 : decode cX11_runs 251 = .ok (.iastore, 1) := by decide +kernel
theorem dX11_runs_252 : decode cX11_runs 252 = .ok (.return_, 1) := by decide +kernel
theorem dX11_pick_0 : decode cX11_pick 0 = .ok (.aload_n 0, 1) := by decide +kernel
theorem dX11_pick_1 : decode cX11_pick 1 = .ok (.getfield 80, 3) := by decide +kernel
theorem dX11_pick_4 : decode cX11_pick 4 = .ok (.bipush 24, 2) := by decide +kernel
theorem dX11_pick_6 : decode cX11_pick 6 = .ok (.iload_n 1, 1) := by decide +kernel
theorem dX11_pick_7 : decode cX11_pick 7 = .ok (.imul, 1) := by decide +kernel
theorem dX11_pick_8 : decode cX11_pick 8 = .ok (.iload_n 2, 1) := by decide +kernel
theorem dX11_pick_9 : decode cX11_pick 9 = .ok (.iadd, 1) := by decide +kernel
theorem dX11_pick_10 : decode cX11_pick 10 = .ok (.iaload, 1) := by decide +kernel
theorem dX11_pick_11 : decode cX11_pick 11 = .ok (.istore_n 3, 1) := by decide +kernel
theorem dX11_pick_12 : decode cX11_pick 12 = .ok (.iconst (-1), 1) := by decide +kernel
theorem dX11_pick_13 : decode cX11_pick 13 = .ok (.istore 4, 2) := by decide +kernel
theorem dX11_pick_15 : decode cX11_pick 15 = .ok (.iconst 0, 1) := by decide +kernel
theorem dX11_pick_16 : decode cX11_pick 16 = .ok (.istore 5, 2) := by decide +kernel
theorem dX11_pick_18 : decode cX11_pick 18 = .ok (.iload 5, 2) := by decide +kernel
theorem dX11_pick_20 : decode cX11_pick 20 = .ok (.aload_n 0, 1) := by decide +kernel
theorem dX11_pick_21 : decode cX11_pick 21 = .ok (.getfield 31, 3) := by decide +kernel
theorem dX11_pick_24 : decode cX11_pick 24 = .ok (.iload_n 1, 1) := by decide +kernel
theorem dX11_pick_25 : decode cX11_pick 25 = .ok (.iaload, 1) := by decide +kernel
theorem dX11_pick_26 : decode cX11_pick 26 = .ok (.if_icmp .ge 122, 3) := by decide +kernel
theorem dX11_pick_29 : decode cX11_pick 29 = .ok (.bipush 40, 2) := by decide +kernel
theorem dX11_pick_31 : decode cX11_pick 31 = .ok (.iload_n 1, 1) := by decide +kernel
theorem dX11_pick_32 : decode cX11_pick 32 = .ok (.imul, 1) := by decide +kernel
theorem dX11_pick_33 : decode cX11_pick 33 = .ok (.iload 5, 2) := by decide +kernel
theorem dX11_pick_35 : decode cX11_pick 35 = .ok (.iadd, 1) := by decide +kernel
theorem dX11_pick_36 : decode cX11_pick 36 = .ok (.istore 6, 2) := by decide +kernel
theorem dX11_pick_38 : decode cX11_pick 38 = .ok (.aload_n 0, 1) := by decide +kernel
theorem dX11_pick_39 : decode cX11_pick 39 = .ok (.getfield 64, 3) := by decide +kernel
theorem dX11_pick_42 : decode cX11_pick 42 = .ok (.iload 6, 2) := by decide +kernel
theorem dX11_pick_44 : decode cX11_pick 44 = .ok (.iaload, 1) := by decide +kernel
theorem dX11_pick_45 : decode cX11_pick 45 = .ok (.ifCond .ne 53, 3) := by decide +kernel
theorem dX11_pick_48 : decode cX11_pick 48 = .ok (.aload_n 0, 1) := by decide +kernel
theorem dX11_pick_49 : decode cX11_pick 49 = .ok (.getfield 55, 3) := by decide +kernel
theorem dX11_pick_52 : decode cX11_pick 52 = .ok (.iload 6, 2) := by decide +kernel
theorem dX11_pick_54 : decode cX11_pick 54 = .ok (.iaload, 1) := by decide +kernel
theorem dX11_pick_55 : decode cX11_pick 55 = .ok (.sipush 600, 3) := by decide +kernel
theorem dX11_pick_58 : decode cX11_pick 58 = .ok (.aload_n 0, 1) := by decide +kernel
theorem dX11_pick_59 : decode cX11_pick 59 = .ok (.getfield 83, 3) := by decide +kernel
theorem dX11_pick_62 : decode cX11_pick 62 = .ok (.bipush 24, 2) := by decide +kernel
theorem dX11_pick_64 : decode cX11_pick 64 = .ok (.iload_n 1, 1) := by decide +kernel
theorem dX11_pick_65 : decode cX11_pick 65 = .ok (.imul, 1) := by decide +kernel
theorem dX11_pick_66 : decode cX11_pick 66 = .ok (.iload_n 2, 1) := by decide +kernel
theorem dX11_pick_67 : decode cX11_pick 67 = .ok (.iadd, 1) := by decide +kernel
theorem dX11_pick_68 : decode cX11_pick 68 = .ok (.iaload, 1) := by decide +kernel
theorem dX11_pick_69 : decode cX11_pick 69 = .ok (.isub, 1) := by decide +kernel
theorem dX11_pick_70 : decode cX11_pick 70 = .ok (.if_icmp .gt 28, 3) := by decide +kernel
theorem dX11_pick_73 : decode cX11_pick 73 = .ok (.aload_n 0, 1) := by decide +kernel
theorem dX11_pick_74 : decode cX11_pick 74 = .ok (.iload 6, 2) := by decide +kernel
theorem dX11_pick_76 : decode cX11_pick 76 = .ok (.iload_n 3, 1) := by decide +kernel
theorem dX11_pick_77 : decode cX11_pick 77 = .ok (.invokevirtual 346, 3) := by decide +kernel
theorem dX11_pick_80 : decode cX11_pick 80 = .ok (.ifCond .eq 18, 3) := by decide +kernel
theorem dX11_pick_83 : decode cX11_pick 83 = .ok (.aload_n 0, 1) := by decide +kernel
theorem dX11_pick_84 : decode cX11_pick 84 = .ok (.iload_n 1, 1) := by decide +kernel
theorem dX11_pick_85 : decode cX11_pick 85 = .ok (.iload_n 2, 1) := by decide +kernel
theorem dX11_pick_86 : decode cX11_pick 86 = .ok (.iload 5, 2) := by decide +kernel
theorem dX11_pick_88 : decode cX11_pick 88 = .ok (.invokevirtual 217, 3) := by decide +kernel
theorem dX11_pick_91 : decode cX11_pick 91 = .ok (.ifCond .ne 7, 3) := by decide +kernel
theorem dX11_pick_94 : decode cX11_pick 94 = .ok (.iconst 1, 1) := by decide +kernel
theorem dX11_pick_95 : decode cX11_pick 95 = .ok (.goto 4, 3) := by decide +kernel
theorem dX11_pick_98 : decode cX11_pick 98 = .ok (.iconst 0, 1) := by decide +kernel
theorem dX11_pick_99 : decode cX11_pick 99 = .ok (.istore 7, 2) := by decide +kernel
theorem dX11_pick_101 : decode cX11_pick 101 = .ok (.iload 7, 2) := by decide +kernel
theorem dX11_pick_103 : decode cX11_pick 103 = .ok (.ifCond .eq 35, 3) := by decide +kernel
theorem dX11_pick_106 : decode cX11_pick 106 = .ok (.iload 4, 2) := by decide +kernel
theorem dX11_pick_108 : decode cX11_pick 108 = .ok (.ifCond .lt 25, 3) := by decide +kernel
theorem dX11_pick_111 : decode cX11_pick 111 = .ok (.aload_n 0, 1) := by decide +kernel
theorem dX11_pick_112 : decode cX11_pick 112 = .ok (.iload 6, 2) := by decide +kernel
theorem dX11_pick_114 : decode cX11_pick 114 = .ok (.iload_n 3, 1) := by decide +kernel
theorem dX11_pick_115 : decode cX11_pick 115 = .ok (.invokevirtual 339, 3) := by decide +kernel
theorem dX11_pick_118 : decode cX11_pick 118 = .ok (.aload_n 0, 1) := by decide +kernel
theorem dX11_pick_119 : decode cX11_pick 119 = .ok (.bipush 40, 2) := by decide +kernel
theorem dX11_pick_121 : decode cX11_pick 121 = .ok (.iload_n 1, 1) := by decide +kernel
theorem dX11_pick_122 : decode cX11_pick 122 = .ok (.imul, 1) := by decide +kernel
theorem dX11_pick_123 : decode cX11_pick 123 = .ok (.iload 4, 2) := by decide +kernel
theorem dX11_pick_125 : decode cX11_pick 125 = .ok (.iadd, 1) := by decide +kernel
theorem dX11_pick_126 : decode cX11_pick 126 = .ok (.iload_n 3, 1) := by decide +kernel
theorem dX11_pick_127 : decode cX11_pick 127 = .ok (.invokevirtual 339, 3) := by decide +kernel
theorem dX11_pick_130 : decode cX11_pick 130 = .ok (.if_icmp .le 8, 3) := by decide +kernel
theorem dX11_pick_133 : decode cX11_pick 133 = .ok (.iload 5, 2) := by decide +kernel
theorem dX11_pick_135 : decode cX11_pick 135 = .ok (.goto 5, 3) := by decide +kernel
theorem dX11_pick_138 : decode cX11_pick 138 = .ok (.iload 4, 2) := by decide +kernel
theorem dX11_pick_140 : decode cX11_pick 140 = .ok (.istore 4, 2) := by decide +kernel
theorem dX11_pick_142 : decode cX11_pick 142 = .ok (.iinc 5 1, 3) := by decide +kernel
theorem dX11_pick_145 : decode cX11_pick 145 = .ok (.goto (-127), 3) := by decide +kernel
theorem dX11_pick_148 : decode cX11_pick 148 = .ok (.iload 4, 2) := by decide +kernel
theorem dX11_pick_150 : decode cX11_pick 150 = .ok (.ireturn, 1) := by decide +kernel
theorem dX11_make_0 : decode cX11_make 0 = .ok (.aload_n 0, 1) := by decide +kernel
theorem dX11_make_1 : decode cX11_make 1 = .ok (.iload_n 1, 1) := by decide +kernel
theorem dX11_make_2 : decode cX11_make 2 = .ok (.iload_n 2, 1) := by decide +kernel
theorem dX11_make_3 : decode cX11_make 3 = .ok (.invokevirtual 349, 3) := by decide +kernel
theorem dX11_make_6 : decode cX11_make 6 = .ok (.ifCond .eq 17, 3) := by decide +kernel
theorem dX11_make_9 : decode cX11_make 9 = .ok (.aload_n 0, 1) := by decide +kernel
theorem dX11_make_10 : decode cX11_make 10 = .ok (.iload_n 3, 1) := by decide +kernel
theorem dX11_make_11 : decode cX11_make 11 = .ok (.iconst 0, 1) := by decide +kernel
theorem dX11_make_12 : decode cX11_make 12 = .ok (.iconst 5, 1) := by decide +kernel
theorem dX11_make_13 : decode cX11_make 13 = .ok (.invokevirtual 178, 3) := by decide +kernel
theorem dX11_make_16 : decode cX11_make 16 = .ok (.ifCond .eq 7, 3) := by decide +kernel
theorem dX11_make_19 : decode cX11_make 19 = .ok (.iconst 1, 1) := by decide +kernel
theorem dX11_make_20 : decode cX11_make 20 = .ok (.goto 4, 3) := by decide +kernel
theorem dX11_make_23 : decode cX11_make 23 = .ok (.iconst 0, 1) := by decide +kernel
theorem dX11_make_24 : decode cX11_make 24 = .ok (.istore 5, 2) := by decide +kernel
theorem dX11_make_26 : decode cX11_make 26 = .ok (.iload 5, 2) := by decide +kernel
theorem dX11_make_28 : decode cX11_make 28 = .ok (.ifCond .eq 33, 3) := by decide +kernel
theorem dX11_make_31 : decode cX11_make 31 = .ok (.aload_n 0, 1) := by decide +kernel
theorem dX11_make_32 : decode cX11_make 32 = .ok (.getfield 34, 3) := by decide +kernel
theorem dX11_make_35 : decode cX11_make 35 = .ok (.iload_n 1, 1) := by decide +kernel
theorem dX11_make_36 : decode cX11_make 36 = .ok (.iaload, 1) := by decide +kernel
theorem dX11_make_37 : decode cX11_make 37 = .ok (.bipush 24, 2) := by decide +kernel
theorem dX11_make_39 : decode cX11_make 39 = .ok (.if_icmp .eq 18, 3) := by decide +kernel
theorem dX11_make_42 : decode cX11_make 42 = .ok (.aload_n 0, 1) := by decide +kernel
theorem dX11_make_43 : decode cX11_make 43 = .ok (.getfield 86, 3) := by decide +kernel
theorem dX11_make_46 : decode cX11_make 46 = .ok (.bipush 24, 2) := by decide +kernel
theorem dX11_make_48 : decode cX11_make 48 = .ok (.iload_n 1, 1) := by decide +kernel
theorem dX11_make_49 : decode cX11_make 49 = .ok (.imul, 1) := by decide +kernel
theorem dX11_make_50 : decode cX11_make 50 = .ok (.iload_n 2, 1) := by decide +kernel
theorem dX11_make_51 : decode cX11_make 51 = .ok (.iadd, 1) := by decide +kernel
theorem dX11_make_52 : decode cX11_make 52 = .ok (.iaload, 1) := by decide +kernel
theorem dX11_make_53 : decode cX11_make 53 = .ok (.iconst 1, 1) := by decide +kernel
theorem dX11_make_54 : decode cX11_make 54 = .ok (.if_icmp .ne 7, 3) := by decide +kernel
theorem dX11_make_57 : decode cX11_make 57 = .ok (.iconst 1, 1) := by decide +kernel
theorem dX11_make_58 : decode cX11_make 58 = .ok (.goto 4, 3) := by decide +kernel
theorem dX11_make_61 : decode cX11_make 61 = .ok (.iconst 0, 1) := by decide +kernel
theorem dX11_make_62 : decode cX11_make 62 = .ok (.istore 6, 2) := by decide +kernel
theorem dX11_make_64 : decode cX11_make 64 = .ok (.aload_n 0, 1) := by decide +kernel
theorem dX11_make_65 : decode cX11_make 65 = .ok (.iload 5, 2) := by decide +kernel
theorem dX11_make_67 : decode cX11_make 67 = .ok (.ifCond .ne 7, 3) := by decide +kernel
theorem dX11_make_70 : decode cX11_make 70 = .ok (.iconst 1, 1) := by decide +kernel
theorem dX11_make_71 : decode cX11_make 71 = .ok (.goto 29, 3) := by decide +kernel
theorem dX11_make_74 : decode cX11_make 74 = .ok (.aload_n 0, 1) := by decide +kernel
theorem dX11_make_75 : decode cX11_make 75 = .ok (.iload 4, 2) := by decide +kernel
theorem dX11_make_77 : decode cX11_make 77 = .ok (.iconst 1, 1) := by decide +kernel
theorem dX11_make_78 : decode cX11_make 78 = .ok (.bipush 9, 2) := by decide +kernel
theorem dX11_make_80 : decode cX11_make 80 = .ok (.invokevirtual 178, 3) := by decide +kernel
theorem dX11_make_83 : decode cX11_make 83 = .ok (.ifCond .ne 7, 3) := by decide +kernel
theorem dX11_make_86 : decode cX11_make 86 = .ok (.iconst 2, 1) := by decide +kernel
theorem dX11_make_87 : decode cX11_make 87 = .ok (.goto 13, 3) := by decide +kernel
theorem dX11_make_90 : decode cX11_make 90 = .ok (.iload 6, 2) := by decide +kernel
theorem dX11_make_92 : decode cX11_make 92 = .ok (.ifCond .eq 7, 3) := by decide +kernel
theorem dX11_make_95 : decode cX11_make 95 = .ok (.iconst 3, 1) := by decide +kernel
theorem dX11_make_96 : decode cX11_make 96 = .ok (.goto 4, 3) := by decide +kernel
theorem dX11_make_99 : decode cX11_make 99 = .ok (.iconst 0, 1) := by decide +kernel
theorem dX11_make_100 : decode cX11_make 100 = .ok (.invokevirtual 214, 3) := by decide +kernel
theorem dX11_make_103 : decode cX11_make 103 = .ok (.ifCond .eq 5, 3) := by decide +kernel
theorem dX11_make_106 : decode cX11_make 106 = .ok (.iconst (-1), 1) := by decide +kernel
theorem dX11_make_107 : decode cX11_make 107 = .ok (.ireturn, 1) := by decide +kernel
theorem dX11_make_108 : decode cX11_make 108 = .ok (.aload_n 0, 1) := by decide +kernel
theorem dX11_make_109 : decode cX11_make 109 = .ok (.getfield 34, 3) := by decide +kernel
theorem dX11_make_112 : decode cX11_make 112 = .ok (.iload_n 1, 1) := by decide +kernel
theorem dX11_make_113 : decode cX11_make 113 = .ok (.iaload, 1) := by decide +kernel
theorem dX11_make_114 : decode cX11_make 114 = .ok (.istore 7, 2) := by decide +kernel
theorem dX11_make_116 : decode cX11_make 116 = .ok (.bipush 24, 2) := by decide +kernel
theorem dX11_make_118 : decode cX11_make 118 = .ok (.iload_n 1, 1) := by decide +kernel
theorem dX11_make_119 : decode cX11_make 119 = .ok (.imul, 1) := by decide +kernel
theorem dX11_make_120 : decode cX11_make 120 = .ok (.iload_n 2, 1) := by decide +kernel
theorem dX11_make_121 : decode cX11_make 121 = .ok (.iadd, 1) := by decide +kernel
theorem dX11_make_122 : decode cX11_make 122 = .ok (.istore 8, 2) := by decide +kernel
theorem dX11_make_124 : decode cX11_make 124 = .ok (.aload_n 0, 1) := by decide +kernel
theorem dX11_make_125 : decode cX11_make 125 = .ok (.iload_n 1, 1) := by decide +kernel
theorem dX11_make_126 : decode cX11_make 126 = .ok (.putfield 255, 3) := by decide +kernel
theorem dX11_make_129 : decode cX11_make 129 = .ok (.aload_n 0, 1) := by decide +kernel
theorem dX11_make_130 : decode cX11_make 130 = .ok (.bipush 24, 2) := by decide +kernel
theorem dX11_make_132 : decode cX11_make 132 = .ok (.iload_n 1, 1) := by decide +kernel
theorem dX11_make_133 : decode cX11_make 133 = .ok (.imul, 1) := by decide +kernel
theorem dX11_make_134 : decode cX11_make 134 = .ok (.iload 7, 2) := by decide +kernel
theorem dX11_make_136 : decode cX11_make 136 = .ok (.iadd, 1) := by decide +kernel
theorem dX11_make_137 : decode cX11_make 137 = .ok (.putfield 246, 3) := by decide +kernel
theorem dX11_make_140 : decode cX11_make 140 = .ok (.aload_n 0, 1) := by decide +kernel
theorem dX11_make_141 : decode cX11_make 141 = .ok (.getfield 67, 3) := by decide +kernel
theorem dX11_make_144 : decode cX11_make 144 = .ok (.aload_n 0, 1) := by decide +kernel
theorem dX11_make_145 : decode cX11_make 145 = .ok (.getfield 246, 3) := by decide +kernel
theorem dX11_make_148 : decode cX11_make 148 = .ok (.iload_n 2, 1) := by decide +kernel
theorem dX11_make_149 : decode cX11_make 149 = .ok (.iastore, 1) := by decide +kernel
theorem dX11_make_150 : decode cX11_make 150 = .ok (.aload_n 0, 1) := by decide +kernel
theorem dX11_make_151 : decode cX11_make 151 = .ok (.getfield 70, 3) := by decide +kernel
theorem dX11_make_154 : decode cX11_make 154 = .ok (.aload_n 0, 1) := by decide +kernel
theorem dX11_make_155 : decode cX11_make 155 = .ok (.getfield 246, 3) := by decide +kernel
theorem dX11_make_158 : decode cX11_make 158 = .ok (.aload_n 0, 1) := by decide +kernel
theorem dX11_make_159 : decode cX11_make 159 = .ok (.getfield 70, 3) := by decide +kernel
theorem dX11_make_162 : decode cX11_make 162 = .ok (.iload 8, 2) := by decide +kernel
theorem dX11_make_164 : decode cX11_make 164 = .ok (.iaload, 1) := by decide +kernel
theorem dX11_make_165 : decode cX11_make 165 = .ok (.iconst 1, 1) := by decide +kernel
theorem dX11_make_166 : decode cX11_make 166 = .ok (.iadd, 1) := by decide +kernel
theorem dX11_make_167 : decode cX11_make 167 = .ok (.iastore, 1) := by decide +kernel
theorem dX11_make_168 : decode cX11_make 168 = .ok (.aload_n 0, 1) := by decide +kernel
theorem dX11_make_169 : decode cX11_make 169 = .ok (.getfield 73, 3) := by decide +kernel
theorem dX11_make_172 : decode cX11_make 172 = .ok (.aload_n 0, 1) := by decide +kernel
theorem dX11_make_173 : decode cX11_make 173 = .ok (.getfield 246, 3) := by decide +kernel
theorem dX11_make_176 : decode cX11_make 176 = .ok (.iload_n 3, 1) := by decide +kernel
theorem dX11_make_177 : decode cX11_make 177 = .ok (.iastore, 1) := by decide +kernel
theorem dX11_make_178 : decode cX11_make 178 = .ok (.aload_n 0, 1) := by decide +kernel
theorem dX11_make_179 : decode cX11_make 179 = .ok (.getfield 76, 3) := by decide +kernel
theorem dX11_make_182 : decode cX11_make 182 = .ok (.aload_n 0, 1) := by decide +kernel
theorem dX11_make_183 : decode cX11_make 183 = .ok (.getfield 246, 3) := by decide +kernel
theorem dX11_make_186 : decode cX11_make 186 = .ok (.aload_n 0, 1) := by decide +kernel
theorem dX11_make_187 : decode cX11_make 187 = .ok (.getfield 76, 3) := by decide +kernel
theorem dX11_make_190 : decode cX11_make 190 = .ok (.iload 8, 2) := by decide +kernel
theorem dX11_make_192 : decode cX11_make 192 = .ok (.laload, 1) := by decide +kernel
theorem dX11_make_193 : decode cX11_make 193 = .ok (.iload 4, 2) := by decide +kernel
theorem dX11_make_195 : decode cX11_make 195 = .ok (.i2l, 1) := by decide +kernel
theorem dX11_make_196 : decode cX11_make 196 = .ok (.ladd, 1) := by decide +kernel
theorem dX11_make_197 : decode cX11_make 197 = .ok (.lastore, 1) := by decide +kernel
theorem dX11_make_198 : decode cX11_make 198 = .ok (.aload_n 0, 1) := by decide +kernel
theorem dX11_make_199 : decode cX11_make 199 = .ok (.getfield 80, 3) := by decide +kernel
theorem dX11_make_202 : decode cX11_make 202 = .ok (.iload 8, 2) := by decide +kernel
theorem dX11_make_204 : decode cX11_make 204 = .ok (.iaload, 1) := by decide +kernel
theorem dX11_make_205 : decode cX11_make 205 = .ok (.aload_n 0, 1) := by decide +kernel
theorem dX11_make_206 : decode cX11_make 206 = .ok (.getfield 80, 3) := by decide +kernel
theorem dX11_make_209 : decode cX11_make 209 = .ok (.iload 8, 2) := by decide +kernel
theorem dX11_make_211 : decode cX11_make 211 = .ok (.iaload, 1) := by decide +kernel
theorem dX11_make_212 : decode cX11_make 212 = .ok (.aload_n 0, 1) := by decide +kernel
theorem dX11_make_213 : decode cX11_make 213 = .ok (.getfield 83, 3) := by decide +kernel
theorem dX11_make_216 : decode cX11_make 216 = .ok (.iload 8, 2) := by decide +kernel
theorem dX11_make_218 : decode cX11_make 218 = .ok (.iaload, 1) := by decide +kernel
theorem dX11_make_219 : decode cX11_make 219 = .ok (.sipush 300, 3) := by decide +kernel
theorem dX11_make_222 : decode cX11_make 222 = .ok (.isub, 1) := by decide +kernel
theorem dX11_make_223 : decode cX11_make 223 = .ok (.imul, 1) := by decide +kernel
theorem dX11_make_224 : decode cX11_make 224 = .ok (.sipush 2400, 3) := by decide +kernel
theorem dX11_make_227 : decode cX11_make 227 = .ok (.idiv, 1) := by decide +kernel
theorem dX11_make_228 : decode cX11_make 228 = .ok (.iadd, 1) := by decide +kernel
theorem dX11_make_229 : decode cX11_make 229 = .ok (.istore 9, 2) := by decide +kernel
theorem dX11_make_231 : decode cX11_make 231 = .ok (.aload_n 0, 1) := by decide +kernel
theorem dX11_make_232 : decode cX11_make 232 = .ok (.getfield 80, 3) := by decide +kernel
theorem dX11_make_235 : decode cX11_make 235 = .ok (.aload_n 0, 1) := by decide +kernel
theorem dX11_make_236 : decode cX11_make 236 = .ok (.getfield 246, 3) := by decide +kernel
theorem dX11_make_239 : decode cX11_make 239 = .ok (.iload 9, 2) := by decide +kernel
theorem dX11_make_241 : decode cX11_make 241 = .ok (.iconst 1, 1) := by decide +kernel
theorem dX11_make_242 : decode cX11_make 242 = .ok (.if_icmp .ge 7, 3) := by decide +kernel
theorem dX11_make_245 : decode cX11_make 245 = .ok (.iconst 1, 1) := by decide +kernel
theorem dX11_make_246 : decode cX11_make 246 = .ok (.goto 5, 3) := by decide +kernel
theorem dX11_make_249 : decode cX11_make 249 = .ok (.iload 9, 2) := by decide +kernel
theorem dX11_make_251 : decode cX11_make 251 = .ok (.iastore, 1) := by decide +kernel
theorem dX11_make_252 : decode cX11_make 252 = .ok (.aload_n 0, 1) := by decide +kernel
theorem dX11_make_253 : decode cX11_make 253 = .ok (.bipush 120, 2) := by decide +kernel
theorem dX11_make_255 : decode cX11_make 255 = .ok (.iload 8, 2) := by decide +kernel
theorem dX11_make_257 : decode cX11_make 257 = .ok (.imul, 1) := by decide +kernel
theorem dX11_make_258 : decode cX11_make 258 = .ok (.invokevirtual 352, 3) := by decide +kernel
theorem dX11_make_261 : decode cX11_make 261 = .ok (.aload_n 0, 1) := by decide +kernel
theorem dX11_make_262 : decode cX11_make 262 = .ok (.iload_n 1, 1) := by decide +kernel
theorem dX11_make_263 : decode cX11_make 263 = .ok (.iload 7, 2) := by decide +kernel
theorem dX11_make_265 : decode cX11_make 265 = .ok (.invokevirtual 355, 3) := by decide +kernel
theorem dX11_make_268 : decode cX11_make 268 = .ok (.istore 10, 2) := by decide +kernel
theorem dX11_make_270 : decode cX11_make 270 = .ok (.iload 10, 2) := by decide +kernel
theorem dX11_make_272 : decode cX11_make 272 = .ok (.ifCond .lt 31, 3) := by decide +kernel
theorem dX11_make_275 : decode cX11_make 275 = .ok (.aload_n 0, 1) := by decide +kernel
theorem dX11_make_276 : decode cX11_make 276 = .ok (.iload_n 1, 1) := by decide +kernel
theorem dX11_make_277 : decode cX11_make 277 = .ok (.iload 10, 2) := by decide +kernel
theorem dX11_make_279 : decode cX11_make 279 = .ok (.aload_n 0, 1) := by decide +kernel
theorem dX11_make_280 : decode cX11_make 280 = .ok (.getfield 80, 3) := by decide +kernel
theorem dX11_make_283 : decode cX11_make 283 = .ok (.aload_n 0, 1) := by decide +kernel
theorem dX11_make_284 : decode cX11_make 284 = .ok (.getfield 246, 3) := by decide +kernel
theorem dX11_make_287 : decode cX11_make 287 = .ok (.iaload, 1) := by decide +kernel
theorem dX11_make_288 : decode cX11_make 288 = .ok (.invokevirtual 358, 3) := by decide +kernel
theorem dX11_make_291 : decode cX11_make 291 = .ok (.aload_n 0, 1) := by decide +kernel
theorem dX11_make_292 : decode cX11_make 292 = .ok (.iload_n 1, 1) := by decide +kernel
theorem dX11_make_293 : decode cX11_make 293 = .ok (.iload 7, 2) := by decide +kernel
theorem dX11_make_295 : decode cX11_make 295 = .ok (.invokevirtual 355, 3) := by decide +kernel
theorem dX11_make_298 : decode cX11_make 298 = .ok (.istore 10, 2) := by decide +kernel
theorem dX11_make_300 : decode cX11_make 300 = .ok (.goto (-30), 3) := by decide +kernel
theorem dX11_make_303 : decode cX11_make 303 = .ok (.iconst 0, 1) := by decide +kernel
theorem dX11_make_304 : decode cX11_make 304 = .ok (.istore 10, 2) := by decide +kernel
theorem dX11_make_306 : decode cX11_make 306 = .ok (.iload 10, 2) := by decide +kernel
theorem dX11_make_308 : decode cX11_make 308 = .ok (.bipush 120, 2) := by decide +kernel
theorem dX11_make_310 : decode cX11_make 310 = .ok (.if_icmp .ge 31, 3) := by decide +kernel
theorem dX11_make_313 : decode cX11_make 313 = .ok (.aload_n 0, 1) := by decide +kernel
theorem dX11_make_314 : decode cX11_make 314 = .ok (.getfield 7, 3) := by decide +kernel
theorem dX11_make_317 : decode cX11_make 317 = .ok (.bipush 120, 2) := by decide +kernel
theorem dX11_make_319 : decode cX11_make 319 = .ok (.aload_n 0, 1) := by decide +kernel
theorem dX11_make_320 : decode cX11_make 320 = .ok (.getfield 246, 3) := by decide +kernel
theorem dX11_make_323 : decode cX11_make 323 = .ok (.imul, 1) := by decide +kernel
theorem dX11_make_324 : decode cX11_make 324 = .ok (.iload 10, 2) := by decide +kernel
theorem dX11_make_326 : decode cX11_make 326 = .ok (.iadd, 1) := by decide +kernel
theorem dX11_make_327 : decode cX11_make 327 = .ok (.aload_n 0, 1) := by decide +kernel
theorem dX11_make_328 : decode cX11_make 328 = .ok (.getfield 13, 3) := by decide +kernel
theorem dX11_make_331 : decode cX11_make 331 = .ok (.iload 10, 2) := by decide +kernel
theorem dX11_make_333 : decode cX11_make 333 = .ok (.iaload, 1) := by decide +kernel
theorem dX11_make_334 : decode cX11_make 334 = .ok (.iastore, 1) := by decide +kernel
theorem dX11_make_335 : decode cX11_make 335 = .ok (.iinc 10 1, 3) := by decide +kernel
theorem dX11_make_338 : decode cX11_make 338 = .ok (.goto (-32), 3) := by decide +kernel
theorem dX11_make_341 : decode cX11_make 341 = .ok (.aload_n 0, 1) := by decide +kernel
theorem dX11_make_342 : decode cX11_make 342 = .ok (.getfield 89, 3) := by decide +kernel
theorem dX11_make_345 : decode cX11_make 345 = .ok (.aload_n 0, 1) := by decide +kernel
theorem dX11_make_346 : decode cX11_make 346 = .ok (.getfield 246, 3) := by decide +kernel
theorem dX11_make_349 : decode cX11_make 349 = .ok (.aload_n 0, 1) := by decide +kernel
theorem dX11_make_350 : decode cX11_make 350 = .ok (.bipush 120, 2) := by decide +kernel
theorem dX11_make_352 : decode cX11_make 352 = .ok (.aload_n 0, 1) := by decide +kernel
theorem dX11_make_353 : decode cX11_make 353 = .ok (.getfield 246, 3) := by decide +kernel
theorem dX11_make_356 : decode cX11_make 356 = .ok (.imul, 1) := by decide +kernel
theorem dX11_make_357 : decode cX11_make 357 = .ok (.invokevirtual 170, 3) := by decide +kernel
theorem dX11_make_360 : decode cX11_make 360 = .ok (.iastore, 1) := by decide +kernel
theorem dX11_make_361 : decode cX11_make 361 = .ok (.iconst 0, 1) := by decide +kernel
theorem dX11_make_362 : decode cX11_make 362 = .ok (.istore 10, 2) := by decide +kernel
theorem dX11_make_364 : decode cX11_make 364 = .ok (.iload 10, 2) := by decide +kernel
theorem dX11_make_366 : decode cX11_make 366 = .ok (.aload_n 0, 1) := by decide +kernel
theorem dX11_make_367 : decode cX11_make 367 = .ok (.getfield 98, 3) := by decide +kernel
theorem dX11_make_370 : decode cX11_make 370 = .ok (.aload_n 0, 1) := by decide +kernel
theorem dX11_make_371 : decode cX11_make 371 = .ok (.getfield 246, 3) := by decide +kernel
theorem dX11_make_374 : decode cX11_make 374 = .ok (.iaload, 1) := by decide +kernel
theorem dX11_make_375 : decode cX11_make 375 = .ok (.if_icmp .ge 62, 3) := by decide +kernel
theorem dX11_make_378 : decode cX11_make 378 = .ok (.aload_n 0, 1) := by decide +kernel
theorem dX11_make_379 : decode cX11_make 379 = .ok (.getfield 104, 3) := by decide +kernel
theorem dX11_make_382 : decode cX11_make 382 = .ok (.bipush 40, 2) := by decide +kernel
theorem dX11_make_384 : decode cX11_make 384 = .ok (.aload_n 0, 1) := by decide +kernel
theorem dX11_make_385 : decode cX11_make 385 = .ok (.getfield 246, 3) := by decide +kernel
theorem dX11_make_388 : decode cX11_make 388 = .ok (.imul, 1) := by decide +kernel
theorem dX11_make_389 : decode cX11_make 389 = .ok (.iload 10, 2) := by decide +kernel
theorem dX11_make_391 : decode cX11_make 391 = .ok (.iadd, 1) := by decide +kernel
theorem dX11_make_392 : decode cX11_make 392 = .ok (.iaload, 1) := by decide +kernel
theorem dX11_make_393 : decode cX11_make 393 = .ok (.bipush 100, 2) := by decide +kernel
theorem dX11_make_395 : decode cX11_make 395 = .ok (.idiv, 1) := by decide +kernel
theorem dX11_make_396 : decode cX11_make 396 = .ok (.istore 11, 2) := by decide +kernel
theorem dX11_make_398 : decode cX11_make 398 = .ok (.aload_n 0, 1) := by decide +kernel
theorem dX11_make_399 : decode cX11_make 399 = .ok (.getfield 92, 3) := by decide +kernel
theorem dX11_make_402 : decode cX11_make 402 = .ok (.aload_n 0, 1) := by decide +kernel
theorem dX11_make_403 : decode cX11_make 403 = .ok (.getfield 246, 3) := by decide +kernel
theorem dX11_make_406 : decode cX11_make 406 = .ok (.dup2, 1) := by decide +kernel
theorem dX11_make_407 : decode cX11_make 407 = .ok (.iaload, 1) := by decide +kernel
theorem dX11_make_408 : decode cX11_make 408 = .ok (.iconst 1, 1) := by decide +kernel
theorem dX11_make_409 : decode cX11_make 409 = .ok (.iload 11, 2) := by decide +kernel
theorem dX11_make_411 : decode cX11_make 411 = .ok (.bipush 8, 2) := by decide +kernel
theorem dX11_make_413 : decode cX11_make 413 = .ok (.irem, 1) := by decide +kernel
theorem dX11_make_414 : decode cX11_make 414 = .ok (.ishl, 1) := by decide +kernel
theorem dX11_make_415 : decode cX11_make 415 = .ok (.sipush 256, 3) := by decide +kernel
theorem dX11_make_418 : decode cX11_make 418 = .ok (.iconst 5, 1) := by decide +kernel
theorem dX11_make_419 : decode cX11_make 419 = .ok (.iload 11, 2) := by decide +kernel
theorem dX11_make_421 : decode cX11_make 421 = .ok (.imul, 1) := by decide +kernel
theorem dX11_make_422 : decode cX11_make 422 = .ok (.iconst 3, 1) := by decide +kernel
theorem dX11_make_423 : decode cX11_make 423 = .ok (.iadd, 1) := by decide +kernel
theorem dX11_make_424 : decode cX11_make 424 = .ok (.bipush 8, 2) := by decide +kernel
theorem dX11_make_426 : decode cX11_make 426 = .ok (.irem, 1) := by decide +kernel
theorem dX11_make_427 : decode cX11_make 427 = .ok (.ishl, 1) := by decide +kernel
theorem dX11_make_428 : decode cX11_make 428 = .ok (.ior, 1) := by decide +kernel
theorem dX11_make_429 : decode cX11_make 429 = .ok (.ior, 1) := by decide +kernel
theorem dX11_make_430 : decode cX11_make 430 = .ok (.iastore, 1) := by decide +kernel
theorem dX11_make_431 : decode cX11_make 431 = .ok (.iinc 10 1, 3) := by decide +kernel
theorem dX11_make_434 : decode cX11_make 434 = .ok (.goto (-70), 3) := by decide +kernel
theorem dX11_make_437 : decode cX11_make 437 = .ok (.aload_n 0, 1) := by decide +kernel
theorem dX11_make_438 : decode cX11_make 438 = .ok (.getfield 34, 3) := by decide +kernel
theorem dX11_make_441 : decode cX11_make 441 = .ok (.iload_n 1, 1) := by decide +kernel
theorem dX11_make_442 : decode cX11_make 442 = .ok (.dup2, 1) := by decide +kernel
theorem dX11_make_443 : decode cX11_make 443 = .ok (.iaload, 1) := by decide +kernel
theorem dX11_make_444 : decode cX11_make 444 = .ok (.iconst 1, 1) := by decide +kernel
theorem dX11_make_445 : decode cX11_make 445 = .ok (.iadd, 1) := by decide +kernel
theorem dX11_make_446 : decode cX11_make 446 = .ok (.iastore, 1) := by decide +kernel
theorem dX11_make_447 : decode cX11_make 447 = .ok (.iload 7, 2) := by decide +kernel
theorem dX11_make_449 : decode cX11_make 449 = .ok (.ireturn, 1) := by decide +kernel
theorem dX11_from_0 : decode cX11_from 0 = .ok (.iload_n 2, 1) := by decide +kernel
theorem dX11_from_1 : decode cX11_from 1 = .ok (.istore 4, 2) := by decide +kernel
theorem dX11_from_3 : decode cX11_from 3 = .ok (.iload 4, 2) := by decide +kernel
theorem dX11_from_5 : decode cX11_from 5 = .ok (.ifCond .lt 26, 3) := by decide +kernel
theorem dX11_from_8 : decode cX11_from 8 = .ok (.iload 4, 2) := by decide +kernel
theorem dX11_from_10 : decode cX11_from 10 = .ok (.iload_n 3, 1) := by decide +kernel
theorem dX11_from_11 : decode cX11_from 11 = .ok (.if_icmp .eq 20, 3) := by decide +kernel
theorem dX11_from_14 : decode cX11_from 14 = .ok (.aload_n 0, 1) := by decide +kernel
theorem dX11_from_15 : decode cX11_from 15 = .ok (.getfield 67, 3) := by decide +kernel
theorem dX11_from_18 : decode cX11_from 18 = .ok (.bipush 24, 2) := by decide +kernel
theorem dX11_from_20 : decode cX11_from 20 = .ok (.iload_n 1, 1) := by decide +kernel
theorem dX11_from_21 : decode cX11_from 21 = .ok (.imul, 1) := by decide +kernel
theorem dX11_from_22 : decode cX11_from 22 = .ok (.iload 4, 2) := by decide +kernel
theorem dX11_from_24 : decode cX11_from 24 = .ok (.iadd, 1) := by decide +kernel
theorem dX11_from_25 : decode cX11_from 25 = .ok (.iaload, 1) := by decide +kernel
theorem dX11_from_26 : decode cX11_from 26 = .ok (.istore 4, 2) := by decide +kernel
theorem dX11_from_28 : decode cX11_from 28 = .ok (.goto (-25), 3) := by decide +kernel
theorem dX11_from_31 : decode cX11_from 31 = .ok (.iload 4, 2) := by decide +kernel
theorem dX11_from_33 : decode cX11_from 33 = .ok (.iload_n 3, 1) := by decide +kernel
theorem dX11_from_34 : decode cX11_from 34 = .ok (.if_icmp .ne 7, 3) := by decide +kernel
theorem dX11_from_37 : decode cX11_from 37 = .ok (.iconst 1, 1) := by decide +kernel
theorem dX11_from_38 : decode cX11_from 38 = .ok (.goto 4, 3) := by decide +kernel
theorem dX11_from_41 : decode cX11_from 41 = .ok (.iconst 0, 1) := by decide +kernel
theorem dX11_from_42 : decode cX11_from 42 = .ok (.ireturn, 1) := by decide +kernel
theorem dX11_headOf_0 : decode cX11_headOf 0 = .ok (.aload_n 0, 1) := by decide +kernel
theorem dX11_headOf_1 : decode cX11_headOf 1 = .ok (.getfield 37, 3) := by decide +kernel
theorem dX11_headOf_4 : decode cX11_headOf 4 = .ok (.iload_n 1, 1) := by decide +kernel
theorem dX11_headOf_5 : decode cX11_headOf 5 = .ok (.iaload, 1) := by decide +kernel
theorem dX11_headOf_6 : decode cX11_headOf 6 = .ok (.istore_n 2, 1) := by decide +kernel
theorem dX11_headOf_7 : decode cX11_headOf 7 = .ok (.iconst 0, 1) := by decide +kernel
theorem dX11_headOf_8 : decode cX11_headOf 8 = .ok (.istore_n 3, 1) := by decide +kernel
theorem dX11_headOf_9 : decode cX11_headOf 9 = .ok (.iload_n 3, 1) := by decide +kernel
theorem dX11_headOf_10 : decode cX11_headOf 10 = .ok (.aload_n 0, 1) := by decide +kernel
theorem dX11_headOf_11 : decode cX11_headOf 11 = .ok (.getfield 34, 3) := by decide +kernel
theorem dX11_headOf_14 : decode cX11_headOf 14 = .ok (.iload_n 1, 1) := by decide +kernel
theorem dX11_headOf_15 : decode cX11_headOf 15 = .ok (.iaload, 1) := by decide +kernel
theorem dX11_headOf_16 : decode cX11_headOf 16 = .ok (.if_icmp .ge 87, 3) := by decide +kernel
theorem dX11_headOf_19 : decode cX11_headOf 19 = .ok (.aload_n 0, 1) := by decide +kernel
theorem dX11_headOf_20 : decode cX11_headOf 20 = .ok (.iload_n 1, 1) := by decide +kernel
theorem dX11_headOf_21 : decode cX11_headOf 21 = .ok (.iload_n 3, 1) := by decide +kernel
theorem dX11_headOf_22 : decode cX11_headOf 22 = .ok (.aload_n 0, 1) := by decide +kernel
theorem dX11_headOf_23 : decode cX11_headOf 23 = .ok (.getfield 37, 3) := by decide +kernel
theorem dX11_headOf_26 : decode cX11_headOf 26 = .ok (.iload_n 1, 1) := by decide +kernel
theorem dX11_headOf_27 : decode cX11_headOf 27 = .ok (.iaload, 1) := by decide +kernel
theorem dX11_headOf_28 : decode cX11_headOf 28 = .ok (.invokevirtual 361, 3) := by decide +kernel
theorem dX11_headOf_31 : decode cX11_headOf 31 = .ok (.ifCond .eq 64, 3) := by decide +kernel
theorem dX11_headOf_34 : decode cX11_headOf 34 = .ok (.aload_n 0, 1) := by decide +kernel
theorem dX11_headOf_35 : decode cX11_headOf 35 = .ok (.getfield 76, 3) := by decide +kernel
theorem dX11_headOf_38 : decode cX11_headOf 38 = .ok (.bipush 24, 2) := by decide +kernel
theorem dX11_headOf_40 : decode cX11_headOf 40 = .ok (.iload_n 1, 1) := by decide +kernel
theorem dX11_headOf_41 : decode cX11_headOf 41 = .ok (.imul, 1) := by decide +kernel
theorem dX11_headOf_42 : decode cX11_headOf 42 = .ok (.iload_n 3, 1) := by decide +kernel
theorem dX11_headOf_43 : decode cX11_headOf 43 = .ok (.iadd, 1) := by decide +kernel
theorem dX11_headOf_44 : decode cX11_headOf 44 = .ok (.laload, 1) := by decide +kernel
theorem dX11_headOf_45 : decode cX11_headOf 45 = .ok (.aload_n 0, 1) := by decide +kernel
theorem dX11_headOf_46 : decode cX11_headOf 46 = .ok (.getfield 76, 3) := by decide +kernel
theorem dX11_headOf_49 : decode cX11_headOf 49 = .ok (.bipush 24, 2) := by decide +kernel
theorem dX11_headOf_51 : decode cX11_headOf 51 = .ok (.iload_n 1, 1) := by decide +kernel
theorem dX11_headOf_52 : decode cX11_headOf 52 = .ok (.imul, 1) := by decide +kernel
theorem dX11_headOf_53 : decode cX11_headOf 53 = .ok (.iload_n 2, 1) := by decide +kernel
theorem dX11_headOf_54 : decode cX11_headOf 54 = .ok (.iadd, 1) := by decide +kernel
theorem dX11_headOf_55 : decode cX11_headOf 55 = .ok (.laload, 1) := by decide +kernel
theorem dX11_headOf_56 : decode cX11_headOf 56 = .ok (.lcmp, 1) := by decide +kernel
theorem dX11_headOf_57 : decode cX11_headOf 57 = .ok (.ifCond .gt 34, 3) := by decide +kernel
theorem dX11_headOf_60 : decode cX11_headOf 60 = .ok (.aload_n 0, 1) := by decide +kernel
theorem dX11_headOf_61 : decode cX11_headOf 61 = .ok (.getfield 76, 3) := by decide +kernel
theorem dX11_headOf_64 : decode cX11_headOf 64 = .ok (.bipush 24, 2) := by decide +kernel
theorem dX11_headOf_66 : decode cX11_headOf 66 = .ok (.iload_n 1, 1) := by decide +kernel
theorem dX11_headOf_67 : decode cX11_headOf 67 = .ok (.imul, 1) := by decide +kernel
theorem dX11_headOf_68 : decode cX11_headOf 68 = .ok (.iload_n 3, 1) := by decide +kernel
theorem dX11_headOf_69 : decode cX11_headOf 69 = .ok (.iadd, 1) := by decide +kernel
theorem dX11_headOf_70 : decode cX11_headOf 70 = .ok (.laload, 1) := by decide +kernel
theorem dX11_headOf_71 : decode cX11_headOf 71 = .ok (.aload_n 0, 1) := by decide +kernel
theorem dX11_headOf_72 : decode cX11_headOf 72 = .ok (.getfield 76, 3) := by decide +kernel
theorem dX11_headOf_75 : decode cX11_headOf 75 = .ok (.bipush 24, 2) := by decide +kernel
theorem dX11_headOf_77 : decode cX11_headOf 77 = .ok (.iload_n 1, 1) := by decide +kernel
theorem dX11_headOf_78 : decode cX11_headOf 78 = .ok (.imul, 1) := by decide +kernel
theorem dX11_headOf_79 : decode cX11_headOf 79 = .ok (.iload_n 2, 1) := by decide +kernel
theorem dX11_headOf_80 : decode cX11_headOf 80 = .ok (.iadd, 1) := by decide +kernel
theorem dX11_headOf_81 : decode cX11_headOf 81 = .ok (.laload, 1) := by decide +kernel
theorem dX11_headOf_82 : decode cX11_headOf 82 = .ok (.lcmp, 1) := by decide +kernel
theorem dX11_headOf_83 : decode cX11_headOf 83 = .ok (.ifCond .ne 12, 3) := by decide +kernel
theorem dX11_headOf_86 : decode cX11_headOf 86 = .ok (.iload_n 3, 1) := by decide +kernel
theorem dX11_headOf_87 : decode cX11_headOf 87 = .ok (.iload_n 2, 1) := by decide +kernel
theorem dX11_headOf_88 : decode cX11_headOf 88 = .ok (.if_icmp .ge 7, 3) := by decide +kernel
theorem dX11_headOf_91 : decode cX11_headOf 91 = .ok (.iload_n 3, 1) := by decide +kernel
theorem dX11_headOf_92 : decode cX11_headOf 92 = .ok (.goto 4, 3) := by decide +kernel
theorem dX11_headOf_95 : decode cX11_headOf 95 = .ok (.iload_n 2, 1) := by decide +kernel
theorem dX11_headOf_96 : decode cX11_headOf 96 = .ok (.istore_n 2, 1) := by decide +kernel
theorem dX11_headOf_97 : decode cX11_headOf 97 = .ok (.iinc 3 1, 3) := by decide +kernel
theorem dX11_headOf_100 : decode cX11_headOf 100 = .ok (.goto (-91), 3) := by decide +kernel
theorem dX11_headOf_103 : decode cX11_headOf 103 = .ok (.iload_n 2, 1) := by decide +kernel
theorem dX11_headOf_104 : decode cX11_headOf 104 = .ok (.ireturn, 1) := by decide +kernel
theorem dX11_head_0 : decode cX11_head 0 = .ok (.aload_n 0, 1) := by decide +kernel
theorem dX11_head_1 : decode cX11_head 1 = .ok (.aload_n 0, 1) := by decide +kernel
theorem dX11_head_2 : decode cX11_head 2 = .ok (.iload_n 1, 1) := by decide +kernel
theorem dX11_head_3 : decode cX11_head 3 = .ok (.invokevirtual 182, 3) := by decide +kernel
theorem dX11_head_6 : decode cX11_head 6 = .ok (.ifCond .eq 7, 3) := by decide +kernel
theorem dX11_head_9 : decode cX11_head 9 = .ok (.iconst 0, 1) := by decide +kernel
theorem dX11_head_10 : decode cX11_head 10 = .ok (.goto 4, 3) := by decide +kernel
theorem dX11_head_13 : decode cX11_head 13 = .ok (.iconst 1, 1) := by decide +kernel
theorem dX11_head_14 : decode cX11_head 14 = .ok (.invokevirtual 214, 3) := by decide +kernel
theorem dX11_head_17 : decode cX11_head 17 = .ok (.ifCond .eq 7, 3) := by decide +kernel
theorem dX11_head_20 : decode cX11_head 20 = .ok (.iconst (-1), 1) := by decide +kernel
theorem dX11_head_21 : decode cX11_head 21 = .ok (.goto 8, 3) := by decide +kernel
theorem dX11_head_24 : decode cX11_head 24 = .ok (.aload_n 0, 1) := by decide +kernel
theorem dX11_head_25 : decode cX11_head 25 = .ok (.iload_n 1, 1) := by decide +kernel
theorem dX11_head_26 : decode cX11_head 26 = .ok (.invokevirtual 220, 3) := by decide +kernel
theorem dX11_head_29 : decode cX11_head 29 = .ok (.ireturn, 1) := by decide +kernel
theorem dX11_base_0 : decode cX11_base 0 = .ok (.aload_n 0, 1) := by decide +kernel
theorem dX11_base_1 : decode cX11_base 1 = .ok (.aload_n 0, 1) := by decide +kernel
theorem dX11_base_2 : decode cX11_base 2 = .ok (.iload_n 1, 1) := by decide +kernel
theorem dX11_base_3 : decode cX11_base 3 = .ok (.iload_n 2, 1) := by decide +kernel
theorem dX11_base_4 : decode cX11_base 4 = .ok (.invokevirtual 349, 3) := by decide +kernel
theorem dX11_base_7 : decode cX11_base 7 = .ok (.ifCond .eq 7, 3) := by decide +kernel
theorem dX11_base_10 : decode cX11_base 10 = .ok (.iconst 0, 1) := by decide +kernel
theorem dX11_base_11 : decode cX11_base 11 = .ok (.goto 4, 3) := by decide +kernel
theorem dX11_base_14 : decode cX11_base 14 = .ok (.iconst 1, 1) := by decide +kernel
theorem dX11_base_15 : decode cX11_base 15 = .ok (.invokevirtual 214, 3) := by decide +kernel
theorem dX11_base_18 : decode cX11_base 18 = .ok (.ifCond .eq 7, 3) := by decide +kernel
theorem dX11_base_21 : decode cX11_base 21 = .ok (.iconst (-1), 1) := by decide +kernel
theorem dX11_base_22 : decode cX11_base 22 = .ok (.goto 14, 3) := by decide +kernel
theorem dX11_base_25 : decode cX11_base 25 = .ok (.aload_n 0, 1) := by decide +kernel
theorem dX11_base_26 : decode cX11_base 26 = .ok (.getfield 80, 3) := by decide +kernel
theorem dX11_base_29 : decode cX11_base 29 = .ok (.bipush 24, 2) := by decide +kernel
theorem dX11_base_31 : decode cX11_base 31 = .ok (.iload_n 1, 1) := by decide +kernel
theorem dX11_base_32 : decode cX11_base 32 = .ok (.imul, 1) := by decide +kernel
theorem dX11_base_33 : decode cX11_base 33 = .ok (.iload_n 2, 1) := by decide +kernel
theorem dX11_base_34 : decode cX11_base 34 = .ok (.iadd, 1) := by decide +kernel
theorem dX11_base_35 : decode cX11_base 35 = .ok (.iaload, 1) := by decide +kernel
theorem dX11_base_36 : decode cX11_base 36 = .ok (.ireturn, 1) := by decide +kernel
theorem dX11_used_0 : decode cX11_used 0 = .ok (.aload_n 0, 1) := by decide +kernel
theorem dX11_used_1 : decode cX11_used 1 = .ok (.aload_n 0, 1) := by decide +kernel
theorem dX11_used_2 : decode cX11_used 2 = .ok (.iload_n 1, 1) := by decide +kernel
theorem dX11_used_3 : decode cX11_used 3 = .ok (.iload_n 2, 1) := by decide +kernel
theorem dX11_used_4 : decode cX11_used 4 = .ok (.invokevirtual 349, 3) := by decide +kernel
theorem dX11_used_7 : decode cX11_used 7 = .ok (.ifCond .eq 7, 3) := by decide +kernel
theorem dX11_used_10 : decode cX11_used 10 = .ok (.iconst 0, 1) := by decide +kernel
theorem dX11_used_11 : decode cX11_used 11 = .ok (.goto 4, 3) := by decide +kernel
theorem dX11_used_14 : decode cX11_used 14 = .ok (.iconst 1, 1) := by decide +kernel
theorem dX11_used_15 : decode cX11_used 15 = .ok (.invokevirtual 214, 3) := by decide +kernel
theorem dX11_used_18 : decode cX11_used 18 = .ok (.ifCond .eq 7, 3) := by decide +kernel
theorem dX11_used_21 : decode cX11_used 21 = .ok (.iconst (-1), 1) := by decide +kernel
theorem dX11_used_22 : decode cX11_used 22 = .ok (.goto 14, 3) := by decide +kernel
theorem dX11_used_25 : decode cX11_used 25 = .ok (.aload_n 0, 1) := by decide +kernel
theorem dX11_used_26 : decode cX11_used 26 = .ok (.getfield 83, 3) := by decide +kernel
theorem dX11_used_29 : decode cX11_used 29 = .ok (.bipush 24, 2) := by decide +kernel
theorem dX11_used_31 : decode cX11_used 31 = .ok (.iload_n 1, 1) := by decide +kernel
theorem dX11_used_32 : decode cX11_used 32 = .ok (.imul, 1) := by decide +kernel
theorem dX11_used_33 : decode cX11_used 33 = .ok (.iload_n 2, 1) := by decide +kernel
theorem dX11_used_34 : decode cX11_used 34 = .ok (.iadd, 1) := by decide +kernel
theorem dX11_used_35 : decode cX11_used 35 = .ok (.iaload, 1) := by decide +kernel
theorem dX11_used_36 : decode cX11_used 36 = .ok (.ireturn, 1) := by decide +kernel
theorem dX11_transactionAt_0 : decode cX11_transactionAt 0 = .ok (.aload_n 0, 1) := by decide +kernel
theorem dX11_transactionAt_1 : decode cX11_transactionAt 1 = .ok (.iload_n 1, 1) := by decide +kernel
theorem dX11_transactionAt_2 : decode cX11_transactionAt 2 = .ok (.iload_n 2, 1) := by decide +kernel
theorem dX11_transactionAt_3 : decode cX11_transactionAt 3 = .ok (.invokevirtual 349, 3) := by decide +kernel
theorem dX11_transactionAt_6 : decode cX11_transactionAt 6 = .ok (.ifCond .eq 29, 3) := by decide +kernel
theorem dX11_transactionAt_9 : decode cX11_transactionAt 9 = .ok (.aload_n 0, 1) := by decide +kernel
theorem dX11_transactionAt_10 : decode cX11_transactionAt 10 = .ok (.iload_n 3, 1) := by decide +kernel
theorem dX11_transactionAt_11 : decode cX11_transactionAt 11 = .ok (.iconst 0, 1) := by decide +kernel
theorem dX11_transactionAt_12 : decode cX11_transactionAt 12 = .ok (.aload_n 0, 1) := by decide +kernel
theorem dX11_transactionAt_13 : decode cX11_transactionAt 13 = .ok (.getfield 95, 3) := by decide +kernel
theorem dX11_transactionAt_16 : decode cX11_transactionAt 16 = .ok (.bipush 24, 2) := by decide +kernel
theorem dX11_transactionAt_18 : decode cX11_transactionAt 18 = .ok (.iload_n 1, 1) := by decide +kernel
theorem dX11_transactionAt_19 : decode cX11_transactionAt 19 = .ok (.imul, 1) := by decide +kernel
theorem dX11_transactionAt_20 : decode cX11_transactionAt 20 = .ok (.iload_n 2, 1) := by decide +kernel
theorem dX11_transactionAt_21 : decode cX11_transactionAt 21 = .ok (.iadd, 1) := by decide +kernel
theorem dX11_transactionAt_22 : decode cX11_transactionAt 22 = .ok (.iaload, 1) := by decide +kernel
theorem dX11_transactionAt_23 : decode cX11_transactionAt 23 = .ok (.iconst 1, 1) := by decide +kernel
theorem dX11_transactionAt_24 : decode cX11_transactionAt 24 = .ok (.isub, 1) := by decide +kernel
theorem dX11_transactionAt_25 : decode cX11_transactionAt 25 = .ok (.invokevirtual 178, 3) := by decide +kernel
theorem dX11_transactionAt_28 : decode cX11_transactionAt 28 = .ok (.ifCond .eq 7, 3) := by decide +kernel
theorem dX11_transactionAt_31 : decode cX11_transactionAt 31 = .ok (.iconst 1, 1) := by decide +kernel
theorem dX11_transactionAt_32 : decode cX11_transactionAt 32 = .ok (.goto 4, 3) := by decide +kernel
theorem dX11_transactionAt_35 : decode cX11_transactionAt 35 = .ok (.iconst 0, 1) := by decide +kernel
theorem dX11_transactionAt_36 : decode cX11_transactionAt 36 = .ok (.istore 4, 2) := by decide +kernel
theorem dX11_transactionAt_38 : decode cX11_transactionAt 38 = .ok (.aload_n 0, 1) := by decide +kernel
theorem dX11_transactionAt_39 : decode cX11_transactionAt 39 = .ok (.iload 4, 2) := by decide +kernel
theorem dX11_transactionAt_41 : decode cX11_transactionAt 41 = .ok (.ifCond .eq 7, 3) := by decide +kernel
theorem dX11_transactionAt_44 : decode cX11_transactionAt 44 = .ok (.iconst 0, 1) := by decide +kernel
theorem dX11_transactionAt_45 : decode cX11_transactionAt 45 = .ok (.goto 4, 3) := by decide +kernel
theorem dX11_transactionAt_48 : decode cX11_transactionAt 48 = .ok (.iconst 1, 1) := by decide +kernel
theorem dX11_transactionAt_49 : decode cX11_transactionAt 49 = .ok (.invokevirtual 214, 3) := by decide +kernel
theorem dX11_transactionAt_52 : decode cX11_transactionAt 52 = .ok (.ifCond .eq 7, 3) := by decide +kernel
theorem dX11_transactionAt_55 : decode cX11_transactionAt 55 = .ok (.iconst (-1), 1) := by decide +kernel
theorem dX11_transactionAt_56 : decode cX11_transactionAt 56 = .ok (.goto 19, 3) := by decide +kernel
theorem dX11_transactionAt_59 : decode cX11_transactionAt 59 = .ok (.aload_n 0, 1) := by decide +kernel
theorem dX11_transactionAt_60 : decode cX11_transactionAt 60 = .ok (.getfield 101, 3) := by decide +kernel
theorem dX11_transactionAt_63 : decode cX11_transactionAt 63 = .ok (.bipush 40, 2) := by decide +kernel
theorem dX11_transactionAt_65 : decode cX11_transactionAt 65 = .ok (.bipush 24, 2) := by decide +kernel
theorem dX11_transactionAt_67 : decode cX11_transactionAt 67 = .ok (.iload_n 1, 1) := by decide +kernel
theorem dX11_transactionAt_68 : decode cX11_transactionAt 68 = .ok (.imul, 1) := by decide +kernel
theorem dX11_transactionAt_69 : decode cX11_transactionAt 69 = .ok (.iload_n 2, 1) := by decide +kernel
theorem dX11_transactionAt_70 : decode cX11_transactionAt 70 = .ok (.iadd, 1) := by decide +kernel
theorem dX11_transactionAt_71 : decode cX11_transactionAt 71 = .ok (.imul, 1) := by decide +kernel
theorem dX11_transactionAt_72 : decode cX11_transactionAt 72 = .ok (.iload_n 3, 1) := by decide +kernel
theorem dX11_transactionAt_73 : decode cX11_transactionAt 73 = .ok (.iadd, 1) := by decide +kernel
theorem dX11_transactionAt_74 : decode cX11_transactionAt 74 = .ok (.iaload, 1) := by decide +kernel
theorem dX11_transactionAt_75 : decode cX11_transactionAt 75 = .ok (.ireturn, 1) := by decide +kernel
theorem dX11_eventAt_0 : decode cX11_eventAt 0 = .ok (.aload_n 0, 1) := by decide +kernel
theorem dX11_eventAt_1 : decode cX11_eventAt 1 = .ok (.iload_n 1, 1) := by decide +kernel
theorem dX11_eventAt_2 : decode cX11_eventAt 2 = .ok (.iload_n 2, 1) := by decide +kernel
theorem dX11_eventAt_3 : decode cX11_eventAt 3 = .ok (.invokevirtual 349, 3) := by decide +kernel
theorem dX11_eventAt_6 : decode cX11_eventAt 6 = .ok (.ifCond .eq 29, 3) := by decide +kernel
theorem dX11_eventAt_9 : decode cX11_eventAt 9 = .ok (.aload_n 0, 1) := by decide +kernel
theorem dX11_eventAt_10 : decode cX11_eventAt 10 = .ok (.iload_n 3, 1) := by decide +kernel
theorem dX11_eventAt_11 : decode cX11_eventAt 11 = .ok (.iconst 0, 1) := by decide +kernel
theorem dX11_eventAt_12 : decode cX11_eventAt 12 = .ok (.aload_n 0, 1) := by decide +kernel
theorem dX11_eventAt_13 : decode cX11_eventAt 13 = .ok (.getfield 98, 3) := by decide +kernel
theorem dX11_eventAt_16 : decode cX11_eventAt 16 = .ok (.bipush 24, 2) := by decide +kernel
theorem dX11_eventAt_18 : decode cX11_eventAt 18 = .ok (.iload_n 1, 1) := by decide +kernel
theorem dX11_eventAt_19 : decode cX11_eventAt 19 = .ok (.imul, 1) := by decide +kernel
theorem dX11_eventAt_20 : decode cX11_eventAt 20 = .ok (.iload_n 2, 1) := by decide +kernel
theorem dX11_eventAt_21 : decode cX11_eventAt 21 = .ok (.iadd, 1) := by decide +kernel
theorem dX11_eventAt_22 : decode cX11_eventAt 22 = .ok (.iaload, 1) := by decide +kernel
theorem dX11_eventAt_23 : decode cX11_eventAt 23 = .ok (.iconst 1, 1) := by decide +kernel
theorem dX11_eventAt_24 : decode cX11_eventAt 24 = .ok (.isub, 1) := by decide +kernel
theorem dX11_eventAt_25 : decode cX11_eventAt 25 = .ok (.invokevirtual 178, 3) := by decide +kernel
theorem dX11_eventAt_28 : decode cX11_eventAt 28 = .ok (.ifCond .eq 7, 3) := by decide +kernel
theorem dX11_eventAt_31 : decode cX11_eventAt 31 = .ok (.iconst 1, 1) := by decide +kernel
theorem dX11_eventAt_32 : decode cX11_eventAt 32 = .ok (.goto 4, 3) := by decide +kernel
theorem dX11_eventAt_35 : decode cX11_eventAt 35 = .ok (.iconst 0, 1) := by decide +kernel
theorem dX11_eventAt_36 : decode cX11_eventAt 36 = .ok (.istore 4, 2) := by decide +kernel
theorem dX11_eventAt_38 : decode cX11_eventAt 38 = .ok (.aload_n 0, 1) := by decide +kernel
theorem dX11_eventAt_39 : decode cX11_eventAt 39 = .ok (.iload 4, 2) := by decide +kernel
theorem dX11_eventAt_41 : decode cX11_eventAt 41 = .ok (.ifCond .eq 7, 3) := by decide +kernel
theorem dX11_eventAt_44 : decode cX11_eventAt 44 = .ok (.iconst 0, 1) := by decide +kernel
theorem dX11_eventAt_45 : decode cX11_eventAt 45 = .ok (.goto 4, 3) := by decide +kernel
theorem dX11_eventAt_48 : decode cX11_eventAt 48 = .ok (.iconst 1, 1) := by decide +kernel
theorem dX11_eventAt_49 : decode cX11_eventAt 49 = .ok (.invokevirtual 214, 3) := by decide +kernel
theorem dX11_eventAt_52 : decode cX11_eventAt 52 = .ok (.ifCond .eq 7, 3) := by decide +kernel
theorem dX11_eventAt_55 : decode cX11_eventAt 55 = .ok (.iconst (-1), 1) := by decide +kernel
theorem dX11_eventAt_56 : decode cX11_eventAt 56 = .ok (.goto 19, 3) := by decide +kernel
theorem dX11_eventAt_59 : decode cX11_eventAt 59 = .ok (.aload_n 0, 1) := by decide +kernel
theorem dX11_eventAt_60 : decode cX11_eventAt 60 = .ok (.getfield 104, 3) := by decide +kernel
theorem dX11_eventAt_63 : decode cX11_eventAt 63 = .ok (.bipush 40, 2) := by decide +kernel
theorem dX11_eventAt_65 : decode cX11_eventAt 65 = .ok (.bipush 24, 2) := by decide +kernel
theorem dX11_eventAt_67 : decode cX11_eventAt 67 = .ok (.iload_n 1, 1) := by decide +kernel
theorem dX11_eventAt_68 : decode cX11_eventAt 68 = .ok (.imul, 1) := by decide +kernel
theorem dX11_eventAt_69 : decode cX11_eventAt 69 = .ok (.iload_n 2, 1) := by decide +kernel
theorem dX11_eventAt_70 : decode cX11_eventAt 70 = .ok (.iadd, 1) := by decide +kernel
theorem dX11_eventAt_71 : decode cX11_eventAt 71 = .ok (.imul, 1) := by decide +kernel
theorem dX11_eventAt_72 : decode cX11_eventAt 72 = .ok (.iload_n 3, 1) := by decide +kernel
theorem dX11_eventAt_73 : decode cX11_eventAt 73 = .ok (.iadd, 1) := by decide +kernel
theorem dX11_eventAt_74 : decode cX11_eventAt 74 = .ok (.iaload, 1) := by decide +kernel
theorem dX11_eventAt_75 : decode cX11_eventAt 75 = .ok (.ireturn, 1) := by decide +kernel
theorem dX11_bloom_0 : decode cX11_bloom 0 = .ok (.aload_n 0, 1) := by decide +kernel
theorem dX11_bloom_1 : decode cX11_bloom 1 = .ok (.aload_n 0, 1) := by decide +kernel
theorem dX11_bloom_2 : decode cX11_bloom 2 = .ok (.iload_n 1, 1) := by decide +kernel
theorem dX11_bloom_3 : decode cX11_bloom 3 = .ok (.iload_n 2, 1) := by decide +kernel
theorem dX11_bloom_4 : decode cX11_bloom 4 = .ok (.invokevirtual 349, 3) := by decide +kernel
theorem dX11_bloom_7 : decode cX11_bloom 7 = .ok (.ifCond .eq 7, 3) := by decide +kernel
theorem dX11_bloom_10 : decode cX11_bloom 10 = .ok (.iconst 0, 1) := by decide +kernel
theorem dX11_bloom_11 : decode cX11_bloom 11 = .ok (.goto 4, 3) := by decide +kernel
theorem dX11_bloom_14 : decode cX11_bloom 14 = .ok (.iconst 1, 1) := by decide +kernel
theorem dX11_bloom_15 : decode cX11_bloom 15 = .ok (.invokevirtual 214, 3) := by decide +kernel
theorem dX11_bloom_18 : decode cX11_bloom 18 = .ok (.ifCond .eq 7, 3) := by decide +kernel
theorem dX11_bloom_21 : decode cX11_bloom 21 = .ok (.iconst (-1), 1) := by decide +kernel
theorem dX11_bloom_22 : decode cX11_bloom 22 = .ok (.goto 14, 3) := by decide +kernel
theorem dX11_bloom_25 : decode cX11_bloom 25 = .ok (.aload_n 0, 1) := by decide +kernel
theorem dX11_bloom_26 : decode cX11_bloom 26 = .ok (.getfield 92, 3) := by decide +kernel
theorem dX11_bloom_29 : decode cX11_bloom 29 = .ok (.bipush 24, 2) := by decide +kernel
theorem dX11_bloom_31 : decode cX11_bloom 31 = .ok (.iload_n 1, 1) := by decide +kernel
theorem dX11_bloom_32 : decode cX11_bloom 32 = .ok (.imul, 1) := by decide +kernel
theorem dX11_bloom_33 : decode cX11_bloom 33 = .ok (.iload_n 2, 1) := by decide +kernel
theorem dX11_bloom_34 : decode cX11_bloom 34 = .ok (.iadd, 1) := by decide +kernel
theorem dX11_bloom_35 : decode cX11_bloom 35 = .ok (.iaload, 1) := by decide +kernel
theorem dX11_bloom_36 : decode cX11_bloom 36 = .ok (.ireturn, 1) := by decide +kernel
theorem dX11_find_0 : decode cX11_find 0 = .ok (.aload_n 0, 1) := by decide +kernel
theorem dX11_find_1 : decode cX11_find 1 = .ok (.aload_n 0, 1) := by decide +kernel
theorem dX11_find_2 : decode cX11_find 2 = .ok (.iload_n 1, 1) := by decide +kernel
theorem dX11_find_3 : decode cX11_find 3 = .ok (.invokevirtual 182, 3) := by decide +kernel
theorem dX11_find_6 : decode cX11_find 6 = .ok (.ifCond .ne 7, 3) := by decide +kernel
theorem dX11_find_9 : decode cX11_find 9 = .ok (.iconst 1, 1) := by decide +kernel
theorem dX11_find_10 : decode cX11_find 10 = .ok (.goto 19, 3) := by decide +kernel
theorem dX11_find_13 : decode cX11_find 13 = .ok (.aload_n 0, 1) := by decide +kernel
theorem dX11_find_14 : decode cX11_find 14 = .ok (.iload_n 2, 1) := by decide +kernel
theorem dX11_find_15 : decode cX11_find 15 = .ok (.iconst 0, 1) := by decide +kernel
theorem dX11_find_16 : decode cX11_find 16 = .ok (.bipush 15, 2) := by decide +kernel
theorem dX11_find_18 : decode cX11_find 18 = .ok (.invokevirtual 178, 3) := by decide +kernel
theorem dX11_find_21 : decode cX11_find 21 = .ok (.ifCond .eq 7, 3) := by decide +kernel
theorem dX11_find_24 : decode cX11_find 24 = .ok (.iconst 0, 1) := by decide +kernel
theorem dX11_find_25 : decode cX11_find 25 = .ok (.goto 4, 3) := by decide +kernel
theorem dX11_find_28 : decode cX11_find 28 = .ok (.iconst 2, 1) := by decide +kernel
theorem dX11_find_29 : decode cX11_find 29 = .ok (.invokevirtual 214, 3) := by decide +kernel
theorem dX11_find_32 : decode cX11_find 32 = .ok (.ifCond .eq 5, 3) := by decide +kernel
theorem dX11_find_35 : decode cX11_find 35 = .ok (.iconst (-1), 1) := by decide +kernel
theorem dX11_find_36 : decode cX11_find 36 = .ok (.ireturn, 1) := by decide +kernel
theorem dX11_find_37 : decode cX11_find 37 = .ok (.iconst 1, 1) := by decide +kernel
theorem dX11_find_38 : decode cX11_find 38 = .ok (.iload_n 2, 1) := by decide +kernel
theorem dX11_find_39 : decode cX11_find 39 = .ok (.bipush 8, 2) := by decide +kernel
theorem dX11_find_41 : decode cX11_find 41 = .ok (.irem, 1) := by decide +kernel
theorem dX11_find_42 : decode cX11_find 42 = .ok (.ishl, 1) := by decide +kernel
theorem dX11_find_43 : decode cX11_find 43 = .ok (.sipush 256, 3) := by decide +kernel
theorem dX11_find_46 : decode cX11_find 46 = .ok (.iconst 5, 1) := by decide +kernel
theorem dX11_find_47 : decode cX11_find 47 = .ok (.iload_n 2, 1) := by decide +kernel
theorem dX11_find_48 : decode cX11_find 48 = .ok (.imul, 1) := by decide +kernel
theorem dX11_find_49 : decode cX11_find 49 = .ok (.iconst 3, 1) := by decide +kernel
theorem dX11_find_50 : decode cX11_find 50 = .ok (.iadd, 1) := by decide +kernel
theorem dX11_find_51 : decode cX11_find 51 = .ok (.bipush 8, 2) := by decide +kernel
theorem dX11_find_53 : decode cX11_find 53 = .ok (.irem, 1) := by decide +kernel
theorem dX11_find_54 : decode cX11_find 54 = .ok (.ishl, 1) := by decide +kernel
theorem dX11_find_55 : decode cX11_find 55 = .ok (.ior, 1) := by decide +kernel
theorem dX11_find_56 : decode cX11_find 56 = .ok (.istore_n 3, 1) := by decide +kernel
theorem dX11_find_57 : decode cX11_find 57 = .ok (.iconst 0, 1) := by decide +kernel
theorem dX11_find_58 : decode cX11_find 58 = .ok (.istore 4, 2) := by decide +kernel
theorem dX11_find_60 : decode cX11_find 60 = .ok (.aload_n 0, 1) := by decide +kernel
theorem dX11_find_61 : decode cX11_find 61 = .ok (.iload_n 1, 1) := by decide +kernel
theorem dX11_find_62 : decode cX11_find 62 = .ok (.invokevirtual 220, 3) := by decide +kernel
theorem dX11_find_65 : decode cX11_find 65 = .ok (.istore 5, 2) := by decide +kernel
theorem dX11_find_67 : decode cX11_find 67 = .ok (.iload 5, 2) := by decide +kernel
theorem dX11_find_69 : decode cX11_find 69 = .ok (.ifCond .lt 104, 3) := by decide +kernel
theorem dX11_find_72 : decode cX11_find 72 = .ok (.bipush 24, 2) := by decide +kernel
theorem dX11_find_74 : decode cX11_find 74 = .ok (.iload_n 1, 1) := by decide +kernel
theorem dX11_find_75 : decode cX11_find 75 = .ok (.imul, 1) := by decide +kernel
theorem dX11_find_76 : decode cX11_find 76 = .ok (.iload 5, 2) := by decide +kernel
theorem dX11_find_78 : decode cX11_find 78 = .ok (.iadd, 1) := by decide +kernel
theorem dX11_find_79 : decode cX11_find 79 = .ok (.istore 6, 2) := by decide +kernel
theorem dX11_find_81 : decode cX11_find 81 = .ok (.iload 4, 2) := by decide +kernel
theorem dX11_find_83 : decode cX11_find 83 = .ok (.aload_n 0, 1) := by decide +kernel
theorem dX11_find_84 : decode cX11_find 84 = .ok (.getfield 92, 3) := by decide +kernel
theorem dX11_find_87 : decode cX11_find 87 = .ok (.iload 6, 2) := by decide +kernel
theorem dX11_find_89 : decode cX11_find 89 = .ok (.iaload, 1) := by decide +kernel
theorem dX11_find_90 : decode cX11_find 90 = .ok (.iload_n 3, 1) := by decide +kernel
theorem dX11_find_91 : decode cX11_find 91 = .ok (.iand, 1) := by decide +kernel
theorem dX11_find_92 : decode cX11_find 92 = .ok (.iload_n 3, 1) := by decide +kernel
theorem dX11_find_93 : decode cX11_find 93 = .ok (.if_icmp .ne 8, 3) := by decide +kernel
theorem dX11_find_96 : decode cX11_find 96 = .ok (.bipush 100, 2) := by decide +kernel
theorem dX11_find_98 : decode cX11_find 98 = .ok (.goto 4, 3) := by decide +kernel
theorem dX11_find_101 : decode cX11_find 101 = .ok (.iconst 0, 1) := by decide +kernel
theorem dX11_find_102 : decode cX11_find 102 = .ok (.iadd, 1) := by decide +kernel
theorem dX11_find_103 : decode cX11_find 103 = .ok (.istore 4, 2) := by decide +kernel
theorem dX11_find_105 : decode cX11_find 105 = .ok (.iconst 0, 1) := by decide +kernel
theorem dX11_find_106 : decode cX11_find 106 = .ok (.istore 7, 2) := by decide +kernel
theorem dX11_find_108 : decode cX11_find 108 = .ok (.iload 7, 2) := by decide +kernel
theorem dX11_find_110 : decode cX11_find 110 = .ok (.aload_n 0, 1) := by decide +kernel
theorem dX11_find_111 : decode cX11_find 111 = .ok (.getfield 98, 3) := by decide +kernel
theorem dX11_find_114 : decode cX11_find 114 = .ok (.iload 6, 2) := by decide +kernel
theorem dX11_find_116 : decode cX11_find 116 = .ok (.iaload, 1) := by decide +kernel
theorem dX11_find_117 : decode cX11_find 117 = .ok (.if_icmp .ge 39, 3) := by decide +kernel
theorem dX11_find_120 : decode cX11_find 120 = .ok (.iload 4, 2) := by decide +kernel
theorem dX11_find_122 : decode cX11_find 122 = .ok (.aload_n 0, 1) := by decide +kernel
theorem dX11_find_123 : decode cX11_find 123 = .ok (.getfield 104, 3) := by decide +kernel
theorem dX11_find_126 : decode cX11_find 126 = .ok (.bipush 40, 2) := by decide +kernel
theorem dX11_find_128 : decode cX11_find 128 = .ok (.iload 6, 2) := by decide +kernel
theorem dX11_find_130 : decode cX11_find 130 = .ok (.imul, 1) := by decide +kernel
theorem dX11_find_131 : decode cX11_find 131 = .ok (.iload 7, 2) := by decide +kernel
theorem dX11_find_133 : decode cX11_find 133 = .ok (.iadd, 1) := by decide +kernel
theorem dX11_find_134 : decode cX11_find 134 = .ok (.iaload, 1) := by decide +kernel
theorem dX11_find_135 : decode cX11_find 135 = .ok (.bipush 100, 2) := by decide +kernel
theorem dX11_find_137 : decode cX11_find 137 = .ok (.idiv, 1) := by decide +kernel
theorem dX11_find_138 : decode cX11_find 138 = .ok (.iload_n 2, 1) := by decide +kernel
theorem dX11_find_139 : decode cX11_find 139 = .ok (.if_icmp .ne 7, 3) := by decide +kernel
theorem dX11_find_142 : decode cX11_find 142 = .ok (.iconst 1, 1) := by decide +kernel
theorem dX11_find_143 : decode cX11_find 143 = .ok (.goto 4, 3) := by decide +kernel
theorem dX11_find_146 : decode cX11_find 146 = .ok (.iconst 0, 1) := by decide +kernel
theorem dX11_find_147 : decode cX11_find 147 = .ok (.iadd, 1) := by decide +kernel
theorem dX11_find_148 : decode cX11_find 148 = .ok (.istore 4, 2) := by decide +kernel
theorem dX11_find_150 : decode cX11_find 150 = .ok (.iinc 7 1, 3) := by decide +kernel
theorem dX11_find_153 : decode cX11_find 153 = .ok (.goto (-45), 3) := by decide +kernel
theorem dX11_find_156 : decode cX11_find 156 = .ok (.aload_n 0, 1) := by decide +kernel
theorem dX11_find_157 : decode cX11_find 157 = .ok (.getfield 67, 3) := by decide +kernel
theorem dX11_find_160 : decode cX11_find 160 = .ok (.bipush 24, 2) := by decide +kernel
theorem dX11_find_162 : decode cX11_find 162 = .ok (.iload_n 1, 1) := by decide +kernel
theorem dX11_find_163 : decode cX11_find 163 = .ok (.imul, 1) := by decide +kernel
theorem dX11_find_164 : decode cX11_find 164 = .ok (.iload 5, 2) := by decide +kernel
theorem dX11_find_166 : decode cX11_find 166 = .ok (.iadd, 1) := by decide +kernel
theorem dX11_find_167 : decode cX11_find 167 = .ok (.iaload, 1) := by decide +kernel
theorem dX11_find_168 : decode cX11_find 168 = .ok (.istore 5, 2) := by decide +kernel
theorem dX11_find_170 : decode cX11_find 170 = .ok (.goto (-103), 3) := by decide +kernel
theorem dX11_find_173 : decode cX11_find 173 = .ok (.iload 4, 2) := by decide +kernel
theorem dX11_find_175 : decode cX11_find 175 = .ok (.ireturn, 1) := by decide +kernel
theorem dX11_missing_0 : decode cX11_missing 0 = .ok (.aload_n 0, 1) := by decide +kernel
theorem dX11_missing_1 : decode cX11_missing 1 = .ok (.iload_n 1, 1) := by decide +kernel
theorem dX11_missing_2 : decode cX11_missing 2 = .ok (.iload_n 2, 1) := by decide +kernel
theorem dX11_missing_3 : decode cX11_missing 3 = .ok (.invokevirtual 349, 3) := by decide +kernel
theorem dX11_missing_6 : decode cX11_missing 6 = .ok (.ifCond .eq 7, 3) := by decide +kernel
theorem dX11_missing_9 : decode cX11_missing 9 = .ok (.iload_n 3, 1) := by decide +kernel
theorem dX11_missing_10 : decode cX11_missing 10 = .ok (.ifCond .ne 7, 3) := by decide +kernel
theorem dX11_missing_13 : decode cX11_missing 13 = .ok (.iconst 1, 1) := by decide +kernel
theorem dX11_missing_14 : decode cX11_missing 14 = .ok (.goto 23, 3) := by decide +kernel
theorem dX11_missing_17 : decode cX11_missing 17 = .ok (.aload_n 0, 1) := by decide +kernel
theorem dX11_missing_18 : decode cX11_missing 18 = .ok (.getfield 86, 3) := by decide +kernel
theorem dX11_missing_21 : decode cX11_missing 21 = .ok (.bipush 24, 2) := by decide +kernel
theorem dX11_missing_23 : decode cX11_missing 23 = .ok (.iload_n 1, 1) := by decide +kernel
theorem dX11_missing_24 : decode cX11_missing 24 = .ok (.imul, 1) := by decide +kernel
theorem dX11_missing_25 : decode cX11_missing 25 = .ok (.iload_n 2, 1) := by decide +kernel
theorem dX11_missing_26 : decode cX11_missing 26 = .ok (.iadd, 1) := by decide +kernel
theorem dX11_missing_27 : decode cX11_missing 27 = .ok (.iaload, 1) := by decide +kernel
theorem dX11_missing_28 : decode cX11_missing 28 = .ok (.iconst 1, 1) := by decide +kernel
theorem dX11_missing_29 : decode cX11_missing 29 = .ok (.if_icmp .ne 7, 3) := by decide +kernel
theorem dX11_missing_32 : decode cX11_missing 32 = .ok (.iconst 2, 1) := by decide +kernel
theorem dX11_missing_33 : decode cX11_missing 33 = .ok (.goto 4, 3) := by decide +kernel
theorem dX11_missing_36 : decode cX11_missing 36 = .ok (.iconst 0, 1) := by decide +kernel
theorem dX11_missing_37 : decode cX11_missing 37 = .ok (.ireturn, 1) := by decide +kernel
theorem dX11_at_0 : decode cX11_at 0 = .ok (.bipush 120, 2) := by decide +kernel
theorem dX11_at_2 : decode cX11_at 2 = .ok (.bipush 24, 2) := by decide +kernel
theorem dX11_at_4 : decode cX11_at 4 = .ok (.iload_n 1, 1) := by decide +kernel
theorem dX11_at_5 : decode cX11_at 5 = .ok (.imul, 1) := by decide +kernel
theorem dX11_at_6 : decode cX11_at 6 = .ok (.iload_n 2, 1) := by decide +kernel
theorem dX11_at_7 : decode cX11_at 7 = .ok (.iadd, 1) := by decide +kernel
theorem dX11_at_8 : decode cX11_at 8 = .ok (.imul, 1) := by decide +kernel
theorem dX11_at_9 : decode cX11_at 9 = .ok (.ireturn, 1) := by decide +kernel
theorem dX11_coins_0 : decode cX11_coins 0 = .ok (.aload_n 0, 1) := by decide +kernel
theorem dX11_coins_1 : decode cX11_coins 1 = .ok (.aload_n 0, 1) := by decide +kernel
theorem dX11_coins_2 : decode cX11_coins 2 = .ok (.iload_n 1, 1) := by decide +kernel
theorem dX11_coins_3 : decode cX11_coins 3 = .ok (.iload_n 2, 1) := by decide +kernel
theorem dX11_coins_4 : decode cX11_coins 4 = .ok (.aload_n 0, 1) := by decide +kernel
theorem dX11_coins_5 : decode cX11_coins 5 = .ok (.iload_n 3, 1) := by decide +kernel
theorem dX11_coins_6 : decode cX11_coins 6 = .ok (.iconst 0, 1) := by decide +kernel
theorem dX11_coins_7 : decode cX11_coins 7 = .ok (.bipush 15, 2) := by decide +kernel
theorem dX11_coins_9 : decode cX11_coins 9 = .ok (.invokevirtual 178, 3) := by decide +kernel
theorem dX11_coins_12 : decode cX11_coins 12 = .ok (.invokevirtual 364, 3) := by decide +kernel
theorem dX11_coins_15 : decode cX11_coins 15 = .ok (.invokevirtual 214, 3) := by decide +kernel
theorem dX11_coins_18 : decode cX11_coins 18 = .ok (.ifCond .eq 7, 3) := by decide +kernel
theorem dX11_coins_21 : decode cX11_coins 21 = .ok (.iconst (-1), 1) := by decide +kernel
theorem dX11_coins_22 : decode cX11_coins 22 = .ok (.goto 16, 3) := by decide +kernel
theorem dX11_coins_25 : decode cX11_coins 25 = .ok (.aload_n 0, 1) := by decide +kernel
theorem dX11_coins_26 : decode cX11_coins 26 = .ok (.getfield 7, 3) := by decide +kernel
theorem dX11_coins_29 : decode cX11_coins 29 = .ok (.aload_n 0, 1) := by decide +kernel
theorem dX11_coins_30 : decode cX11_coins 30 = .ok (.iload_n 1, 1) := by decide +kernel
theorem dX11_coins_31 : decode cX11_coins 31 = .ok (.iload_n 2, 1) := by decide +kernel
theorem dX11_coins_32 : decode cX11_coins 32 = .ok (.invokevirtual 368, 3) := by decide +kernel
theorem dX11_coins_35 : decode cX11_coins 35 = .ok (.iload_n 3, 1) := by decide +kernel
theorem dX11_coins_36 : decode cX11_coins 36 = .ok (.iadd, 1) := by decide +kernel
theorem dX11_coins_37 : decode cX11_coins 37 = .ok (.iaload, 1) := by decide +kernel
theorem dX11_coins_38 : decode cX11_coins 38 = .ok (.ireturn, 1) := by decide +kernel
theorem dX11_codeOf_0 : decode cX11_codeOf 0 = .ok (.aload_n 0, 1) := by decide +kernel
theorem dX11_codeOf_1 : decode cX11_codeOf 1 = .ok (.aload_n 0, 1) := by decide +kernel
theorem dX11_codeOf_2 : decode cX11_codeOf 2 = .ok (.iload_n 1, 1) := by decide +kernel
theorem dX11_codeOf_3 : decode cX11_codeOf 3 = .ok (.iload_n 2, 1) := by decide +kernel
theorem dX11_codeOf_4 : decode cX11_codeOf 4 = .ok (.aload_n 0, 1) := by decide +kernel
theorem dX11_codeOf_5 : decode cX11_codeOf 5 = .ok (.iload_n 3, 1) := by decide +kernel
theorem dX11_codeOf_6 : decode cX11_codeOf 6 = .ok (.iconst 0, 1) := by decide +kernel
theorem dX11_codeOf_7 : decode cX11_codeOf 7 = .ok (.bipush 15, 2) := by decide +kernel
theorem dX11_codeOf_9 : decode cX11_codeOf 9 = .ok (.invokevirtual 178, 3) := by decide +kernel
theorem dX11_codeOf_12 : decode cX11_codeOf 12 = .ok (.invokevirtual 364, 3) := by decide +kernel
theorem dX11_codeOf_15 : decode cX11_codeOf 15 = .ok (.invokevirtual 214, 3) := by decide +kernel
theorem dX11_codeOf_18 : decode cX11_codeOf 18 = .ok (.ifCond .eq 7, 3) := by decide +kernel
theorem dX11_codeOf_21 : decode cX11_codeOf 21 = .ok (.iconst (-1), 1) := by decide +kernel
theorem dX11_codeOf_22 : decode cX11_codeOf 22 = .ok (.goto 39, 3) := by decide +kernel
theorem dX11_codeOf_25 : decode cX11_codeOf 25 = .ok (.bipush 10, 2) := by decide +kernel
theorem dX11_codeOf_27 : decode cX11_codeOf 27 = .ok (.aload_n 0, 1) := by decide +kernel
theorem dX11_codeOf_28 : decode cX11_codeOf 28 = .ok (.getfield 7, 3) := by decide +kernel
theorem dX11_codeOf_31 : decode cX11_codeOf 31 = .ok (.aload_n 0, 1) := by decide +kernel
theorem dX11_codeOf_32 : decode cX11_codeOf 32 = .ok (.iload_n 1, 1) := by decide +kernel
theorem dX11_codeOf_33 : decode cX11_codeOf 33 = .ok (.iload_n 2, 1) := by decide +kernel
theorem dX11_codeOf_34 : decode cX11_codeOf 34 = .ok (.invokevirtual 368, 3) := by decide +kernel
theorem dX11_codeOf_37 : decode cX11_codeOf 37 = .ok (.bipush 16, 2) := by decide +kernel
theorem dX11_codeOf_39 : decode cX11_codeOf 39 = .ok (.iadd, 1) := by decide +kernel
theorem dX11_codeOf_40 : decode cX11_codeOf 40 = .ok (.iload_n 3, 1) := by decide +kernel
theorem dX11_codeOf_41 : decode cX11_codeOf 41 = .ok (.iadd, 1) := by decide +kernel
theorem dX11_codeOf_42 : decode cX11_codeOf 42 = .ok (.iaload, 1) := by decide +kernel
theorem dX11_codeOf_43 : decode cX11_codeOf 43 = .ok (.imul, 1) := by decide +kernel
theorem dX11_codeOf_44 : decode cX11_codeOf 44 = .ok (.aload_n 0, 1) := by decide +kernel
theorem dX11_codeOf_45 : decode cX11_codeOf 45 = .ok (.getfield 7, 3) := by decide +kernel
theorem dX11_codeOf_48 : decode cX11_codeOf 48 = .ok (.aload_n 0, 1) := by decide +kernel
theorem dX11_codeOf_49 : decode cX11_codeOf 49 = .ok (.iload_n 1, 1) := by decide +kernel
theorem dX11_codeOf_50 : decode cX11_codeOf 50 = .ok (.iload_n 2, 1) := by decide +kernel
theorem dX11_codeOf_51 : decode cX11_codeOf 51 = .ok (.invokevirtual 368, 3) := by decide +kernel
theorem dX11_codeOf_54 : decode cX11_codeOf 54 = .ok (.bipush 32, 2) := by decide +kernel
theorem dX11_codeOf_56 : decode cX11_codeOf 56 = .ok (.iadd, 1) := by decide +kernel
theorem dX11_codeOf_57 : decode cX11_codeOf 57 = .ok (.iload_n 3, 1) := by decide +kernel
theorem dX11_codeOf_58 : decode cX11_codeOf 58 = .ok (.iadd, 1) := by decide +kernel
theorem dX11_codeOf_59 : decode cX11_codeOf 59 = .ok (.iaload, 1) := by decide +kernel
theorem dX11_codeOf_60 : decode cX11_codeOf 60 = .ok (.iadd, 1) := by decide +kernel
theorem dX11_codeOf_61 : decode cX11_codeOf 61 = .ok (.ireturn, 1) := by decide +kernel
theorem dX11_slot_0 : decode cX11_slot 0 = .ok (.aload_n 0, 1) := by decide +kernel
theorem dX11_slot_1 : decode cX11_slot 1 = .ok (.aload_n 0, 1) := by decide +kernel
theorem dX11_slot_2 : decode cX11_slot 2 = .ok (.iload_n 1, 1) := by decide +kernel
theorem dX11_slot_3 : decode cX11_slot 3 = .ok (.iload_n 2, 1) := by decide +kernel
theorem dX11_slot_4 : decode cX11_slot 4 = .ok (.aload_n 0, 1) := by decide +kernel
theorem dX11_slot_5 : decode cX11_slot 5 = .ok (.iload_n 3, 1) := by decide +kernel
theorem dX11_slot_6 : decode cX11_slot 6 = .ok (.iconst 0, 1) := by decide +kernel
theorem dX11_slot_7 : decode cX11_slot 7 = .ok (.bipush 15, 2) := by decide +kernel
theorem dX11_slot_9 : decode cX11_slot 9 = .ok (.invokevirtual 178, 3) := by decide +kernel
theorem dX11_slot_12 : decode cX11_slot 12 = .ok (.ifCond .eq 18, 3) := by decide +kernel
theorem dX11_slot_15 : decode cX11_slot 15 = .ok (.aload_n 0, 1) := by decide +kernel
theorem dX11_slot_16 : decode cX11_slot 16 = .ok (.iload 4, 2) := by decide +kernel
theorem dX11_slot_18 : decode cX11_slot 18 = .ok (.iconst 0, 1) := by decide +kernel
theorem dX11_slot_19 : decode cX11_slot 19 = .ok (.iconst 3, 1) := by decide +kernel
theorem dX11_slot_20 : decode cX11_slot 20 = .ok (.invokevirtual 178, 3) := by decide +kernel
theorem dX11_slot_23 : decode cX11_slot 23 = .ok (.ifCond .eq 7, 3) := by decide +kernel
theorem dX11_slot_26 : decode cX11_slot 26 = .ok (.iconst 1, 1) := by decide +kernel
theorem dX11_slot_27 : decode cX11_slot 27 = .ok (.goto 4, 3) := by decide +kernel
theorem dX11_slot_30 : decode cX11_slot 30 = .ok (.iconst 0, 1) := by decide +kernel
theorem dX11_slot_31 : decode cX11_slot 31 = .ok (.invokevirtual 364, 3) := by decide +kernel
theorem dX11_slot_34 : decode cX11_slot 34 = .ok (.invokevirtual 214, 3) := by decide +kernel
theorem dX11_slot_37 : decode cX11_slot 37 = .ok (.ifCond .eq 7, 3) := by decide +kernel
theorem dX11_slot_40 : decode cX11_slot 40 = .ok (.iconst (-1), 1) := by decide +kernel
theorem dX11_slot_41 : decode cX11_slot 41 = .ok (.goto 24, 3) := by decide +kernel
theorem dX11_slot_44 : decode cX11_slot 44 = .ok (.aload_n 0, 1) := by decide +kernel
theorem dX11_slot_45 : decode cX11_slot 45 = .ok (.getfield 7, 3) := by decide +kernel
theorem dX11_slot_48 : decode cX11_slot 48 = .ok (.aload_n 0, 1) := by decide +kernel
theorem dX11_slot_49 : decode cX11_slot 49 = .ok (.iload_n 1, 1) := by decide +kernel
theorem dX11_slot_50 : decode cX11_slot 50 = .ok (.iload_n 2, 1) := by decide +kernel
theorem dX11_slot_51 : decode cX11_slot 51 = .ok (.invokevirtual 368, 3) := by decide +kernel
theorem dX11_slot_54 : decode cX11_slot 54 = .ok (.bipush 48, 2) := by decide +kernel
theorem dX11_slot_56 : decode cX11_slot 56 = .ok (.iadd, 1) := by decide +kernel
theorem dX11_slot_57 : decode cX11_slot 57 = .ok (.iconst 4, 1) := by decide +kernel
theorem dX11_slot_58 : decode cX11_slot 58 = .ok (.iload_n 3, 1) := by decide +kernel
theorem dX11_slot_59 : decode cX11_slot 59 = .ok (.imul, 1) := by decide +kernel
theorem dX11_slot_60 : decode cX11_slot 60 = .ok (.iadd, 1) := by decide +kernel
theorem dX11_slot_61 : decode cX11_slot 61 = .ok (.iload 4, 2) := by decide +kernel
theorem dX11_slot_63 : decode cX11_slot 63 = .ok (.iadd, 1) := by decide +kernel
theorem dX11_slot_64 : decode cX11_slot 64 = .ok (.iaload, 1) := by decide +kernel
theorem dX11_slot_65 : decode cX11_slot 65 = .ok (.ireturn, 1) := by decide +kernel
theorem dX11_burned_0 : decode cX11_burned 0 = .ok (.aload_n 0, 1) := by decide +kernel
theorem dX11_burned_1 : decode cX11_burned 1 = .ok (.aload_n 0, 1) := by decide +kernel
theorem dX11_burned_2 : decode cX11_burned 2 = .ok (.iload_n 1, 1) := by decide +kernel
theorem dX11_burned_3 : decode cX11_burned 3 = .ok (.iload_n 2, 1) := by decide +kernel
theorem dX11_burned_4 : decode cX11_burned 4 = .ok (.iconst 1, 1) := by decide +kernel
theorem dX11_burned_5 : decode cX11_burned 5 = .ok (.invokevirtual 364, 3) := by decide +kernel
theorem dX11_burned_8 : decode cX11_burned 8 = .ok (.invokevirtual 214, 3) := by decide +kernel
theorem dX11_burned_11 : decode cX11_burned 11 = .ok (.ifCond .eq 7, 3) := by decide +kernel
theorem dX11_burned_14 : decode cX11_burned 14 = .ok (.iconst (-1), 1) := by decide +kernel
theorem dX11_burned_15 : decode cX11_burned 15 = .ok (.goto 17, 3) := by decide +kernel
theorem dX11_burned_18 : decode cX11_burned 18 = .ok (.aload_n 0, 1) := by decide +kernel
theorem dX11_burned_19 : decode cX11_burned 19 = .ok (.getfield 7, 3) := by decide +kernel
theorem dX11_burned_22 : decode cX11_burned 22 = .ok (.aload_n 0, 1) := by decide +kernel
theorem dX11_burned_23 : decode cX11_burned 23 = .ok (.iload_n 1, 1) := by decide +kernel
theorem dX11_burned_24 : decode cX11_burned 24 = .ok (.iload_n 2, 1) := by decide +kernel
theorem dX11_burned_25 : decode cX11_burned 25 = .ok (.invokevirtual 368, 3) := by decide +kernel
theorem dX11_burned_28 : decode cX11_burned 28 = .ok (.bipush 112, 2) := by decide +kernel
theorem dX11_burned_30 : decode cX11_burned 30 = .ok (.iadd, 1) := by decide +kernel
theorem dX11_burned_31 : decode cX11_burned 31 = .ok (.iaload, 1) := by decide +kernel
theorem dX11_burned_32 : decode cX11_burned 32 = .ok (.ireturn, 1) := by decide +kernel
theorem dX11_root_0 : decode cX11_root 0 = .ok (.aload_n 0, 1) := by decide +kernel
theorem dX11_root_1 : decode cX11_root 1 = .ok (.aload_n 0, 1) := by decide +kernel
theorem dX11_root_2 : decode cX11_root 2 = .ok (.iload_n 1, 1) := by decide +kernel
theorem dX11_root_3 : decode cX11_root 3 = .ok (.iload_n 2, 1) := by decide +kernel
theorem dX11_root_4 : decode cX11_root 4 = .ok (.invokevirtual 349, 3) := by decide +kernel
theorem dX11_root_7 : decode cX11_root 7 = .ok (.ifCond .eq 7, 3) := by decide +kernel
theorem dX11_root_10 : decode cX11_root 10 = .ok (.iconst 0, 1) := by decide +kernel
theorem dX11_root_11 : decode cX11_root 11 = .ok (.goto 4, 3) := by decide +kernel
theorem dX11_root_14 : decode cX11_root 14 = .ok (.iconst 1, 1) := by decide +kernel
theorem dX11_root_15 : decode cX11_root 15 = .ok (.invokevirtual 214, 3) := by decide +kernel
theorem dX11_root_18 : decode cX11_root 18 = .ok (.ifCond .eq 7, 3) := by decide +kernel
theorem dX11_root_21 : decode cX11_root 21 = .ok (.iconst (-1), 1) := by decide +kernel
theorem dX11_root_22 : decode cX11_root 22 = .ok (.goto 14, 3) := by decide +kernel
theorem dX11_root_25 : decode cX11_root 25 = .ok (.aload_n 0, 1) := by decide +kernel
theorem dX11_root_26 : decode cX11_root 26 = .ok (.getfield 89, 3) := by decide +kernel
theorem dX11_root_29 : decode cX11_root 29 = .ok (.bipush 24, 2) := by decide +kernel
theorem dX11_root_31 : decode cX11_root 31 = .ok (.iload_n 1, 1) := by decide +kernel
theorem dX11_root_32 : decode cX11_root 32 = .ok (.imul, 1) := by decide +kernel
theorem dX11_root_33 : decode cX11_root 33 = .ok (.iload_n 2, 1) := by decide +kernel
theorem dX11_root_34 : decode cX11_root 34 = .ok (.iadd, 1) := by decide +kernel
theorem dX11_root_35 : decode cX11_root 35 = .ok (.iaload, 1) := by decide +kernel
theorem dX11_root_36 : decode cX11_root 36 = .ok (.ireturn, 1) := by decide +kernel
theorem dX11_rootAnew_0 : decode cX11_rootAnew 0 = .ok (.aload_n 0, 1) := by decide +kernel
theorem dX11_rootAnew_1 : decode cX11_rootAnew 1 = .ok (.iload_n 1, 1) := by decide +kernel
theorem dX11_rootAnew_2 : decode cX11_rootAnew 2 = .ok (.iload_n 2, 1) := by decide +kernel
theorem dX11_rootAnew_3 : decode cX11_rootAnew 3 = .ok (.invokevirtual 371, 3) := by decide +kernel
theorem dX11_rootAnew_6 : decode cX11_rootAnew 6 = .ok (.ireturn, 1) := by decide +kernel
theorem dX11_leaf_0 : decode cX11_leaf 0 = .ok (.aload_n 0, 1) := by decide +kernel
theorem dX11_leaf_1 : decode cX11_leaf 1 = .ok (.aload_n 0, 1) := by decide +kernel
theorem dX11_leaf_2 : decode cX11_leaf 2 = .ok (.iload_n 1, 1) := by decide +kernel
theorem dX11_leaf_3 : decode cX11_leaf 3 = .ok (.iload_n 2, 1) := by decide +kernel
theorem dX11_leaf_4 : decode cX11_leaf 4 = .ok (.aload_n 0, 1) := by decide +kernel
theorem dX11_leaf_5 : decode cX11_leaf 5 = .ok (.iload_n 3, 1) := by decide +kernel
theorem dX11_leaf_6 : decode cX11_leaf 6 = .ok (.iconst 0, 1) := by decide +kernel
theorem dX11_leaf_7 : decode cX11_leaf 7 = .ok (.bipush 15, 2) := by decide +kernel
theorem dX11_leaf_9 : decode cX11_leaf 9 = .ok (.invokevirtual 178, 3) := by decide +kernel
theorem dX11_leaf_12 : decode cX11_leaf 12 = .ok (.invokevirtual 364, 3) := by decide +kernel
theorem dX11_leaf_15 : decode cX11_leaf 15 = .ok (.invokevirtual 214, 3) := by decide +kernel
theorem dX11_leaf_18 : decode cX11_leaf 18 = .ok (.ifCond .eq 7, 3) := by decide +kernel
theorem dX11_leaf_21 : decode cX11_leaf 21 = .ok (.iconst (-1), 1) := by decide +kernel
theorem dX11_leaf_22 : decode cX11_leaf 22 = .ok (.goto 14, 3) := by decide +kernel
theorem dX11_leaf_25 : decode cX11_leaf 25 = .ok (.aload_n 0, 1) := by decide +kernel
theorem dX11_leaf_26 : decode cX11_leaf 26 = .ok (.aload_n 0, 1) := by decide +kernel
theorem dX11_leaf_27 : decode cX11_leaf 27 = .ok (.iload_n 1, 1) := by decide +kernel
theorem dX11_leaf_28 : decode cX11_leaf 28 = .ok (.iload_n 2, 1) := by decide +kernel
theorem dX11_leaf_29 : decode cX11_leaf 29 = .ok (.invokevirtual 368, 3) := by decide +kernel
theorem dX11_leaf_32 : decode cX11_leaf 32 = .ok (.iload_n 3, 1) := by decide +kernel
theorem dX11_leaf_33 : decode cX11_leaf 33 = .ok (.invokevirtual 199, 3) := by decide +kernel
theorem dX11_leaf_36 : decode cX11_leaf 36 = .ok (.ireturn, 1) := by decide +kernel
theorem dX11_proof_0 : decode cX11_proof 0 = .ok (.aload_n 0, 1) := by decide +kernel
theorem dX11_proof_1 : decode cX11_proof 1 = .ok (.aload_n 0, 1) := by decide +kernel
theorem dX11_proof_2 : decode cX11_proof 2 = .ok (.iload_n 1, 1) := by decide +kernel
theorem dX11_proof_3 : decode cX11_proof 3 = .ok (.iload_n 2, 1) := by decide +kernel
theorem dX11_proof_4 : decode cX11_proof 4 = .ok (.aload_n 0, 1) := by decide +kernel
theorem dX11_proof_5 : decode cX11_proof 5 = .ok (.iload_n 3, 1) := by decide +kernel
theorem dX11_proof_6 : decode cX11_proof 6 = .ok (.iconst 0, 1) := by decide +kernel
theorem dX11_proof_7 : decode cX11_proof 7 = .ok (.bipush 15, 2) := by decide +kernel
theorem dX11_proof_9 : decode cX11_proof 9 = .ok (.invokevirtual 178, 3) := by decide +kernel
theorem dX11_proof_12 : decode cX11_proof 12 = .ok (.ifCond .eq 18, 3) := by decide +kernel
theorem dX11_proof_15 : decode cX11_proof 15 = .ok (.aload_n 0, 1) := by decide +kernel
theorem dX11_proof_16 : decode cX11_proof 16 = .ok (.iload 4, 2) := by decide +kernel
theorem dX11_proof_18 : decode cX11_proof 18 = .ok (.iconst 0, 1) := by decide +kernel
theorem dX11_proof_19 : decode cX11_proof 19 = .ok (.iconst 3, 1) := by decide +kernel
theorem dX11_proof_20 : decode cX11_proof 20 = .ok (.invokevirtual 178, 3) := by decide +kernel
theorem dX11_proof_23 : decode cX11_proof 23 = .ok (.ifCond .eq 7, 3) := by decide +kernel
theorem dX11_proof_26 : decode cX11_proof 26 = .ok (.iconst 1, 1) := by decide +kernel
theorem dX11_proof_27 : decode cX11_proof 27 = .ok (.goto 4, 3) := by decide +kernel
theorem dX11_proof_30 : decode cX11_proof 30 = .ok (.iconst 0, 1) := by decide +kernel
theorem dX11_proof_31 : decode cX11_proof 31 = .ok (.invokevirtual 364, 3) := by decide +kernel
theorem dX11_proof_34 : decode cX11_proof 34 = .ok (.invokevirtual 214, 3) := by decide +kernel
theorem dX11_proof_37 : decode cX11_proof 37 = .ok (.ifCond .eq 5, 3) := by decide +kernel
theorem dX11_proof_40 : decode cX11_proof 40 = .ok (.iconst (-1), 1) := by decide +kernel
theorem dX11_proof_41 : decode cX11_proof 41 = .ok (.ireturn, 1) := by decide +kernel
theorem dX11_proof_42 : decode cX11_proof 42 = .ok (.iconst 0, 1) := by decide +kernel
theorem dX11_proof_43 : decode cX11_proof 43 = .ok (.istore 5, 2) := by decide +kernel
theorem dX11_proof_45 : decode cX11_proof 45 = .ok (.iload 5, 2) := by decide +kernel
theorem dX11_proof_47 : decode cX11_proof 47 = .ok (.bipush 16, 2) := by decide +kernel
theorem dX11_proof_49 : decode cX11_proof 49 = .ok (.if_icmp .ge 28, 3) := by decide +kernel
theorem dX11_proof_52 : decode cX11_proof 52 = .ok (.aload_n 0, 1) := by decide +kernel
theorem dX11_proof_53 : decode cX11_proof 53 = .ok (.getfield 167, 3) := by decide +kernel
theorem dX11_proof_56 : decode cX11_proof 56 = .ok (.iload 5, 2) := by decide +kernel
theorem dX11_proof_58 : decode cX11_proof 58 = .ok (.aload_n 0, 1) := by decide +kernel
theorem dX11_proof_59 : decode cX11_proof 59 = .ok (.aload_n 0, 1) := by decide +kernel
theorem dX11_proof_60 : decode cX11_proof 60 = .ok (.iload_n 1, 1) := by decide +kernel
theorem dX11_proof_61 : decode cX11_proof 61 = .ok (.iload_n 2, 1) := by decide +kernel
theorem dX11_proof_62 : decode cX11_proof 62 = .ok (.invokevirtual 368, 3) := by decide +kernel
theorem dX11_proof_65 : decode cX11_proof 65 = .ok (.iload 5, 2) := by decide +kernel
theorem dX11_proof_67 : decode cX11_proof 67 = .ok (.invokevirtual 199, 3) := by decide +kernel
theorem dX11_proof_70 : decode cX11_proof 70 = .ok (.iastore, 1) := by decide +kernel
theorem dX11_proof_71 : decode cX11_proof 71 = .ok (.iinc 5 1, 3) := by decide +kernel
theorem dX11_proof_74 : decode cX11_proof 74 = .ok (.goto (-29), 3) := by decide +kernel
theorem dX11_proof_77 : decode cX11_proof 77 = .ok (.aload_n 0, 1) := by decide +kernel
theorem dX11_proof_78 : decode cX11_proof 78 = .ok (.iload 4, 2) := by decide +kernel
theorem dX11_proof_80 : decode cX11_proof 80 = .ok (.invokevirtual 203, 3) := by decide +kernel
theorem dX11_proof_83 : decode cX11_proof 83 = .ok (.aload_n 0, 1) := by decide +kernel
theorem dX11_proof_84 : decode cX11_proof 84 = .ok (.getfield 167, 3) := by decide +kernel
theorem dX11_proof_87 : decode cX11_proof 87 = .ok (.iload_n 3, 1) := by decide +kernel
theorem dX11_proof_88 : decode cX11_proof 88 = .ok (.iload 4, 2) := by decide +kernel
theorem dX11_proof_90 : decode cX11_proof 90 = .ok (.ishr, 1) := by decide +kernel
theorem dX11_proof_91 : decode cX11_proof 91 = .ok (.iconst 2, 1) := by decide +kernel
theorem dX11_proof_92 : decode cX11_proof 92 = .ok (.irem, 1) := by decide +kernel
theorem dX11_proof_93 : decode cX11_proof 93 = .ok (.ifCond .ne 12, 3) := by decide +kernel
theorem dX11_proof_96 : decode cX11_proof 96 = .ok (.iload_n 3, 1) := by decide +kernel
theorem dX11_proof_97 : decode cX11_proof 97 = .ok (.iload 4, 2) := by decide +kernel
theorem dX11_proof_99 : decode cX11_proof 99 = .ok (.ishr, 1) := by decide +kernel
theorem dX11_proof_100 : decode cX11_proof 100 = .ok (.iconst 1, 1) := by decide +kernel
theorem dX11_proof_101 : decode cX11_proof 101 = .ok (.iadd, 1) := by decide +kernel
theorem dX11_proof_102 : decode cX11_proof 102 = .ok (.goto 9, 3) := by decide +kernel
theorem dX11_proof_105 : decode cX11_proof 105 = .ok (.iload_n 3, 1) := by decide +kernel
theorem dX11_proof_106 : decode cX11_proof 106 = .ok (.iload 4, 2) := by decide +kernel
theorem dX11_proof_108 : decode cX11_proof 108 = .ok (.ishr, 1) := by decide +kernel
theorem dX11_proof_109 : decode cX11_proof 109 = .ok (.iconst 1, 1) := by decide +kernel
theorem dX11_proof_110 : decode cX11_proof 110 = .ok (.isub, 1) := by decide +kernel
theorem dX11_proof_111 : decode cX11_proof 111 = .ok (.iaload, 1) := by decide +kernel
theorem dX11_proof_112 : decode cX11_proof 112 = .ok (.ireturn, 1) := by decide +kernel
theorem dX11_up_0 : decode cX11_up 0 = .ok (.iload_n 3, 1) := by decide +kernel
theorem dX11_up_1 : decode cX11_up 1 = .ok (.iload_n 2, 1) := by decide +kernel
theorem dX11_up_2 : decode cX11_up 2 = .ok (.ishr, 1) := by decide +kernel
theorem dX11_up_3 : decode cX11_up 3 = .ok (.iconst 2, 1) := by decide +kernel
theorem dX11_up_4 : decode cX11_up 4 = .ok (.irem, 1) := by decide +kernel
theorem dX11_up_5 : decode cX11_up 5 = .ok (.ifCond .ne 15, 3) := by decide +kernel
theorem dX11_up_8 : decode cX11_up 8 = .ok (.aload_n 0, 1) := by decide +kernel
theorem dX11_up_9 : decode cX11_up 9 = .ok (.iload_n 1, 1) := by decide +kernel
theorem dX11_up_10 : decode cX11_up 10 = .ok (.i2l, 1) := by decide +kernel
theorem dX11_up_11 : decode cX11_up 11 = .ok (.iload 4, 2) := by decide +kernel
theorem dX11_up_13 : decode cX11_up 13 = .ok (.i2l, 1) := by decide +kernel
theorem dX11_up_14 : decode cX11_up 14 = .ok (.invokevirtual 194, 3) := by decide +kernel
theorem dX11_up_17 : decode cX11_up 17 = .ok (.goto 12, 3) := by decide +kernel
theorem dX11_up_20 : decode cX11_up 20 = .ok (.aload_n 0, 1) := by decide +kernel
theorem dX11_up_21 : decode cX11_up 21 = .ok (.iload 4, 2) := by decide +kernel
theorem dX11_up_23 : decode cX11_up 23 = .ok (.i2l, 1) := by decide +kernel
theorem dX11_up_24 : decode cX11_up 24 = .ok (.iload_n 1, 1) := by decide +kernel
theorem dX11_up_25 : decode cX11_up 25 = .ok (.i2l, 1) := by decide +kernel
theorem dX11_up_26 : decode cX11_up 26 = .ok (.invokevirtual 194, 3) := by decide +kernel
theorem dX11_up_29 : decode cX11_up 29 = .ok (.ireturn, 1) := by decide +kernel
theorem dX11_proves_0 : decode cX11_proves 0 = .ok (.aload_n 0, 1) := by decide +kernel
theorem dX11_proves_1 : decode cX11_proves 1 = .ok (.iload_n 1, 1) := by decide +kernel
theorem dX11_proves_2 : decode cX11_proves 2 = .ok (.iload_n 2, 1) := by decide +kernel
theorem dX11_proves_3 : decode cX11_proves 3 = .ok (.invokevirtual 349, 3) := by decide +kernel
theorem dX11_proves_6 : decode cX11_proves 6 = .ok (.ifCond .eq 18, 3) := by decide +kernel
theorem dX11_proves_9 : decode cX11_proves 9 = .ok (.aload_n 0, 1) := by decide +kernel
theorem dX11_proves_10 : decode cX11_proves 10 = .ok (.iload_n 3, 1) := by decide +kernel
theorem dX11_proves_11 : decode cX11_proves 11 = .ok (.iconst 0, 1) := by decide +kernel
theorem dX11_proves_12 : decode cX11_proves 12 = .ok (.bipush 15, 2) := by decide +kernel
theorem dX11_proves_14 : decode cX11_proves 14 = .ok (.invokevirtual 178, 3) := by decide +kernel
theorem dX11_proves_17 : decode cX11_proves 17 = .ok (.ifCond .eq 7, 3) := by decide +kernel
theorem dX11_proves_20 : decode cX11_proves 20 = .ok (.iconst 1, 1) := by decide +kernel
theorem dX11_proves_21 : decode cX11_proves 21 = .ok (.goto 4, 3) := by decide +kernel
theorem dX11_proves_24 : decode cX11_proves 24 = .ok (.iconst 0, 1) := by decide +kernel
theorem dX11_proves_25 : decode cX11_proves 25 = .ok (.istore 9, 2) := by decide +kernel
theorem dX11_proves_27 : decode cX11_proves 27 = .ok (.aload_n 0, 1) := by decide +kernel
theorem dX11_proves_28 : decode cX11_proves 28 = .ok (.iload 4, 2) := by decide +kernel
theorem dX11_proves_30 : decode cX11_proves 30 = .ok (.iconst 0, 1) := by decide +kernel
theorem dX11_proves_31 : decode cX11_proves 31 = .ok (.ldc_w 374, 3) := by decide +kernel
theorem dX11_proves_34 : decode cX11_proves 34 = .ok (.invokevirtual 178, 3) := by decide +kernel
theorem dX11_proves_37 : decode cX11_proves 37 = .ok (.ifCond .eq 59, 3) := by decide +kernel
theorem dX11_proves_40 : decode cX11_proves 40 = .ok (.aload_n 0, 1) := by decide +kernel
theorem dX11_proves_41 : decode cX11_proves 41 = .ok (.iload 5, 2) := by decide +kernel
theorem dX11_proves_43 : decode cX11_proves 43 = .ok (.iconst 0, 1) := by decide +kernel
theorem dX11_proves_44 : decode cX11_proves 44 = .ok (.ldc_w 374, 3) := by decide +kernel
theorem dX11_proves_47 : decode cX11_proves 47 = .ok (.invokevirtual 178, 3) := by decide +kernel
theorem dX11_proves_50 : decode cX11_proves 50 = .ok (.ifCond .eq 46, 3) := by decide +kernel
theorem dX11_proves_53 : decode cX11_proves 53 = .ok (.aload_n 0, 1) := by decide +kernel
theorem dX11_proves_54 : decode cX11_proves 54 = .ok (.iload 6, 2) := by decide +kernel
theorem dX11_proves_56 : decode cX11_proves 56 = .ok (.iconst 0, 1) := by decide +kernel
theorem dX11_proves_57 : decode cX11_proves 57 = .ok (.ldc_w 374, 3) := by decide +kernel
theorem dX11_proves_60 : decode cX11_proves 60 = .ok (.invokevirtual 178, 3) := by decide +kernel
theorem dX11_proves_63 : decode cX11_proves 63 = .ok (.ifCond .eq 33, 3) := by decide +kernel
theorem dX11_proves_66 : decode cX11_proves 66 = .ok (.aload_n 0, 1) := by decide +kernel
theorem dX11_proves_67 : decode cX11_proves 67 = .ok (.iload 7, 2) := by decide +kernel
theorem dX11_proves_69 : decode cX11_proves 69 = .ok (.iconst 0, 1) := by decide +kernel
theorem dX11_proves_70 : decode cX11_proves 70 = .ok (.ldc_w 374, 3) := by decide +kernel
theorem dX11_proves_73 : decode cX11_proves 73 = .ok (.invokevirtual 178, 3) := by decide +kernel
theorem dX11_proves_76 : decode cX11_proves 76 = .ok (.ifCond .eq 20, 3) := by decide +kernel
theorem dX11_proves_79 : decode cX11_proves 79 = .ok (.aload_n 0, 1) := by decide +kernel
theorem dX11_proves_80 : decode cX11_proves 80 = .ok (.iload 8, 2) := by decide +kernel
theorem dX11_proves_82 : decode cX11_proves 82 = .ok (.iconst 0, 1) := by decide +kernel
theorem dX11_proves_83 : decode cX11_proves 83 = .ok (.ldc_w 374, 3) := by decide +kernel
theorem dX11_proves_86 : decode cX11_proves 86 = .ok (.invokevirtual 178, 3) := by decide +kernel
theorem dX11_proves_89 : decode cX11_proves 89 = .ok (.ifCond .eq 7, 3) := by decide +kernel
theorem dX11_proves_92 : decode cX11_proves 92 = .ok (.iconst 1, 1) := by decide +kernel
theorem dX11_proves_93 : decode cX11_proves 93 = .ok (.goto 4, 3) := by decide +kernel
theorem dX11_proves_96 : decode cX11_proves 96 = .ok (.iconst 0, 1) := by decide +kernel
theorem dX11_proves_97 : decode cX11_proves 97 = .ok (.istore 10, 2) := by decide +kernel
theorem dX11_proves_99 : decode cX11_proves 99 = .ok (.aload_n 0, 1) := by decide +kernel
theorem dX11_proves_100 : decode cX11_proves 100 = .ok (.iload 9, 2) := by decide +kernel
theorem dX11_proves_102 : decode cX11_proves 102 = .ok (.ifCond .ne 7, 3) := by decide +kernel
theorem dX11_proves_105 : decode cX11_proves 105 = .ok (.iconst 1, 1) := by decide +kernel
theorem dX11_proves_106 : decode cX11_proves 106 = .ok (.goto 13, 3) := by decide +kernel
theorem dX11_proves_109 : decode cX11_proves 109 = .ok (.iload 10, 2) := by decide +kernel
theorem dX11_proves_111 : decode cX11_proves 111 = .ok (.ifCond .eq 7, 3) := by decide +kernel
theorem dX11_proves_114 : decode cX11_proves 114 = .ok (.iconst 0, 1) := by decide +kernel
theorem dX11_proves_115 : decode cX11_proves 115 = .ok (.goto 4, 3) := by decide +kernel
theorem dX11_proves_118 : decode cX11_proves 118 = .ok (.iconst 2, 1) := by decide +kernel
theorem dX11_proves_119 : decode cX11_proves 119 = .ok (.invokevirtual 214, 3) := by decide +kernel
theorem dX11_proves_122 : decode cX11_proves 122 = .ok (.ifCond .eq 5, 3) := by decide +kernel
theorem dX11_proves_125 : decode cX11_proves 125 = .ok (.iconst 0, 1) := by decide +kernel
theorem dX11_proves_126 : decode cX11_proves 126 = .ok (.ireturn, 1) := by decide +kernel
theorem dX11_proves_127 : decode cX11_proves 127 = .ok (.aload_n 0, 1) := by decide +kernel
theorem dX11_proves_128 : decode cX11_proves 128 = .ok (.aload_n 0, 1) := by decide +kernel
theorem dX11_proves_129 : decode cX11_proves 129 = .ok (.iload 4, 2) := by decide +kernel
theorem dX11_proves_131 : decode cX11_proves 131 = .ok (.iconst 0, 1) := by decide +kernel
theorem dX11_proves_132 : decode cX11_proves 132 = .ok (.iload_n 3, 1) := by decide +kernel
theorem dX11_proves_133 : decode cX11_proves 133 = .ok (.iload 5, 2) := by decide +kernel
theorem dX11_proves_135 : decode cX11_proves 135 = .ok (.invokevirtual 375, 3) := by decide +kernel
theorem dX11_proves_138 : decode cX11_proves 138 = .ok (.iconst 1, 1) := by decide +kernel
theorem dX11_proves_139 : decode cX11_proves 139 = .ok (.iload_n 3, 1) := by decide +kernel
theorem dX11_proves_140 : decode cX11_proves 140 = .ok (.iload 6, 2) := by decide +kernel
theorem dX11_proves_142 : decode cX11_proves 142 = .ok (.invokevirtual 375, 3) := by decide +kernel
theorem dX11_proves_145 : decode cX11_proves 145 = .ok (.istore 11, 2) := by decide +kernel
theorem dX11_proves_147 : decode cX11_proves 147 = .ok (.aload_n 0, 1) := by decide +kernel
theorem dX11_proves_148 : decode cX11_proves 148 = .ok (.aload_n 0, 1) := by decide +kernel
theorem dX11_proves_149 : decode cX11_proves 149 = .ok (.iload 11, 2) := by decide +kernel
theorem dX11_proves_151 : decode cX11_proves 151 = .ok (.iconst 2, 1) := by decide +kernel
theorem dX11_proves_152 : decode cX11_proves 152 = .ok (.iload_n 3, 1) := by decide +kernel
theorem dX11_proves_153 : decode cX11_proves 153 = .ok (.iload 7, 2) := by decide +kernel
theorem dX11_proves_155 : decode cX11_proves 155 = .ok (.invokevirtual 375, 3) := by decide +kernel
theorem dX11_proves_158 : decode cX11_proves 158 = .ok (.iconst 3, 1) := by decide +kernel
theorem dX11_proves_159 : decode cX11_proves 159 = .ok (.iload_n 3, 1) := by decide +kernel
theorem dX11_proves_160 : decode cX11_proves 160 = .ok (.iload 8, 2) := by decide +kernel
theorem dX11_proves_162 : decode cX11_proves 162 = .ok (.invokevirtual 375, 3) := by decide +kernel
theorem dX11_proves_165 : decode cX11_proves 165 = .ok (.aload_n 0, 1) := by decide +kernel
theorem dX11_proves_166 : decode cX11_proves 166 = .ok (.getfield 89, 3) := by decide +kernel
theorem dX11_proves_169 : decode cX11_proves 169 = .ok (.bipush 24, 2) := by decide +kernel
theorem dX11_proves_171 : decode cX11_proves 171 = .ok (.iload_n 1, 1) := by decide +kernel
theorem dX11_proves_172 : decode cX11_proves 172 = .ok (.imul, 1) := by decide +kernel
theorem dX11_proves_173 : decode cX11_proves 173 = .ok (.iload_n 2, 1) := by decide +kernel
theorem dX11_proves_174 : decode cX11_proves 174 = .ok (.iadd, 1) := by decide +kernel
theorem dX11_proves_175 : decode cX11_proves 175 = .ok (.iaload, 1) := by decide +kernel
theorem dX11_proves_176 : decode cX11_proves 176 = .ok (.if_icmp .ne 7, 3) := by decide +kernel
theorem dX11_proves_179 : decode cX11_proves 179 = .ok (.iconst 1, 1) := by decide +kernel
theorem dX11_proves_180 : decode cX11_proves 180 = .ok (.goto 4, 3) := by decide +kernel
theorem dX11_proves_183 : decode cX11_proves 183 = .ok (.iconst 0, 1) := by decide +kernel
theorem dX11_proves_184 : decode cX11_proves 184 = .ok (.ireturn, 1) := by decide +kernel
theorem dX11_prune_0 : decode cX11_prune 0 = .ok (.aload_n 0, 1) := by decide +kernel
theorem dX11_prune_1 : decode cX11_prune 1 = .ok (.aload_n 0, 1) := by decide +kernel
theorem dX11_prune_2 : decode cX11_prune 2 = .ok (.iload_n 1, 1) := by decide +kernel
theorem dX11_prune_3 : decode cX11_prune 3 = .ok (.invokevirtual 182, 3) := by decide +kernel
theorem dX11_prune_6 : decode cX11_prune 6 = .ok (.ifCond .eq 7, 3) := by decide +kernel
theorem dX11_prune_9 : decode cX11_prune 9 = .ok (.iconst 0, 1) := by decide +kernel
theorem dX11_prune_10 : decode cX11_prune 10 = .ok (.goto 4, 3) := by decide +kernel
theorem dX11_prune_13 : decode cX11_prune 13 = .ok (.iconst 1, 1) := by decide +kernel
theorem dX11_prune_14 : decode cX11_prune 14 = .ok (.invokevirtual 214, 3) := by decide +kernel
theorem dX11_prune_17 : decode cX11_prune 17 = .ok (.ifCond .eq 5, 3) := by decide +kernel
theorem dX11_prune_20 : decode cX11_prune 20 = .ok (.iconst (-1), 1) := by decide +kernel
theorem dX11_prune_21 : decode cX11_prune 21 = .ok (.ireturn, 1) := by decide +kernel
theorem dX11_prune_22 : decode cX11_prune 22 = .ok (.iconst 0, 1) := by decide +kernel
theorem dX11_prune_23 : decode cX11_prune 23 = .ok (.istore_n 2, 1) := by decide +kernel
theorem dX11_prune_24 : decode cX11_prune 24 = .ok (.iconst 0, 1) := by decide +kernel
theorem dX11_prune_25 : decode cX11_prune 25 = .ok (.istore_n 3, 1) := by decide +kernel
theorem dX11_prune_26 : decode cX11_prune 26 = .ok (.iload_n 3, 1) := by decide +kernel
theorem dX11_prune_27 : decode cX11_prune 27 = .ok (.aload_n 0, 1) := by decide +kernel
theorem dX11_prune_28 : decode cX11_prune 28 = .ok (.getfield 34, 3) := by decide +kernel
theorem dX11_prune_31 : decode cX11_prune 31 = .ok (.iload_n 1, 1) := by decide +kernel
theorem dX11_prune_32 : decode cX11_prune 32 = .ok (.iaload, 1) := by decide +kernel
theorem dX11_prune_33 : decode cX11_prune 33 = .ok (.if_icmp .ge 104, 3) := by decide +kernel
theorem dX11_prune_36 : decode cX11_prune 36 = .ok (.aload_n 0, 1) := by decide +kernel
theorem dX11_prune_37 : decode cX11_prune 37 = .ok (.getfield 86, 3) := by decide +kernel
theorem dX11_prune_40 : decode cX11_prune 40 = .ok (.bipush 24, 2) := by decide +kernel
theorem dX11_prune_42 : decode cX11_prune 42 = .ok (.iload_n 1, 1) := by decide +kernel
theorem dX11_prune_43 : decode cX11_prune 43 = .ok (.imul, 1) := by decide +kernel
theorem dX11_prune_44 : decode cX11_prune 44 = .ok (.iload_n 3, 1) := by decide +kernel
theorem dX11_prune_45 : decode cX11_prune 45 = .ok (.iadd, 1) := by decide +kernel
theorem dX11_prune_46 : decode cX11_prune 46 = .ok (.iaload, 1) := by decide +kernel
theorem dX11_prune_47 : decode cX11_prune 47 = .ok (.ifCond .ne 37, 3) := by decide +kernel
theorem dX11_prune_50 : decode cX11_prune 50 = .ok (.aload_n 0, 1) := by decide +kernel
theorem dX11_prune_51 : decode cX11_prune 51 = .ok (.getfield 70, 3) := by decide +kernel
theorem dX11_prune_54 : decode cX11_prune 54 = .ok (.bipush 24, 2) := by decide +kernel
theorem dX11_prune_56 : decode cX11_prune 56 = .ok (.iload_n 1, 1) := by decide +kernel
theorem dX11_prune_57 : decode cX11_prune 57 = .ok (.imul, 1) := by decide +kernel
theorem dX11_prune_58 : decode cX11_prune 58 = .ok (.iload_n 3, 1) := by decide +kernel
theorem dX11_prune_59 : decode cX11_prune 59 = .ok (.iadd, 1) := by decide +kernel
theorem dX11_prune_60 : decode cX11_prune 60 = .ok (.iaload, 1) := by decide +kernel
theorem dX11_prune_61 : decode cX11_prune 61 = .ok (.aload_n 0, 1) := by decide +kernel
theorem dX11_prune_62 : decode cX11_prune 62 = .ok (.getfield 70, 3) := by decide +kernel
theorem dX11_prune_65 : decode cX11_prune 65 = .ok (.bipush 24, 2) := by decide +kernel
theorem dX11_prune_67 : decode cX11_prune 67 = .ok (.iload_n 1, 1) := by decide +kernel
theorem dX11_prune_68 : decode cX11_prune 68 = .ok (.imul, 1) := by decide +kernel
theorem dX11_prune_69 : decode cX11_prune 69 = .ok (.aload_n 0, 1) := by decide +kernel
theorem dX11_prune_70 : decode cX11_prune 70 = .ok (.getfield 37, 3) := by decide +kernel
theorem dX11_prune_73 : decode cX11_prune 73 = .ok (.iload_n 1, 1) := by decide +kernel
theorem dX11_prune_74 : decode cX11_prune 74 = .ok (.iaload, 1) := by decide +kernel
theorem dX11_prune_75 : decode cX11_prune 75 = .ok (.iadd, 1) := by decide +kernel
theorem dX11_prune_76 : decode cX11_prune 76 = .ok (.iaload, 1) := by decide +kernel
theorem dX11_prune_77 : decode cX11_prune 77 = .ok (.if_icmp .ge 7, 3) := by decide +kernel
theorem dX11_prune_80 : decode cX11_prune 80 = .ok (.iconst 1, 1) := by decide +kernel
theorem dX11_prune_81 : decode cX11_prune 81 = .ok (.goto 4, 3) := by decide +kernel
theorem dX11_prune_84 : decode cX11_prune 84 = .ok (.iconst 0, 1) := by decide +kernel
theorem dX11_prune_85 : decode cX11_prune 85 = .ok (.istore 4, 2) := by decide +kernel
theorem dX11_prune_87 : decode cX11_prune 87 = .ok (.aload_n 0, 1) := by decide +kernel
theorem dX11_prune_88 : decode cX11_prune 88 = .ok (.getfield 86, 3) := by decide +kernel
theorem dX11_prune_91 : decode cX11_prune 91 = .ok (.bipush 24, 2) := by decide +kernel
theorem dX11_prune_93 : decode cX11_prune 93 = .ok (.iload_n 1, 1) := by decide +kernel
theorem dX11_prune_94 : decode cX11_prune 94 = .ok (.imul, 1) := by decide +kernel
theorem dX11_prune_95 : decode cX11_prune 95 = .ok (.iload_n 3, 1) := by decide +kernel
theorem dX11_prune_96 : decode cX11_prune 96 = .ok (.iadd, 1) := by decide +kernel
theorem dX11_prune_97 : decode cX11_prune 97 = .ok (.iload 4, 2) := by decide +kernel
theorem dX11_prune_99 : decode cX11_prune 99 = .ok (.ifCond .eq 7, 3) := by decide +kernel
theorem dX11_prune_102 : decode cX11_prune 102 = .ok (.iconst 1, 1) := by decide +kernel
theorem dX11_prune_103 : decode cX11_prune 103 = .ok (.goto 14, 3) := by decide +kernel
theorem dX11_prune_106 : decode cX11_prune 106 = .ok (.aload_n 0, 1) := by decide +kernel
theorem dX11_prune_107 : decode cX11_prune 107 = .ok (.getfield 86, 3) := by decide +kernel
theorem dX11_prune_110 : decode cX11_prune 110 = .ok (.bipush 24, 2) := by decide +kernel
theorem dX11_prune_112 : decode cX11_prune 112 = .ok (.iload_n 1, 1) := by decide +kernel
theorem dX11_prune_113 : decode cX11_prune 113 = .ok (.imul, 1) := by decide +kernel
theorem dX11_prune_114 : decode cX11_prune 114 = .ok (.iload_n 3, 1) := by decide +kernel
theorem dX11_prune_115 : decode cX11_prune 115 = .ok (.iadd, 1) := by decide +kernel
theorem dX11_prune_116 : decode cX11_prune 116 = .ok (.iaload, 1) := by decide +kernel
theorem dX11_prune_117 : decode cX11_prune 117 = .ok (.iastore, 1) := by decide +kernel
theorem dX11_prune_118 : decode cX11_prune 118 = .ok (.iload_n 2, 1) := by decide +kernel
theorem dX11_prune_119 : decode cX11_prune 119 = .ok (.iload 4, 2) := by decide +kernel
theorem dX11_prune_121 : decode cX11_prune 121 = .ok (.ifCond .eq 7, 3) := by decide +kernel
theorem dX11_prune_124 : decode cX11_prune 124 = .ok (.iconst 1, 1) := by decide +kernel
theorem dX11_prune_125 : decode cX11_prune 125 = .ok (.goto 4, 3) := by decide +kernel
theorem dX11_prune_128 : decode cX11_prune 128 = .ok (.iconst 0, 1) := by decide +kernel
theorem dX11_prune_129 : decode cX11_prune 129 = .ok (.iadd, 1) := by decide +kernel
theorem dX11_prune_130 : decode cX11_prune 130 = .ok (.istore_n 2, 1) := by decide +kernel
theorem dX11_prune_131 : decode cX11_prune 131 = .ok (.iinc 3 1, 3) := by decide +kernel
theorem dX11_prune_134 : decode cX11_prune 134 = .ok (.goto (-108), 3) := by decide +kernel
theorem dX11_prune_137 : decode cX11_prune 137 = .ok (.iload_n 2, 1) := by decide +kernel
theorem dX11_prune_138 : decode cX11_prune 138 = .ok (.ireturn, 1) := by decide +kernel
theorem dX11_surrounds_0 : decode cX11_surrounds 0 = .ok (.aload_n 0, 1) := by decide +kernel
theorem dX11_surrounds_1 : decode cX11_surrounds 1 = .ok (.getfield 70, 3) := by decide +kernel
theorem dX11_surrounds_4 : decode cX11_surrounds 4 = .ok (.bipush 24, 2) := by decide +kernel
theorem dX11_surrounds_6 : decode cX11_surrounds 6 = .ok (.iload_n 1, 1) := by decide +kernel
theorem dX11_surrounds_7 : decode cX11_surrounds 7 = .ok (.imul, 1) := by decide +kernel
theorem dX11_surrounds_8 : decode cX11_surrounds 8 = .ok (.iload_n 2, 1) := by decide +kernel
theorem dX11_surrounds_9 : decode cX11_surrounds 9 = .ok (.iadd, 1) := by decide +kernel
theorem dX11_surrounds_10 : decode cX11_surrounds 10 = .ok (.iaload, 1) := by decide +kernel
theorem dX11_surrounds_11 : decode cX11_surrounds 11 = .ok (.aload_n 0, 1) := by decide +kernel
theorem dX11_surrounds_12 : decode cX11_surrounds 12 = .ok (.getfield 70, 3) := by decide +kernel
theorem dX11_surrounds_15 : decode cX11_surrounds 15 = .ok (.bipush 24, 2) := by decide +kernel
theorem dX11_surrounds_17 : decode cX11_surrounds 17 = .ok (.iload_n 1, 1) := by decide +kernel
theorem dX11_surrounds_18 : decode cX11_surrounds 18 = .ok (.imul, 1) := by decide +kernel
theorem dX11_surrounds_19 : decode cX11_surrounds 19 = .ok (.iload 4, 2) := by decide +kernel
theorem dX11_surrounds_21 : decode cX11_surrounds 21 = .ok (.iadd, 1) := by decide +kernel
theorem dX11_surrounds_22 : decode cX11_surrounds 22 = .ok (.iaload, 1) := by decide +kernel
theorem dX11_surrounds_23 : decode cX11_surrounds 23 = .ok (.if_icmp .ge 33, 3) := by decide +kernel
theorem dX11_surrounds_26 : decode cX11_surrounds 26 = .ok (.aload_n 0, 1) := by decide +kernel
theorem dX11_surrounds_27 : decode cX11_surrounds 27 = .ok (.getfield 70, 3) := by decide +kernel
theorem dX11_surrounds_30 : decode cX11_surrounds 30 = .ok (.bipush 24, 2) := by decide +kernel
theorem dX11_surrounds_32 : decode cX11_surrounds 32 = .ok (.iload_n 1, 1) := by decide +kernel
theorem dX11_surrounds_33 : decode cX11_surrounds 33 = .ok (.imul, 1) := by decide +kernel
theorem dX11_surrounds_34 : decode cX11_surrounds 34 = .ok (.iload_n 3, 1) := by decide +kernel
theorem dX11_surrounds_35 : decode cX11_surrounds 35 = .ok (.iadd, 1) := by decide +kernel
theorem dX11_surrounds_36 : decode cX11_surrounds 36 = .ok (.iaload, 1) := by decide +kernel
theorem dX11_surrounds_37 : decode cX11_surrounds 37 = .ok (.aload_n 0, 1) := by decide +kernel
theorem dX11_surrounds_38 : decode cX11_surrounds 38 = .ok (.getfield 70, 3) := by decide +kernel
theorem dX11_surrounds_41 : decode cX11_surrounds 41 = .ok (.bipush 24, 2) := by decide +kernel
theorem dX11_surrounds_43 : decode cX11_surrounds 43 = .ok (.iload_n 1, 1) := by decide +kernel
theorem dX11_surrounds_44 : decode cX11_surrounds 44 = .ok (.imul, 1) := by decide +kernel
theorem dX11_surrounds_45 : decode cX11_surrounds 45 = .ok (.iload 5, 2) := by decide +kernel
theorem dX11_surrounds_47 : decode cX11_surrounds 47 = .ok (.iadd, 1) := by decide +kernel
theorem dX11_surrounds_48 : decode cX11_surrounds 48 = .ok (.iaload, 1) := by decide +kernel
theorem dX11_surrounds_49 : decode cX11_surrounds 49 = .ok (.if_icmp .le 7, 3) := by decide +kernel
theorem dX11_surrounds_52 : decode cX11_surrounds 52 = .ok (.iconst 1, 1) := by decide +kernel
theorem dX11_surrounds_53 : decode cX11_surrounds 53 = .ok (.goto 4, 3) := by decide +kernel
theorem dX11_surrounds_56 : decode cX11_surrounds 56 = .ok (.iconst 0, 1) := by decide +kernel
theorem dX11_surrounds_57 : decode cX11_surrounds 57 = .ok (.ireturn, 1) := by decide +kernel
theorem dX11_behind_0 : decode cX11_behind 0 = .ok (.iconst 0, 1) := by decide +kernel
theorem dX11_behind_1 : decode cX11_behind 1 = .ok (.istore 4, 2) := by decide +kernel
theorem dX11_behind_3 : decode cX11_behind 3 = .ok (.iconst 0, 1) := by decide +kernel
theorem dX11_behind_4 : decode cX11_behind 4 = .ok (.istore 5, 2) := by decide +kernel
theorem dX11_behind_6 : decode cX11_behind 6 = .ok (.iload 5, 2) := by decide +kernel
theorem dX11_behind_8 : decode cX11_behind 8 = .ok (.iconst 4, 1) := by decide +kernel
theorem dX11_behind_9 : decode cX11_behind 9 = .ok (.if_icmp .ge 119, 3) := by decide +kernel
theorem dX11_behind_12 : decode cX11_behind 12 = .ok (.iconst 0, 1) := by decide +kernel
theorem dX11_behind_13 : decode cX11_behind 13 = .ok (.istore 6, 2) := by decide +kernel
theorem dX11_behind_15 : decode cX11_behind 15 = .ok (.iconst 0, 1) := by decide +kernel
theorem dX11_behind_16 : decode cX11_behind 16 = .ok (.istore 7, 2) := by decide +kernel
theorem dX11_behind_18 : decode cX11_behind 18 = .ok (.iload 7, 2) := by decide +kernel
theorem dX11_behind_20 : decode cX11_behind 20 = .ok (.aload_n 0, 1) := by decide +kernel
theorem dX11_behind_21 : decode cX11_behind 21 = .ok (.getfield 122, 3) := by decide +kernel
theorem dX11_behind_24 : decode cX11_behind 24 = .ok (.iconst 4, 1) := by decide +kernel
theorem dX11_behind_25 : decode cX11_behind 25 = .ok (.iload_n 1, 1) := by decide +kernel
theorem dX11_behind_26 : decode cX11_behind 26 = .ok (.imul, 1) := by decide +kernel
theorem dX11_behind_27 : decode cX11_behind 27 = .ok (.iload 5, 2) := by decide +kernel
theorem dX11_behind_29 : decode cX11_behind 29 = .ok (.iadd, 1) := by decide +kernel
theorem dX11_behind_30 : decode cX11_behind 30 = .ok (.iaload, 1) := by decide +kernel
theorem dX11_behind_31 : decode cX11_behind 31 = .ok (.if_icmp .ge 66, 3) := by decide +kernel
theorem dX11_behind_34 : decode cX11_behind 34 = .ok (.bipush 20, 2) := by decide +kernel
theorem dX11_behind_36 : decode cX11_behind 36 = .ok (.iconst 4, 1) := by decide +kernel
theorem dX11_behind_37 : decode cX11_behind 37 = .ok (.iload_n 1, 1) := by decide +kernel
theorem dX11_behind_38 : decode cX11_behind 38 = .ok (.imul, 1) := by decide +kernel
theorem dX11_behind_39 : decode cX11_behind 39 = .ok (.iload 5, 2) := by decide +kernel
theorem dX11_behind_41 : decode cX11_behind 41 = .ok (.iadd, 1) := by decide +kernel
theorem dX11_behind_42 : decode cX11_behind 42 = .ok (.imul, 1) := by decide +kernel
theorem dX11_behind_43 : decode cX11_behind 43 = .ok (.iload 7, 2) := by decide +kernel
theorem dX11_behind_45 : decode cX11_behind 45 = .ok (.iadd, 1) := by decide +kernel
theorem dX11_behind_46 : decode cX11_behind 46 = .ok (.istore 8, 2) := by decide +kernel
theorem dX11_behind_48 : decode cX11_behind 48 = .ok (.iload 6, 2) := by decide +kernel
theorem dX11_behind_50 : decode cX11_behind 50 = .ok (.aload_n 0, 1) := by decide +kernel
theorem dX11_behind_51 : decode cX11_behind 51 = .ok (.getfield 119, 3) := by decide +kernel
theorem dX11_behind_54 : decode cX11_behind 54 = .ok (.iload 8, 2) := by decide +kernel
theorem dX11_behind_56 : decode cX11_behind 56 = .ok (.iaload, 1) := by decide +kernel
theorem dX11_behind_57 : decode cX11_behind 57 = .ok (.iconst 1, 1) := by decide +kernel
theorem dX11_behind_58 : decode cX11_behind 58 = .ok (.if_icmp .ne 29, 3) := by decide +kernel
theorem dX11_behind_61 : decode cX11_behind 61 = .ok (.aload_n 0, 1) := by decide +kernel
theorem dX11_behind_62 : decode cX11_behind 62 = .ok (.getfield 113, 3) := by decide +kernel
theorem dX11_behind_65 : decode cX11_behind 65 = .ok (.iload 8, 2) := by decide +kernel
theorem dX11_behind_67 : decode cX11_behind 67 = .ok (.iaload, 1) := by decide +kernel
theorem dX11_behind_68 : decode cX11_behind 68 = .ok (.iload_n 2, 1) := by decide +kernel
theorem dX11_behind_69 : decode cX11_behind 69 = .ok (.if_icmp .ne 18, 3) := by decide +kernel
theorem dX11_behind_72 : decode cX11_behind 72 = .ok (.aload_n 0, 1) := by decide +kernel
theorem dX11_behind_73 : decode cX11_behind 73 = .ok (.getfield 116, 3) := by decide +kernel
theorem dX11_behind_76 : decode cX11_behind 76 = .ok (.iload 8, 2) := by decide +kernel
theorem dX11_behind_78 : decode cX11_behind 78 = .ok (.iaload, 1) := by decide +kernel
theorem dX11_behind_79 : decode cX11_behind 79 = .ok (.iload_n 3, 1) := by decide +kernel
theorem dX11_behind_80 : decode cX11_behind 80 = .ok (.if_icmp .ne 7, 3) := by decide +kernel
theorem dX11_behind_83 : decode cX11_behind 83 = .ok (.iconst 1, 1) := by decide +kernel
theorem dX11_behind_84 : decode cX11_behind 84 = .ok (.goto 4, 3) := by decide +kernel
theorem dX11_behind_87 : decode cX11_behind 87 = .ok (.iconst 0, 1) := by decide +kernel
theorem dX11_behind_88 : decode cX11_behind 88 = .ok (.ior, 1) := by decide +kernel
theorem dX11_behind_89 : decode cX11_behind 89 = .ok (.istore 6, 2) := by decide +kernel
theorem dX11_behind_91 : decode cX11_behind 91 = .ok (.iinc 7 1, 3) := by decide +kernel
theorem dX11_behind_94 : decode cX11_behind 94 = .ok (.goto (-76), 3) := by decide +kernel
theorem dX11_behind_97 : decode cX11_behind 97 = .ok (.iload 4, 2) := by decide +kernel
theorem dX11_behind_99 : decode cX11_behind 99 = .ok (.iload 6, 2) := by decide +kernel
theorem dX11_behind_101 : decode cX11_behind 101 = .ok (.ifCond .eq 17, 3) := by decide +kernel
theorem dX11_behind_104 : decode cX11_behind 104 = .ok (.aload_n 0, 1) := by decide +kernel
theorem dX11_behind_105 : decode cX11_behind 105 = .ok (.getfield 125, 3) := by decide +kernel
theorem dX11_behind_108 : decode cX11_behind 108 = .ok (.iconst 4, 1) := by decide +kernel
theorem dX11_behind_109 : decode cX11_behind 109 = .ok (.iload_n 1, 1) := by decide +kernel
theorem dX11_behind_110 : decode cX11_behind 110 = .ok (.imul, 1) := by decide +kernel
theorem dX11_behind_111 : decode cX11_behind 111 = .ok (.iload 5, 2) := by decide +kernel
theorem dX11_behind_113 : decode cX11_behind 113 = .ok (.iadd, 1) := by decide +kernel
theorem dX11_behind_114 : decode cX11_behind 114 = .ok (.iaload, 1) := by decide +kernel
theorem dX11_behind_115 : decode cX11_behind 115 = .ok (.goto 4, 3) := by decide +kernel
theorem dX11_behind_118 : decode cX11_behind 118 = .ok (.iconst 0, 1) := by decide +kernel
theorem dX11_behind_119 : decode cX11_behind 119 = .ok (.iadd, 1) := by decide +kernel
theorem dX11_behind_120 : decode cX11_behind 120 = .ok (.istore 4, 2) := by decide +kernel
theorem dX11_behind_122 : decode cX11_behind 122 = .ok (.iinc 5 1, 3) := by decide +kernel
theorem dX11_behind_125 : decode cX11_behind 125 = .ok (.goto (-119), 3) := by decide +kernel
theorem dX11_behind_128 : decode cX11_behind 128 = .ok (.iload 4, 2) := by decide +kernel
theorem dX11_behind_130 : decode cX11_behind 130 = .ok (.ireturn, 1) := by decide +kernel
theorem dX11_justify_0 : decode cX11_justify 0 = .ok (.aload_n 0, 1) := by decide +kernel
theorem dX11_justify_1 : decode cX11_justify 1 = .ok (.getfield 125, 3) := by decide +kernel
theorem dX11_justify_4 : decode cX11_justify 4 = .ok (.iconst 4, 1) := by decide +kernel
theorem dX11_justify_5 : decode cX11_justify 5 = .ok (.iload_n 1, 1) := by decide +kernel
theorem dX11_justify_6 : decode cX11_justify 6 = .ok (.imul, 1) := by decide +kernel
theorem dX11_justify_7 : decode cX11_justify 7 = .ok (.iaload, 1) := by decide +kernel
theorem dX11_justify_8 : decode cX11_justify 8 = .ok (.aload_n 0, 1) := by decide +kernel
theorem dX11_justify_9 : decode cX11_justify 9 = .ok (.getfield 125, 3) := by decide +kernel
theorem dX11_justify_12 : decode cX11_justify 12 = .ok (.iconst 4, 1) := by decide +kernel
theorem dX11_justify_13 : decode cX11_justify 13 = .ok (.iload_n 1, 1) := by decide +kernel
theorem dX11_justify_14 : decode cX11_justify 14 = .ok (.imul, 1) := by decide +kernel
theorem dX11_justify_15 : decode cX11_justify 15 = .ok (.iconst 1, 1) := by decide +kernel
theorem dX11_justify_16 : decode cX11_justify 16 = .ok (.iadd, 1) := by decide +kernel
theorem dX11_justify_17 : decode cX11_justify 17 = .ok (.iaload, 1) := by decide +kernel
theorem dX11_justify_18 : decode cX11_justify 18 = .ok (.iadd, 1) := by decide +kernel
theorem dX11_justify_19 : decode cX11_justify 19 = .ok (.aload_n 0, 1) := by decide +kernel
theorem dX11_justify_20 : decode cX11_justify 20 = .ok (.getfield 125, 3) := by decide +kernel
theorem dX11_justify_23 : decode cX11_justify 23 = .ok (.iconst 4, 1) := by decide +kernel
theorem dX11_justify_24 : decode cX11_justify 24 = .ok (.iload_n 1, 1) := by decide +kernel
theorem dX11_justify_25 : decode cX11_justify 25 = .ok (.imul, 1) := by decide +kernel
theorem dX11_justify_26 : decode cX11_justify 26 = .ok (.iconst 2, 1) := by decide +kernel
theorem dX11_justify_27 : decode cX11_justify 27 = .ok (.iadd, 1) := by decide +kernel
theorem dX11_justify_28 : decode cX11_justify 28 = .ok (.iaload, 1) := by decide +kernel
theorem dX11_justify_29 : decode cX11_justify 29 = .ok (.iadd, 1) := by decide +kernel
theorem dX11_justify_30 : decode cX11_justify 30 = .ok (.aload_n 0, 1) := by decide +kernel
theorem dX11_justify_31 : decode cX11_justify 31 = .ok (.getfield 125, 3) := by decide +kernel
theorem dX11_justify_34 : decode cX11_justify 34 = .ok (.iconst 4, 1) := by decide +kernel
theorem dX11_justify_35 : decode cX11_justify 35 = .ok (.iload_n 1, 1) := by decide +kernel
theorem dX11_justify_36 : decode cX11_justify 36 = .ok (.imul, 1) := by decide +kernel
theorem dX11_justify_37 : decode cX11_justify 37 = .ok (.iconst 3, 1) := by decide +kernel
theorem dX11_justify_38 : decode cX11_justify 38 = .ok (.iadd, 1) := by decide +kernel
theorem dX11_justify_39 : decode cX11_justify 39 = .ok (.iaload, 1) := by decide +kernel
theorem dX11_justify_40 : decode cX11_justify 40 = .ok (.iadd, 1) := by decide +kernel
theorem dX11_justify_41 : decode cX11_justify 41 = .ok (.istore_n 2, 1) := by decide +kernel
theorem dX11_justify_42 : decode cX11_justify 42 = .ok (.iconst 1, 1) := by decide +kernel
theorem dX11_justify_43 : decode cX11_justify 43 = .ok (.istore_n 3, 1) := by decide +kernel
theorem dX11_justify_44 : decode cX11_justify 44 = .ok (.iload_n 3, 1) := by decide +kernel
theorem dX11_justify_45 : decode cX11_justify 45 = .ok (.ifCond .eq 212, 3) := by decide +kernel
theorem dX11_justify_48 : decode cX11_justify 48 = .ok (.iconst 0, 1) := by decide +kernel
theorem dX11_justify_49 : decode cX11_justify 49 = .ok (.istore_n 3, 1) := by decide +kernel
theorem dX11_justify_50 : decode cX11_justify 50 = .ok (.iconst 0, 1) := by decide +kernel
theorem dX11_justify_51 : decode cX11_justify 51 = .ok (.istore 4, 2) := by decide +kernel
theorem dX11_justify_53 : decode cX11_justify 53 = .ok (.iload 4, 2) := by decide +kernel
theorem dX11_justify_55 : decode cX11_justify 55 = .ok (.aload_n 0, 1) := by decide +kernel
theorem dX11_justify_56 : decode cX11_justify 56 = .ok (.getfield 34, 3) := by decide +kernel
theorem dX11_justify_59 : decode cX11_justify 59 = .ok (.iload_n 1, 1) := by decide +kernel
theorem dX11_justify_60 : decode cX11_justify 60 = .ok (.iaload, 1) := by decide +kernel
theorem dX11_justify_61 : decode cX11_justify 61 = .ok (.if_icmp .ge 193, 3) := by decide +kernel
theorem dX11_justify_64 : decode cX11_justify 64 = .ok (.iconst 0, 1) := by decide +kernel
theorem dX11_justify_65 : decode cX11_justify 65 = .ok (.istore 5, 2) := by decide +kernel
theorem dX11_justify_67 : decode cX11_justify 67 = .ok (.iload 5, 2) := by decide +kernel
theorem dX11_justify_69 : decode cX11_justify 69 = .ok (.aload_n 0, 1) := by decide +kernel
theorem dX11_justify_70 : decode cX11_justify 70 = .ok (.getfield 34, 3) := by decide +kernel
theorem dX11_justify_73 : decode cX11_justify 73 = .ok (.iload_n 1, 1) := by decide +kernel
theorem dX11_justify_74 : decode cX11_justify 74 = .ok (.iaload, 1) := by decide +kernel
theorem dX11_justify_75 : decode cX11_justify 75 = .ok (.if_icmp .ge 173, 3) := by decide +kernel
theorem dX11_justify_78 : decode cX11_justify 78 = .ok (.aload_n 0, 1) := by decide +kernel
theorem dX11_justify_79 : decode cX11_justify 79 = .ok (.getfield 107, 3) := by decide +kernel
theorem dX11_justify_82 : decode cX11_justify 82 = .ok (.bipush 24, 2) := by decide +kernel
theorem dX11_justify_84 : decode cX11_justify 84 = .ok (.iload_n 1, 1) := by decide +kernel
theorem dX11_justify_85 : decode cX11_justify 85 = .ok (.imul, 1) := by decide +kernel
theorem dX11_justify_86 : decode cX11_justify 86 = .ok (.iload 4, 2) := by decide +kernel
theorem dX11_justify_88 : decode cX11_justify 88 = .ok (.iadd, 1) := by decide +kernel
theorem dX11_justify_89 : decode cX11_justify 89 = .ok (.iaload, 1) := by decide +kernel
theorem dX11_justify_90 : decode cX11_justify 90 = .ok (.iconst 1, 1) := by decide +kernel
theorem dX11_justify_91 : decode cX11_justify 91 = .ok (.if_icmp .ne 157, 3) := by decide +kernel
theorem dX11_justify_94 : decode cX11_justify 94 = .ok (.aload_n 0, 1) := by decide +kernel
theorem dX11_justify_95 : decode cX11_justify 95 = .ok (.iload_n 1, 1) := by decide +kernel
theorem dX11_justify_96 : decode cX11_justify 96 = .ok (.iload 4, 2) := by decide +kernel
theorem dX11_justify_98 : decode cX11_justify 98 = .ok (.iload 5, 2) := by decide +kernel
theorem dX11_justify_100 : decode cX11_justify 100 = .ok (.invokevirtual 378, 3) := by decide +kernel
theorem dX11_justify_103 : decode cX11_justify 103 = .ok (.istore 6, 2) := by decide +kernel
theorem dX11_justify_105 : decode cX11_justify 105 = .ok (.iload 6, 2) := by decide +kernel
theorem dX11_justify_107 : decode cX11_justify 107 = .ok (.ifCond .le 17, 3) := by decide +kernel
theorem dX11_justify_110 : decode cX11_justify 110 = .ok (.iconst 3, 1) := by decide +kernel
theorem dX11_justify_111 : decode cX11_justify 111 = .ok (.iload 6, 2) := by decide +kernel
theorem dX11_justify_113 : decode cX11_justify 113 = .ok (.imul, 1) := by decide +kernel
theorem dX11_justify_114 : decode cX11_justify 114 = .ok (.iconst 2, 1) := by decide +kernel
theorem dX11_justify_115 : decode cX11_justify 115 = .ok (.iload_n 2, 1) := by decide +kernel
theorem dX11_justify_116 : decode cX11_justify 116 = .ok (.imul, 1) := by decide +kernel
theorem dX11_justify_117 : decode cX11_justify 117 = .ok (.if_icmp .lt 7, 3) := by decide +kernel
theorem dX11_justify_120 : decode cX11_justify 120 = .ok (.iconst 1, 1) := by decide +kernel
theorem dX11_justify_121 : decode cX11_justify 121 = .ok (.goto 4, 3) := by decide +kernel
theorem dX11_justify_124 : decode cX11_justify 124 = .ok (.iconst 0, 1) := by decide +kernel
theorem dX11_justify_125 : decode cX11_justify 125 = .ok (.istore 7, 2) := by decide +kernel
theorem dX11_justify_127 : decode cX11_justify 127 = .ok (.iload_n 3, 1) := by decide +kernel
theorem dX11_justify_128 : decode cX11_justify 128 = .ok (.iload 7, 2) := by decide +kernel
theorem dX11_justify_130 : decode cX11_justify 130 = .ok (.ifCond .eq 29, 3) := by decide +kernel
theorem dX11_justify_133 : decode cX11_justify 133 = .ok (.aload_n 0, 1) := by decide +kernel
theorem dX11_justify_134 : decode cX11_justify 134 = .ok (.getfield 110, 3) := by decide +kernel
theorem dX11_justify_137 : decode cX11_justify 137 = .ok (.sipush 576, 3) := by decide +kernel
theorem dX11_justify_140 : decode cX11_justify 140 = .ok (.iload_n 1, 1) := by decide +kernel
theorem dX11_justify_141 : decode cX11_justify 141 = .ok (.imul, 1) := by decide +kernel
theorem dX11_justify_142 : decode cX11_justify 142 = .ok (.bipush 24, 2) := by decide +kernel
theorem dX11_justify_144 : decode cX11_justify 144 = .ok (.iload 4, 2) := by decide +kernel
theorem dX11_justify_146 : decode cX11_justify 146 = .ok (.imul, 1) := by decide +kernel
theorem dX11_justify_147 : decode cX11_justify 147 = .ok (.iadd, 1) := by decide +kernel
theorem dX11_justify_148 : decode cX11_justify 148 = .ok (.iload 5, 2) := by decide +kernel
theorem dX11_justify_150 : decode cX11_justify 150 = .ok (.iadd, 1) := by decide +kernel
theorem dX11_justify_151 : decode cX11_justify 151 = .ok (.iaload, 1) := by decide +kernel
theorem dX11_justify_152 : decode cX11_justify 152 = .ok (.ifCond .ne 7, 3) := by decide +kernel
theorem dX11_justify_155 : decode cX11_justify 155 = .ok (.iconst 1, 1) := by decide +kernel
theorem dX11_justify_156 : decode cX11_justify 156 = .ok (.goto 4, 3) := by decide +kernel
theorem dX11_justify_159 : decode cX11_justify 159 = .ok (.iconst 0, 1) := by decide +kernel
theorem dX11_justify_160 : decode cX11_justify 160 = .ok (.ior, 1) := by decide +kernel
theorem dX11_justify_161 : decode cX11_justify 161 = .ok (.istore_n 3, 1) := by decide +kernel
theorem dX11_justify_162 : decode cX11_justify 162 = .ok (.aload_n 0, 1) := by decide +kernel
theorem dX11_justify_163 : decode cX11_justify 163 = .ok (.getfield 110, 3) := by decide +kernel
theorem dX11_justify_166 : decode cX11_justify 166 = .ok (.sipush 576, 3) := by decide +kernel
theorem dX11_justify_169 : decode cX11_justify 169 = .ok (.iload_n 1, 1) := by decide +kernel
theorem dX11_justify_170 : decode cX11_justify 170 = .ok (.imul, 1) := by decide +kernel
theorem dX11_justify_171 : decode cX11_justify 171 = .ok (.bipush 24, 2) := by decide +kernel
theorem dX11_justify_173 : decode cX11_justify 173 = .ok (.iload 4, 2) := by decide +kernel
theorem dX11_justify_175 : decode cX11_justify 175 = .ok (.imul, 1) := by decide +kernel
theorem dX11_justify_176 : decode cX11_justify 176 = .ok (.iadd, 1) := by decide +kernel
theorem dX11_justify_177 : decode cX11_justify 177 = .ok (.iload 5, 2) := by decide +kernel
theorem dX11_justify_179 : decode cX11_justify 179 = .ok (.iadd, 1) := by decide +kernel
theorem dX11_justify_180 : decode cX11_justify 180 = .ok (.iload 7, 2) := by decide +kernel
theorem dX11_justify_182 : decode cX11_justify 182 = .ok (.ifCond .eq 7, 3) := by decide +kernel
theorem dX11_justify_185 : decode cX11_justify 185 = .ok (.iconst 1, 1) := by decide +kernel
theorem dX11_justify_186 : decode cX11_justify 186 = .ok (.goto 22, 3) := by decide +kernel
theorem dX11_justify_189 : decode cX11_justify 189 = .ok (.aload_n 0, 1) := by decide +kernel
theorem dX11_justify_190 : decode cX11_justify 190 = .ok (.getfield 110, 3) := by decide +kernel
theorem dX11_justify_193 : decode cX11_justify 193 = .ok (.sipush 576, 3) := by decide +kernel
theorem dX11_justify_196 : decode cX11_justify 196 = .ok (.iload_n 1, 1) := by decide +kernel
theorem dX11_justify_197 : decode cX11_justify 197 = .ok (.imul, 1) := by decide +kernel
theorem dX11_justify_198 : decode cX11_justify 198 = .ok (.bipush 24, 2) := by decide +kernel
theorem dX11_justify_200 : decode cX11_justify 200 = .ok (.iload 4, 2) := by decide +kernel
theorem dX11_justify_202 : decode cX11_justify 202 = .ok (.imul, 1) := by decide +kernel
theorem dX11_justify_203 : decode cX11_justify 203 = .ok (.iadd, 1) := by decide +kernel
theorem dX11_justify_204 : decode cX11_justify 204 = .ok (.iload 5, 2) := by decide +kernel
theorem dX11_justify_206 : decode cX11_justify 206 = .ok (.iadd, 1) := by decide +kernel
theorem dX11_justify_207 : decode cX11_justify 207 = .ok (.iaload, 1) := by decide +kernel
theorem dX11_justify_208 : decode cX11_justify 208 = .ok (.iastore, 1) := by decide +kernel
theorem dX11_justify_209 : decode cX11_justify 209 = .ok (.aload_n 0, 1) := by decide +kernel
theorem dX11_justify_210 : decode cX11_justify 210 = .ok (.getfield 107, 3) := by decide +kernel
theorem dX11_justify_213 : decode cX11_justify 213 = .ok (.bipush 24, 2) := by decide +kernel
theorem dX11_justify_215 : decode cX11_justify 215 = .ok (.iload_n 1, 1) := by decide +kernel
theorem dX11_justify_216 : decode cX11_justify 216 = .ok (.imul, 1) := by decide +kernel
theorem dX11_justify_217 : decode cX11_justify 217 = .ok (.iload 5, 2) := by decide +kernel
theorem dX11_justify_219 : decode cX11_justify 219 = .ok (.iadd, 1) := by decide +kernel
theorem dX11_justify_220 : decode cX11_justify 220 = .ok (.iload 7, 2) := by decide +kernel
theorem dX11_justify_222 : decode cX11_justify 222 = .ok (.ifCond .eq 7, 3) := by decide +kernel
theorem dX11_justify_225 : decode cX11_justify 225 = .ok (.iconst 1, 1) := by decide +kernel
theorem dX11_justify_226 : decode cX11_justify 226 = .ok (.goto 15, 3) := by decide +kernel
theorem dX11_justify_229 : decode cX11_justify 229 = .ok (.aload_n 0, 1) := by decide +kernel
theorem dX11_justify_230 : decode cX11_justify 230 = .ok (.getfield 107, 3) := by decide +kernel
theorem dX11_justify_233 : decode cX11_justify 233 = .ok (.bipush 24, 2) := by decide +kernel
theorem dX11_justify_235 : decode cX11_justify 235 = .ok (.iload_n 1, 1) := by decide +kernel
theorem dX11_justify_236 : decode cX11_justify 236 = .ok (.imul, 1) := by decide +kernel
theorem dX11_justify_237 : decode cX11_justify 237 = .ok (.iload 5, 2) := by decide +kernel
theorem dX11_justify_239 : decode cX11_justify 239 = .ok (.iadd, 1) := by decide +kernel
theorem dX11_justify_240 : decode cX11_justify 240 = .ok (.iaload, 1) := by decide +kernel
theorem dX11_justify_241 : decode cX11_justify 241 = .ok (.iastore, 1) := by decide +kernel
theorem dX11_justify_242 : decode cX11_justify 242 = .ok (.iinc 5 1, 3) := by decide +kernel
theorem dX11_justify_245 : decode cX11_justify 245 = .ok (.goto (-178), 3) := by decide +kernel
theorem dX11_justify_248 : decode cX11_justify 248 = .ok (.iinc 4 1, 3) := by decide +kernel
theorem dX11_justify_251 : decode cX11_justify 251 = .ok (.goto (-198), 3) := by decide +kernel
theorem dX11_justify_254 : decode cX11_justify 254 = .ok (.goto (-210), 3) := by decide +kernel
theorem dX11_justify_257 : decode cX11_justify 257 = .ok (.iconst (-1), 1) := by decide +kernel
theorem dX11_justify_258 : decode cX11_justify 258 = .ok (.istore 4, 2) := by decide +kernel
theorem dX11_justify_260 : decode cX11_justify 260 = .ok (.iconst 0, 1) := by decide +kernel
theorem dX11_justify_261 : decode cX11_justify 261 = .ok (.istore 5, 2) := by decide +kernel
theorem dX11_justify_263 : decode cX11_justify 263 = .ok (.iload 5, 2) := by decide +kernel
theorem dX11_justify_265 : decode cX11_justify 265 = .ok (.aload_n 0, 1) := by decide +kernel
theorem dX11_justify_266 : decode cX11_justify 266 = .ok (.getfield 34, 3) := by decide +kernel
theorem dX11_justify_269 : decode cX11_justify 269 = .ok (.iload_n 1, 1) := by decide +kernel
theorem dX11_justify_270 : decode cX11_justify 270 = .ok (.iaload, 1) := by decide +kernel
theorem dX11_justify_271 : decode cX11_justify 271 = .ok (.if_icmp .ge 195, 3) := by decide +kernel
theorem dX11_justify_274 : decode cX11_justify 274 = .ok (.iconst 0, 1) := by decide +kernel
theorem dX11_justify_275 : decode cX11_justify 275 = .ok (.istore 6, 2) := by decide +kernel
theorem dX11_justify_277 : decode cX11_justify 277 = .ok (.iconst 0, 1) := by decide +kernel
theorem dX11_justify_278 : decode cX11_justify 278 = .ok (.istore 7, 2) := by decide +kernel
theorem dX11_justify_280 : decode cX11_justify 280 = .ok (.iload 7, 2) := by decide +kernel
theorem dX11_justify_282 : decode cX11_justify 282 = .ok (.aload_n 0, 1) := by decide +kernel
theorem dX11_justify_283 : decode cX11_justify 283 = .ok (.getfield 34, 3) := by decide +kernel
theorem dX11_justify_286 : decode cX11_justify 286 = .ok (.iload_n 1, 1) := by decide +kernel
theorem dX11_justify_287 : decode cX11_justify 287 = .ok (.iaload, 1) := by decide +kernel
theorem dX11_justify_288 : decode cX11_justify 288 = .ok (.if_icmp .ge 71, 3) := by decide +kernel
theorem dX11_justify_291 : decode cX11_justify 291 = .ok (.iload 6, 2) := by decide +kernel
theorem dX11_justify_293 : decode cX11_justify 293 = .ok (.aload_n 0, 1) := by decide +kernel
theorem dX11_justify_294 : decode cX11_justify 294 = .ok (.getfield 110, 3) := by decide +kernel
theorem dX11_justify_297 : decode cX11_justify 297 = .ok (.sipush 576, 3) := by decide +kernel
theorem dX11_justify_300 : decode cX11_justify 300 = .ok (.iload_n 1, 1) := by decide +kernel
theorem dX11_justify_301 : decode cX11_justify 301 = .ok (.imul, 1) := by decide +kernel
theorem dX11_justify_302 : decode cX11_justify 302 = .ok (.bipush 24, 2) := by decide +kernel
theorem dX11_justify_304 : decode cX11_justify 304 = .ok (.iload 5, 2) := by decide +kernel
theorem dX11_justify_306 : decode cX11_justify 306 = .ok (.imul, 1) := by decide +kernel
theorem dX11_justify_307 : decode cX11_justify 307 = .ok (.iadd, 1) := by decide +kernel
theorem dX11_justify_308 : decode cX11_justify 308 = .ok (.iload 7, 2) := by decide +kernel
theorem dX11_justify_310 : decode cX11_justify 310 = .ok (.iadd, 1) := by decide +kernel
theorem dX11_justify_311 : decode cX11_justify 311 = .ok (.iaload, 1) := by decide +kernel
theorem dX11_justify_312 : decode cX11_justify 312 = .ok (.iconst 1, 1) := by decide +kernel
theorem dX11_justify_313 : decode cX11_justify 313 = .ok (.if_icmp .ne 36, 3) := by decide +kernel
theorem dX11_justify_316 : decode cX11_justify 316 = .ok (.aload_n 0, 1) := by decide +kernel
theorem dX11_justify_317 : decode cX11_justify 317 = .ok (.getfield 70, 3) := by decide +kernel
theorem dX11_justify_320 : decode cX11_justify 320 = .ok (.bipush 24, 2) := by decide +kernel
theorem dX11_justify_322 : decode cX11_justify 322 = .ok (.iload_n 1, 1) := by decide +kernel
theorem dX11_justify_323 : decode cX11_justify 323 = .ok (.imul, 1) := by decide +kernel
theorem dX11_justify_324 : decode cX11_justify 324 = .ok (.iload 7, 2) := by decide +kernel
theorem dX11_justify_326 : decode cX11_justify 326 = .ok (.iadd, 1) := by decide +kernel
theorem dX11_justify_327 : decode cX11_justify 327 = .ok (.iaload, 1) := by decide +kernel
theorem dX11_justify_328 : decode cX11_justify 328 = .ok (.aload_n 0, 1) := by decide +kernel
theorem dX11_justify_329 : decode cX11_justify 329 = .ok (.getfield 70, 3) := by decide +kernel
theorem dX11_justify_332 : decode cX11_justify 332 = .ok (.bipush 24, 2) := by decide +kernel
theorem dX11_justify_334 : decode cX11_justify 334 = .ok (.iload_n 1, 1) := by decide +kernel
theorem dX11_justify_335 : decode cX11_justify 335 = .ok (.imul, 1) := by decide +kernel
theorem dX11_justify_336 : decode cX11_justify 336 = .ok (.iload 5, 2) := by decide +kernel
theorem dX11_justify_338 : decode cX11_justify 338 = .ok (.iadd, 1) := by decide +kernel
theorem dX11_justify_339 : decode cX11_justify 339 = .ok (.iaload, 1) := by decide +kernel
theorem dX11_justify_340 : decode cX11_justify 340 = .ok (.iconst 1, 1) := by decide +kernel
theorem dX11_justify_341 : decode cX11_justify 341 = .ok (.iadd, 1) := by decide +kernel
theorem dX11_justify_342 : decode cX11_justify 342 = .ok (.if_icmp .ne 7, 3) := by decide +kernel
theorem dX11_justify_345 : decode cX11_justify 345 = .ok (.iconst 1, 1) := by decide +kernel
theorem dX11_justify_346 : decode cX11_justify 346 = .ok (.goto 4, 3) := by decide +kernel
theorem dX11_justify_349 : decode cX11_justify 349 = .ok (.iconst 0, 1) := by decide +kernel
theorem dX11_justify_350 : decode cX11_justify 350 = .ok (.ior, 1) := by decide +kernel
theorem dX11_justify_351 : decode cX11_justify 351 = .ok (.istore 6, 2) := by decide +kernel
theorem dX11_justify_353 : decode cX11_justify 353 = .ok (.iinc 7 1, 3) := by decide +kernel
theorem dX11_justify_356 : decode cX11_justify 356 = .ok (.goto (-76), 3) := by decide +kernel
theorem dX11_justify_359 : decode cX11_justify 359 = .ok (.iload 4, 2) := by decide +kernel
theorem dX11_justify_361 : decode cX11_justify 361 = .ok (.ifCond .lt 30, 3) := by decide +kernel
theorem dX11_justify_364 : decode cX11_justify 364 = .ok (.aload_n 0, 1) := by decide +kernel
theorem dX11_justify_365 : decode cX11_justify 365 = .ok (.getfield 70, 3) := by decide +kernel
theorem dX11_justify_368 : decode cX11_justify 368 = .ok (.bipush 24, 2) := by decide +kernel
theorem dX11_justify_370 : decode cX11_justify 370 = .ok (.iload_n 1, 1) := by decide +kernel
theorem dX11_justify_371 : decode cX11_justify 371 = .ok (.imul, 1) := by decide +kernel
theorem dX11_justify_372 : decode cX11_justify 372 = .ok (.iload 5, 2) := by decide +kernel
theorem dX11_justify_374 : decode cX11_justify 374 = .ok (.iadd, 1) := by decide +kernel
theorem dX11_justify_375 : decode cX11_justify 375 = .ok (.iaload, 1) := by decide +kernel
theorem dX11_justify_376 : decode cX11_justify 376 = .ok (.aload_n 0, 1) := by decide +kernel
theorem dX11_justify_377 : decode cX11_justify 377 = .ok (.getfield 70, 3) := by decide +kernel
theorem dX11_justify_380 : decode cX11_justify 380 = .ok (.bipush 24, 2) := by decide +kernel
theorem dX11_justify_382 : decode cX11_justify 382 = .ok (.iload_n 1, 1) := by decide +kernel
theorem dX11_justify_383 : decode cX11_justify 383 = .ok (.imul, 1) := by decide +kernel
theorem dX11_justify_384 : decode cX11_justify 384 = .ok (.iload 4, 2) := by decide +kernel
theorem dX11_justify_386 : decode cX11_justify 386 = .ok (.iadd, 1) := by decide +kernel
theorem dX11_justify_387 : decode cX11_justify 387 = .ok (.iaload, 1) := by decide +kernel
theorem dX11_justify_388 : decode cX11_justify 388 = .ok (.if_icmp .le 7, 3) := by decide +kernel
theorem dX11_justify_391 : decode cX11_justify 391 = .ok (.iconst 1, 1) := by decide +kernel
theorem dX11_justify_392 : decode cX11_justify 392 = .ok (.goto 4, 3) := by decide +kernel
theorem dX11_justify_395 : decode cX11_justify 395 = .ok (.iconst 0, 1) := by decide +kernel
theorem dX11_justify_396 : decode cX11_justify 396 = .ok (.istore 7, 2) := by decide +kernel
theorem dX11_justify_398 : decode cX11_justify 398 = .ok (.iload 6, 2) := by decide +kernel
theorem dX11_justify_400 : decode cX11_justify 400 = .ok (.ifCond .eq 56, 3) := by decide +kernel
theorem dX11_justify_403 : decode cX11_justify 403 = .ok (.aload_n 0, 1) := by decide +kernel
theorem dX11_justify_404 : decode cX11_justify 404 = .ok (.getfield 107, 3) := by decide +kernel
theorem dX11_justify_407 : decode cX11_justify 407 = .ok (.bipush 24, 2) := by decide +kernel
theorem dX11_justify_409 : decode cX11_justify 409 = .ok (.iload_n 1, 1) := by decide +kernel
theorem dX11_justify_410 : decode cX11_justify 410 = .ok (.imul, 1) := by decide +kernel
theorem dX11_justify_411 : decode cX11_justify 411 = .ok (.iload 5, 2) := by decide +kernel
theorem dX11_justify_413 : decode cX11_justify 413 = .ok (.iadd, 1) := by decide +kernel
theorem dX11_justify_414 : decode cX11_justify 414 = .ok (.iaload, 1) := by decide +kernel
theorem dX11_justify_415 : decode cX11_justify 415 = .ok (.iconst 1, 1) := by decide +kernel
theorem dX11_justify_416 : decode cX11_justify 416 = .ok (.if_icmp .ne 40, 3) := by decide +kernel
theorem dX11_justify_419 : decode cX11_justify 419 = .ok (.iload 5, 2) := by decide +kernel
theorem dX11_justify_421 : decode cX11_justify 421 = .ok (.aload_n 0, 1) := by decide +kernel
theorem dX11_justify_422 : decode cX11_justify 422 = .ok (.getfield 37, 3) := by decide +kernel
theorem dX11_justify_425 : decode cX11_justify 425 = .ok (.iload_n 1, 1) := by decide +kernel
theorem dX11_justify_426 : decode cX11_justify 426 = .ok (.iaload, 1) := by decide +kernel
theorem dX11_justify_427 : decode cX11_justify 427 = .ok (.if_icmp .eq 29, 3) := by decide +kernel
theorem dX11_justify_430 : decode cX11_justify 430 = .ok (.aload_n 0, 1) := by decide +kernel
theorem dX11_justify_431 : decode cX11_justify 431 = .ok (.iload_n 1, 1) := by decide +kernel
theorem dX11_justify_432 : decode cX11_justify 432 = .ok (.iload 5, 2) := by decide +kernel
theorem dX11_justify_434 : decode cX11_justify 434 = .ok (.aload_n 0, 1) := by decide +kernel
theorem dX11_justify_435 : decode cX11_justify 435 = .ok (.getfield 37, 3) := by decide +kernel
theorem dX11_justify_438 : decode cX11_justify 438 = .ok (.iload_n 1, 1) := by decide +kernel
theorem dX11_justify_439 : decode cX11_justify 439 = .ok (.iaload, 1) := by decide +kernel
theorem dX11_justify_440 : decode cX11_justify 440 = .ok (.invokevirtual 361, 3) := by decide +kernel
theorem dX11_justify_443 : decode cX11_justify 443 = .ok (.ifCond .eq 13, 3) := by decide +kernel
theorem dX11_justify_446 : decode cX11_justify 446 = .ok (.iload 7, 2) := by decide +kernel
theorem dX11_justify_448 : decode cX11_justify 448 = .ok (.ifCond .eq 8, 3) := by decide +kernel
theorem dX11_justify_451 : decode cX11_justify 451 = .ok (.iload 5, 2) := by decide +kernel
theorem dX11_justify_453 : decode cX11_justify 453 = .ok (.goto 5, 3) := by decide +kernel
theorem dX11_justify_456 : decode cX11_justify 456 = .ok (.iload 4, 2) := by decide +kernel
theorem dX11_justify_458 : decode cX11_justify 458 = .ok (.istore 4, 2) := by decide +kernel
theorem dX11_justify_460 : decode cX11_justify 460 = .ok (.iinc 5 1, 3) := by decide +kernel
theorem dX11_justify_463 : decode cX11_justify 463 = .ok (.goto (-200), 3) := by decide +kernel
theorem dX11_justify_466 : decode cX11_justify 466 = .ok (.aload_n 0, 1) := by decide +kernel
theorem dX11_justify_467 : decode cX11_justify 467 = .ok (.getfield 37, 3) := by decide +kernel
theorem dX11_justify_470 : decode cX11_justify 470 = .ok (.iload_n 1, 1) := by decide +kernel
theorem dX11_justify_471 : decode cX11_justify 471 = .ok (.iload 4, 2) := by decide +kernel
theorem dX11_justify_473 : decode cX11_justify 473 = .ok (.ifCond .ge 12, 3) := by decide +kernel
theorem dX11_justify_476 : decode cX11_justify 476 = .ok (.aload_n 0, 1) := by decide +kernel
theorem dX11_justify_477 : decode cX11_justify 477 = .ok (.getfield 37, 3) := by decide +kernel
theorem dX11_justify_480 : decode cX11_justify 480 = .ok (.iload_n 1, 1) := by decide +kernel
theorem dX11_justify_481 : decode cX11_justify 481 = .ok (.iaload, 1) := by decide +kernel
theorem dX11_justify_482 : decode cX11_justify 482 = .ok (.goto 5, 3) := by decide +kernel
theorem dX11_justify_485 : decode cX11_justify 485 = .ok (.iload 4, 2) := by decide +kernel
theorem dX11_justify_487 : decode cX11_justify 487 = .ok (.iastore, 1) := by decide +kernel
theorem dX11_justify_488 : decode cX11_justify 488 = .ok (.return_, 1) := by decide +kernel
theorem dX11_vote_0 : decode cX11_vote 0 = .ok (.aload_n 0, 1) := by decide +kernel
theorem dX11_vote_1 : decode cX11_vote 1 = .ok (.iload_n 1, 1) := by decide +kernel
theorem dX11_vote_2 : decode cX11_vote 2 = .ok (.iload_n 3, 1) := by decide +kernel
theorem dX11_vote_3 : decode cX11_vote 3 = .ok (.invokevirtual 349, 3) := by decide +kernel
theorem dX11_vote_6 : decode cX11_vote 6 = .ok (.ifCond .eq 27, 3) := by decide +kernel
theorem dX11_vote_9 : decode cX11_vote 9 = .ok (.aload_n 0, 1) := by decide +kernel
theorem dX11_vote_10 : decode cX11_vote 10 = .ok (.iload_n 1, 1) := by decide +kernel
theorem dX11_vote_11 : decode cX11_vote 11 = .ok (.iload 4, 2) := by decide +kernel
theorem dX11_vote_13 : decode cX11_vote 13 = .ok (.invokevirtual 349, 3) := by decide +kernel
theorem dX11_vote_16 : decode cX11_vote 16 = .ok (.ifCond .eq 17, 3) := by decide +kernel
theorem dX11_vote_19 : decode cX11_vote 19 = .ok (.aload_n 0, 1) := by decide +kernel
theorem dX11_vote_20 : decode cX11_vote 20 = .ok (.iload_n 2, 1) := by decide +kernel
theorem dX11_vote_21 : decode cX11_vote 21 = .ok (.iconst 0, 1) := by decide +kernel
theorem dX11_vote_22 : decode cX11_vote 22 = .ok (.iconst 3, 1) := by decide +kernel
theorem dX11_vote_23 : decode cX11_vote 23 = .ok (.invokevirtual 178, 3) := by decide +kernel
theorem dX11_vote_26 : decode cX11_vote 26 = .ok (.ifCond .eq 7, 3) := by decide +kernel
theorem dX11_vote_29 : decode cX11_vote 29 = .ok (.iconst 1, 1) := by decide +kernel
theorem dX11_vote_30 : decode cX11_vote 30 = .ok (.goto 4, 3) := by decide +kernel
theorem dX11_vote_33 : decode cX11_vote 33 = .ok (.iconst 0, 1) := by decide +kernel
theorem dX11_vote_34 : decode cX11_vote 34 = .ok (.istore 5, 2) := by decide +kernel
theorem dX11_vote_36 : decode cX11_vote 36 = .ok (.iload 5, 2) := by decide +kernel
theorem dX11_vote_38 : decode cX11_vote 38 = .ok (.ifCond .eq 24, 3) := by decide +kernel
theorem dX11_vote_41 : decode cX11_vote 41 = .ok (.iload_n 3, 1) := by decide +kernel
theorem dX11_vote_42 : decode cX11_vote 42 = .ok (.iload 4, 2) := by decide +kernel
theorem dX11_vote_44 : decode cX11_vote 44 = .ok (.if_icmp .eq 18, 3) := by decide +kernel
theorem dX11_vote_47 : decode cX11_vote 47 = .ok (.aload_n 0, 1) := by decide +kernel
theorem dX11_vote_48 : decode cX11_vote 48 = .ok (.iload_n 1, 1) := by decide +kernel
theorem dX11_vote_49 : decode cX11_vote 49 = .ok (.iload 4, 2) := by decide +kernel
theorem dX11_vote_51 : decode cX11_vote 51 = .ok (.iload_n 3, 1) := by decide +kernel
theorem dX11_vote_52 : decode cX11_vote 52 = .ok (.invokevirtual 361, 3) := by decide +kernel
theorem dX11_vote_55 : decode cX11_vote 55 = .ok (.ifCond .eq 7, 3) := by decide +kernel
theorem dX11_vote_58 : decode cX11_vote 58 = .ok (.iconst 1, 1) := by decide +kernel
theorem dX11_vote_59 : decode cX11_vote 59 = .ok (.goto 4, 3) := by decide +kernel
theorem dX11_vote_62 : decode cX11_vote 62 = .ok (.iconst 0, 1) := by decide +kernel
theorem dX11_vote_63 : decode cX11_vote 63 = .ok (.istore 6, 2) := by decide +kernel
theorem dX11_vote_65 : decode cX11_vote 65 = .ok (.iload 5, 2) := by decide +kernel
theorem dX11_vote_67 : decode cX11_vote 67 = .ok (.ifCond .eq 11, 3) := by decide +kernel
theorem dX11_vote_70 : decode cX11_vote 70 = .ok (.iconst 4, 1) := by decide +kernel
theorem dX11_vote_71 : decode cX11_vote 71 = .ok (.iload_n 1, 1) := by decide +kernel
theorem dX11_vote_72 : decode cX11_vote 72 = .ok (.imul, 1) := by decide +kernel
theorem dX11_vote_73 : decode cX11_vote 73 = .ok (.iload_n 2, 1) := by decide +kernel
theorem dX11_vote_74 : decode cX11_vote 74 = .ok (.iadd, 1) := by decide +kernel
theorem dX11_vote_75 : decode cX11_vote 75 = .ok (.goto 4, 3) := by decide +kernel
theorem dX11_vote_78 : decode cX11_vote 78 = .ok (.iconst 0, 1) := by decide +kernel
theorem dX11_vote_79 : decode cX11_vote 79 = .ok (.istore 7, 2) := by decide +kernel
theorem dX11_vote_81 : decode cX11_vote 81 = .ok (.aload_n 0, 1) := by decide +kernel
theorem dX11_vote_82 : decode cX11_vote 82 = .ok (.iload 5, 2) := by decide +kernel
theorem dX11_vote_84 : decode cX11_vote 84 = .ok (.ifCond .ne 7, 3) := by decide +kernel
theorem dX11_vote_87 : decode cX11_vote 87 = .ok (.iconst 1, 1) := by decide +kernel
theorem dX11_vote_88 : decode cX11_vote 88 = .ok (.goto 39, 3) := by decide +kernel
theorem dX11_vote_91 : decode cX11_vote 91 = .ok (.iload 6, 2) := by decide +kernel
theorem dX11_vote_93 : decode cX11_vote 93 = .ok (.ifCond .ne 7, 3) := by decide +kernel
theorem dX11_vote_96 : decode cX11_vote 96 = .ok (.iconst 2, 1) := by decide +kernel
theorem dX11_vote_97 : decode cX11_vote 97 = .ok (.goto 30, 3) := by decide +kernel
theorem dX11_vote_100 : decode cX11_vote 100 = .ok (.aload_n 0, 1) := by decide +kernel
theorem dX11_vote_101 : decode cX11_vote 101 = .ok (.getfield 125, 3) := by decide +kernel
theorem dX11_vote_104 : decode cX11_vote 104 = .ok (.iload 7, 2) := by decide +kernel
theorem dX11_vote_106 : decode cX11_vote 106 = .ok (.iaload, 1) := by decide +kernel
theorem dX11_vote_107 : decode cX11_vote 107 = .ok (.ifCond .eq 15, 3) := by decide +kernel
theorem dX11_vote_110 : decode cX11_vote 110 = .ok (.aload_n 0, 1) := by decide +kernel
theorem dX11_vote_111 : decode cX11_vote 111 = .ok (.getfield 122, 3) := by decide +kernel
theorem dX11_vote_114 : decode cX11_vote 114 = .ok (.iload 7, 2) := by decide +kernel
theorem dX11_vote_116 : decode cX11_vote 116 = .ok (.iaload, 1) := by decide +kernel
theorem dX11_vote_117 : decode cX11_vote 117 = .ok (.bipush 20, 2) := by decide +kernel
theorem dX11_vote_119 : decode cX11_vote 119 = .ok (.if_icmp .ne 7, 3) := by decide +kernel
theorem dX11_vote_122 : decode cX11_vote 122 = .ok (.iconst 3, 1) := by decide +kernel
theorem dX11_vote_123 : decode cX11_vote 123 = .ok (.goto 4, 3) := by decide +kernel
theorem dX11_vote_126 : decode cX11_vote 126 = .ok (.iconst 0, 1) := by decide +kernel
theorem dX11_vote_127 : decode cX11_vote 127 = .ok (.invokevirtual 214, 3) := by decide +kernel
theorem dX11_vote_130 : decode cX11_vote 130 = .ok (.ifCond .eq 5, 3) := by decide +kernel
theorem dX11_vote_133 : decode cX11_vote 133 = .ok (.iconst 0, 1) := by decide +kernel
theorem dX11_vote_134 : decode cX11_vote 134 = .ok (.ireturn, 1) := by decide +kernel
theorem dX11_vote_135 : decode cX11_vote 135 = .ok (.iconst 0, 1) := by decide +kernel
theorem dX11_vote_136 : decode cX11_vote 136 = .ok (.istore 8, 2) := by decide +kernel
theorem dX11_vote_138 : decode cX11_vote 138 = .ok (.iconst 0, 1) := by decide +kernel
theorem dX11_vote_139 : decode cX11_vote 139 = .ok (.istore 9, 2) := by decide +kernel
theorem dX11_vote_141 : decode cX11_vote 141 = .ok (.iload 9, 2) := by decide +kernel
theorem dX11_vote_143 : decode cX11_vote 143 = .ok (.aload_n 0, 1) := by decide +kernel
theorem dX11_vote_144 : decode cX11_vote 144 = .ok (.getfield 122, 3) := by decide +kernel
theorem dX11_vote_147 : decode cX11_vote 147 = .ok (.iload 7, 2) := by decide +kernel
theorem dX11_vote_149 : decode cX11_vote 149 = .ok (.iaload, 1) := by decide +kernel
theorem dX11_vote_150 : decode cX11_vote 150 = .ok (.if_icmp .ge 133, 3) := by decide +kernel
theorem dX11_vote_153 : decode cX11_vote 153 = .ok (.bipush 20, 2) := by decide +kernel
theorem dX11_vote_155 : decode cX11_vote 155 = .ok (.iload 7, 2) := by decide +kernel
theorem dX11_vote_157 : decode cX11_vote 157 = .ok (.imul, 1) := by decide +kernel
theorem dX11_vote_158 : decode cX11_vote 158 = .ok (.iload 9, 2) := by decide +kernel
theorem dX11_vote_160 : decode cX11_vote 160 = .ok (.iadd, 1) := by decide +kernel
theorem dX11_vote_161 : decode cX11_vote 161 = .ok (.istore 10, 2) := by decide +kernel
theorem dX11_vote_163 : decode cX11_vote 163 = .ok (.iload 8, 2) := by decide +kernel
theorem dX11_vote_165 : decode cX11_vote 165 = .ok (.aload_n 0, 1) := by decide +kernel
theorem dX11_vote_166 : decode cX11_vote 166 = .ok (.getfield 116, 3) := by decide +kernel
theorem dX11_vote_169 : decode cX11_vote 169 = .ok (.iload 10, 2) := by decide +kernel
theorem dX11_vote_171 : decode cX11_vote 171 = .ok (.iaload, 1) := by decide +kernel
theorem dX11_vote_172 : decode cX11_vote 172 = .ok (.iload 4, 2) := by decide +kernel
theorem dX11_vote_174 : decode cX11_vote 174 = .ok (.if_icmp .eq 39, 3) := by decide +kernel
theorem dX11_vote_177 : decode cX11_vote 177 = .ok (.aload_n 0, 1) := by decide +kernel
theorem dX11_vote_178 : decode cX11_vote 178 = .ok (.getfield 70, 3) := by decide +kernel
theorem dX11_vote_181 : decode cX11_vote 181 = .ok (.bipush 24, 2) := by decide +kernel
theorem dX11_vote_183 : decode cX11_vote 183 = .ok (.iload_n 1, 1) := by decide +kernel
theorem dX11_vote_184 : decode cX11_vote 184 = .ok (.imul, 1) := by decide +kernel
theorem dX11_vote_185 : decode cX11_vote 185 = .ok (.aload_n 0, 1) := by decide +kernel
theorem dX11_vote_186 : decode cX11_vote 186 = .ok (.getfield 116, 3) := by decide +kernel
theorem dX11_vote_189 : decode cX11_vote 189 = .ok (.iload 10, 2) := by decide +kernel
theorem dX11_vote_191 : decode cX11_vote 191 = .ok (.iaload, 1) := by decide +kernel
theorem dX11_vote_192 : decode cX11_vote 192 = .ok (.iadd, 1) := by decide +kernel
theorem dX11_vote_193 : decode cX11_vote 193 = .ok (.iaload, 1) := by decide +kernel
theorem dX11_vote_194 : decode cX11_vote 194 = .ok (.aload_n 0, 1) := by decide +kernel
theorem dX11_vote_195 : decode cX11_vote 195 = .ok (.getfield 70, 3) := by decide +kernel
theorem dX11_vote_198 : decode cX11_vote 198 = .ok (.bipush 24, 2) := by decide +kernel
theorem dX11_vote_200 : decode cX11_vote 200 = .ok (.iload_n 1, 1) := by decide +kernel
theorem dX11_vote_201 : decode cX11_vote 201 = .ok (.imul, 1) := by decide +kernel
theorem dX11_vote_202 : decode cX11_vote 202 = .ok (.iload 4, 2) := by decide +kernel
theorem dX11_vote_204 : decode cX11_vote 204 = .ok (.iadd, 1) := by decide +kernel
theorem dX11_vote_205 : decode cX11_vote 205 = .ok (.iaload, 1) := by decide +kernel
theorem dX11_vote_206 : decode cX11_vote 206 = .ok (.if_icmp .ne 7, 3) := by decide +kernel
theorem dX11_vote_209 : decode cX11_vote 209 = .ok (.iconst 1, 1) := by decide +kernel
theorem dX11_vote_210 : decode cX11_vote 210 = .ok (.goto 4, 3) := by decide +kernel
theorem dX11_vote_213 : decode cX11_vote 213 = .ok (.iconst 0, 1) := by decide +kernel
theorem dX11_vote_214 : decode cX11_vote 214 = .ok (.ior, 1) := by decide +kernel
theorem dX11_vote_215 : decode cX11_vote 215 = .ok (.istore 8, 2) := by decide +kernel
theorem dX11_vote_217 : decode cX11_vote 217 = .ok (.iload 8, 2) := by decide +kernel
theorem dX11_vote_219 : decode cX11_vote 219 = .ok (.aload_n 0, 1) := by decide +kernel
theorem dX11_vote_220 : decode cX11_vote 220 = .ok (.iload_n 1, 1) := by decide +kernel
theorem dX11_vote_221 : decode cX11_vote 221 = .ok (.iload_n 3, 1) := by decide +kernel
theorem dX11_vote_222 : decode cX11_vote 222 = .ok (.iload 4, 2) := by decide +kernel
theorem dX11_vote_224 : decode cX11_vote 224 = .ok (.aload_n 0, 1) := by decide +kernel
theorem dX11_vote_225 : decode cX11_vote 225 = .ok (.getfield 113, 3) := by decide +kernel
theorem dX11_vote_228 : decode cX11_vote 228 = .ok (.iload 10, 2) := by decide +kernel
theorem dX11_vote_230 : decode cX11_vote 230 = .ok (.iaload, 1) := by decide +kernel
theorem dX11_vote_231 : decode cX11_vote 231 = .ok (.aload_n 0, 1) := by decide +kernel
theorem dX11_vote_232 : decode cX11_vote 232 = .ok (.getfield 116, 3) := by decide +kernel
theorem dX11_vote_235 : decode cX11_vote 235 = .ok (.iload 10, 2) := by decide +kernel
theorem dX11_vote_237 : decode cX11_vote 237 = .ok (.iaload, 1) := by decide +kernel
theorem dX11_vote_238 : decode cX11_vote 238 = .ok (.invokevirtual 381, 3) := by decide +kernel
theorem dX11_vote_241 : decode cX11_vote 241 = .ok (.ifCond .ne 28, 3) := by decide +kernel
theorem dX11_vote_244 : decode cX11_vote 244 = .ok (.aload_n 0, 1) := by decide +kernel
theorem dX11_vote_245 : decode cX11_vote 245 = .ok (.iload_n 1, 1) := by decide +kernel
theorem dX11_vote_246 : decode cX11_vote 246 = .ok (.aload_n 0, 1) := by decide +kernel
theorem dX11_vote_247 : decode cX11_vote 247 = .ok (.getfield 113, 3) := by decide +kernel
theorem dX11_vote_250 : decode cX11_vote 250 = .ok (.iload 10, 2) := by decide +kernel
theorem dX11_vote_252 : decode cX11_vote 252 = .ok (.iaload, 1) := by decide +kernel
theorem dX11_vote_253 : decode cX11_vote 253 = .ok (.aload_n 0, 1) := by decide +kernel
theorem dX11_vote_254 : decode cX11_vote 254 = .ok (.getfield 116, 3) := by decide +kernel
theorem dX11_vote_257 : decode cX11_vote 257 = .ok (.iload 10, 2) := by decide +kernel
theorem dX11_vote_259 : decode cX11_vote 259 = .ok (.iaload, 1) := by decide +kernel
theorem dX11_vote_260 : decode cX11_vote 260 = .ok (.iload_n 3, 1) := by decide +kernel
theorem dX11_vote_261 : decode cX11_vote 261 = .ok (.iload 4, 2) := by decide +kernel
theorem dX11_vote_263 : decode cX11_vote 263 = .ok (.invokevirtual 381, 3) := by decide +kernel
theorem dX11_vote_266 : decode cX11_vote 266 = .ok (.ifCond .eq 7, 3) := by decide +kernel
theorem dX11_vote_269 : decode cX11_vote 269 = .ok (.iconst 1, 1) := by decide +kernel
theorem dX11_vote_270 : decode cX11_vote 270 = .ok (.goto 4, 3) := by decide +kernel
theorem dX11_vote_273 : decode cX11_vote 273 = .ok (.iconst 0, 1) := by decide +kernel
theorem dX11_vote_274 : decode cX11_vote 274 = .ok (.ior, 1) := by decide +kernel
theorem dX11_vote_275 : decode cX11_vote 275 = .ok (.istore 8, 2) := by decide +kernel
theorem dX11_vote_277 : decode cX11_vote 277 = .ok (.iinc 9 1, 3) := by decide +kernel
theorem dX11_vote_280 : decode cX11_vote 280 = .ok (.goto (-139), 3) := by decide +kernel
theorem dX11_vote_283 : decode cX11_vote 283 = .ok (.aload_n 0, 1) := by decide +kernel
theorem dX11_vote_284 : decode cX11_vote 284 = .ok (.getfield 113, 3) := by decide +kernel
theorem dX11_vote_287 : decode cX11_vote 287 = .ok (.bipush 20, 2) := by decide +kernel
theorem dX11_vote_289 : decode cX11_vote 289 = .ok (.iload 7, 2) := by decide +kernel
theorem dX11_vote_291 : decode cX11_vote 291 = .ok (.imul, 1) := by decide +kernel
theorem dX11_vote_292 : decode cX11_vote 292 = .ok (.aload_n 0, 1) := by decide +kernel
theorem dX11_vote_293 : decode cX11_vote 293 = .ok (.getfield 122, 3) := by decide +kernel
theorem dX11_vote_296 : decode cX11_vote 296 = .ok (.iload 7, 2) := by decide +kernel
theorem dX11_vote_298 : decode cX11_vote 298 = .ok (.iaload, 1) := by decide +kernel
theorem dX11_vote_299 : decode cX11_vote 299 = .ok (.iadd, 1) := by decide +kernel
theorem dX11_vote_300 : decode cX11_vote 300 = .ok (.iload_n 3, 1) := by decide +kernel
theorem dX11_vote_301 : decode cX11_vote 301 = .ok (.iastore, 1) := by decide +kernel
theorem dX11_vote_302 : decode cX11_vote 302 = .ok (.aload_n 0, 1) := by decide +kernel
theorem dX11_vote_303 : decode cX11_vote 303 = .ok (.getfield 116, 3) := by decide +kernel
theorem dX11_vote_306 : decode cX11_vote 306 = .ok (.bipush 20, 2) := by decide +kernel
theorem dX11_vote_308 : decode cX11_vote 308 = .ok (.iload 7, 2) := by decide +kernel
theorem dX11_vote_310 : decode cX11_vote 310 = .ok (.imul, 1) := by decide +kernel
theorem dX11_vote_311 : decode cX11_vote 311 = .ok (.aload_n 0, 1) := by decide +kernel
theorem dX11_vote_312 : decode cX11_vote 312 = .ok (.getfield 122, 3) := by decide +kernel
theorem dX11_vote_315 : decode cX11_vote 315 = .ok (.iload 7, 2) := by decide +kernel
theorem dX11_vote_317 : decode cX11_vote 317 = .ok (.iaload, 1) := by decide +kernel
theorem dX11_vote_318 : decode cX11_vote 318 = .ok (.iadd, 1) := by decide +kernel
theorem dX11_vote_319 : decode cX11_vote 319 = .ok (.iload 4, 2) := by decide +kernel
theorem dX11_vote_321 : decode cX11_vote 321 = .ok (.iastore, 1) := by decide +kernel
theorem dX11_vote_322 : decode cX11_vote 322 = .ok (.aload_n 0, 1) := by decide +kernel
theorem dX11_vote_323 : decode cX11_vote 323 = .ok (.getfield 122, 3) := by decide +kernel
theorem dX11_vote_326 : decode cX11_vote 326 = .ok (.iload 7, 2) := by decide +kernel
theorem dX11_vote_328 : decode cX11_vote 328 = .ok (.dup2, 1) := by decide +kernel
theorem dX11_vote_329 : decode cX11_vote 329 = .ok (.iaload, 1) := by decide +kernel
theorem dX11_vote_330 : decode cX11_vote 330 = .ok (.iconst 1, 1) := by decide +kernel
theorem dX11_vote_331 : decode cX11_vote 331 = .ok (.iadd, 1) := by decide +kernel
theorem dX11_vote_332 : decode cX11_vote 332 = .ok (.iastore, 1) := by decide +kernel
theorem dX11_vote_333 : decode cX11_vote 333 = .ok (.iconst 0, 1) := by decide +kernel
theorem dX11_vote_334 : decode cX11_vote 334 = .ok (.istore 9, 2) := by decide +kernel
theorem dX11_vote_336 : decode cX11_vote 336 = .ok (.iload 9, 2) := by decide +kernel
theorem dX11_vote_338 : decode cX11_vote 338 = .ok (.aload_n 0, 1) := by decide +kernel
theorem dX11_vote_339 : decode cX11_vote 339 = .ok (.getfield 122, 3) := by decide +kernel
theorem dX11_vote_342 : decode cX11_vote 342 = .ok (.iload 7, 2) := by decide +kernel
theorem dX11_vote_344 : decode cX11_vote 344 = .ok (.iaload, 1) := by decide +kernel
theorem dX11_vote_345 : decode cX11_vote 345 = .ok (.if_icmp .ge 32, 3) := by decide +kernel
theorem dX11_vote_348 : decode cX11_vote 348 = .ok (.aload_n 0, 1) := by decide +kernel
theorem dX11_vote_349 : decode cX11_vote 349 = .ok (.getfield 119, 3) := by decide +kernel
theorem dX11_vote_352 : decode cX11_vote 352 = .ok (.bipush 20, 2) := by decide +kernel
theorem dX11_vote_354 : decode cX11_vote 354 = .ok (.iload 7, 2) := by decide +kernel
theorem dX11_vote_356 : decode cX11_vote 356 = .ok (.imul, 1) := by decide +kernel
theorem dX11_vote_357 : decode cX11_vote 357 = .ok (.iload 9, 2) := by decide +kernel
theorem dX11_vote_359 : decode cX11_vote 359 = .ok (.iadd, 1) := by decide +kernel
theorem dX11_vote_360 : decode cX11_vote 360 = .ok (.iload 8, 2) := by decide +kernel
theorem dX11_vote_362 : decode cX11_vote 362 = .ok (.ifCond .eq 7, 3) := by decide +kernel
theorem dX11_vote_365 : decode cX11_vote 365 = .ok (.iconst 0, 1) := by decide +kernel
theorem dX11_vote_366 : decode cX11_vote 366 = .ok (.goto 4, 3) := by decide +kernel
theorem dX11_vote_369 : decode cX11_vote 369 = .ok (.iconst 1, 1) := by decide +kernel
theorem dX11_vote_370 : decode cX11_vote 370 = .ok (.iastore, 1) := by decide +kernel
theorem dX11_vote_371 : decode cX11_vote 371 = .ok (.iinc 9 1, 3) := by decide +kernel
theorem dX11_vote_374 : decode cX11_vote 374 = .ok (.goto (-38), 3) := by decide +kernel
theorem dX11_vote_377 : decode cX11_vote 377 = .ok (.aload_n 0, 1) := by decide +kernel
theorem dX11_vote_378 : decode cX11_vote 378 = .ok (.getfield 125, 3) := by decide +kernel
theorem dX11_vote_381 : decode cX11_vote 381 = .ok (.iload 7, 2) := by decide +kernel
theorem dX11_vote_383 : decode cX11_vote 383 = .ok (.iload 8, 2) := by decide +kernel
theorem dX11_vote_385 : decode cX11_vote 385 = .ok (.ifCond .eq 7, 3) := by decide +kernel
theorem dX11_vote_388 : decode cX11_vote 388 = .ok (.iconst 0, 1) := by decide +kernel
theorem dX11_vote_389 : decode cX11_vote 389 = .ok (.goto 10, 3) := by decide +kernel
theorem dX11_vote_392 : decode cX11_vote 392 = .ok (.aload_n 0, 1) := by decide +kernel
theorem dX11_vote_393 : decode cX11_vote 393 = .ok (.getfield 125, 3) := by decide +kernel
theorem dX11_vote_396 : decode cX11_vote 396 = .ok (.iload 7, 2) := by decide +kernel
theorem dX11_vote_398 : decode cX11_vote 398 = .ok (.iaload, 1) := by decide +kernel
theorem dX11_vote_399 : decode cX11_vote 399 = .ok (.iastore, 1) := by decide +kernel
theorem dX11_vote_400 : decode cX11_vote 400 = .ok (.aload_n 0, 1) := by decide +kernel
theorem dX11_vote_401 : decode cX11_vote 401 = .ok (.iload_n 1, 1) := by decide +kernel
theorem dX11_vote_402 : decode cX11_vote 402 = .ok (.invokevirtual 385, 3) := by decide +kernel
theorem dX11_vote_405 : decode cX11_vote 405 = .ok (.iload 8, 2) := by decide +kernel
theorem dX11_vote_407 : decode cX11_vote 407 = .ok (.ifCond .ne 7, 3) := by decide +kernel
theorem dX11_vote_410 : decode cX11_vote 410 = .ok (.iconst 1, 1) := by decide +kernel
theorem dX11_vote_411 : decode cX11_vote 411 = .ok (.goto 4, 3) := by decide +kernel
theorem dX11_vote_414 : decode cX11_vote 414 = .ok (.iconst 0, 1) := by decide +kernel
theorem dX11_vote_415 : decode cX11_vote 415 = .ok (.ireturn, 1) := by decide +kernel
theorem dX11_isJustified_0 : decode cX11_isJustified 0 = .ok (.aload_n 0, 1) := by decide +kernel
theorem dX11_isJustified_1 : decode cX11_isJustified 1 = .ok (.aload_n 0, 1) := by decide +kernel
theorem dX11_isJustified_2 : decode cX11_isJustified 2 = .ok (.iload_n 1, 1) := by decide +kernel
theorem dX11_isJustified_3 : decode cX11_isJustified 3 = .ok (.iload_n 2, 1) := by decide +kernel
theorem dX11_isJustified_4 : decode cX11_isJustified 4 = .ok (.invokevirtual 349, 3) := by decide +kernel
theorem dX11_isJustified_7 : decode cX11_isJustified 7 = .ok (.ifCond .eq 7, 3) := by decide +kernel
theorem dX11_isJustified_10 : decode cX11_isJustified 10 = .ok (.iconst 0, 1) := by decide +kernel
theorem dX11_isJustified_11 : decode cX11_isJustified 11 = .ok (.goto 4, 3) := by decide +kernel
theorem dX11_isJustified_14 : decode cX11_isJustified 14 = .ok (.iconst 1, 1) := by decide +kernel
theorem dX11_isJustified_15 : decode cX11_isJustified 15 = .ok (.invokevirtual 214, 3) := by decide +kernel
theorem dX11_isJustified_18 : decode cX11_isJustified 18 = .ok (.ifCond .ne 22, 3) := by decide +kernel
theorem dX11_isJustified_21 : decode cX11_isJustified 21 = .ok (.aload_n 0, 1) := by decide +kernel
theorem dX11_isJustified_22 : decode cX11_isJustified 22 = .ok (.getfield 107, 3) := by decide +kernel
theorem dX11_isJustified_25 : decode cX11_isJustified 25 = .ok (.bipush 24, 2) := by decide +kernel
theorem dX11_isJustified_27 : decode cX11_isJustified 27 = .ok (.iload_n 1, 1) := by decide +kernel
theorem dX11_isJustified_28 : decode cX11_isJustified 28 = .ok (.imul, 1) := by decide +kernel
theorem dX11_isJustified_29 : decode cX11_isJustified 29 = .ok (.iload_n 2, 1) := by decide +kernel
theorem dX11_isJustified_30 : decode cX11_isJustified 30 = .ok (.iadd, 1) := by decide +kernel
theorem dX11_isJustified_31 : decode cX11_isJustified 31 = .ok (.iaload, 1) := by decide +kernel
theorem dX11_isJustified_32 : decode cX11_isJustified 32 = .ok (.iconst 1, 1) := by decide +kernel
theorem dX11_isJustified_33 : decode cX11_isJustified 33 = .ok (.if_icmp .ne 7, 3) := by decide +kernel
theorem dX11_isJustified_36 : decode cX11_isJustified 36 = .ok (.iconst 1, 1) := by decide +kernel
theorem dX11_isJustified_37 : decode cX11_isJustified 37 = .ok (.goto 4, 3) := by decide +kernel
theorem dX11_isJustified_40 : decode cX11_isJustified 40 = .ok (.iconst 0, 1) := by decide +kernel
theorem dX11_isJustified_41 : decode cX11_isJustified 41 = .ok (.ireturn, 1) := by decide +kernel
theorem dX11_lastFinal_0 : decode cX11_lastFinal 0 = .ok (.aload_n 0, 1) := by decide +kernel
theorem dX11_lastFinal_1 : decode cX11_lastFinal 1 = .ok (.aload_n 0, 1) := by decide +kernel
theorem dX11_lastFinal_2 : decode cX11_lastFinal 2 = .ok (.iload_n 1, 1) := by decide +kernel
theorem dX11_lastFinal_3 : decode cX11_lastFinal 3 = .ok (.invokevirtual 182, 3) := by decide +kernel
theorem dX11_lastFinal_6 : decode cX11_lastFinal 6 = .ok (.ifCond .eq 7, 3) := by decide +kernel
theorem dX11_lastFinal_9 : decode cX11_lastFinal 9 = .ok (.iconst 0, 1) := by decide +kernel
theorem dX11_lastFinal_10 : decode cX11_lastFinal 10 = .ok (.goto 4, 3) := by decide +kernel
theorem dX11_lastFinal_13 : decode cX11_lastFinal 13 = .ok (.iconst 1, 1) := by decide +kernel
theorem dX11_lastFinal_14 : decode cX11_lastFinal 14 = .ok (.invokevirtual 214, 3) := by decide +kernel
theorem dX11_lastFinal_17 : decode cX11_lastFinal 17 = .ok (.ifCond .eq 7, 3) := by decide +kernel
theorem dX11_lastFinal_20 : decode cX11_lastFinal 20 = .ok (.iconst (-1), 1) := by decide +kernel
theorem dX11_lastFinal_21 : decode cX11_lastFinal 21 = .ok (.goto 9, 3) := by decide +kernel
theorem dX11_lastFinal_24 : decode cX11_lastFinal 24 = .ok (.aload_n 0, 1) := by decide +kernel
theorem dX11_lastFinal_25 : decode cX11_lastFinal 25 = .ok (.getfield 37, 3) := by decide +kernel
theorem dX11_lastFinal_28 : decode cX11_lastFinal 28 = .ok (.iload_n 1, 1) := by decide +kernel
theorem dX11_lastFinal_29 : decode cX11_lastFinal 29 = .ok (.iaload, 1) := by decide +kernel
theorem dX11_lastFinal_30 : decode cX11_lastFinal 30 = .ok (.ireturn, 1) := by decide +kernel
theorem dX11_stake_0 : decode cX11_stake 0 = .ok (.aload_n 0, 1) := by decide +kernel
theorem dX11_stake_1 : decode cX11_stake 1 = .ok (.aload_n 0, 1) := by decide +kernel
theorem dX11_stake_2 : decode cX11_stake 2 = .ok (.iload_n 1, 1) := by decide +kernel
theorem dX11_stake_3 : decode cX11_stake 3 = .ok (.invokevirtual 182, 3) := by decide +kernel
theorem dX11_stake_6 : decode cX11_stake 6 = .ok (.ifCond .eq 17, 3) := by decide +kernel
theorem dX11_stake_9 : decode cX11_stake 9 = .ok (.aload_n 0, 1) := by decide +kernel
theorem dX11_stake_10 : decode cX11_stake 10 = .ok (.iload_n 2, 1) := by decide +kernel
theorem dX11_stake_11 : decode cX11_stake 11 = .ok (.iconst 0, 1) := by decide +kernel
theorem dX11_stake_12 : decode cX11_stake 12 = .ok (.iconst 3, 1) := by decide +kernel
theorem dX11_stake_13 : decode cX11_stake 13 = .ok (.invokevirtual 178, 3) := by decide +kernel
theorem dX11_stake_16 : decode cX11_stake 16 = .ok (.ifCond .eq 7, 3) := by decide +kernel
theorem dX11_stake_19 : decode cX11_stake 19 = .ok (.iconst 0, 1) := by decide +kernel
theorem dX11_stake_20 : decode cX11_stake 20 = .ok (.goto 4, 3) := by decide +kernel
theorem dX11_stake_23 : decode cX11_stake 23 = .ok (.iconst 1, 1) := by decide +kernel
theorem dX11_stake_24 : decode cX11_stake 24 = .ok (.invokevirtual 214, 3) := by decide +kernel
theorem dX11_stake_27 : decode cX11_stake 27 = .ok (.ifCond .eq 7, 3) := by decide +kernel
theorem dX11_stake_30 : decode cX11_stake 30 = .ok (.iconst (-1), 1) := by decide +kernel
theorem dX11_stake_31 : decode cX11_stake 31 = .ok (.goto 13, 3) := by decide +kernel
theorem dX11_stake_34 : decode cX11_stake 34 = .ok (.aload_n 0, 1) := by decide +kernel
theorem dX11_stake_35 : decode cX11_stake 35 = .ok (.getfield 125, 3) := by decide +kernel
theorem dX11_stake_38 : decode cX11_stake 38 = .ok (.iconst 4, 1) := by decide +kernel
theorem dX11_stake_39 : decode cX11_stake 39 = .ok (.iload_n 1, 1) := by decide +kernel
theorem dX11_stake_40 : decode cX11_stake 40 = .ok (.imul, 1) := by decide +kernel
theorem dX11_stake_41 : decode cX11_stake 41 = .ok (.iload_n 2, 1) := by decide +kernel
theorem dX11_stake_42 : decode cX11_stake 42 = .ok (.iadd, 1) := by decide +kernel
theorem dX11_stake_43 : decode cX11_stake 43 = .ok (.iaload, 1) := by decide +kernel
theorem dX11_stake_44 : decode cX11_stake 44 = .ok (.ireturn, 1) := by decide +kernel
