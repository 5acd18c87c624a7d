theorem d_L_law_0 : decode code 0 = .ok (.new 8, 3) := by decide +kernel
theorem d_L_law_3 : decode code 3 = .ok (.dup, 1) := by decide +kernel
theorem d_L_law_4 : decode code 4 = .ok (.aload_n 0, 1) := by decide +kernel
theorem d_L_law_5 : decode code 5 = .ok (.iconst 0, 1) := by decide +kernel
theorem d_L_law_6 : decode code 6 = .ok (.invokestatic 29, 3) := by decide +kernel
theorem d_L_law_9 : decode code 9 = .ok (.aload_n 0, 1) := by decide +kernel
theorem d_L_law_10 : decode code 10 = .ok (.iconst 1, 1) := by decide +kernel
theorem d_L_law_11 : decode code 11 = .ok (.invokestatic 29, 3) := by decide +kernel
theorem d_L_law_14 : decode code 14 = .ok (.aload_n 0, 1) := by decide +kernel
theorem d_L_law_15 : decode code 15 = .ok (.iconst 2, 1) := by decide +kernel
theorem d_L_law_16 : decode code 16 = .ok (.invokestatic 29, 3) := by decide +kernel
theorem d_L_law_19 : decode code 19 = .ok (.invokespecial 35, 3) := by decide +kernel
theorem d_L_law_22 : decode code 22 = .ok (.astore_n 1, 1) := by decide +kernel
theorem d_L_law_23 : decode code 23 = .ok (.new 38, 3) := by decide +kernel
theorem d_L_law_26 : decode code 26 = .ok (.dup, 1) := by decide +kernel
theorem d_L_law_27 : decode code 27 = .ok (.aload_n 0, 1) := by decide +kernel
theorem d_L_law_28 : decode code 28 = .ok (.iconst 0, 1) := by decide +kernel
theorem d_L_law_29 : decode code 29 = .ok (.invokestatic 29, 3) := by decide +kernel
theorem d_L_law_32 : decode code 32 = .ok (.aload_n 0, 1) := by decide +kernel
theorem d_L_law_33 : decode code 33 = .ok (.iconst 1, 1) := by decide +kernel
theorem d_L_law_34 : decode code 34 = .ok (.invokestatic 29, 3) := by decide +kernel
theorem d_L_law_37 : decode code 37 = .ok (.aload_n 0, 1) := by decide +kernel
theorem d_L_law_38 : decode code 38 = .ok (.iconst 2, 1) := by decide +kernel
theorem d_L_law_39 : decode code 39 = .ok (.invokestatic 29, 3) := by decide +kernel
theorem d_L_law_42 : decode code 42 = .ok (.invokespecial 40, 3) := by decide +kernel
theorem d_L_law_45 : decode code 45 = .ok (.astore_n 2, 1) := by decide +kernel
theorem d_L_law_46 : decode code 46 = .ok (.iconst 1, 1) := by decide +kernel
theorem d_L_law_47 : decode code 47 = .ok (.newarray .long, 2) := by decide +kernel
theorem d_L_law_49 : decode code 49 = .ok (.astore_n 3, 1) := by decide +kernel
theorem d_L_law_50 : decode code 50 = .ok (.iconst 3, 1) := by decide +kernel
theorem d_L_law_51 : decode code 51 = .ok (.istore 4, 2) := by decide +kernel
theorem d_L_law_53 : decode code 53 = .ok (.iload 4, 2) := by decide +kernel
theorem d_L_law_55 : decode code 55 = .ok (.aload_n 0, 1) := by decide +kernel
theorem d_L_law_56 : decode code 56 = .ok (.arraylength, 1) := by decide +kernel
theorem d_L_law_57 : decode code 57 = .ok (.iconst 5, 1) := by decide +kernel
theorem d_L_law_58 : decode code 58 = .ok (.isub, 1) := by decide +kernel
theorem d_L_law_59 : decode code 59 = .ok (.if_icmp .gt 628, 3) := by decide +kernel
theorem d_L_law_62 : decode code 62 = .ok (.aload_n 0, 1) := by decide +kernel
theorem d_L_law_63 : decode code 63 = .ok (.iload 4, 2) := by decide +kernel
theorem d_L_law_65 : decode code 65 = .ok (.iaload, 1) := by decide +kernel
theorem d_L_law_66 : decode code 66 = .ok (.bipush 15, 2) := by decide +kernel
theorem d_L_law_68 : decode code 68 = .ok (.iand, 1) := by decide +kernel
theorem d_L_law_69 : decode code 69 = .ok (.tableswitch 612 0 13 #[71, 96, 121, 220, 245, 301, 326, 413, 449, 475, 488, 513, 538, 575], 71) := by decide +kernel
theorem d_L_law_140 : decode code 140 = .ok (.aload_n 1, 1) := by decide +kernel
theorem d_L_law_141 : decode code 141 = .ok (.aload_n 0, 1) := by decide +kernel
theorem d_L_law_142 : decode code 142 = .ok (.iload 4, 2) := by decide +kernel
theorem d_L_law_144 : decode code 144 = .ok (.iconst 1, 1) := by decide +kernel
theorem d_L_law_145 : decode code 145 = .ok (.iadd, 1) := by decide +kernel
theorem d_L_law_146 : decode code 146 = .ok (.iaload, 1) := by decide +kernel
theorem d_L_law_147 : decode code 147 = .ok (.invokevirtual 41, 3) := by decide +kernel
theorem d_L_law_150 : decode code 150 = .ok (.aload_n 2, 1) := by decide +kernel
theorem d_L_law_151 : decode code 151 = .ok (.aload_n 0, 1) := by decide +kernel
theorem d_L_law_152 : decode code 152 = .ok (.iload 4, 2) := by decide +kernel
theorem d_L_law_154 : decode code 154 = .ok (.iconst 1, 1) := by decide +kernel
theorem d_L_law_155 : decode code 155 = .ok (.iadd, 1) := by decide +kernel
theorem d_L_law_156 : decode code 156 = .ok (.iaload, 1) := by decide +kernel
theorem d_L_law_157 : decode code 157 = .ok (.invokevirtual 44, 3) := by decide +kernel
theorem d_L_law_160 : decode code 160 = .ok (.if_icmp .eq 521, 3) := by decide +kernel
theorem d_L_law_163 : decode code 163 = .ok (.iconst 0, 1) := by decide +kernel
theorem d_L_law_164 : decode code 164 = .ok (.ireturn, 1) := by decide +kernel
theorem d_L_law_165 : decode code 165 = .ok (.aload_n 1, 1) := by decide +kernel
theorem d_L_law_166 : decode code 166 = .ok (.aload_n 0, 1) := by decide +kernel
theorem d_L_law_167 : decode code 167 = .ok (.iload 4, 2) := by decide +kernel
theorem d_L_law_169 : decode code 169 = .ok (.iconst 1, 1) := by decide +kernel
theorem d_L_law_170 : decode code 170 = .ok (.iadd, 1) := by decide +kernel
theorem d_L_law_171 : decode code 171 = .ok (.iaload, 1) := by decide +kernel
theorem d_L_law_172 : decode code 172 = .ok (.invokevirtual 45, 3) := by decide +kernel
theorem d_L_law_175 : decode code 175 = .ok (.aload_n 2, 1) := by decide +kernel
theorem d_L_law_176 : decode code 176 = .ok (.aload_n 0, 1) := by decide +kernel
theorem d_L_law_177 : decode code 177 = .ok (.iload 4, 2) := by decide +kernel
theorem d_L_law_179 : decode code 179 = .ok (.iconst 1, 1) := by decide +kernel
theorem d_L_law_180 : decode code 180 = .ok (.iadd, 1) := by decide +kernel
theorem d_L_law_181 : decode code 181 = .ok (.iaload, 1) := by decide +kernel
theorem d_L_law_182 : decode code 182 = .ok (.invokevirtual 49, 3) := by decide +kernel
theorem d_L_law_185 : decode code 185 = .ok (.if_icmp .eq 496, 3) := by decide +kernel
theorem d_L_law_188 : decode code 188 = .ok (.iconst 0, 1) := by decide +kernel
theorem d_L_law_189 : decode code 189 = .ok (.ireturn, 1) := by decide +kernel
theorem d_L_law_190 : decode code 190 = .ok (.aload_n 1, 1) := by decide +kernel
theorem d_L_law_191 : decode code 191 = .ok (.aload_n 0, 1) := by decide +kernel
theorem d_L_law_192 : decode code 192 = .ok (.iload 4, 2) := by decide +kernel
theorem d_L_law_194 : decode code 194 = .ok (.iconst 1, 1) := by decide +kernel
theorem d_L_law_195 : decode code 195 = .ok (.iadd, 1) := by decide +kernel
theorem d_L_law_196 : decode code 196 = .ok (.iaload, 1) := by decide +kernel
theorem d_L_law_197 : decode code 197 = .ok (.aload_n 0, 1) := by decide +kernel
theorem d_L_law_198 : decode code 198 = .ok (.iload 4, 2) := by decide +kernel
theorem d_L_law_200 : decode code 200 = .ok (.iconst 2, 1) := by decide +kernel
theorem d_L_law_201 : decode code 201 = .ok (.iadd, 1) := by decide +kernel
theorem d_L_law_202 : decode code 202 = .ok (.iaload, 1) := by decide +kernel
theorem d_L_law_203 : decode code 203 = .ok (.aload_n 0, 1) := by decide +kernel
theorem d_L_law_204 : decode code 204 = .ok (.iload 4, 2) := by decide +kernel
theorem d_L_law_206 : decode code 206 = .ok (.iconst 3, 1) := by decide +kernel
theorem d_L_law_207 : decode code 207 = .ok (.iadd, 1) := by decide +kernel
theorem d_L_law_208 : decode code 208 = .ok (.iaload, 1) := by decide +kernel
theorem d_L_law_209 : decode code 209 = .ok (.aload_n 0, 1) := by decide +kernel
theorem d_L_law_210 : decode code 210 = .ok (.iload 4, 2) := by decide +kernel
theorem d_L_law_212 : decode code 212 = .ok (.iconst 4, 1) := by decide +kernel
theorem d_L_law_213 : decode code 213 = .ok (.iadd, 1) := by decide +kernel
theorem d_L_law_214 : decode code 214 = .ok (.iaload, 1) := by decide +kernel
theorem d_L_law_215 : decode code 215 = .ok (.aload_n 3, 1) := by decide +kernel
theorem d_L_law_216 : decode code 216 = .ok (.invokestatic 50, 3) := by decide +kernel
theorem d_L_law_219 : decode code 219 = .ok (.istore 5, 2) := by decide +kernel
theorem d_L_law_221 : decode code 221 = .ok (.aload_n 2, 1) := by decide +kernel
theorem d_L_law_222 : decode code 222 = .ok (.aload_n 0, 1) := by decide +kernel
theorem d_L_law_223 : decode code 223 = .ok (.iload 4, 2) := by decide +kernel
theorem d_L_law_225 : decode code 225 = .ok (.iconst 1, 1) := by decide +kernel
theorem d_L_law_226 : decode code 226 = .ok (.iadd, 1) := by decide +kernel
theorem d_L_law_227 : decode code 227 = .ok (.iaload, 1) := by decide +kernel
theorem d_L_law_228 : decode code 228 = .ok (.aload_n 0, 1) := by decide +kernel
theorem d_L_law_229 : decode code 229 = .ok (.iload 4, 2) := by decide +kernel
theorem d_L_law_231 : decode code 231 = .ok (.iconst 2, 1) := by decide +kernel
theorem d_L_law_232 : decode code 232 = .ok (.iadd, 1) := by decide +kernel
theorem d_L_law_233 : decode code 233 = .ok (.iaload, 1) := by decide +kernel
theorem d_L_law_234 : decode code 234 = .ok (.aload_n 0, 1) := by decide +kernel
theorem d_L_law_235 : decode code 235 = .ok (.iload 4, 2) := by decide +kernel
theorem d_L_law_237 : decode code 237 = .ok (.iconst 3, 1) := by decide +kernel
theorem d_L_law_238 : decode code 238 = .ok (.iadd, 1) := by decide +kernel
theorem d_L_law_239 : decode code 239 = .ok (.iaload, 1) := by decide +kernel
theorem d_L_law_240 : decode code 240 = .ok (.aload_n 0, 1) := by decide +kernel
theorem d_L_law_241 : decode code 241 = .ok (.iload 4, 2) := by decide +kernel
theorem d_L_law_243 : decode code 243 = .ok (.iconst 4, 1) := by decide +kernel
theorem d_L_law_244 : decode code 244 = .ok (.iadd, 1) := by decide +kernel
theorem d_L_law_245 : decode code 245 = .ok (.iaload, 1) := by decide +kernel
theorem d_L_law_246 : decode code 246 = .ok (.invokevirtual 53, 3) := by decide +kernel
theorem d_L_law_249 : decode code 249 = .ok (.istore 6, 2) := by decide +kernel
theorem d_L_law_251 : decode code 251 = .ok (.aload_n 2, 1) := by decide +kernel
theorem d_L_law_252 : decode code 252 = .ok (.invokevirtual 54, 3) := by decide +kernel
theorem d_L_law_255 : decode code 255 = .ok (.iload 5, 2) := by decide +kernel
theorem d_L_law_257 : decode code 257 = .ok (.if_icmp .eq 5, 3) := by decide +kernel
theorem d_L_law_260 : decode code 260 = .ok (.iconst 0, 1) := by decide +kernel
theorem d_L_law_261 : decode code 261 = .ok (.ireturn, 1) := by decide +kernel
theorem d_L_law_262 : decode code 262 = .ok (.iload 5, 2) := by decide +kernel
theorem d_L_law_264 : decode code 264 = .ok (.ifCond .ne 22, 3) := by decide +kernel
theorem d_L_law_267 : decode code 267 = .ok (.aload_n 3, 1) := by decide +kernel
theorem d_L_law_268 : decode code 268 = .ok (.iconst 0, 1) := by decide +kernel
theorem d_L_law_269 : decode code 269 = .ok (.laload, 1) := by decide +kernel
theorem d_L_law_270 : decode code 270 = .ok (.iload 6, 2) := by decide +kernel
theorem d_L_law_272 : decode code 272 = .ok (.ifCond .eq 7, 3) := by decide +kernel
theorem d_L_law_275 : decode code 275 = .ok (.lconst 1, 1) := by decide +kernel
theorem d_L_law_276 : decode code 276 = .ok (.goto 4, 3) := by decide +kernel
theorem d_L_law_279 : decode code 279 = .ok (.lconst 0, 1) := by decide +kernel
theorem d_L_law_280 : decode code 280 = .ok (.lcmp, 1) := by decide +kernel
theorem d_L_law_281 : decode code 281 = .ok (.ifCond .eq 5, 3) := by decide +kernel
theorem d_L_law_284 : decode code 284 = .ok (.iconst 0, 1) := by decide +kernel
theorem d_L_law_285 : decode code 285 = .ok (.ireturn, 1) := by decide +kernel
theorem d_L_law_286 : decode code 286 = .ok (.goto 395, 3) := by decide +kernel
theorem d_L_law_289 : decode code 289 = .ok (.aload_n 1, 1) := by decide +kernel
theorem d_L_law_290 : decode code 290 = .ok (.aload_n 0, 1) := by decide +kernel
theorem d_L_law_291 : decode code 291 = .ok (.iload 4, 2) := by decide +kernel
theorem d_L_law_293 : decode code 293 = .ok (.iconst 1, 1) := by decide +kernel
theorem d_L_law_294 : decode code 294 = .ok (.iadd, 1) := by decide +kernel
theorem d_L_law_295 : decode code 295 = .ok (.iaload, 1) := by decide +kernel
theorem d_L_law_296 : decode code 296 = .ok (.invokevirtual 58, 3) := by decide +kernel
theorem d_L_law_299 : decode code 299 = .ok (.aload_n 2, 1) := by decide +kernel
theorem d_L_law_300 : decode code 300 = .ok (.aload_n 0, 1) := by decide +kernel
theorem d_L_law_301 : decode code 301 = .ok (.iload 4, 2) := by decide +kernel
theorem d_L_law_303 : decode code 303 = .ok (.iconst 1, 1) := by decide +kernel
theorem d_L_law_304 : decode code 304 = .ok (.iadd, 1) := by decide +kernel
theorem d_L_law_305 : decode code 305 = .ok (.iaload, 1) := by decide +kernel
theorem d_L_law_306 : decode code 306 = .ok (.invokevirtual 61, 3) := by decide +kernel
theorem d_L_law_309 : decode code 309 = .ok (.if_icmp .eq 372, 3) := by decide +kernel
theorem d_L_law_312 : decode code 312 = .ok (.iconst 0, 1) := by decide +kernel
theorem d_L_law_313 : decode code 313 = .ok (.ireturn, 1) := by decide +kernel
theorem d_L_law_314 : decode code 314 = .ok (.aload_n 1, 1) := by decide +kernel
theorem d_L_law_315 : decode code 315 = .ok (.aload_n 0, 1) := by decide +kernel
theorem d_L_law_316 : decode code 316 = .ok (.iload 4, 2) := by decide +kernel
theorem d_L_law_318 : decode code 318 = .ok (.iconst 1, 1) := by decide +kernel
theorem d_L_law_319 : decode code 319 = .ok (.iadd, 1) := by decide +kernel
theorem d_L_law_320 : decode code 320 = .ok (.iaload, 1) := by decide +kernel
theorem d_L_law_321 : decode code 321 = .ok (.aload_n 3, 1) := by decide +kernel
theorem d_L_law_322 : decode code 322 = .ok (.invokestatic 62, 3) := by decide +kernel
theorem d_L_law_325 : decode code 325 = .ok (.istore 5, 2) := by decide +kernel
theorem d_L_law_327 : decode code 327 = .ok (.aload_n 2, 1) := by decide +kernel
theorem d_L_law_328 : decode code 328 = .ok (.aload_n 0, 1) := by decide +kernel
theorem d_L_law_329 : decode code 329 = .ok (.iload 4, 2) := by decide +kernel
theorem d_L_law_331 : decode code 331 = .ok (.iconst 1, 1) := by decide +kernel
theorem d_L_law_332 : decode code 332 = .ok (.iadd, 1) := by decide +kernel
theorem d_L_law_333 : decode code 333 = .ok (.iaload, 1) := by decide +kernel
theorem d_L_law_334 : decode code 334 = .ok (.invokevirtual 65, 3) := by decide +kernel
theorem d_L_law_337 : decode code 337 = .ok (.istore 6, 2) := by decide +kernel
theorem d_L_law_339 : decode code 339 = .ok (.aload_n 2, 1) := by decide +kernel
theorem d_L_law_340 : decode code 340 = .ok (.invokevirtual 54, 3) := by decide +kernel
theorem d_L_law_343 : decode code 343 = .ok (.iload 5, 2) := by decide +kernel
theorem d_L_law_345 : decode code 345 = .ok (.if_icmp .eq 5, 3) := by decide +kernel
theorem d_L_law_348 : decode code 348 = .ok (.iconst 0, 1) := by decide +kernel
theorem d_L_law_349 : decode code 349 = .ok (.ireturn, 1) := by decide +kernel
theorem d_L_law_350 : decode code 350 = .ok (.iload 5, 2) := by decide +kernel
theorem d_L_law_352 : decode code 352 = .ok (.ifCond .ne 15, 3) := by decide +kernel
theorem d_L_law_355 : decode code 355 = .ok (.aload_n 3, 1) := by decide +kernel
theorem d_L_law_356 : decode code 356 = .ok (.iconst 0, 1) := by decide +kernel
theorem d_L_law_357 : decode code 357 = .ok (.laload, 1) := by decide +kernel
theorem d_L_law_358 : decode code 358 = .ok (.iload 6, 2) := by decide +kernel
theorem d_L_law_360 : decode code 360 = .ok (.i2l, 1) := by decide +kernel
theorem d_L_law_361 : decode code 361 = .ok (.lcmp, 1) := by decide +kernel
theorem d_L_law_362 : decode code 362 = .ok (.ifCond .eq 5, 3) := by decide +kernel
theorem d_L_law_365 : decode code 365 = .ok (.iconst 0, 1) := by decide +kernel
theorem d_L_law_366 : decode code 366 = .ok (.ireturn, 1) := by decide +kernel
theorem d_L_law_367 : decode code 367 = .ok (.goto 314, 3) := by decide +kernel
theorem d_L_law_370 : decode code 370 = .ok (.aload_n 1, 1) := by decide +kernel
theorem d_L_law_371 : decode code 371 = .ok (.aload_n 0, 1) := by decide +kernel
theorem d_L_law_372 : decode code 372 = .ok (.iload 4, 2) := by decide +kernel
theorem d_L_law_374 : decode code 374 = .ok (.iconst 1, 1) := by decide +kernel
theorem d_L_law_375 : decode code 375 = .ok (.iadd, 1) := by decide +kernel
theorem d_L_law_376 : decode code 376 = .ok (.iaload, 1) := by decide +kernel
theorem d_L_law_377 : decode code 377 = .ok (.invokevirtual 66, 3) := by decide +kernel
theorem d_L_law_380 : decode code 380 = .ok (.aload_n 2, 1) := by decide +kernel
theorem d_L_law_381 : decode code 381 = .ok (.aload_n 0, 1) := by decide +kernel
theorem d_L_law_382 : decode code 382 = .ok (.iload 4, 2) := by decide +kernel
theorem d_L_law_384 : decode code 384 = .ok (.iconst 1, 1) := by decide +kernel
theorem d_L_law_385 : decode code 385 = .ok (.iadd, 1) := by decide +kernel
theorem d_L_law_386 : decode code 386 = .ok (.iaload, 1) := by decide +kernel
theorem d_L_law_387 : decode code 387 = .ok (.invokevirtual 69, 3) := by decide +kernel
theorem d_L_law_390 : decode code 390 = .ok (.if_icmp .eq 291, 3) := by decide +kernel
theorem d_L_law_393 : decode code 393 = .ok (.iconst 0, 1) := by decide +kernel
theorem d_L_law_394 : decode code 394 = .ok (.ireturn, 1) := by decide +kernel
theorem d_L_law_395 : decode code 395 = .ok (.aload_n 1, 1) := by decide +kernel
theorem d_L_law_396 : decode code 396 = .ok (.aload_n 0, 1) := by decide +kernel
theorem d_L_law_397 : decode code 397 = .ok (.iload 4, 2) := by decide +kernel
theorem d_L_law_399 : decode code 399 = .ok (.iconst 1, 1) := by decide +kernel
theorem d_L_law_400 : decode code 400 = .ok (.iadd, 1) := by decide +kernel
theorem d_L_law_401 : decode code 401 = .ok (.iaload, 1) := by decide +kernel
theorem d_L_law_402 : decode code 402 = .ok (.aload_n 0, 1) := by decide +kernel
theorem d_L_law_403 : decode code 403 = .ok (.iload 4, 2) := by decide +kernel
theorem d_L_law_405 : decode code 405 = .ok (.iconst 2, 1) := by decide +kernel
theorem d_L_law_406 : decode code 406 = .ok (.iadd, 1) := by decide +kernel
theorem d_L_law_407 : decode code 407 = .ok (.iaload, 1) := by decide +kernel
theorem d_L_law_408 : decode code 408 = .ok (.aload_n 0, 1) := by decide +kernel
theorem d_L_law_409 : decode code 409 = .ok (.iload 4, 2) := by decide +kernel
theorem d_L_law_411 : decode code 411 = .ok (.iconst 3, 1) := by decide +kernel
theorem d_L_law_412 : decode code 412 = .ok (.iadd, 1) := by decide +kernel
theorem d_L_law_413 : decode code 413 = .ok (.iaload, 1) := by decide +kernel
theorem d_L_law_414 : decode code 414 = .ok (.aload_n 3, 1) := by decide +kernel
theorem d_L_law_415 : decode code 415 = .ok (.invokestatic 70, 3) := by decide +kernel
theorem d_L_law_418 : decode code 418 = .ok (.istore 5, 2) := by decide +kernel
theorem d_L_law_420 : decode code 420 = .ok (.aload_n 2, 1) := by decide +kernel
theorem d_L_law_421 : decode code 421 = .ok (.aload_n 0, 1) := by decide +kernel
theorem d_L_law_422 : decode code 422 = .ok (.iload 4, 2) := by decide +kernel
theorem d_L_law_424 : decode code 424 = .ok (.iconst 1, 1) := by decide +kernel
theorem d_L_law_425 : decode code 425 = .ok (.iadd, 1) := by decide +kernel
theorem d_L_law_426 : decode code 426 = .ok (.iaload, 1) := by decide +kernel
theorem d_L_law_427 : decode code 427 = .ok (.aload_n 0, 1) := by decide +kernel
theorem d_L_law_428 : decode code 428 = .ok (.iload 4, 2) := by decide +kernel
theorem d_L_law_430 : decode code 430 = .ok (.iconst 2, 1) := by decide +kernel
theorem d_L_law_431 : decode code 431 = .ok (.iadd, 1) := by decide +kernel
theorem d_L_law_432 : decode code 432 = .ok (.iaload, 1) := by decide +kernel
theorem d_L_law_433 : decode code 433 = .ok (.aload_n 0, 1) := by decide +kernel
theorem d_L_law_434 : decode code 434 = .ok (.iload 4, 2) := by decide +kernel
theorem d_L_law_436 : decode code 436 = .ok (.iconst 3, 1) := by decide +kernel
theorem d_L_law_437 : decode code 437 = .ok (.iadd, 1) := by decide +kernel
theorem d_L_law_438 : decode code 438 = .ok (.iaload, 1) := by decide +kernel
theorem d_L_law_439 : decode code 439 = .ok (.invokevirtual 73, 3) := by decide +kernel
theorem d_L_law_442 : decode code 442 = .ok (.istore 6, 2) := by decide +kernel
theorem d_L_law_444 : decode code 444 = .ok (.aload_n 2, 1) := by decide +kernel
theorem d_L_law_445 : decode code 445 = .ok (.invokevirtual 54, 3) := by decide +kernel
theorem d_L_law_448 : decode code 448 = .ok (.iload 5, 2) := by decide +kernel
theorem d_L_law_450 : decode code 450 = .ok (.if_icmp .eq 5, 3) := by decide +kernel
theorem d_L_law_453 : decode code 453 = .ok (.iconst 0, 1) := by decide +kernel
theorem d_L_law_454 : decode code 454 = .ok (.ireturn, 1) := by decide +kernel
theorem d_L_law_455 : decode code 455 = .ok (.iload 5, 2) := by decide +kernel
theorem d_L_law_457 : decode code 457 = .ok (.ifCond .ne 22, 3) := by decide +kernel
theorem d_L_law_460 : decode code 460 = .ok (.aload_n 3, 1) := by decide +kernel
theorem d_L_law_461 : decode code 461 = .ok (.iconst 0, 1) := by decide +kernel
theorem d_L_law_462 : decode code 462 = .ok (.laload, 1) := by decide +kernel
theorem d_L_law_463 : decode code 463 = .ok (.iload 6, 2) := by decide +kernel
theorem d_L_law_465 : decode code 465 = .ok (.ifCond .eq 7, 3) := by decide +kernel
theorem d_L_law_468 : decode code 468 = .ok (.lconst 1, 1) := by decide +kernel
theorem d_L_law_469 : decode code 469 = .ok (.goto 4, 3) := by decide +kernel
theorem d_L_law_472 : decode code 472 = .ok (.lconst 0, 1) := by decide +kernel
theorem d_L_law_473 : decode code 473 = .ok (.lcmp, 1) := by decide +kernel
theorem d_L_law_474 : decode code 474 = .ok (.ifCond .eq 5, 3) := by decide +kernel
theorem d_L_law_477 : decode code 477 = .ok (.iconst 0, 1) := by decide +kernel
theorem d_L_law_478 : decode code 478 = .ok (.ireturn, 1) := by decide +kernel
theorem d_L_law_479 : decode code 479 = .ok (.goto 202, 3) := by decide +kernel
theorem d_L_law_482 : decode code 482 = .ok (.aload_n 1, 1) := by decide +kernel
theorem d_L_law_483 : decode code 483 = .ok (.aload_n 0, 1) := by decide +kernel
theorem d_L_law_484 : decode code 484 = .ok (.iload 4, 2) := by decide +kernel
theorem d_L_law_486 : decode code 486 = .ok (.iconst 1, 1) := by decide +kernel
theorem d_L_law_487 : decode code 487 = .ok (.iadd, 1) := by decide +kernel
theorem d_L_law_488 : decode code 488 = .ok (.iaload, 1) := by decide +kernel
theorem d_L_law_489 : decode code 489 = .ok (.invokestatic 74, 3) := by decide +kernel
theorem d_L_law_492 : decode code 492 = .ok (.istore 5, 2) := by decide +kernel
theorem d_L_law_494 : decode code 494 = .ok (.aload_n 2, 1) := by decide +kernel
theorem d_L_law_495 : decode code 495 = .ok (.aload_n 0, 1) := by decide +kernel
theorem d_L_law_496 : decode code 496 = .ok (.iload 4, 2) := by decide +kernel
theorem d_L_law_498 : decode code 498 = .ok (.iconst 1, 1) := by decide +kernel
theorem d_L_law_499 : decode code 499 = .ok (.iadd, 1) := by decide +kernel
theorem d_L_law_500 : decode code 500 = .ok (.iaload, 1) := by decide +kernel
theorem d_L_law_501 : decode code 501 = .ok (.invokevirtual 77, 3) := by decide +kernel
theorem d_L_law_504 : decode code 504 = .ok (.aload_n 2, 1) := by decide +kernel
theorem d_L_law_505 : decode code 505 = .ok (.invokevirtual 54, 3) := by decide +kernel
theorem d_L_law_508 : decode code 508 = .ok (.iload 5, 2) := by decide +kernel
theorem d_L_law_510 : decode code 510 = .ok (.if_icmp .eq 5, 3) := by decide +kernel
theorem d_L_law_513 : decode code 513 = .ok (.iconst 0, 1) := by decide +kernel
theorem d_L_law_514 : decode code 514 = .ok (.ireturn, 1) := by decide +kernel
theorem d_L_law_515 : decode code 515 = .ok (.goto 166, 3) := by decide +kernel
theorem d_L_law_518 : decode code 518 = .ok (.aload_n 1, 1) := by decide +kernel
theorem d_L_law_519 : decode code 519 = .ok (.aload_n 0, 1) := by decide +kernel
theorem d_L_law_520 : decode code 520 = .ok (.iload 4, 2) := by decide +kernel
theorem d_L_law_522 : decode code 522 = .ok (.iconst 1, 1) := by decide +kernel
theorem d_L_law_523 : decode code 523 = .ok (.iadd, 1) := by decide +kernel
theorem d_L_law_524 : decode code 524 = .ok (.iaload, 1) := by decide +kernel
theorem d_L_law_525 : decode code 525 = .ok (.invokevirtual 78, 3) := by decide +kernel
theorem d_L_law_528 : decode code 528 = .ok (.aload_n 2, 1) := by decide +kernel
theorem d_L_law_529 : decode code 529 = .ok (.aload_n 0, 1) := by decide +kernel
theorem d_L_law_530 : decode code 530 = .ok (.iload 4, 2) := by decide +kernel
theorem d_L_law_532 : decode code 532 = .ok (.iconst 1, 1) := by decide +kernel
theorem d_L_law_533 : decode code 533 = .ok (.iadd, 1) := by decide +kernel
theorem d_L_law_534 : decode code 534 = .ok (.iaload, 1) := by decide +kernel
theorem d_L_law_535 : decode code 535 = .ok (.invokevirtual 82, 3) := by decide +kernel
theorem d_L_law_538 : decode code 538 = .ok (.lcmp, 1) := by decide +kernel
theorem d_L_law_539 : decode code 539 = .ok (.ifCond .eq 142, 3) := by decide +kernel
theorem d_L_law_542 : decode code 542 = .ok (.iconst 0, 1) := by decide +kernel
theorem d_L_law_543 : decode code 543 = .ok (.ireturn, 1) := by decide +kernel
theorem d_L_law_544 : decode code 544 = .ok (.aload_n 1, 1) := by decide +kernel
theorem d_L_law_545 : decode code 545 = .ok (.invokevirtual 83, 3) := by decide +kernel
theorem d_L_law_548 : decode code 548 = .ok (.aload_n 2, 1) := by decide +kernel
theorem d_L_law_549 : decode code 549 = .ok (.invokevirtual 86, 3) := by decide +kernel
theorem d_L_law_552 : decode code 552 = .ok (.if_icmp .eq 129, 3) := by decide +kernel
theorem d_L_law_555 : decode code 555 = .ok (.iconst 0, 1) := by decide +kernel
theorem d_L_law_556 : decode code 556 = .ok (.ireturn, 1) := by decide +kernel
theorem d_L_law_557 : decode code 557 = .ok (.aload_n 1, 1) := by decide +kernel
theorem d_L_law_558 : decode code 558 = .ok (.aload_n 0, 1) := by decide +kernel
theorem d_L_law_559 : decode code 559 = .ok (.iload 4, 2) := by decide +kernel
theorem d_L_law_561 : decode code 561 = .ok (.iconst 1, 1) := by decide +kernel
theorem d_L_law_562 : decode code 562 = .ok (.iadd, 1) := by decide +kernel
theorem d_L_law_563 : decode code 563 = .ok (.iaload, 1) := by decide +kernel
theorem d_L_law_564 : decode code 564 = .ok (.invokevirtual 87, 3) := by decide +kernel
theorem d_L_law_567 : decode code 567 = .ok (.aload_n 2, 1) := by decide +kernel
theorem d_L_law_568 : decode code 568 = .ok (.aload_n 0, 1) := by decide +kernel
theorem d_L_law_569 : decode code 569 = .ok (.iload 4, 2) := by decide +kernel
theorem d_L_law_571 : decode code 571 = .ok (.iconst 1, 1) := by decide +kernel
theorem d_L_law_572 : decode code 572 = .ok (.iadd, 1) := by decide +kernel
theorem d_L_law_573 : decode code 573 = .ok (.iaload, 1) := by decide +kernel
theorem d_L_law_574 : decode code 574 = .ok (.invokevirtual 90, 3) := by decide +kernel
theorem d_L_law_577 : decode code 577 = .ok (.if_icmp .eq 104, 3) := by decide +kernel
theorem d_L_law_580 : decode code 580 = .ok (.iconst 0, 1) := by decide +kernel
theorem d_L_law_581 : decode code 581 = .ok (.ireturn, 1) := by decide +kernel
theorem d_L_law_582 : decode code 582 = .ok (.aload_n 1, 1) := by decide +kernel
theorem d_L_law_583 : decode code 583 = .ok (.aload_n 0, 1) := by decide +kernel
theorem d_L_law_584 : decode code 584 = .ok (.iload 4, 2) := by decide +kernel
theorem d_L_law_586 : decode code 586 = .ok (.iconst 1, 1) := by decide +kernel
theorem d_L_law_587 : decode code 587 = .ok (.iadd, 1) := by decide +kernel
theorem d_L_law_588 : decode code 588 = .ok (.iaload, 1) := by decide +kernel
theorem d_L_law_589 : decode code 589 = .ok (.invokevirtual 91, 3) := by decide +kernel
theorem d_L_law_592 : decode code 592 = .ok (.aload_n 2, 1) := by decide +kernel
theorem d_L_law_593 : decode code 593 = .ok (.aload_n 0, 1) := by decide +kernel
theorem d_L_law_594 : decode code 594 = .ok (.iload 4, 2) := by decide +kernel
theorem d_L_law_596 : decode code 596 = .ok (.iconst 1, 1) := by decide +kernel
theorem d_L_law_597 : decode code 597 = .ok (.iadd, 1) := by decide +kernel
theorem d_L_law_598 : decode code 598 = .ok (.iaload, 1) := by decide +kernel
theorem d_L_law_599 : decode code 599 = .ok (.invokevirtual 94, 3) := by decide +kernel
theorem d_L_law_602 : decode code 602 = .ok (.if_icmp .eq 79, 3) := by decide +kernel
theorem d_L_law_605 : decode code 605 = .ok (.iconst 0, 1) := by decide +kernel
theorem d_L_law_606 : decode code 606 = .ok (.ireturn, 1) := by decide +kernel
theorem d_L_law_607 : decode code 607 = .ok (.aload_n 1, 1) := by decide +kernel
theorem d_L_law_608 : decode code 608 = .ok (.aload_n 0, 1) := by decide +kernel
theorem d_L_law_609 : decode code 609 = .ok (.iload 4, 2) := by decide +kernel
theorem d_L_law_611 : decode code 611 = .ok (.iconst 1, 1) := by decide +kernel
theorem d_L_law_612 : decode code 612 = .ok (.iadd, 1) := by decide +kernel
theorem d_L_law_613 : decode code 613 = .ok (.iaload, 1) := by decide +kernel
theorem d_L_law_614 : decode code 614 = .ok (.aload_n 0, 1) := by decide +kernel
theorem d_L_law_615 : decode code 615 = .ok (.iload 4, 2) := by decide +kernel
theorem d_L_law_617 : decode code 617 = .ok (.iconst 2, 1) := by decide +kernel
theorem d_L_law_618 : decode code 618 = .ok (.iadd, 1) := by decide +kernel
theorem d_L_law_619 : decode code 619 = .ok (.iaload, 1) := by decide +kernel
theorem d_L_law_620 : decode code 620 = .ok (.invokevirtual 95, 3) := by decide +kernel
theorem d_L_law_623 : decode code 623 = .ok (.aload_n 2, 1) := by decide +kernel
theorem d_L_law_624 : decode code 624 = .ok (.aload_n 0, 1) := by decide +kernel
theorem d_L_law_625 : decode code 625 = .ok (.iload 4, 2) := by decide +kernel
theorem d_L_law_627 : decode code 627 = .ok (.iconst 1, 1) := by decide +kernel
theorem d_L_law_628 : decode code 628 = .ok (.iadd, 1) := by decide +kernel
theorem d_L_law_629 : decode code 629 = .ok (.iaload, 1) := by decide +kernel
theorem d_L_law_630 : decode code 630 = .ok (.aload_n 0, 1) := by decide +kernel
theorem d_L_law_631 : decode code 631 = .ok (.iload 4, 2) := by decide +kernel
theorem d_L_law_633 : decode code 633 = .ok (.iconst 2, 1) := by decide +kernel
theorem d_L_law_634 : decode code 634 = .ok (.iadd, 1) := by decide +kernel
theorem d_L_law_635 : decode code 635 = .ok (.iaload, 1) := by decide +kernel
theorem d_L_law_636 : decode code 636 = .ok (.invokevirtual 99, 3) := by decide +kernel
theorem d_L_law_639 : decode code 639 = .ok (.if_icmp .eq 42, 3) := by decide +kernel
theorem d_L_law_642 : decode code 642 = .ok (.iconst 0, 1) := by decide +kernel
theorem d_L_law_643 : decode code 643 = .ok (.ireturn, 1) := by decide +kernel
theorem d_L_law_644 : decode code 644 = .ok (.aload_n 1, 1) := by decide +kernel
theorem d_L_law_645 : decode code 645 = .ok (.aload_n 0, 1) := by decide +kernel
theorem d_L_law_646 : decode code 646 = .ok (.iload 4, 2) := by decide +kernel
theorem d_L_law_648 : decode code 648 = .ok (.iconst 1, 1) := by decide +kernel
theorem d_L_law_649 : decode code 649 = .ok (.iadd, 1) := by decide +kernel
theorem d_L_law_650 : decode code 650 = .ok (.iaload, 1) := by decide +kernel
theorem d_L_law_651 : decode code 651 = .ok (.aload_n 0, 1) := by decide +kernel
theorem d_L_law_652 : decode code 652 = .ok (.iload 4, 2) := by decide +kernel
theorem d_L_law_654 : decode code 654 = .ok (.iconst 2, 1) := by decide +kernel
theorem d_L_law_655 : decode code 655 = .ok (.iadd, 1) := by decide +kernel
theorem d_L_law_656 : decode code 656 = .ok (.iaload, 1) := by decide +kernel
theorem d_L_law_657 : decode code 657 = .ok (.invokevirtual 100, 3) := by decide +kernel
theorem d_L_law_660 : decode code 660 = .ok (.aload_n 2, 1) := by decide +kernel
theorem d_L_law_661 : decode code 661 = .ok (.aload_n 0, 1) := by decide +kernel
theorem d_L_law_662 : decode code 662 = .ok (.iload 4, 2) := by decide +kernel
theorem d_L_law_664 : decode code 664 = .ok (.iconst 1, 1) := by decide +kernel
theorem d_L_law_665 : decode code 665 = .ok (.iadd, 1) := by decide +kernel
theorem d_L_law_666 : decode code 666 = .ok (.iaload, 1) := by decide +kernel
theorem d_L_law_667 : decode code 667 = .ok (.aload_n 0, 1) := by decide +kernel
theorem d_L_law_668 : decode code 668 = .ok (.iload 4, 2) := by decide +kernel
theorem d_L_law_670 : decode code 670 = .ok (.iconst 2, 1) := by decide +kernel
theorem d_L_law_671 : decode code 671 = .ok (.iadd, 1) := by decide +kernel
theorem d_L_law_672 : decode code 672 = .ok (.iaload, 1) := by decide +kernel
theorem d_L_law_673 : decode code 673 = .ok (.invokevirtual 103, 3) := by decide +kernel
theorem d_L_law_676 : decode code 676 = .ok (.if_icmp .eq 5, 3) := by decide +kernel
theorem d_L_law_679 : decode code 679 = .ok (.iconst 0, 1) := by decide +kernel
theorem d_L_law_680 : decode code 680 = .ok (.ireturn, 1) := by decide +kernel
theorem d_L_law_681 : decode code 681 = .ok (.iinc 4 5, 3) := by decide +kernel
theorem d_L_law_684 : decode code 684 = .ok (.goto (-631), 3) := by decide +kernel
theorem d_L_law_687 : decode code 687 = .ok (.iconst 1, 1) := by decide +kernel
theorem d_L_law_688 : decode code 688 = .ok (.ireturn, 1) := by decide +kernel
