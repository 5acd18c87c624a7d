def y_M_firstStep : MethodName := ⟨"WindowCacheModel", "firstStep", "()I"⟩
theorem y_M_firstStep_ok : y_M_firstStep.cls ≠ "java/lang/invoke/MethodHandle" ∧ y_M_firstStep.cls ≠ "java/lang/invoke/VarHandle" ∧ (parseMethodDescriptor y_M_firstStep.desc).map (fun d => d.parameters.length) = some 0 := by decide +kernel
def rm_M_firstStep : Room := { frames := 0, cells := 0, slots := 0, locals := 0 }
theorem d_M_firstStep_0 : decode prog_13_method_3_code 0 = .ok (.aload_n 0, 1) := by decide +kernel
theorem d_M_firstStep_1 : decode prog_13_method_3_code 1 = .ok (.getfield 93, 3) := by decide +kernel
theorem d_M_firstStep_4 : decode prog_13_method_3_code 4 = .ok (.bipush 16, 2) := by decide +kernel
theorem d_M_firstStep_6 : decode prog_13_method_3_code 6 = .ok (.idiv, 1) := by decide +kernel
theorem d_M_firstStep_7 : decode prog_13_method_3_code 7 = .ok (.iconst 1, 1) := by decide +kernel
theorem d_M_firstStep_8 : decode prog_13_method_3_code 8 = .ok (.if_icmp .ge 7, 3) := by decide +kernel
theorem d_M_firstStep_11 : decode prog_13_method_3_code 11 = .ok (.iconst 1, 1) := by decide +kernel
theorem d_M_firstStep_12 : decode prog_13_method_3_code 12 = .ok (.goto 10, 3) := by decide +kernel
theorem d_M_firstStep_15 : decode prog_13_method_3_code 15 = .ok (.aload_n 0, 1) := by decide +kernel
theorem d_M_firstStep_16 : decode prog_13_method_3_code 16 = .ok (.getfield 93, 3) := by decide +kernel
theorem d_M_firstStep_19 : decode prog_13_method_3_code 19 = .ok (.bipush 16, 2) := by decide +kernel
theorem d_M_firstStep_21 : decode prog_13_method_3_code 21 = .ok (.idiv, 1) := by decide +kernel
theorem d_M_firstStep_22 : decode prog_13_method_3_code 22 = .ok (.ireturn, 1) := by decide +kernel
def y_M_init : MethodName := ⟨"WindowCacheModel", "<init>", "(III)V"⟩
theorem y_M_init_ok : y_M_init.cls ≠ "java/lang/invoke/MethodHandle" ∧ y_M_init.cls ≠ "java/lang/invoke/VarHandle" ∧ (parseMethodDescriptor y_M_init.desc).map (fun d => d.parameters.length) = some 3 := by decide +kernel
def rm_M_init : Room := { frames := 1, cells := 24, slots := 50422, locals := 24 }
theorem d_M_init_0 : decode prog_13_method_1_code 0 = .ok (.aload_n 0, 1) := by decide +kernel
theorem d_M_init_1 : decode prog_13_method_1_code 1 = .ok (.invokespecial 1, 3) := by decide +kernel
theorem d_M_init_4 : decode prog_13_method_1_code 4 = .ok (.aload_n 0, 1) := by decide +kernel
theorem d_M_init_5 : decode prog_13_method_1_code 5 = .ok (.sipush 1000, 3) := by decide +kernel
theorem d_M_init_8 : decode prog_13_method_1_code 8 = .ok (.newarray .int, 2) := by decide +kernel
theorem d_M_init_10 : decode prog_13_method_1_code 10 = .ok (.putfield 7, 3) := by decide +kernel
theorem d_M_init_13 : decode prog_13_method_1_code 13 = .ok (.aload_n 0, 1) := by decide +kernel
theorem d_M_init_14 : decode prog_13_method_1_code 14 = .ok (.sipush 1000, 3) := by decide +kernel
theorem d_M_init_17 : decode prog_13_method_1_code 17 = .ok (.newarray .int, 2) := by decide +kernel
theorem d_M_init_19 : decode prog_13_method_1_code 19 = .ok (.putfield 13, 3) := by decide +kernel
theorem d_M_init_22 : decode prog_13_method_1_code 22 = .ok (.aload_n 0, 1) := by decide +kernel
theorem d_M_init_23 : decode prog_13_method_1_code 23 = .ok (.sipush 1000, 3) := by decide +kernel
theorem d_M_init_26 : decode prog_13_method_1_code 26 = .ok (.newarray .int, 2) := by decide +kernel
theorem d_M_init_28 : decode prog_13_method_1_code 28 = .ok (.putfield 16, 3) := by decide +kernel
theorem d_M_init_31 : decode prog_13_method_1_code 31 = .ok (.aload_n 0, 1) := by decide +kernel
theorem d_M_init_32 : decode prog_13_method_1_code 32 = .ok (.sipush 1000, 3) := by decide +kernel
theorem d_M_init_35 : decode prog_13_method_1_code 35 = .ok (.newarray .int, 2) := by decide +kernel
theorem d_M_init_37 : decode prog_13_method_1_code 37 = .ok (.putfield 19, 3) := by decide +kernel
theorem d_M_init_40 : decode prog_13_method_1_code 40 = .ok (.aload_n 0, 1) := by decide +kernel
theorem d_M_init_41 : decode prog_13_method_1_code 41 = .ok (.sipush 1100, 3) := by decide +kernel
theorem d_M_init_44 : decode prog_13_method_1_code 44 = .ok (.newarray .int, 2) := by decide +kernel
theorem d_M_init_46 : decode prog_13_method_1_code 46 = .ok (.putfield 22, 3) := by decide +kernel
theorem d_M_init_49 : decode prog_13_method_1_code 49 = .ok (.aload_n 0, 1) := by decide +kernel
theorem d_M_init_50 : decode prog_13_method_1_code 50 = .ok (.sipush 1100, 3) := by decide +kernel
theorem d_M_init_53 : decode prog_13_method_1_code 53 = .ok (.newarray .int, 2) := by decide +kernel
theorem d_M_init_55 : decode prog_13_method_1_code 55 = .ok (.putfield 25, 3) := by decide +kernel
theorem d_M_init_58 : decode prog_13_method_1_code 58 = .ok (.aload_n 0, 1) := by decide +kernel
theorem d_M_init_59 : decode prog_13_method_1_code 59 = .ok (.sipush 1100, 3) := by decide +kernel
theorem d_M_init_62 : decode prog_13_method_1_code 62 = .ok (.newarray .int, 2) := by decide +kernel
theorem d_M_init_64 : decode prog_13_method_1_code 64 = .ok (.putfield 28, 3) := by decide +kernel
theorem d_M_init_67 : decode prog_13_method_1_code 67 = .ok (.aload_n 0, 1) := by decide +kernel
theorem d_M_init_68 : decode prog_13_method_1_code 68 = .ok (.sipush 1100, 3) := by decide +kernel
theorem d_M_init_71 : decode prog_13_method_1_code 71 = .ok (.newarray .int, 2) := by decide +kernel
theorem d_M_init_73 : decode prog_13_method_1_code 73 = .ok (.putfield 31, 3) := by decide +kernel
theorem d_M_init_76 : decode prog_13_method_1_code 76 = .ok (.aload_n 0, 1) := by decide +kernel
theorem d_M_init_77 : decode prog_13_method_1_code 77 = .ok (.sipush 1100, 3) := by decide +kernel
theorem d_M_init_80 : decode prog_13_method_1_code 80 = .ok (.newarray .int, 2) := by decide +kernel
theorem d_M_init_82 : decode prog_13_method_1_code 82 = .ok (.putfield 34, 3) := by decide +kernel
theorem d_M_init_85 : decode prog_13_method_1_code 85 = .ok (.aload_n 0, 1) := by decide +kernel
theorem d_M_init_86 : decode prog_13_method_1_code 86 = .ok (.sipush 1100, 3) := by decide +kernel
theorem d_M_init_89 : decode prog_13_method_1_code 89 = .ok (.newarray .int, 2) := by decide +kernel
theorem d_M_init_91 : decode prog_13_method_1_code 91 = .ok (.putfield 37, 3) := by decide +kernel
theorem d_M_init_94 : decode prog_13_method_1_code 94 = .ok (.aload_n 0, 1) := by decide +kernel
theorem d_M_init_95 : decode prog_13_method_1_code 95 = .ok (.sipush 1100, 3) := by decide +kernel
theorem d_M_init_98 : decode prog_13_method_1_code 98 = .ok (.newarray .long, 2) := by decide +kernel
theorem d_M_init_100 : decode prog_13_method_1_code 100 = .ok (.putfield 40, 3) := by decide +kernel
theorem d_M_init_103 : decode prog_13_method_1_code 103 = .ok (.aload_n 0, 1) := by decide +kernel
theorem d_M_init_104 : decode prog_13_method_1_code 104 = .ok (.sipush 1100, 3) := by decide +kernel
theorem d_M_init_107 : decode prog_13_method_1_code 107 = .ok (.newarray .long, 2) := by decide +kernel
theorem d_M_init_109 : decode prog_13_method_1_code 109 = .ok (.putfield 44, 3) := by decide +kernel
theorem d_M_init_112 : decode prog_13_method_1_code 112 = .ok (.aload_n 0, 1) := by decide +kernel
theorem d_M_init_113 : decode prog_13_method_1_code 113 = .ok (.sipush 1100, 3) := by decide +kernel
theorem d_M_init_116 : decode prog_13_method_1_code 116 = .ok (.newarray .long, 2) := by decide +kernel
theorem d_M_init_118 : decode prog_13_method_1_code 118 = .ok (.putfield 47, 3) := by decide +kernel
theorem d_M_init_121 : decode prog_13_method_1_code 121 = .ok (.aload_n 0, 1) := by decide +kernel
theorem d_M_init_122 : decode prog_13_method_1_code 122 = .ok (.sipush 1100, 3) := by decide +kernel
theorem d_M_init_125 : decode prog_13_method_1_code 125 = .ok (.newarray .boolean, 2) := by decide +kernel
theorem d_M_init_127 : decode prog_13_method_1_code 127 = .ok (.putfield 50, 3) := by decide +kernel
theorem d_M_init_130 : decode prog_13_method_1_code 130 = .ok (.aload_n 0, 1) := by decide +kernel
theorem d_M_init_131 : decode prog_13_method_1_code 131 = .ok (.sipush 1100, 3) := by decide +kernel
theorem d_M_init_134 : decode prog_13_method_1_code 134 = .ok (.newarray .boolean, 2) := by decide +kernel
theorem d_M_init_136 : decode prog_13_method_1_code 136 = .ok (.putfield 54, 3) := by decide +kernel
theorem d_M_init_139 : decode prog_13_method_1_code 139 = .ok (.aload_n 0, 1) := by decide +kernel
theorem d_M_init_140 : decode prog_13_method_1_code 140 = .ok (.bipush 32, 2) := by decide +kernel
theorem d_M_init_142 : decode prog_13_method_1_code 142 = .ok (.newarray .int, 2) := by decide +kernel
theorem d_M_init_144 : decode prog_13_method_1_code 144 = .ok (.putfield 57, 3) := by decide +kernel
theorem d_M_init_147 : decode prog_13_method_1_code 147 = .ok (.aload_n 0, 1) := by decide +kernel
theorem d_M_init_148 : decode prog_13_method_1_code 148 = .ok (.iconst 2, 1) := by decide +kernel
theorem d_M_init_149 : decode prog_13_method_1_code 149 = .ok (.newarray .int, 2) := by decide +kernel
theorem d_M_init_151 : decode prog_13_method_1_code 151 = .ok (.putfield 60, 3) := by decide +kernel
theorem d_M_init_154 : decode prog_13_method_1_code 154 = .ok (.aload_n 0, 1) := by decide +kernel
theorem d_M_init_155 : decode prog_13_method_1_code 155 = .ok (.bipush 8, 2) := by decide +kernel
theorem d_M_init_157 : decode prog_13_method_1_code 157 = .ok (.newarray .int, 2) := by decide +kernel
theorem d_M_init_159 : decode prog_13_method_1_code 159 = .ok (.putfield 63, 3) := by decide +kernel
theorem d_M_init_162 : decode prog_13_method_1_code 162 = .ok (.aload_n 0, 1) := by decide +kernel
theorem d_M_init_163 : decode prog_13_method_1_code 163 = .ok (.bipush 8, 2) := by decide +kernel
theorem d_M_init_165 : decode prog_13_method_1_code 165 = .ok (.newarray .int, 2) := by decide +kernel
theorem d_M_init_167 : decode prog_13_method_1_code 167 = .ok (.putfield 66, 3) := by decide +kernel
theorem d_M_init_170 : decode prog_13_method_1_code 170 = .ok (.aload_n 0, 1) := by decide +kernel
theorem d_M_init_171 : decode prog_13_method_1_code 171 = .ok (.ldc 69, 2) := by decide +kernel
theorem d_M_init_173 : decode prog_13_method_1_code 173 = .ok (.newarray .int, 2) := by decide +kernel
theorem d_M_init_175 : decode prog_13_method_1_code 175 = .ok (.putfield 70, 3) := by decide +kernel
theorem d_M_init_178 : decode prog_13_method_1_code 178 = .ok (.aload_n 0, 1) := by decide +kernel
theorem d_M_init_179 : decode prog_13_method_1_code 179 = .ok (.iconst 4, 1) := by decide +kernel
theorem d_M_init_180 : decode prog_13_method_1_code 180 = .ok (.newarray .int, 2) := by decide +kernel
theorem d_M_init_182 : decode prog_13_method_1_code 182 = .ok (.putfield 73, 3) := by decide +kernel
theorem d_M_init_185 : decode prog_13_method_1_code 185 = .ok (.aload_n 0, 1) := by decide +kernel
theorem d_M_init_186 : decode prog_13_method_1_code 186 = .ok (.iconst 1, 1) := by decide +kernel
theorem d_M_init_187 : decode prog_13_method_1_code 187 = .ok (.putfield 76, 3) := by decide +kernel
theorem d_M_init_190 : decode prog_13_method_1_code 190 = .ok (.aload_n 0, 1) := by decide +kernel
theorem d_M_init_191 : decode prog_13_method_1_code 191 = .ok (.iconst 1, 1) := by decide +kernel
theorem d_M_init_192 : decode prog_13_method_1_code 192 = .ok (.putfield 80, 3) := by decide +kernel
theorem d_M_init_195 : decode prog_13_method_1_code 195 = .ok (.aload_n 0, 1) := by decide +kernel
theorem d_M_init_196 : decode prog_13_method_1_code 196 = .ok (.sipush 500, 3) := by decide +kernel
theorem d_M_init_199 : decode prog_13_method_1_code 199 = .ok (.newarray .int, 2) := by decide +kernel
theorem d_M_init_201 : decode prog_13_method_1_code 201 = .ok (.putfield 84, 3) := by decide +kernel
theorem d_M_init_204 : decode prog_13_method_1_code 204 = .ok (.aload_n 0, 1) := by decide +kernel
theorem d_M_init_205 : decode prog_13_method_1_code 205 = .ok (.sipush 500, 3) := by decide +kernel
theorem d_M_init_208 : decode prog_13_method_1_code 208 = .ok (.newarray .int, 2) := by decide +kernel
theorem d_M_init_210 : decode prog_13_method_1_code 210 = .ok (.putfield 87, 3) := by decide +kernel
theorem d_M_init_213 : decode prog_13_method_1_code 213 = .ok (.aload_n 0, 1) := by decide +kernel
theorem d_M_init_214 : decode prog_13_method_1_code 214 = .ok (.sipush 500, 3) := by decide +kernel
theorem d_M_init_217 : decode prog_13_method_1_code 217 = .ok (.newarray .int, 2) := by decide +kernel
theorem d_M_init_219 : decode prog_13_method_1_code 219 = .ok (.putfield 90, 3) := by decide +kernel
theorem d_M_init_222 : decode prog_13_method_1_code 222 = .ok (.aload_n 0, 1) := by decide +kernel
theorem d_M_init_223 : decode prog_13_method_1_code 223 = .ok (.iload_n 1, 1) := by decide +kernel
theorem d_M_init_224 : decode prog_13_method_1_code 224 = .ok (.iconst 1, 1) := by decide +kernel
theorem d_M_init_225 : decode prog_13_method_1_code 225 = .ok (.if_icmp .ge 7, 3) := by decide +kernel
theorem d_M_init_228 : decode prog_13_method_1_code 228 = .ok (.iconst 1, 1) := by decide +kernel
theorem d_M_init_229 : decode prog_13_method_1_code 229 = .ok (.goto 17, 3) := by decide +kernel
theorem d_M_init_232 : decode prog_13_method_1_code 232 = .ok (.iload_n 1, 1) := by decide +kernel
theorem d_M_init_233 : decode prog_13_method_1_code 233 = .ok (.sipush 5000, 3) := by decide +kernel
theorem d_M_init_236 : decode prog_13_method_1_code 236 = .ok (.if_icmp .le 9, 3) := by decide +kernel
theorem d_M_init_239 : decode prog_13_method_1_code 239 = .ok (.sipush 5000, 3) := by decide +kernel
theorem d_M_init_242 : decode prog_13_method_1_code 242 = .ok (.goto 4, 3) := by decide +kernel
theorem d_M_init_245 : decode prog_13_method_1_code 245 = .ok (.iload_n 1, 1) := by decide +kernel
theorem d_M_init_246 : decode prog_13_method_1_code 246 = .ok (.putfield 93, 3) := by decide +kernel
theorem d_M_init_249 : decode prog_13_method_1_code 249 = .ok (.aload_n 0, 1) := by decide +kernel
theorem d_M_init_250 : decode prog_13_method_1_code 250 = .ok (.iload_n 2, 1) := by decide +kernel
theorem d_M_init_251 : decode prog_13_method_1_code 251 = .ok (.ifCond .ge 7, 3) := by decide +kernel
theorem d_M_init_254 : decode prog_13_method_1_code 254 = .ok (.iconst 0, 1) := by decide +kernel
theorem d_M_init_255 : decode prog_13_method_1_code 255 = .ok (.goto 4, 3) := by decide +kernel
theorem d_M_init_258 : decode prog_13_method_1_code 258 = .ok (.iload_n 2, 1) := by decide +kernel
theorem d_M_init_259 : decode prog_13_method_1_code 259 = .ok (.putfield 96, 3) := by decide +kernel
theorem d_M_init_262 : decode prog_13_method_1_code 262 = .ok (.aload_n 0, 1) := by decide +kernel
theorem d_M_init_263 : decode prog_13_method_1_code 263 = .ok (.iload_n 3, 1) := by decide +kernel
theorem d_M_init_264 : decode prog_13_method_1_code 264 = .ok (.ifCond .ge 7, 3) := by decide +kernel
theorem d_M_init_267 : decode prog_13_method_1_code 267 = .ok (.iconst 0, 1) := by decide +kernel
theorem d_M_init_268 : decode prog_13_method_1_code 268 = .ok (.goto 4, 3) := by decide +kernel
theorem d_M_init_271 : decode prog_13_method_1_code 271 = .ok (.iload_n 3, 1) := by decide +kernel
theorem d_M_init_272 : decode prog_13_method_1_code 272 = .ok (.putfield 99, 3) := by decide +kernel
theorem d_M_init_275 : decode prog_13_method_1_code 275 = .ok (.bipush 8, 2) := by decide +kernel
theorem d_M_init_277 : decode prog_13_method_1_code 277 = .ok (.istore 4, 2) := by decide +kernel
theorem d_M_init_279 : decode prog_13_method_1_code 279 = .ok (.iload 4, 2) := by decide +kernel
theorem d_M_init_281 : decode prog_13_method_1_code 281 = .ok (.aload_n 0, 1) := by decide +kernel
theorem d_M_init_282 : decode prog_13_method_1_code 282 = .ok (.getfield 93, 3) := by decide +kernel
theorem d_M_init_285 : decode prog_13_method_1_code 285 = .ok (.if_icmp .ge 12, 3) := by decide +kernel
theorem d_M_init_288 : decode prog_13_method_1_code 288 = .ok (.iload 4, 2) := by decide +kernel
theorem d_M_init_290 : decode prog_13_method_1_code 290 = .ok (.iconst 2, 1) := by decide +kernel
theorem d_M_init_291 : decode prog_13_method_1_code 291 = .ok (.imul, 1) := by decide +kernel
theorem d_M_init_292 : decode prog_13_method_1_code 292 = .ok (.istore 4, 2) := by decide +kernel
theorem d_M_init_294 : decode prog_13_method_1_code 294 = .ok (.goto (-15), 3) := by decide +kernel
theorem d_M_init_297 : decode prog_13_method_1_code 297 = .ok (.aload_n 0, 1) := by decide +kernel
theorem d_M_init_298 : decode prog_13_method_1_code 298 = .ok (.iload 4, 2) := by decide +kernel
theorem d_M_init_300 : decode prog_13_method_1_code 300 = .ok (.putfield 102, 3) := by decide +kernel
theorem d_M_init_303 : decode prog_13_method_1_code 303 = .ok (.aload_n 0, 1) := by decide +kernel
theorem d_M_init_304 : decode prog_13_method_1_code 304 = .ok (.aload_n 0, 1) := by decide +kernel
theorem d_M_init_305 : decode prog_13_method_1_code 305 = .ok (.getfield 93, 3) := by decide +kernel
theorem d_M_init_308 : decode prog_13_method_1_code 308 = .ok (.bipush 100, 2) := by decide +kernel
theorem d_M_init_310 : decode prog_13_method_1_code 310 = .ok (.idiv, 1) := by decide +kernel
theorem d_M_init_311 : decode prog_13_method_1_code 311 = .ok (.iconst 1, 1) := by decide +kernel
theorem d_M_init_312 : decode prog_13_method_1_code 312 = .ok (.if_icmp .ge 7, 3) := by decide +kernel
theorem d_M_init_315 : decode prog_13_method_1_code 315 = .ok (.iconst 1, 1) := by decide +kernel
theorem d_M_init_316 : decode prog_13_method_1_code 316 = .ok (.goto 10, 3) := by decide +kernel
theorem d_M_init_319 : decode prog_13_method_1_code 319 = .ok (.aload_n 0, 1) := by decide +kernel
theorem d_M_init_320 : decode prog_13_method_1_code 320 = .ok (.getfield 93, 3) := by decide +kernel
theorem d_M_init_323 : decode prog_13_method_1_code 323 = .ok (.bipush 100, 2) := by decide +kernel
theorem d_M_init_325 : decode prog_13_method_1_code 325 = .ok (.idiv, 1) := by decide +kernel
theorem d_M_init_326 : decode prog_13_method_1_code 326 = .ok (.putfield 105, 3) := by decide +kernel
theorem d_M_init_329 : decode prog_13_method_1_code 329 = .ok (.aload_n 0, 1) := by decide +kernel
theorem d_M_init_330 : decode prog_13_method_1_code 330 = .ok (.aload_n 0, 1) := by decide +kernel
theorem d_M_init_331 : decode prog_13_method_1_code 331 = .ok (.invokevirtual 108, 3) := by decide +kernel
theorem d_M_init_334 : decode prog_13_method_1_code 334 = .ok (.putfield 112, 3) := by decide +kernel
theorem d_M_init_337 : decode prog_13_method_1_code 337 = .ok (.iconst 0, 1) := by decide +kernel
theorem d_M_init_338 : decode prog_13_method_1_code 338 = .ok (.istore 5, 2) := by decide +kernel
theorem d_M_init_340 : decode prog_13_method_1_code 340 = .ok (.iload 5, 2) := by decide +kernel
theorem d_M_init_342 : decode prog_13_method_1_code 342 = .ok (.sipush 1000, 3) := by decide +kernel
theorem d_M_init_345 : decode prog_13_method_1_code 345 = .ok (.if_icmp .ge 17, 3) := by decide +kernel
theorem d_M_init_348 : decode prog_13_method_1_code 348 = .ok (.aload_n 0, 1) := by decide +kernel
theorem d_M_init_349 : decode prog_13_method_1_code 349 = .ok (.getfield 7, 3) := by decide +kernel
theorem d_M_init_352 : decode prog_13_method_1_code 352 = .ok (.iload 5, 2) := by decide +kernel
theorem d_M_init_354 : decode prog_13_method_1_code 354 = .ok (.iconst (-1), 1) := by decide +kernel
theorem d_M_init_355 : decode prog_13_method_1_code 355 = .ok (.iastore, 1) := by decide +kernel
theorem d_M_init_356 : decode prog_13_method_1_code 356 = .ok (.iinc 5 1, 3) := by decide +kernel
theorem d_M_init_359 : decode prog_13_method_1_code 359 = .ok (.goto (-19), 3) := by decide +kernel
theorem d_M_init_362 : decode prog_13_method_1_code 362 = .ok (.aload_n 0, 1) := by decide +kernel
theorem d_M_init_363 : decode prog_13_method_1_code 363 = .ok (.getfield 73, 3) := by decide +kernel
theorem d_M_init_366 : decode prog_13_method_1_code 366 = .ok (.iconst 0, 1) := by decide +kernel
theorem d_M_init_367 : decode prog_13_method_1_code 367 = .ok (.ldc 115, 2) := by decide +kernel
theorem d_M_init_369 : decode prog_13_method_1_code 369 = .ok (.iastore, 1) := by decide +kernel
theorem d_M_init_370 : decode prog_13_method_1_code 370 = .ok (.aload_n 0, 1) := by decide +kernel
theorem d_M_init_371 : decode prog_13_method_1_code 371 = .ok (.getfield 73, 3) := by decide +kernel
theorem d_M_init_374 : decode prog_13_method_1_code 374 = .ok (.iconst 1, 1) := by decide +kernel
theorem d_M_init_375 : decode prog_13_method_1_code 375 = .ok (.ldc 116, 2) := by decide +kernel
theorem d_M_init_377 : decode prog_13_method_1_code 377 = .ok (.iastore, 1) := by decide +kernel
theorem d_M_init_378 : decode prog_13_method_1_code 378 = .ok (.aload_n 0, 1) := by decide +kernel
theorem d_M_init_379 : decode prog_13_method_1_code 379 = .ok (.getfield 73, 3) := by decide +kernel
theorem d_M_init_382 : decode prog_13_method_1_code 382 = .ok (.iconst 2, 1) := by decide +kernel
theorem d_M_init_383 : decode prog_13_method_1_code 383 = .ok (.ldc 117, 2) := by decide +kernel
theorem d_M_init_385 : decode prog_13_method_1_code 385 = .ok (.iastore, 1) := by decide +kernel
theorem d_M_init_386 : decode prog_13_method_1_code 386 = .ok (.aload_n 0, 1) := by decide +kernel
theorem d_M_init_387 : decode prog_13_method_1_code 387 = .ok (.getfield 73, 3) := by decide +kernel
theorem d_M_init_390 : decode prog_13_method_1_code 390 = .ok (.iconst 3, 1) := by decide +kernel
theorem d_M_init_391 : decode prog_13_method_1_code 391 = .ok (.ldc 118, 2) := by decide +kernel
theorem d_M_init_393 : decode prog_13_method_1_code 393 = .ok (.iastore, 1) := by decide +kernel
theorem d_M_init_394 : decode prog_13_method_1_code 394 = .ok (.return_, 1) := by decide +kernel
def y_M_thrown : MethodName := ⟨"WindowCacheModel", "thrown", "()I"⟩
theorem y_M_thrown_ok : y_M_thrown.cls ≠ "java/lang/invoke/MethodHandle" ∧ y_M_thrown.cls ≠ "java/lang/invoke/VarHandle" ∧ (parseMethodDescriptor y_M_thrown.desc).map (fun d => d.parameters.length) = some 0 := by decide +kernel
def rm_M_thrown : Room := { frames := 0, cells := 0, slots := 0, locals := 0 }
theorem d_M_thrown_0 : decode prog_13_method_2_code 0 = .ok (.aload_n 0, 1) := by decide +kernel
theorem d_M_thrown_1 : decode prog_13_method_2_code 1 = .ok (.getfield 119, 3) := by decide +kernel
theorem d_M_thrown_4 : decode prog_13_method_2_code 4 = .ok (.ireturn, 1) := by decide +kernel
def y_M_isKey : MethodName := ⟨"WindowCacheModel", "isKey", "(I)Z"⟩
theorem y_M_isKey_ok : y_M_isKey.cls ≠ "java/lang/invoke/MethodHandle" ∧ y_M_isKey.cls ≠ "java/lang/invoke/VarHandle" ∧ (parseMethodDescriptor y_M_isKey.desc).map (fun d => d.parameters.length) = some 1 := by decide +kernel
def rm_M_isKey : Room := { frames := 0, cells := 0, slots := 0, locals := 0 }
theorem d_M_isKey_0 : decode prog_13_method_4_code 0 = .ok (.iload_n 0, 1) := by decide +kernel
theorem d_M_isKey_1 : decode prog_13_method_4_code 1 = .ok (.ifCond .lt 14, 3) := by decide +kernel
theorem d_M_isKey_4 : decode prog_13_method_4_code 4 = .ok (.iload_n 0, 1) := by decide +kernel
theorem d_M_isKey_5 : decode prog_13_method_4_code 5 = .ok (.sipush 1000, 3) := by decide +kernel
theorem d_M_isKey_8 : decode prog_13_method_4_code 8 = .ok (.if_icmp .ge 7, 3) := by decide +kernel
theorem d_M_isKey_11 : decode prog_13_method_4_code 11 = .ok (.iconst 1, 1) := by decide +kernel
theorem d_M_isKey_12 : decode prog_13_method_4_code 12 = .ok (.goto 4, 3) := by decide +kernel
theorem d_M_isKey_15 : decode prog_13_method_4_code 15 = .ok (.iconst 0, 1) := by decide +kernel
theorem d_M_isKey_16 : decode prog_13_method_4_code 16 = .ok (.ireturn, 1) := by decide +kernel
def y_M_end : MethodName := ⟨"WindowCacheModel", "end", "(I)J"⟩
theorem y_M_end_ok : y_M_end.cls ≠ "java/lang/invoke/MethodHandle" ∧ y_M_end.cls ≠ "java/lang/invoke/VarHandle" ∧ (parseMethodDescriptor y_M_end.desc).map (fun d => d.parameters.length) = some 1 := by decide +kernel
def rm_M_end : Room := { frames := 0, cells := 0, slots := 0, locals := 0 }
theorem d_M_end_0 : decode prog_13_method_5_code 0 = .ok (.aload_n 0, 1) := by decide +kernel
theorem d_M_end_1 : decode prog_13_method_5_code 1 = .ok (.getfield 31, 3) := by decide +kernel
theorem d_M_end_4 : decode prog_13_method_5_code 4 = .ok (.iload_n 1, 1) := by decide +kernel
theorem d_M_end_5 : decode prog_13_method_5_code 5 = .ok (.iaload, 1) := by decide +kernel
theorem d_M_end_6 : decode prog_13_method_5_code 6 = .ok (.ifCond .le 18, 3) := by decide +kernel
theorem d_M_end_9 : decode prog_13_method_5_code 9 = .ok (.aload_n 0, 1) := by decide +kernel
theorem d_M_end_10 : decode prog_13_method_5_code 10 = .ok (.getfield 40, 3) := by decide +kernel
theorem d_M_end_13 : decode prog_13_method_5_code 13 = .ok (.iload_n 1, 1) := by decide +kernel
theorem d_M_end_14 : decode prog_13_method_5_code 14 = .ok (.laload, 1) := by decide +kernel
theorem d_M_end_15 : decode prog_13_method_5_code 15 = .ok (.aload_n 0, 1) := by decide +kernel
theorem d_M_end_16 : decode prog_13_method_5_code 16 = .ok (.getfield 31, 3) := by decide +kernel
theorem d_M_end_19 : decode prog_13_method_5_code 19 = .ok (.iload_n 1, 1) := by decide +kernel
theorem d_M_end_20 : decode prog_13_method_5_code 20 = .ok (.iaload, 1) := by decide +kernel
theorem d_M_end_21 : decode prog_13_method_5_code 21 = .ok (.i2l, 1) := by decide +kernel
theorem d_M_end_22 : decode prog_13_method_5_code 22 = .ok (.ladd, 1) := by decide +kernel
theorem d_M_end_23 : decode prog_13_method_5_code 23 = .ok (.lreturn, 1) := by decide +kernel
theorem d_M_end_24 : decode prog_13_method_5_code 24 = .ok (.aload_n 0, 1) := by decide +kernel
theorem d_M_end_25 : decode prog_13_method_5_code 25 = .ok (.getfield 96, 3) := by decide +kernel
theorem d_M_end_28 : decode prog_13_method_5_code 28 = .ok (.ifCond .le 18, 3) := by decide +kernel
theorem d_M_end_31 : decode prog_13_method_5_code 31 = .ok (.aload_n 0, 1) := by decide +kernel
theorem d_M_end_32 : decode prog_13_method_5_code 32 = .ok (.getfield 40, 3) := by decide +kernel
theorem d_M_end_35 : decode prog_13_method_5_code 35 = .ok (.iload_n 1, 1) := by decide +kernel
theorem d_M_end_36 : decode prog_13_method_5_code 36 = .ok (.laload, 1) := by decide +kernel
theorem d_M_end_37 : decode prog_13_method_5_code 37 = .ok (.aload_n 0, 1) := by decide +kernel
theorem d_M_end_38 : decode prog_13_method_5_code 38 = .ok (.getfield 96, 3) := by decide +kernel
theorem d_M_end_41 : decode prog_13_method_5_code 41 = .ok (.i2l, 1) := by decide +kernel
theorem d_M_end_42 : decode prog_13_method_5_code 42 = .ok (.ladd, 1) := by decide +kernel
theorem d_M_end_43 : decode prog_13_method_5_code 43 = .ok (.goto 6, 3) := by decide +kernel
theorem d_M_end_46 : decode prog_13_method_5_code 46 = .ok (.ldc2_w 122, 3) := by decide +kernel
theorem d_M_end_49 : decode prog_13_method_5_code 49 = .ok (.lstore_n 2, 1) := by decide +kernel
theorem d_M_end_50 : decode prog_13_method_5_code 50 = .ok (.aload_n 0, 1) := by decide +kernel
theorem d_M_end_51 : decode prog_13_method_5_code 51 = .ok (.getfield 99, 3) := by decide +kernel
theorem d_M_end_54 : decode prog_13_method_5_code 54 = .ok (.ifCond .le 18, 3) := by decide +kernel
theorem d_M_end_57 : decode prog_13_method_5_code 57 = .ok (.aload_n 0, 1) := by decide +kernel
theorem d_M_end_58 : decode prog_13_method_5_code 58 = .ok (.getfield 44, 3) := by decide +kernel
theorem d_M_end_61 : decode prog_13_method_5_code 61 = .ok (.iload_n 1, 1) := by decide +kernel
theorem d_M_end_62 : decode prog_13_method_5_code 62 = .ok (.laload, 1) := by decide +kernel
theorem d_M_end_63 : decode prog_13_method_5_code 63 = .ok (.aload_n 0, 1) := by decide +kernel
theorem d_M_end_64 : decode prog_13_method_5_code 64 = .ok (.getfield 99, 3) := by decide +kernel
theorem d_M_end_67 : decode prog_13_method_5_code 67 = .ok (.i2l, 1) := by decide +kernel
theorem d_M_end_68 : decode prog_13_method_5_code 68 = .ok (.ladd, 1) := by decide +kernel
theorem d_M_end_69 : decode prog_13_method_5_code 69 = .ok (.goto 6, 3) := by decide +kernel
theorem d_M_end_72 : decode prog_13_method_5_code 72 = .ok (.ldc2_w 122, 3) := by decide +kernel
theorem d_M_end_75 : decode prog_13_method_5_code 75 = .ok (.lstore 4, 2) := by decide +kernel
theorem d_M_end_77 : decode prog_13_method_5_code 77 = .ok (.lload_n 2, 1) := by decide +kernel
theorem d_M_end_78 : decode prog_13_method_5_code 78 = .ok (.lload 4, 2) := by decide +kernel
theorem d_M_end_80 : decode prog_13_method_5_code 80 = .ok (.lcmp, 1) := by decide +kernel
theorem d_M_end_81 : decode prog_13_method_5_code 81 = .ok (.ifCond .ge 7, 3) := by decide +kernel
theorem d_M_end_84 : decode prog_13_method_5_code 84 = .ok (.lload_n 2, 1) := by decide +kernel
theorem d_M_end_85 : decode prog_13_method_5_code 85 = .ok (.goto 5, 3) := by decide +kernel
theorem d_M_end_88 : decode prog_13_method_5_code 88 = .ok (.lload 4, 2) := by decide +kernel
theorem d_M_end_90 : decode prog_13_method_5_code 90 = .ok (.lreturn, 1) := by decide +kernel
def y_M_isOver : MethodName := ⟨"WindowCacheModel", "isOver", "(I)Z"⟩
theorem y_M_isOver_ok : y_M_isOver.cls ≠ "java/lang/invoke/MethodHandle" ∧ y_M_isOver.cls ≠ "java/lang/invoke/VarHandle" ∧ (parseMethodDescriptor y_M_isOver.desc).map (fun d => d.parameters.length) = some 1 := by decide +kernel
def rm_M_isOver : Room := { frames := 1, cells := 0, slots := 0, locals := 25 }
theorem d_M_isOver_0 : decode prog_13_method_6_code 0 = .ok (.aload_n 0, 1) := by decide +kernel
theorem d_M_isOver_1 : decode prog_13_method_6_code 1 = .ok (.iload_n 1, 1) := by decide +kernel
theorem d_M_isOver_2 : decode prog_13_method_6_code 2 = .ok (.invokevirtual 124, 3) := by decide +kernel
theorem d_M_isOver_5 : decode prog_13_method_6_code 5 = .ok (.aload_n 0, 1) := by decide +kernel
theorem d_M_isOver_6 : decode prog_13_method_6_code 6 = .ok (.getfield 128, 3) := by decide +kernel
theorem d_M_isOver_9 : decode prog_13_method_6_code 9 = .ok (.lcmp, 1) := by decide +kernel
theorem d_M_isOver_10 : decode prog_13_method_6_code 10 = .ok (.ifCond .gt 7, 3) := by decide +kernel
theorem d_M_isOver_13 : decode prog_13_method_6_code 13 = .ok (.iconst 1, 1) := by decide +kernel
theorem d_M_isOver_14 : decode prog_13_method_6_code 14 = .ok (.goto 4, 3) := by decide +kernel
theorem d_M_isOver_17 : decode prog_13_method_6_code 17 = .ok (.iconst 0, 1) := by decide +kernel
theorem d_M_isOver_18 : decode prog_13_method_6_code 18 = .ok (.ireturn, 1) := by decide +kernel
def y_M_seen : MethodName := ⟨"WindowCacheModel", "seen", "(I)I"⟩
theorem y_M_seen_ok : y_M_seen.cls ≠ "java/lang/invoke/MethodHandle" ∧ y_M_seen.cls ≠ "java/lang/invoke/VarHandle" ∧ (parseMethodDescriptor y_M_seen.desc).map (fun d => d.parameters.length) = some 1 := by decide +kernel
def rm_M_seen : Room := { frames := 2, cells := 0, slots := 0, locals := 46 }
theorem d_M_seen_0 : decode prog_13_method_7_code 0 = .ok (.aload_n 0, 1) := by decide +kernel
theorem d_M_seen_1 : decode prog_13_method_7_code 1 = .ok (.getfield 7, 3) := by decide +kernel
theorem d_M_seen_4 : decode prog_13_method_7_code 4 = .ok (.iload_n 1, 1) := by decide +kernel
theorem d_M_seen_5 : decode prog_13_method_7_code 5 = .ok (.iaload, 1) := by decide +kernel
theorem d_M_seen_6 : decode prog_13_method_7_code 6 = .ok (.iconst (-1), 1) := by decide +kernel
theorem d_M_seen_7 : decode prog_13_method_7_code 7 = .ok (.if_icmp .eq 25, 3) := by decide +kernel
theorem d_M_seen_10 : decode prog_13_method_7_code 10 = .ok (.aload_n 0, 1) := by decide +kernel
theorem d_M_seen_11 : decode prog_13_method_7_code 11 = .ok (.aload_n 0, 1) := by decide +kernel
theorem d_M_seen_12 : decode prog_13_method_7_code 12 = .ok (.getfield 7, 3) := by decide +kernel
theorem d_M_seen_15 : decode prog_13_method_7_code 15 = .ok (.iload_n 1, 1) := by decide +kernel
theorem d_M_seen_16 : decode prog_13_method_7_code 16 = .ok (.iaload, 1) := by decide +kernel
theorem d_M_seen_17 : decode prog_13_method_7_code 17 = .ok (.invokevirtual 132, 3) := by decide +kernel
theorem d_M_seen_20 : decode prog_13_method_7_code 20 = .ok (.ifCond .ne 12, 3) := by decide +kernel
theorem d_M_seen_23 : decode prog_13_method_7_code 23 = .ok (.aload_n 0, 1) := by decide +kernel
theorem d_M_seen_24 : decode prog_13_method_7_code 24 = .ok (.getfield 7, 3) := by decide +kernel
theorem d_M_seen_27 : decode prog_13_method_7_code 27 = .ok (.iload_n 1, 1) := by decide +kernel
theorem d_M_seen_28 : decode prog_13_method_7_code 28 = .ok (.iaload, 1) := by decide +kernel
theorem d_M_seen_29 : decode prog_13_method_7_code 29 = .ok (.goto 4, 3) := by decide +kernel
theorem d_M_seen_32 : decode prog_13_method_7_code 32 = .ok (.iconst (-1), 1) := by decide +kernel
theorem d_M_seen_33 : decode prog_13_method_7_code 33 = .ok (.ireturn, 1) := by decide +kernel
def y_M_got : MethodName := ⟨"WindowCacheModel", "got", "(I)I"⟩
theorem y_M_got_ok : y_M_got.cls ≠ "java/lang/invoke/MethodHandle" ∧ y_M_got.cls ≠ "java/lang/invoke/VarHandle" ∧ (parseMethodDescriptor y_M_got.desc).map (fun d => d.parameters.length) = some 1 := by decide +kernel
def rm_M_got : Room := { frames := 3, cells := 0, slots := 0, locals := 67 }
theorem d_M_got_0 : decode prog_13_method_29_code 0 = .ok (.aload_n 0, 1) := by decide +kernel
theorem d_M_got_1 : decode prog_13_method_29_code 1 = .ok (.iload_n 1, 1) := by decide +kernel
theorem d_M_got_2 : decode prog_13_method_29_code 2 = .ok (.invokevirtual 233, 3) := by decide +kernel
theorem d_M_got_5 : decode prog_13_method_29_code 5 = .ok (.istore_n 2, 1) := by decide +kernel
theorem d_M_got_6 : decode prog_13_method_29_code 6 = .ok (.iload_n 2, 1) := by decide +kernel
theorem d_M_got_7 : decode prog_13_method_29_code 7 = .ok (.iconst (-1), 1) := by decide +kernel
theorem d_M_got_8 : decode prog_13_method_29_code 8 = .ok (.if_icmp .ne 25, 3) := by decide +kernel
theorem d_M_got_11 : decode prog_13_method_29_code 11 = .ok (.aload_n 0, 1) := by decide +kernel
theorem d_M_got_12 : decode prog_13_method_29_code 12 = .ok (.dup, 1) := by decide +kernel
theorem d_M_got_13 : decode prog_13_method_29_code 13 = .ok (.getfield 236, 3) := by decide +kernel
theorem d_M_got_16 : decode prog_13_method_29_code 16 = .ok (.iconst 1, 1) := by decide +kernel
theorem d_M_got_17 : decode prog_13_method_29_code 17 = .ok (.iadd, 1) := by decide +kernel
theorem d_M_got_18 : decode prog_13_method_29_code 18 = .ok (.putfield 236, 3) := by decide +kernel
theorem d_M_got_21 : decode prog_13_method_29_code 21 = .ok (.aload_n 0, 1) := by decide +kernel
theorem d_M_got_22 : decode prog_13_method_29_code 22 = .ok (.dup, 1) := by decide +kernel
theorem d_M_got_23 : decode prog_13_method_29_code 23 = .ok (.getfield 210, 3) := by decide +kernel
theorem d_M_got_26 : decode prog_13_method_29_code 26 = .ok (.iconst 1, 1) := by decide +kernel
theorem d_M_got_27 : decode prog_13_method_29_code 27 = .ok (.iadd, 1) := by decide +kernel
theorem d_M_got_28 : decode prog_13_method_29_code 28 = .ok (.putfield 210, 3) := by decide +kernel
theorem d_M_got_31 : decode prog_13_method_29_code 31 = .ok (.iconst (-1), 1) := by decide +kernel
theorem d_M_got_32 : decode prog_13_method_29_code 32 = .ok (.ireturn, 1) := by decide +kernel
theorem d_M_got_33 : decode prog_13_method_29_code 33 = .ok (.aload_n 0, 1) := by decide +kernel
theorem d_M_got_34 : decode prog_13_method_29_code 34 = .ok (.dup, 1) := by decide +kernel
theorem d_M_got_35 : decode prog_13_method_29_code 35 = .ok (.getfield 239, 3) := by decide +kernel
theorem d_M_got_38 : decode prog_13_method_29_code 38 = .ok (.iconst 1, 1) := by decide +kernel
theorem d_M_got_39 : decode prog_13_method_29_code 39 = .ok (.iadd, 1) := by decide +kernel
theorem d_M_got_40 : decode prog_13_method_29_code 40 = .ok (.putfield 239, 3) := by decide +kernel
theorem d_M_got_43 : decode prog_13_method_29_code 43 = .ok (.aload_n 0, 1) := by decide +kernel
theorem d_M_got_44 : decode prog_13_method_29_code 44 = .ok (.dup, 1) := by decide +kernel
theorem d_M_got_45 : decode prog_13_method_29_code 45 = .ok (.getfield 207, 3) := by decide +kernel
theorem d_M_got_48 : decode prog_13_method_29_code 48 = .ok (.iconst 1, 1) := by decide +kernel
theorem d_M_got_49 : decode prog_13_method_29_code 49 = .ok (.iadd, 1) := by decide +kernel
theorem d_M_got_50 : decode prog_13_method_29_code 50 = .ok (.putfield 207, 3) := by decide +kernel
theorem d_M_got_53 : decode prog_13_method_29_code 53 = .ok (.aload_n 0, 1) := by decide +kernel
theorem d_M_got_54 : decode prog_13_method_29_code 54 = .ok (.getfield 44, 3) := by decide +kernel
theorem d_M_got_57 : decode prog_13_method_29_code 57 = .ok (.iload_n 2, 1) := by decide +kernel
theorem d_M_got_58 : decode prog_13_method_29_code 58 = .ok (.aload_n 0, 1) := by decide +kernel
theorem d_M_got_59 : decode prog_13_method_29_code 59 = .ok (.getfield 128, 3) := by decide +kernel
theorem d_M_got_62 : decode prog_13_method_29_code 62 = .ok (.lastore, 1) := by decide +kernel
theorem d_M_got_63 : decode prog_13_method_29_code 63 = .ok (.iload_n 1, 1) := by decide +kernel
theorem d_M_got_64 : decode prog_13_method_29_code 64 = .ok (.iconst 2, 1) := by decide +kernel
theorem d_M_got_65 : decode prog_13_method_29_code 65 = .ok (.irem, 1) := by decide +kernel
theorem d_M_got_66 : decode prog_13_method_29_code 66 = .ok (.istore_n 3, 1) := by decide +kernel
theorem d_M_got_67 : decode prog_13_method_29_code 67 = .ok (.aload_n 0, 1) := by decide +kernel
theorem d_M_got_68 : decode prog_13_method_29_code 68 = .ok (.getfield 60, 3) := by decide +kernel
theorem d_M_got_71 : decode prog_13_method_29_code 71 = .ok (.iload_n 3, 1) := by decide +kernel
theorem d_M_got_72 : decode prog_13_method_29_code 72 = .ok (.iaload, 1) := by decide +kernel
theorem d_M_got_73 : decode prog_13_method_29_code 73 = .ok (.bipush 16, 2) := by decide +kernel
theorem d_M_got_75 : decode prog_13_method_29_code 75 = .ok (.if_icmp .ne 16, 3) := by decide +kernel
theorem d_M_got_78 : decode prog_13_method_29_code 78 = .ok (.aload_n 0, 1) := by decide +kernel
theorem d_M_got_79 : decode prog_13_method_29_code 79 = .ok (.dup, 1) := by decide +kernel
theorem d_M_got_80 : decode prog_13_method_29_code 80 = .ok (.getfield 242, 3) := by decide +kernel
theorem d_M_got_83 : decode prog_13_method_29_code 83 = .ok (.iconst 1, 1) := by decide +kernel
theorem d_M_got_84 : decode prog_13_method_29_code 84 = .ok (.iadd, 1) := by decide +kernel
theorem d_M_got_85 : decode prog_13_method_29_code 85 = .ok (.putfield 242, 3) := by decide +kernel
theorem d_M_got_88 : decode prog_13_method_29_code 88 = .ok (.goto 30, 3) := by decide +kernel
theorem d_M_got_91 : decode prog_13_method_29_code 91 = .ok (.aload_n 0, 1) := by decide +kernel
theorem d_M_got_92 : decode prog_13_method_29_code 92 = .ok (.getfield 57, 3) := by decide +kernel
theorem d_M_got_95 : decode prog_13_method_29_code 95 = .ok (.bipush 16, 2) := by decide +kernel
theorem d_M_got_97 : decode prog_13_method_29_code 97 = .ok (.iload_n 3, 1) := by decide +kernel
theorem d_M_got_98 : decode prog_13_method_29_code 98 = .ok (.imul, 1) := by decide +kernel
theorem d_M_got_99 : decode prog_13_method_29_code 99 = .ok (.aload_n 0, 1) := by decide +kernel
theorem d_M_got_100 : decode prog_13_method_29_code 100 = .ok (.getfield 60, 3) := by decide +kernel
theorem d_M_got_103 : decode prog_13_method_29_code 103 = .ok (.iload_n 3, 1) := by decide +kernel
theorem d_M_got_104 : decode prog_13_method_29_code 104 = .ok (.iaload, 1) := by decide +kernel
theorem d_M_got_105 : decode prog_13_method_29_code 105 = .ok (.iadd, 1) := by decide +kernel
theorem d_M_got_106 : decode prog_13_method_29_code 106 = .ok (.iload_n 2, 1) := by decide +kernel
theorem d_M_got_107 : decode prog_13_method_29_code 107 = .ok (.iastore, 1) := by decide +kernel
theorem d_M_got_108 : decode prog_13_method_29_code 108 = .ok (.aload_n 0, 1) := by decide +kernel
theorem d_M_got_109 : decode prog_13_method_29_code 109 = .ok (.getfield 60, 3) := by decide +kernel
theorem d_M_got_112 : decode prog_13_method_29_code 112 = .ok (.iload_n 3, 1) := by decide +kernel
theorem d_M_got_113 : decode prog_13_method_29_code 113 = .ok (.dup2, 1) := by decide +kernel
theorem d_M_got_114 : decode prog_13_method_29_code 114 = .ok (.iaload, 1) := by decide +kernel
theorem d_M_got_115 : decode prog_13_method_29_code 115 = .ok (.iconst 1, 1) := by decide +kernel
theorem d_M_got_116 : decode prog_13_method_29_code 116 = .ok (.iadd, 1) := by decide +kernel
theorem d_M_got_117 : decode prog_13_method_29_code 117 = .ok (.iastore, 1) := by decide +kernel
theorem d_M_got_118 : decode prog_13_method_29_code 118 = .ok (.aload_n 0, 1) := by decide +kernel
theorem d_M_got_119 : decode prog_13_method_29_code 119 = .ok (.getfield 25, 3) := by decide +kernel
theorem d_M_got_122 : decode prog_13_method_29_code 122 = .ok (.iload_n 2, 1) := by decide +kernel
theorem d_M_got_123 : decode prog_13_method_29_code 123 = .ok (.iaload, 1) := by decide +kernel
theorem d_M_got_124 : decode prog_13_method_29_code 124 = .ok (.ireturn, 1) := by decide +kernel
def y_M_get : MethodName := ⟨"WindowCacheModel", "get", "(I)I"⟩
theorem y_M_get_ok : y_M_get.cls ≠ "java/lang/invoke/MethodHandle" ∧ y_M_get.cls ≠ "java/lang/invoke/VarHandle" ∧ (parseMethodDescriptor y_M_get.desc).map (fun d => d.parameters.length) = some 1 := by decide +kernel
def rm_M_get : Room := { frames := 4, cells := 0, slots := 0, locals := 90 }
theorem d_M_get_0 : decode prog_13_method_30_code 0 = .ok (.aload_n 0, 1) := by decide +kernel
theorem d_M_get_1 : decode prog_13_method_30_code 1 = .ok (.iconst 0, 1) := by decide +kernel
theorem d_M_get_2 : decode prog_13_method_30_code 2 = .ok (.putfield 119, 3) := by decide +kernel
theorem d_M_get_5 : decode prog_13_method_30_code 5 = .ok (.iload_n 1, 1) := by decide +kernel
theorem d_M_get_6 : decode prog_13_method_30_code 6 = .ok (.invokestatic 245, 3) := by decide +kernel
theorem d_M_get_9 : decode prog_13_method_30_code 9 = .ok (.ifCond .eq 11, 3) := by decide +kernel
theorem d_M_get_12 : decode prog_13_method_30_code 12 = .ok (.aload_n 0, 1) := by decide +kernel
theorem d_M_get_13 : decode prog_13_method_30_code 13 = .ok (.iload_n 1, 1) := by decide +kernel
theorem d_M_get_14 : decode prog_13_method_30_code 14 = .ok (.invokevirtual 248, 3) := by decide +kernel
theorem d_M_get_17 : decode prog_13_method_30_code 17 = .ok (.goto 4, 3) := by decide +kernel
theorem d_M_get_20 : decode prog_13_method_30_code 20 = .ok (.iconst (-1), 1) := by decide +kernel
theorem d_M_get_21 : decode prog_13_method_30_code 21 = .ok (.ireturn, 1) := by decide +kernel
def y_M_has : MethodName := ⟨"WindowCacheModel", "has", "(I)Z"⟩
theorem y_M_has_ok : y_M_has.cls ≠ "java/lang/invoke/MethodHandle" ∧ y_M_has.cls ≠ "java/lang/invoke/VarHandle" ∧ (parseMethodDescriptor y_M_has.desc).map (fun d => d.parameters.length) = some 1 := by decide +kernel
def rm_M_has : Room := { frames := 3, cells := 0, slots := 0, locals := 67 }
theorem d_M_has_0 : decode prog_13_method_31_code 0 = .ok (.aload_n 0, 1) := by decide +kernel
theorem d_M_has_1 : decode prog_13_method_31_code 1 = .ok (.iconst 0, 1) := by decide +kernel
theorem d_M_has_2 : decode prog_13_method_31_code 2 = .ok (.putfield 119, 3) := by decide +kernel
theorem d_M_has_5 : decode prog_13_method_31_code 5 = .ok (.iload_n 1, 1) := by decide +kernel
theorem d_M_has_6 : decode prog_13_method_31_code 6 = .ok (.invokestatic 245, 3) := by decide +kernel
theorem d_M_has_9 : decode prog_13_method_31_code 9 = .ok (.ifCond .eq 16, 3) := by decide +kernel
theorem d_M_has_12 : decode prog_13_method_31_code 12 = .ok (.aload_n 0, 1) := by decide +kernel
theorem d_M_has_13 : decode prog_13_method_31_code 13 = .ok (.iload_n 1, 1) := by decide +kernel
theorem d_M_has_14 : decode prog_13_method_31_code 14 = .ok (.invokevirtual 233, 3) := by decide +kernel
theorem d_M_has_17 : decode prog_13_method_31_code 17 = .ok (.iconst (-1), 1) := by decide +kernel
theorem d_M_has_18 : decode prog_13_method_31_code 18 = .ok (.if_icmp .eq 7, 3) := by decide +kernel
theorem d_M_has_21 : decode prog_13_method_31_code 21 = .ok (.iconst 1, 1) := by decide +kernel
theorem d_M_has_22 : decode prog_13_method_31_code 22 = .ok (.goto 4, 3) := by decide +kernel
theorem d_M_has_25 : decode prog_13_method_31_code 25 = .ok (.iconst 0, 1) := by decide +kernel
theorem d_M_has_26 : decode prog_13_method_31_code 26 = .ok (.ireturn, 1) := by decide +kernel
def y_M_hear : MethodName := ⟨"WindowCacheModel", "hear", "(II)V"⟩
theorem y_M_hear_ok : y_M_hear.cls ≠ "java/lang/invoke/MethodHandle" ∧ y_M_hear.cls ≠ "java/lang/invoke/VarHandle" ∧ (parseMethodDescriptor y_M_hear.desc).map (fun d => d.parameters.length) = some 2 := by decide +kernel
def rm_M_hear : Room := { frames := 0, cells := 0, slots := 0, locals := 0 }
theorem d_M_hear_0 : decode prog_13_method_17_code 0 = .ok (.aload_n 0, 1) := by decide +kernel
theorem d_M_hear_1 : decode prog_13_method_17_code 1 = .ok (.getfield 163, 3) := by decide +kernel
theorem d_M_hear_4 : decode prog_13_method_17_code 4 = .ok (.sipush 500, 3) := by decide +kernel
theorem d_M_hear_7 : decode prog_13_method_17_code 7 = .ok (.if_icmp .ge 53, 3) := by decide +kernel
theorem d_M_hear_10 : decode prog_13_method_17_code 10 = .ok (.aload_n 0, 1) := by decide +kernel
theorem d_M_hear_11 : decode prog_13_method_17_code 11 = .ok (.getfield 84, 3) := by decide +kernel
theorem d_M_hear_14 : decode prog_13_method_17_code 14 = .ok (.aload_n 0, 1) := by decide +kernel
theorem d_M_hear_15 : decode prog_13_method_17_code 15 = .ok (.getfield 163, 3) := by decide +kernel
theorem d_M_hear_18 : decode prog_13_method_17_code 18 = .ok (.aload_n 0, 1) := by decide +kernel
theorem d_M_hear_19 : decode prog_13_method_17_code 19 = .ok (.getfield 22, 3) := by decide +kernel
theorem d_M_hear_22 : decode prog_13_method_17_code 22 = .ok (.iload_n 1, 1) := by decide +kernel
theorem d_M_hear_23 : decode prog_13_method_17_code 23 = .ok (.iaload, 1) := by decide +kernel
theorem d_M_hear_24 : decode prog_13_method_17_code 24 = .ok (.iastore, 1) := by decide +kernel
theorem d_M_hear_25 : decode prog_13_method_17_code 25 = .ok (.aload_n 0, 1) := by decide +kernel
theorem d_M_hear_26 : decode prog_13_method_17_code 26 = .ok (.getfield 87, 3) := by decide +kernel
theorem d_M_hear_29 : decode prog_13_method_17_code 29 = .ok (.aload_n 0, 1) := by decide +kernel
theorem d_M_hear_30 : decode prog_13_method_17_code 30 = .ok (.getfield 163, 3) := by decide +kernel
theorem d_M_hear_33 : decode prog_13_method_17_code 33 = .ok (.aload_n 0, 1) := by decide +kernel
theorem d_M_hear_34 : decode prog_13_method_17_code 34 = .ok (.getfield 25, 3) := by decide +kernel
theorem d_M_hear_37 : decode prog_13_method_17_code 37 = .ok (.iload_n 1, 1) := by decide +kernel
theorem d_M_hear_38 : decode prog_13_method_17_code 38 = .ok (.iaload, 1) := by decide +kernel
theorem d_M_hear_39 : decode prog_13_method_17_code 39 = .ok (.iastore, 1) := by decide +kernel
theorem d_M_hear_40 : decode prog_13_method_17_code 40 = .ok (.aload_n 0, 1) := by decide +kernel
theorem d_M_hear_41 : decode prog_13_method_17_code 41 = .ok (.getfield 90, 3) := by decide +kernel
theorem d_M_hear_44 : decode prog_13_method_17_code 44 = .ok (.aload_n 0, 1) := by decide +kernel
theorem d_M_hear_45 : decode prog_13_method_17_code 45 = .ok (.getfield 163, 3) := by decide +kernel
theorem d_M_hear_48 : decode prog_13_method_17_code 48 = .ok (.iload_n 2, 1) := by decide +kernel
theorem d_M_hear_49 : decode prog_13_method_17_code 49 = .ok (.iastore, 1) := by decide +kernel
theorem d_M_hear_50 : decode prog_13_method_17_code 50 = .ok (.aload_n 0, 1) := by decide +kernel
theorem d_M_hear_51 : decode prog_13_method_17_code 51 = .ok (.dup, 1) := by decide +kernel
theorem d_M_hear_52 : decode prog_13_method_17_code 52 = .ok (.getfield 163, 3) := by decide +kernel
theorem d_M_hear_55 : decode prog_13_method_17_code 55 = .ok (.iconst 1, 1) := by decide +kernel
theorem d_M_hear_56 : decode prog_13_method_17_code 56 = .ok (.iadd, 1) := by decide +kernel
theorem d_M_hear_57 : decode prog_13_method_17_code 57 = .ok (.putfield 163, 3) := by decide +kernel
theorem d_M_hear_60 : decode prog_13_method_17_code 60 = .ok (.return_, 1) := by decide +kernel
def y_M_drop : MethodName := ⟨"WindowCacheModel", "drop", "(II)V"⟩
theorem y_M_drop_ok : y_M_drop.cls ≠ "java/lang/invoke/MethodHandle" ∧ y_M_drop.cls ≠ "java/lang/invoke/VarHandle" ∧ (parseMethodDescriptor y_M_drop.desc).map (fun d => d.parameters.length) = some 2 := by decide +kernel
def rm_M_drop : Room := { frames := 1, cells := 0, slots := 0, locals := 22 }
theorem d_M_drop_0 : decode prog_13_method_18_code 0 = .ok (.aload_n 0, 1) := by decide +kernel
theorem d_M_drop_1 : decode prog_13_method_18_code 1 = .ok (.iload_n 1, 1) := by decide +kernel
theorem d_M_drop_2 : decode prog_13_method_18_code 2 = .ok (.iload_n 2, 1) := by decide +kernel
theorem d_M_drop_3 : decode prog_13_method_18_code 3 = .ok (.invokevirtual 166, 3) := by decide +kernel
theorem d_M_drop_6 : decode prog_13_method_18_code 6 = .ok (.aload_n 0, 1) := by decide +kernel
theorem d_M_drop_7 : decode prog_13_method_18_code 7 = .ok (.getfield 50, 3) := by decide +kernel
theorem d_M_drop_10 : decode prog_13_method_18_code 10 = .ok (.iload_n 1, 1) := by decide +kernel
theorem d_M_drop_11 : decode prog_13_method_18_code 11 = .ok (.iconst 0, 1) := by decide +kernel
theorem d_M_drop_12 : decode prog_13_method_18_code 12 = .ok (.bastore, 1) := by decide +kernel
theorem d_M_drop_13 : decode prog_13_method_18_code 13 = .ok (.aload_n 0, 1) := by decide +kernel
theorem d_M_drop_14 : decode prog_13_method_18_code 14 = .ok (.getfield 7, 3) := by decide +kernel
theorem d_M_drop_17 : decode prog_13_method_18_code 17 = .ok (.aload_n 0, 1) := by decide +kernel
theorem d_M_drop_18 : decode prog_13_method_18_code 18 = .ok (.getfield 22, 3) := by decide +kernel
theorem d_M_drop_21 : decode prog_13_method_18_code 21 = .ok (.iload_n 1, 1) := by decide +kernel
theorem d_M_drop_22 : decode prog_13_method_18_code 22 = .ok (.iaload, 1) := by decide +kernel
theorem d_M_drop_23 : decode prog_13_method_18_code 23 = .ok (.iconst (-1), 1) := by decide +kernel
theorem d_M_drop_24 : decode prog_13_method_18_code 24 = .ok (.iastore, 1) := by decide +kernel
theorem d_M_drop_25 : decode prog_13_method_18_code 25 = .ok (.return_, 1) := by decide +kernel
def y_M_place : MethodName := ⟨"WindowCacheModel", "place", "(II)I"⟩
theorem y_M_place_ok : y_M_place.cls ≠ "java/lang/invoke/MethodHandle" ∧ y_M_place.cls ≠ "java/lang/invoke/VarHandle" ∧ (parseMethodDescriptor y_M_place.desc).map (fun d => d.parameters.length) = some 2 := by decide +kernel
def rm_M_place : Room := { frames := 0, cells := 0, slots := 0, locals := 0 }
theorem d_M_place_0 : decode prog_13_method_8_code 0 = .ok (.sipush 8192, 3) := by decide +kernel
theorem d_M_place_3 : decode prog_13_method_8_code 3 = .ok (.iload_n 1, 1) := by decide +kernel
theorem d_M_place_4 : decode prog_13_method_8_code 4 = .ok (.imul, 1) := by decide +kernel
theorem d_M_place_5 : decode prog_13_method_8_code 5 = .ok (.iload_n 2, 1) := by decide +kernel
theorem d_M_place_6 : decode prog_13_method_8_code 6 = .ok (.iconst 1, 1) := by decide +kernel
theorem d_M_place_7 : decode prog_13_method_8_code 7 = .ok (.iadd, 1) := by decide +kernel
theorem d_M_place_8 : decode prog_13_method_8_code 8 = .ok (.aload_n 0, 1) := by decide +kernel
theorem d_M_place_9 : decode prog_13_method_8_code 9 = .ok (.getfield 73, 3) := by decide +kernel
theorem d_M_place_12 : decode prog_13_method_8_code 12 = .ok (.iload_n 1, 1) := by decide +kernel
theorem d_M_place_13 : decode prog_13_method_8_code 13 = .ok (.iaload, 1) := by decide +kernel
theorem d_M_place_14 : decode prog_13_method_8_code 14 = .ok (.imul, 1) := by decide +kernel
theorem d_M_place_15 : decode prog_13_method_8_code 15 = .ok (.bipush 7, 2) := by decide +kernel
theorem d_M_place_17 : decode prog_13_method_8_code 17 = .ok (.iushr, 1) := by decide +kernel
theorem d_M_place_18 : decode prog_13_method_8_code 18 = .ok (.aload_n 0, 1) := by decide +kernel
theorem d_M_place_19 : decode prog_13_method_8_code 19 = .ok (.getfield 102, 3) := by decide +kernel
theorem d_M_place_22 : decode prog_13_method_8_code 22 = .ok (.iconst 1, 1) := by decide +kernel
theorem d_M_place_23 : decode prog_13_method_8_code 23 = .ok (.isub, 1) := by decide +kernel
theorem d_M_place_24 : decode prog_13_method_8_code 24 = .ok (.iand, 1) := by decide +kernel
theorem d_M_place_25 : decode prog_13_method_8_code 25 = .ok (.iadd, 1) := by decide +kernel
theorem d_M_place_26 : decode prog_13_method_8_code 26 = .ok (.ireturn, 1) := by decide +kernel
def y_M_count1 : MethodName := ⟨"WindowCacheModel", "count1", "(I)V"⟩
theorem y_M_count1_ok : y_M_count1.cls ≠ "java/lang/invoke/MethodHandle" ∧ y_M_count1.cls ≠ "java/lang/invoke/VarHandle" ∧ (parseMethodDescriptor y_M_count1.desc).map (fun d => d.parameters.length) = some 1 := by decide +kernel
def rm_M_count1 : Room := { frames := 1, cells := 0, slots := 0, locals := 22 }
theorem d_M_count1_0 : decode prog_13_method_10_code 0 = .ok (.iconst 0, 1) := by decide +kernel
theorem d_M_count1_1 : decode prog_13_method_10_code 1 = .ok (.istore_n 2, 1) := by decide +kernel
theorem d_M_count1_2 : decode prog_13_method_10_code 2 = .ok (.iconst 0, 1) := by decide +kernel
theorem d_M_count1_3 : decode prog_13_method_10_code 3 = .ok (.istore_n 3, 1) := by decide +kernel
theorem d_M_count1_4 : decode prog_13_method_10_code 4 = .ok (.iload_n 3, 1) := by decide +kernel
theorem d_M_count1_5 : decode prog_13_method_10_code 5 = .ok (.iconst 4, 1) := by decide +kernel
theorem d_M_count1_6 : decode prog_13_method_10_code 6 = .ok (.if_icmp .ge 45, 3) := by decide +kernel
theorem d_M_count1_9 : decode prog_13_method_10_code 9 = .ok (.aload_n 0, 1) := by decide +kernel
theorem d_M_count1_10 : decode prog_13_method_10_code 10 = .ok (.getfield 70, 3) := by decide +kernel
theorem d_M_count1_13 : decode prog_13_method_10_code 13 = .ok (.aload_n 0, 1) := by decide +kernel
theorem d_M_count1_14 : decode prog_13_method_10_code 14 = .ok (.iload_n 3, 1) := by decide +kernel
theorem d_M_count1_15 : decode prog_13_method_10_code 15 = .ok (.iload_n 1, 1) := by decide +kernel
theorem d_M_count1_16 : decode prog_13_method_10_code 16 = .ok (.invokevirtual 136, 3) := by decide +kernel
theorem d_M_count1_19 : decode prog_13_method_10_code 19 = .ok (.iaload, 1) := by decide +kernel
theorem d_M_count1_20 : decode prog_13_method_10_code 20 = .ok (.bipush 15, 2) := by decide +kernel
theorem d_M_count1_22 : decode prog_13_method_10_code 22 = .ok (.if_icmp .ne 6, 3) := by decide +kernel
theorem d_M_count1_25 : decode prog_13_method_10_code 25 = .ok (.goto 20, 3) := by decide +kernel
theorem d_M_count1_28 : decode prog_13_method_10_code 28 = .ok (.aload_n 0, 1) := by decide +kernel
theorem d_M_count1_29 : decode prog_13_method_10_code 29 = .ok (.getfield 70, 3) := by decide +kernel
theorem d_M_count1_32 : decode prog_13_method_10_code 32 = .ok (.aload_n 0, 1) := by decide +kernel
theorem d_M_count1_33 : decode prog_13_method_10_code 33 = .ok (.iload_n 3, 1) := by decide +kernel
theorem d_M_count1_34 : decode prog_13_method_10_code 34 = .ok (.iload_n 1, 1) := by decide +kernel
theorem d_M_count1_35 : decode prog_13_method_10_code 35 = .ok (.invokevirtual 136, 3) := by decide +kernel
theorem d_M_count1_38 : decode prog_13_method_10_code 38 = .ok (.dup2, 1) := by decide +kernel
theorem d_M_count1_39 : decode prog_13_method_10_code 39 = .ok (.iaload, 1) := by decide +kernel
theorem d_M_count1_40 : decode prog_13_method_10_code 40 = .ok (.iconst 1, 1) := by decide +kernel
theorem d_M_count1_41 : decode prog_13_method_10_code 41 = .ok (.iadd, 1) := by decide +kernel
theorem d_M_count1_42 : decode prog_13_method_10_code 42 = .ok (.iastore, 1) := by decide +kernel
theorem d_M_count1_43 : decode prog_13_method_10_code 43 = .ok (.iconst 1, 1) := by decide +kernel
theorem d_M_count1_44 : decode prog_13_method_10_code 44 = .ok (.istore_n 2, 1) := by decide +kernel
theorem d_M_count1_45 : decode prog_13_method_10_code 45 = .ok (.iinc 3 1, 3) := by decide +kernel
theorem d_M_count1_48 : decode prog_13_method_10_code 48 = .ok (.goto (-44), 3) := by decide +kernel
theorem d_M_count1_51 : decode prog_13_method_10_code 51 = .ok (.iload_n 2, 1) := by decide +kernel
theorem d_M_count1_52 : decode prog_13_method_10_code 52 = .ok (.ifCond .ne 4, 3) := by decide +kernel
theorem d_M_count1_55 : decode prog_13_method_10_code 55 = .ok (.return_, 1) := by decide +kernel
theorem d_M_count1_56 : decode prog_13_method_10_code 56 = .ok (.aload_n 0, 1) := by decide +kernel
theorem d_M_count1_57 : decode prog_13_method_10_code 57 = .ok (.dup, 1) := by decide +kernel
theorem d_M_count1_58 : decode prog_13_method_10_code 58 = .ok (.getfield 140, 3) := by decide +kernel
theorem d_M_count1_61 : decode prog_13_method_10_code 61 = .ok (.iconst 1, 1) := by decide +kernel
theorem d_M_count1_62 : decode prog_13_method_10_code 62 = .ok (.iadd, 1) := by decide +kernel
theorem d_M_count1_63 : decode prog_13_method_10_code 63 = .ok (.putfield 140, 3) := by decide +kernel
theorem d_M_count1_66 : decode prog_13_method_10_code 66 = .ok (.aload_n 0, 1) := by decide +kernel
theorem d_M_count1_67 : decode prog_13_method_10_code 67 = .ok (.getfield 140, 3) := by decide +kernel
theorem d_M_count1_70 : decode prog_13_method_10_code 70 = .ok (.bipush 10, 2) := by decide +kernel
theorem d_M_count1_72 : decode prog_13_method_10_code 72 = .ok (.aload_n 0, 1) := by decide +kernel
theorem d_M_count1_73 : decode prog_13_method_10_code 73 = .ok (.getfield 102, 3) := by decide +kernel
theorem d_M_count1_76 : decode prog_13_method_10_code 76 = .ok (.imul, 1) := by decide +kernel
theorem d_M_count1_77 : decode prog_13_method_10_code 77 = .ok (.if_icmp .ge 4, 3) := by decide +kernel
theorem d_M_count1_80 : decode prog_13_method_10_code 80 = .ok (.return_, 1) := by decide +kernel
theorem d_M_count1_81 : decode prog_13_method_10_code 81 = .ok (.iconst 0, 1) := by decide +kernel
theorem d_M_count1_82 : decode prog_13_method_10_code 82 = .ok (.istore_n 3, 1) := by decide +kernel
theorem d_M_count1_83 : decode prog_13_method_10_code 83 = .ok (.iconst 0, 1) := by decide +kernel
theorem d_M_count1_84 : decode prog_13_method_10_code 84 = .ok (.istore 4, 2) := by decide +kernel
theorem d_M_count1_86 : decode prog_13_method_10_code 86 = .ok (.iload 4, 2) := by decide +kernel
theorem d_M_count1_88 : decode prog_13_method_10_code 88 = .ok (.iconst 4, 1) := by decide +kernel
theorem d_M_count1_89 : decode prog_13_method_10_code 89 = .ok (.if_icmp .ge 64, 3) := by decide +kernel
theorem d_M_count1_92 : decode prog_13_method_10_code 92 = .ok (.iconst 0, 1) := by decide +kernel
theorem d_M_count1_93 : decode prog_13_method_10_code 93 = .ok (.istore 5, 2) := by decide +kernel
theorem d_M_count1_95 : decode prog_13_method_10_code 95 = .ok (.iload 5, 2) := by decide +kernel
theorem d_M_count1_97 : decode prog_13_method_10_code 97 = .ok (.aload_n 0, 1) := by decide +kernel
theorem d_M_count1_98 : decode prog_13_method_10_code 98 = .ok (.getfield 102, 3) := by decide +kernel
theorem d_M_count1_101 : decode prog_13_method_10_code 101 = .ok (.if_icmp .ge 46, 3) := by decide +kernel
theorem d_M_count1_104 : decode prog_13_method_10_code 104 = .ok (.iload_n 3, 1) := by decide +kernel
theorem d_M_count1_105 : decode prog_13_method_10_code 105 = .ok (.aload_n 0, 1) := by decide +kernel
theorem d_M_count1_106 : decode prog_13_method_10_code 106 = .ok (.getfield 70, 3) := by decide +kernel
theorem d_M_count1_109 : decode prog_13_method_10_code 109 = .ok (.sipush 8192, 3) := by decide +kernel
theorem d_M_count1_112 : decode prog_13_method_10_code 112 = .ok (.iload 4, 2) := by decide +kernel
theorem d_M_count1_114 : decode prog_13_method_10_code 114 = .ok (.imul, 1) := by decide +kernel
theorem d_M_count1_115 : decode prog_13_method_10_code 115 = .ok (.iload 5, 2) := by decide +kernel
theorem d_M_count1_117 : decode prog_13_method_10_code 117 = .ok (.iadd, 1) := by decide +kernel
theorem d_M_count1_118 : decode prog_13_method_10_code 118 = .ok (.iaload, 1) := by decide +kernel
theorem d_M_count1_119 : decode prog_13_method_10_code 119 = .ok (.iconst 2, 1) := by decide +kernel
theorem d_M_count1_120 : decode prog_13_method_10_code 120 = .ok (.irem, 1) := by decide +kernel
theorem d_M_count1_121 : decode prog_13_method_10_code 121 = .ok (.iadd, 1) := by decide +kernel
theorem d_M_count1_122 : decode prog_13_method_10_code 122 = .ok (.istore_n 3, 1) := by decide +kernel
theorem d_M_count1_123 : decode prog_13_method_10_code 123 = .ok (.aload_n 0, 1) := by decide +kernel
theorem d_M_count1_124 : decode prog_13_method_10_code 124 = .ok (.getfield 70, 3) := by decide +kernel
theorem d_M_count1_127 : decode prog_13_method_10_code 127 = .ok (.sipush 8192, 3) := by decide +kernel
theorem d_M_count1_130 : decode prog_13_method_10_code 130 = .ok (.iload 4, 2) := by decide +kernel
theorem d_M_count1_132 : decode prog_13_method_10_code 132 = .ok (.imul, 1) := by decide +kernel
theorem d_M_count1_133 : decode prog_13_method_10_code 133 = .ok (.iload 5, 2) := by decide +kernel
theorem d_M_count1_135 : decode prog_13_method_10_code 135 = .ok (.iadd, 1) := by decide +kernel
theorem d_M_count1_136 : decode prog_13_method_10_code 136 = .ok (.dup2, 1) := by decide +kernel
theorem d_M_count1_137 : decode prog_13_method_10_code 137 = .ok (.iaload, 1) := by decide +kernel
theorem d_M_count1_138 : decode prog_13_method_10_code 138 = .ok (.iconst 2, 1) := by decide +kernel
theorem d_M_count1_139 : decode prog_13_method_10_code 139 = .ok (.idiv, 1) := by decide +kernel
theorem d_M_count1_140 : decode prog_13_method_10_code 140 = .ok (.iastore, 1) := by decide +kernel
theorem d_M_count1_141 : decode prog_13_method_10_code 141 = .ok (.iinc 5 1, 3) := by decide +kernel
theorem d_M_count1_144 : decode prog_13_method_10_code 144 = .ok (.goto (-49), 3) := by decide +kernel
theorem d_M_count1_147 : decode prog_13_method_10_code 147 = .ok (.iinc 4 1, 3) := by decide +kernel
theorem d_M_count1_150 : decode prog_13_method_10_code 150 = .ok (.goto (-64), 3) := by decide +kernel
theorem d_M_count1_153 : decode prog_13_method_10_code 153 = .ok (.aload_n 0, 1) := by decide +kernel
theorem d_M_count1_154 : decode prog_13_method_10_code 154 = .ok (.aload_n 0, 1) := by decide +kernel
theorem d_M_count1_155 : decode prog_13_method_10_code 155 = .ok (.getfield 140, 3) := by decide +kernel
theorem d_M_count1_158 : decode prog_13_method_10_code 158 = .ok (.iload_n 3, 1) := by decide +kernel
theorem d_M_count1_159 : decode prog_13_method_10_code 159 = .ok (.iconst 4, 1) := by decide +kernel
theorem d_M_count1_160 : decode prog_13_method_10_code 160 = .ok (.idiv, 1) := by decide +kernel
theorem d_M_count1_161 : decode prog_13_method_10_code 161 = .ok (.isub, 1) := by decide +kernel
theorem d_M_count1_162 : decode prog_13_method_10_code 162 = .ok (.iconst 2, 1) := by decide +kernel
theorem d_M_count1_163 : decode prog_13_method_10_code 163 = .ok (.idiv, 1) := by decide +kernel
theorem d_M_count1_164 : decode prog_13_method_10_code 164 = .ok (.putfield 140, 3) := by decide +kernel
theorem d_M_count1_167 : decode prog_13_method_10_code 167 = .ok (.return_, 1) := by decide +kernel
def y_M_latest : MethodName := ⟨"WindowCacheModel", "latest", "(II)V"⟩
theorem y_M_latest_ok : y_M_latest.cls ≠ "java/lang/invoke/MethodHandle" ∧ y_M_latest.cls ≠ "java/lang/invoke/VarHandle" ∧ (parseMethodDescriptor y_M_latest.desc).map (fun d => d.parameters.length) = some 2 := by decide +kernel
def rm_M_latest : Room := { frames := 0, cells := 0, slots := 0, locals := 0 }
theorem d_M_latest_0 : decode prog_13_method_14_code 0 = .ok (.aload_n 0, 1) := by decide +kernel
theorem d_M_latest_1 : decode prog_13_method_14_code 1 = .ok (.getfield 34, 3) := by decide +kernel
theorem d_M_latest_4 : decode prog_13_method_14_code 4 = .ok (.iload_n 1, 1) := by decide +kernel
theorem d_M_latest_5 : decode prog_13_method_14_code 5 = .ok (.iload_n 2, 1) := by decide +kernel
theorem d_M_latest_6 : decode prog_13_method_14_code 6 = .ok (.iastore, 1) := by decide +kernel
theorem d_M_latest_7 : decode prog_13_method_14_code 7 = .ok (.aload_n 0, 1) := by decide +kernel
theorem d_M_latest_8 : decode prog_13_method_14_code 8 = .ok (.dup, 1) := by decide +kernel
theorem d_M_latest_9 : decode prog_13_method_14_code 9 = .ok (.getfield 150, 3) := by decide +kernel
theorem d_M_latest_12 : decode prog_13_method_14_code 12 = .ok (.lconst 1, 1) := by decide +kernel
theorem d_M_latest_13 : decode prog_13_method_14_code 13 = .ok (.ladd, 1) := by decide +kernel
theorem d_M_latest_14 : decode prog_13_method_14_code 14 = .ok (.putfield 150, 3) := by decide +kernel
theorem d_M_latest_17 : decode prog_13_method_14_code 17 = .ok (.aload_n 0, 1) := by decide +kernel
theorem d_M_latest_18 : decode prog_13_method_14_code 18 = .ok (.getfield 47, 3) := by decide +kernel
theorem d_M_latest_21 : decode prog_13_method_14_code 21 = .ok (.iload_n 1, 1) := by decide +kernel
theorem d_M_latest_22 : decode prog_13_method_14_code 22 = .ok (.aload_n 0, 1) := by decide +kernel
theorem d_M_latest_23 : decode prog_13_method_14_code 23 = .ok (.getfield 150, 3) := by decide +kernel
theorem d_M_latest_26 : decode prog_13_method_14_code 26 = .ok (.lastore, 1) := by decide +kernel
theorem d_M_latest_27 : decode prog_13_method_14_code 27 = .ok (.return_, 1) := by decide +kernel
def y_M_weightOf : MethodName := ⟨"WindowCacheModel", "weightOf", "(I)I"⟩
theorem y_M_weightOf_ok : y_M_weightOf.cls ≠ "java/lang/invoke/MethodHandle" ∧ y_M_weightOf.cls ≠ "java/lang/invoke/VarHandle" ∧ (parseMethodDescriptor y_M_weightOf.desc).map (fun d => d.parameters.length) = some 1 := by decide +kernel
def rm_M_weightOf : Room := { frames := 0, cells := 0, slots := 0, locals := 0 }
theorem d_M_weightOf_0 : decode prog_13_method_11_code 0 = .ok (.iconst 0, 1) := by decide +kernel
theorem d_M_weightOf_1 : decode prog_13_method_11_code 1 = .ok (.istore_n 2, 1) := by decide +kernel
theorem d_M_weightOf_2 : decode prog_13_method_11_code 2 = .ok (.iconst 0, 1) := by decide +kernel
theorem d_M_weightOf_3 : decode prog_13_method_11_code 3 = .ok (.istore_n 3, 1) := by decide +kernel
theorem d_M_weightOf_4 : decode prog_13_method_11_code 4 = .ok (.iload_n 3, 1) := by decide +kernel
theorem d_M_weightOf_5 : decode prog_13_method_11_code 5 = .ok (.aload_n 0, 1) := by decide +kernel
theorem d_M_weightOf_6 : decode prog_13_method_11_code 6 = .ok (.getfield 143, 3) := by decide +kernel
theorem d_M_weightOf_9 : decode prog_13_method_11_code 9 = .ok (.if_icmp .ge 32, 3) := by decide +kernel
theorem d_M_weightOf_12 : decode prog_13_method_11_code 12 = .ok (.iload_n 2, 1) := by decide +kernel
theorem d_M_weightOf_13 : decode prog_13_method_11_code 13 = .ok (.aload_n 0, 1) := by decide +kernel
theorem d_M_weightOf_14 : decode prog_13_method_11_code 14 = .ok (.getfield 34, 3) := by decide +kernel
theorem d_M_weightOf_17 : decode prog_13_method_11_code 17 = .ok (.iload_n 3, 1) := by decide +kernel
theorem d_M_weightOf_18 : decode prog_13_method_11_code 18 = .ok (.iaload, 1) := by decide +kernel
theorem d_M_weightOf_19 : decode prog_13_method_11_code 19 = .ok (.iload_n 1, 1) := by decide +kernel
theorem d_M_weightOf_20 : decode prog_13_method_11_code 20 = .ok (.if_icmp .ne 12, 3) := by decide +kernel
theorem d_M_weightOf_23 : decode prog_13_method_11_code 23 = .ok (.aload_n 0, 1) := by decide +kernel
theorem d_M_weightOf_24 : decode prog_13_method_11_code 24 = .ok (.getfield 28, 3) := by decide +kernel
theorem d_M_weightOf_27 : decode prog_13_method_11_code 27 = .ok (.iload_n 3, 1) := by decide +kernel
theorem d_M_weightOf_28 : decode prog_13_method_11_code 28 = .ok (.iaload, 1) := by decide +kernel
theorem d_M_weightOf_29 : decode prog_13_method_11_code 29 = .ok (.goto 4, 3) := by decide +kernel
theorem d_M_weightOf_32 : decode prog_13_method_11_code 32 = .ok (.iconst 0, 1) := by decide +kernel
theorem d_M_weightOf_33 : decode prog_13_method_11_code 33 = .ok (.iadd, 1) := by decide +kernel
theorem d_M_weightOf_34 : decode prog_13_method_11_code 34 = .ok (.istore_n 2, 1) := by decide +kernel
theorem d_M_weightOf_35 : decode prog_13_method_11_code 35 = .ok (.iinc 3 1, 3) := by decide +kernel
theorem d_M_weightOf_38 : decode prog_13_method_11_code 38 = .ok (.goto (-34), 3) := by decide +kernel
theorem d_M_weightOf_41 : decode prog_13_method_11_code 41 = .ok (.iload_n 2, 1) := by decide +kernel
theorem d_M_weightOf_42 : decode prog_13_method_11_code 42 = .ok (.ireturn, 1) := by decide +kernel
def y_M_earliest : MethodName := ⟨"WindowCacheModel", "earliest", "(I)I"⟩
theorem y_M_earliest_ok : y_M_earliest.cls ≠ "java/lang/invoke/MethodHandle" ∧ y_M_earliest.cls ≠ "java/lang/invoke/VarHandle" ∧ (parseMethodDescriptor y_M_earliest.desc).map (fun d => d.parameters.length) = some 1 := by decide +kernel
def rm_M_earliest : Room := { frames := 0, cells := 0, slots := 0, locals := 0 }
theorem d_M_earliest_0 : decode prog_13_method_13_code 0 = .ok (.iconst (-1), 1) := by decide +kernel
theorem d_M_earliest_1 : decode prog_13_method_13_code 1 = .ok (.istore_n 2, 1) := by decide +kernel
theorem d_M_earliest_2 : decode prog_13_method_13_code 2 = .ok (.iconst 0, 1) := by decide +kernel
theorem d_M_earliest_3 : decode prog_13_method_13_code 3 = .ok (.istore_n 3, 1) := by decide +kernel
theorem d_M_earliest_4 : decode prog_13_method_13_code 4 = .ok (.iload_n 3, 1) := by decide +kernel
theorem d_M_earliest_5 : decode prog_13_method_13_code 5 = .ok (.aload_n 0, 1) := by decide +kernel
theorem d_M_earliest_6 : decode prog_13_method_13_code 6 = .ok (.getfield 143, 3) := by decide +kernel
theorem d_M_earliest_9 : decode prog_13_method_13_code 9 = .ok (.if_icmp .ge 42, 3) := by decide +kernel
theorem d_M_earliest_12 : decode prog_13_method_13_code 12 = .ok (.aload_n 0, 1) := by decide +kernel
theorem d_M_earliest_13 : decode prog_13_method_13_code 13 = .ok (.getfield 34, 3) := by decide +kernel
theorem d_M_earliest_16 : decode prog_13_method_13_code 16 = .ok (.iload_n 3, 1) := by decide +kernel
theorem d_M_earliest_17 : decode prog_13_method_13_code 17 = .ok (.iaload, 1) := by decide +kernel
theorem d_M_earliest_18 : decode prog_13_method_13_code 18 = .ok (.iload_n 1, 1) := by decide +kernel
theorem d_M_earliest_19 : decode prog_13_method_13_code 19 = .ok (.if_icmp .ne 26, 3) := by decide +kernel
theorem d_M_earliest_22 : decode prog_13_method_13_code 22 = .ok (.iload_n 2, 1) := by decide +kernel
theorem d_M_earliest_23 : decode prog_13_method_13_code 23 = .ok (.iconst (-1), 1) := by decide +kernel
theorem d_M_earliest_24 : decode prog_13_method_13_code 24 = .ok (.if_icmp .eq 19, 3) := by decide +kernel
theorem d_M_earliest_27 : decode prog_13_method_13_code 27 = .ok (.aload_n 0, 1) := by decide +kernel
theorem d_M_earliest_28 : decode prog_13_method_13_code 28 = .ok (.getfield 47, 3) := by decide +kernel
theorem d_M_earliest_31 : decode prog_13_method_13_code 31 = .ok (.iload_n 3, 1) := by decide +kernel
theorem d_M_earliest_32 : decode prog_13_method_13_code 32 = .ok (.laload, 1) := by decide +kernel
theorem d_M_earliest_33 : decode prog_13_method_13_code 33 = .ok (.aload_n 0, 1) := by decide +kernel
theorem d_M_earliest_34 : decode prog_13_method_13_code 34 = .ok (.getfield 47, 3) := by decide +kernel
theorem d_M_earliest_37 : decode prog_13_method_13_code 37 = .ok (.iload_n 2, 1) := by decide +kernel
theorem d_M_earliest_38 : decode prog_13_method_13_code 38 = .ok (.laload, 1) := by decide +kernel
theorem d_M_earliest_39 : decode prog_13_method_13_code 39 = .ok (.lcmp, 1) := by decide +kernel
theorem d_M_earliest_40 : decode prog_13_method_13_code 40 = .ok (.ifCond .ge 5, 3) := by decide +kernel
theorem d_M_earliest_43 : decode prog_13_method_13_code 43 = .ok (.iload_n 3, 1) := by decide +kernel
theorem d_M_earliest_44 : decode prog_13_method_13_code 44 = .ok (.istore_n 2, 1) := by decide +kernel
theorem d_M_earliest_45 : decode prog_13_method_13_code 45 = .ok (.iinc 3 1, 3) := by decide +kernel
theorem d_M_earliest_48 : decode prog_13_method_13_code 48 = .ok (.goto (-44), 3) := by decide +kernel
theorem d_M_earliest_51 : decode prog_13_method_13_code 51 = .ok (.iload_n 2, 1) := by decide +kernel
theorem d_M_earliest_52 : decode prog_13_method_13_code 52 = .ok (.ireturn, 1) := by decide +kernel
def y_M_lower : MethodName := ⟨"WindowCacheModel", "lower", "()V"⟩
theorem y_M_lower_ok : y_M_lower.cls ≠ "java/lang/invoke/MethodHandle" ∧ y_M_lower.cls ≠ "java/lang/invoke/VarHandle" ∧ (parseMethodDescriptor y_M_lower.desc).map (fun d => d.parameters.length) = some 0 := by decide +kernel
def rm_M_lower : Room := { frames := 1, cells := 0, slots := 0, locals := 23 }
theorem d_M_lower_0 : decode prog_13_method_15_code 0 = .ok (.aload_n 0, 1) := by decide +kernel
theorem d_M_lower_1 : decode prog_13_method_15_code 1 = .ok (.iconst 3, 1) := by decide +kernel
theorem d_M_lower_2 : decode prog_13_method_15_code 2 = .ok (.invokevirtual 146, 3) := by decide +kernel
theorem d_M_lower_5 : decode prog_13_method_15_code 5 = .ok (.aload_n 0, 1) := by decide +kernel
theorem d_M_lower_6 : decode prog_13_method_15_code 6 = .ok (.getfield 93, 3) := by decide +kernel
theorem d_M_lower_9 : decode prog_13_method_15_code 9 = .ok (.aload_n 0, 1) := by decide +kernel
theorem d_M_lower_10 : decode prog_13_method_15_code 10 = .ok (.getfield 105, 3) := by decide +kernel
theorem d_M_lower_13 : decode prog_13_method_15_code 13 = .ok (.isub, 1) := by decide +kernel
theorem d_M_lower_14 : decode prog_13_method_15_code 14 = .ok (.iconst 4, 1) := by decide +kernel
theorem d_M_lower_15 : decode prog_13_method_15_code 15 = .ok (.imul, 1) := by decide +kernel
theorem d_M_lower_16 : decode prog_13_method_15_code 16 = .ok (.iconst 5, 1) := by decide +kernel
theorem d_M_lower_17 : decode prog_13_method_15_code 17 = .ok (.idiv, 1) := by decide +kernel
theorem d_M_lower_18 : decode prog_13_method_15_code 18 = .ok (.if_icmp .le 16, 3) := by decide +kernel
theorem d_M_lower_21 : decode prog_13_method_15_code 21 = .ok (.aload_n 0, 1) := by decide +kernel
theorem d_M_lower_22 : decode prog_13_method_15_code 22 = .ok (.aload_n 0, 1) := by decide +kernel
theorem d_M_lower_23 : decode prog_13_method_15_code 23 = .ok (.iconst 3, 1) := by decide +kernel
theorem d_M_lower_24 : decode prog_13_method_15_code 24 = .ok (.invokevirtual 153, 3) := by decide +kernel
theorem d_M_lower_27 : decode prog_13_method_15_code 27 = .ok (.iconst 2, 1) := by decide +kernel
theorem d_M_lower_28 : decode prog_13_method_15_code 28 = .ok (.invokevirtual 156, 3) := by decide +kernel
theorem d_M_lower_31 : decode prog_13_method_15_code 31 = .ok (.goto (-31), 3) := by decide +kernel
theorem d_M_lower_34 : decode prog_13_method_15_code 34 = .ok (.return_, 1) := by decide +kernel
def y_M_touched : MethodName := ⟨"WindowCacheModel", "touched", "(I)V"⟩
theorem y_M_touched_ok : y_M_touched.cls ≠ "java/lang/invoke/MethodHandle" ∧ y_M_touched.cls ≠ "java/lang/invoke/VarHandle" ∧ (parseMethodDescriptor y_M_touched.desc).map (fun d => d.parameters.length) = some 1 := by decide +kernel
def rm_M_touched : Room := { frames := 2, cells := 0, slots := 0, locals := 43 }
theorem d_M_touched_0 : decode prog_13_method_16_code 0 = .ok (.aload_n 0, 1) := by decide +kernel
theorem d_M_touched_1 : decode prog_13_method_16_code 1 = .ok (.iload_n 1, 1) := by decide +kernel
theorem d_M_touched_2 : decode prog_13_method_16_code 2 = .ok (.aload_n 0, 1) := by decide +kernel
theorem d_M_touched_3 : decode prog_13_method_16_code 3 = .ok (.getfield 34, 3) := by decide +kernel
theorem d_M_touched_6 : decode prog_13_method_16_code 6 = .ok (.iload_n 1, 1) := by decide +kernel
theorem d_M_touched_7 : decode prog_13_method_16_code 7 = .ok (.iaload, 1) := by decide +kernel
theorem d_M_touched_8 : decode prog_13_method_16_code 8 = .ok (.iconst 1, 1) := by decide +kernel
theorem d_M_touched_9 : decode prog_13_method_16_code 9 = .ok (.if_icmp .ne 7, 3) := by decide +kernel
theorem d_M_touched_12 : decode prog_13_method_16_code 12 = .ok (.iconst 1, 1) := by decide +kernel
theorem d_M_touched_13 : decode prog_13_method_16_code 13 = .ok (.goto 4, 3) := by decide +kernel
theorem d_M_touched_16 : decode prog_13_method_16_code 16 = .ok (.iconst 3, 1) := by decide +kernel
theorem d_M_touched_17 : decode prog_13_method_16_code 17 = .ok (.invokevirtual 156, 3) := by decide +kernel
theorem d_M_touched_20 : decode prog_13_method_16_code 20 = .ok (.aload_n 0, 1) := by decide +kernel
theorem d_M_touched_21 : decode prog_13_method_16_code 21 = .ok (.invokevirtual 160, 3) := by decide +kernel
theorem d_M_touched_24 : decode prog_13_method_16_code 24 = .ok (.return_, 1) := by decide +kernel
def y_M_workNotes : MethodName := ⟨"WindowCacheModel", "workNotes", "()V"⟩
theorem y_M_workNotes_ok : y_M_workNotes.cls ≠ "java/lang/invoke/MethodHandle" ∧ y_M_workNotes.cls ≠ "java/lang/invoke/VarHandle" ∧ (parseMethodDescriptor y_M_workNotes.desc).map (fun d => d.parameters.length) = some 0 := by decide +kernel
def rm_M_workNotes : Room := { frames := 3, cells := 0, slots := 0, locals := 64 }
theorem d_M_workNotes_0 : decode prog_13_method_20_code 0 = .ok (.iconst 0, 1) := by decide +kernel
theorem d_M_workNotes_1 : decode prog_13_method_20_code 1 = .ok (.istore_n 1, 1) := by decide +kernel
theorem d_M_workNotes_2 : decode prog_13_method_20_code 2 = .ok (.iload_n 1, 1) := by decide +kernel
theorem d_M_workNotes_3 : decode prog_13_method_20_code 3 = .ok (.iconst 2, 1) := by decide +kernel
theorem d_M_workNotes_4 : decode prog_13_method_20_code 4 = .ok (.if_icmp .ge 73, 3) := by decide +kernel
theorem d_M_workNotes_7 : decode prog_13_method_20_code 7 = .ok (.iconst 0, 1) := by decide +kernel
theorem d_M_workNotes_8 : decode prog_13_method_20_code 8 = .ok (.istore_n 2, 1) := by decide +kernel
theorem d_M_workNotes_9 : decode prog_13_method_20_code 9 = .ok (.iload_n 2, 1) := by decide +kernel
theorem d_M_workNotes_10 : decode prog_13_method_20_code 10 = .ok (.aload_n 0, 1) := by decide +kernel
theorem d_M_workNotes_11 : decode prog_13_method_20_code 11 = .ok (.getfield 60, 3) := by decide +kernel
theorem d_M_workNotes_14 : decode prog_13_method_20_code 14 = .ok (.iload_n 1, 1) := by decide +kernel
theorem d_M_workNotes_15 : decode prog_13_method_20_code 15 = .ok (.iaload, 1) := by decide +kernel
theorem d_M_workNotes_16 : decode prog_13_method_20_code 16 = .ok (.if_icmp .ge 48, 3) := by decide +kernel
theorem d_M_workNotes_19 : decode prog_13_method_20_code 19 = .ok (.aload_n 0, 1) := by decide +kernel
theorem d_M_workNotes_20 : decode prog_13_method_20_code 20 = .ok (.getfield 57, 3) := by decide +kernel
theorem d_M_workNotes_23 : decode prog_13_method_20_code 23 = .ok (.bipush 16, 2) := by decide +kernel
theorem d_M_workNotes_25 : decode prog_13_method_20_code 25 = .ok (.iload_n 1, 1) := by decide +kernel
theorem d_M_workNotes_26 : decode prog_13_method_20_code 26 = .ok (.imul, 1) := by decide +kernel
theorem d_M_workNotes_27 : decode prog_13_method_20_code 27 = .ok (.iload_n 2, 1) := by decide +kernel
theorem d_M_workNotes_28 : decode prog_13_method_20_code 28 = .ok (.iadd, 1) := by decide +kernel
theorem d_M_workNotes_29 : decode prog_13_method_20_code 29 = .ok (.iaload, 1) := by decide +kernel
theorem d_M_workNotes_30 : decode prog_13_method_20_code 30 = .ok (.istore_n 3, 1) := by decide +kernel
theorem d_M_workNotes_31 : decode prog_13_method_20_code 31 = .ok (.aload_n 0, 1) := by decide +kernel
theorem d_M_workNotes_32 : decode prog_13_method_20_code 32 = .ok (.getfield 34, 3) := by decide +kernel
theorem d_M_workNotes_35 : decode prog_13_method_20_code 35 = .ok (.iload_n 3, 1) := by decide +kernel
theorem d_M_workNotes_36 : decode prog_13_method_20_code 36 = .ok (.iaload, 1) := by decide +kernel
theorem d_M_workNotes_37 : decode prog_13_method_20_code 37 = .ok (.ifCond .ne 6, 3) := by decide +kernel
theorem d_M_workNotes_40 : decode prog_13_method_20_code 40 = .ok (.goto 18, 3) := by decide +kernel
theorem d_M_workNotes_43 : decode prog_13_method_20_code 43 = .ok (.aload_n 0, 1) := by decide +kernel
theorem d_M_workNotes_44 : decode prog_13_method_20_code 44 = .ok (.aload_n 0, 1) := by decide +kernel
theorem d_M_workNotes_45 : decode prog_13_method_20_code 45 = .ok (.getfield 22, 3) := by decide +kernel
theorem d_M_workNotes_48 : decode prog_13_method_20_code 48 = .ok (.iload_n 3, 1) := by decide +kernel
theorem d_M_workNotes_49 : decode prog_13_method_20_code 49 = .ok (.iaload, 1) := by decide +kernel
theorem d_M_workNotes_50 : decode prog_13_method_20_code 50 = .ok (.invokevirtual 175, 3) := by decide +kernel
theorem d_M_workNotes_53 : decode prog_13_method_20_code 53 = .ok (.aload_n 0, 1) := by decide +kernel
theorem d_M_workNotes_54 : decode prog_13_method_20_code 54 = .ok (.iload_n 3, 1) := by decide +kernel
theorem d_M_workNotes_55 : decode prog_13_method_20_code 55 = .ok (.invokevirtual 179, 3) := by decide +kernel
theorem d_M_workNotes_58 : decode prog_13_method_20_code 58 = .ok (.iinc 2 1, 3) := by decide +kernel
theorem d_M_workNotes_61 : decode prog_13_method_20_code 61 = .ok (.goto (-52), 3) := by decide +kernel
theorem d_M_workNotes_64 : decode prog_13_method_20_code 64 = .ok (.aload_n 0, 1) := by decide +kernel
theorem d_M_workNotes_65 : decode prog_13_method_20_code 65 = .ok (.getfield 60, 3) := by decide +kernel
theorem d_M_workNotes_68 : decode prog_13_method_20_code 68 = .ok (.iload_n 1, 1) := by decide +kernel
theorem d_M_workNotes_69 : decode prog_13_method_20_code 69 = .ok (.iconst 0, 1) := by decide +kernel
theorem d_M_workNotes_70 : decode prog_13_method_20_code 70 = .ok (.iastore, 1) := by decide +kernel
theorem d_M_workNotes_71 : decode prog_13_method_20_code 71 = .ok (.iinc 1 1, 3) := by decide +kernel
theorem d_M_workNotes_74 : decode prog_13_method_20_code 74 = .ok (.goto (-72), 3) := by decide +kernel
theorem d_M_workNotes_77 : decode prog_13_method_20_code 77 = .ok (.return_, 1) := by decide +kernel
def y_M_workTasks : MethodName := ⟨"WindowCacheModel", "workTasks", "()V"⟩
theorem y_M_workTasks_ok : y_M_workTasks.cls ≠ "java/lang/invoke/MethodHandle" ∧ y_M_workTasks.cls ≠ "java/lang/invoke/VarHandle" ∧ (parseMethodDescriptor y_M_workTasks.desc).map (fun d => d.parameters.length) = some 0 := by decide +kernel
def rm_M_workTasks : Room := { frames := 3, cells := 0, slots := 0, locals := 64 }
theorem d_M_workTasks_0 : decode prog_13_method_21_code 0 = .ok (.iconst 0, 1) := by decide +kernel
theorem d_M_workTasks_1 : decode prog_13_method_21_code 1 = .ok (.istore_n 1, 1) := by decide +kernel
theorem d_M_workTasks_2 : decode prog_13_method_21_code 2 = .ok (.iload_n 1, 1) := by decide +kernel
theorem d_M_workTasks_3 : decode prog_13_method_21_code 3 = .ok (.aload_n 0, 1) := by decide +kernel
theorem d_M_workTasks_4 : decode prog_13_method_21_code 4 = .ok (.getfield 169, 3) := by decide +kernel
theorem d_M_workTasks_7 : decode prog_13_method_21_code 7 = .ok (.if_icmp .ge 94, 3) := by decide +kernel
theorem d_M_workTasks_10 : decode prog_13_method_21_code 10 = .ok (.aload_n 0, 1) := by decide +kernel
theorem d_M_workTasks_11 : decode prog_13_method_21_code 11 = .ok (.getfield 66, 3) := by decide +kernel
theorem d_M_workTasks_14 : decode prog_13_method_21_code 14 = .ok (.iload_n 1, 1) := by decide +kernel
theorem d_M_workTasks_15 : decode prog_13_method_21_code 15 = .ok (.iaload, 1) := by decide +kernel
theorem d_M_workTasks_16 : decode prog_13_method_21_code 16 = .ok (.istore_n 2, 1) := by decide +kernel
theorem d_M_workTasks_17 : decode prog_13_method_21_code 17 = .ok (.aload_n 0, 1) := by decide +kernel
theorem d_M_workTasks_18 : decode prog_13_method_21_code 18 = .ok (.getfield 63, 3) := by decide +kernel
theorem d_M_workTasks_21 : decode prog_13_method_21_code 21 = .ok (.iload_n 1, 1) := by decide +kernel
theorem d_M_workTasks_22 : decode prog_13_method_21_code 22 = .ok (.iaload, 1) := by decide +kernel
theorem d_M_workTasks_23 : decode prog_13_method_21_code 23 = .ok (.iconst 2, 1) := by decide +kernel
theorem d_M_workTasks_24 : decode prog_13_method_21_code 24 = .ok (.if_icmp .ne 13, 3) := by decide +kernel
theorem d_M_workTasks_27 : decode prog_13_method_21_code 27 = .ok (.aload_n 0, 1) := by decide +kernel
theorem d_M_workTasks_28 : decode prog_13_method_21_code 28 = .ok (.getfield 34, 3) := by decide +kernel
theorem d_M_workTasks_31 : decode prog_13_method_21_code 31 = .ok (.iload_n 2, 1) := by decide +kernel
theorem d_M_workTasks_32 : decode prog_13_method_21_code 32 = .ok (.iconst 0, 1) := by decide +kernel
theorem d_M_workTasks_33 : decode prog_13_method_21_code 33 = .ok (.iastore, 1) := by decide +kernel
theorem d_M_workTasks_34 : decode prog_13_method_21_code 34 = .ok (.goto 61, 3) := by decide +kernel
theorem d_M_workTasks_37 : decode prog_13_method_21_code 37 = .ok (.aload_n 0, 1) := by decide +kernel
theorem d_M_workTasks_38 : decode prog_13_method_21_code 38 = .ok (.aload_n 0, 1) := by decide +kernel
theorem d_M_workTasks_39 : decode prog_13_method_21_code 39 = .ok (.getfield 22, 3) := by decide +kernel
theorem d_M_workTasks_42 : decode prog_13_method_21_code 42 = .ok (.iload_n 2, 1) := by decide +kernel
theorem d_M_workTasks_43 : decode prog_13_method_21_code 43 = .ok (.iaload, 1) := by decide +kernel
theorem d_M_workTasks_44 : decode prog_13_method_21_code 44 = .ok (.invokevirtual 175, 3) := by decide +kernel
theorem d_M_workTasks_47 : decode prog_13_method_21_code 47 = .ok (.aload_n 0, 1) := by decide +kernel
theorem d_M_workTasks_48 : decode prog_13_method_21_code 48 = .ok (.getfield 63, 3) := by decide +kernel
theorem d_M_workTasks_51 : decode prog_13_method_21_code 51 = .ok (.iload_n 1, 1) := by decide +kernel
theorem d_M_workTasks_52 : decode prog_13_method_21_code 52 = .ok (.iaload, 1) := by decide +kernel
theorem d_M_workTasks_53 : decode prog_13_method_21_code 53 = .ok (.ifCond .ne 18, 3) := by decide +kernel
theorem d_M_workTasks_56 : decode prog_13_method_21_code 56 = .ok (.aload_n 0, 1) := by decide +kernel
theorem d_M_workTasks_57 : decode prog_13_method_21_code 57 = .ok (.getfield 50, 3) := by decide +kernel
theorem d_M_workTasks_60 : decode prog_13_method_21_code 60 = .ok (.iload_n 2, 1) := by decide +kernel
theorem d_M_workTasks_61 : decode prog_13_method_21_code 61 = .ok (.baload, 1) := by decide +kernel
theorem d_M_workTasks_62 : decode prog_13_method_21_code 62 = .ok (.ifCond .eq 9, 3) := by decide +kernel
theorem d_M_workTasks_65 : decode prog_13_method_21_code 65 = .ok (.aload_n 0, 1) := by decide +kernel
theorem d_M_workTasks_66 : decode prog_13_method_21_code 66 = .ok (.iload_n 2, 1) := by decide +kernel
theorem d_M_workTasks_67 : decode prog_13_method_21_code 67 = .ok (.iconst 1, 1) := by decide +kernel
theorem d_M_workTasks_68 : decode prog_13_method_21_code 68 = .ok (.invokevirtual 156, 3) := by decide +kernel
theorem d_M_workTasks_71 : decode prog_13_method_21_code 71 = .ok (.aload_n 0, 1) := by decide +kernel
theorem d_M_workTasks_72 : decode prog_13_method_21_code 72 = .ok (.getfield 63, 3) := by decide +kernel
theorem d_M_workTasks_75 : decode prog_13_method_21_code 75 = .ok (.iload_n 1, 1) := by decide +kernel
theorem d_M_workTasks_76 : decode prog_13_method_21_code 76 = .ok (.iaload, 1) := by decide +kernel
theorem d_M_workTasks_77 : decode prog_13_method_21_code 77 = .ok (.iconst 1, 1) := by decide +kernel
theorem d_M_workTasks_78 : decode prog_13_method_21_code 78 = .ok (.if_icmp .ne 17, 3) := by decide +kernel
theorem d_M_workTasks_81 : decode prog_13_method_21_code 81 = .ok (.aload_n 0, 1) := by decide +kernel
theorem d_M_workTasks_82 : decode prog_13_method_21_code 82 = .ok (.getfield 34, 3) := by decide +kernel
theorem d_M_workTasks_85 : decode prog_13_method_21_code 85 = .ok (.iload_n 2, 1) := by decide +kernel
theorem d_M_workTasks_86 : decode prog_13_method_21_code 86 = .ok (.iaload, 1) := by decide +kernel
theorem d_M_workTasks_87 : decode prog_13_method_21_code 87 = .ok (.ifCond .le 8, 3) := by decide +kernel
theorem d_M_workTasks_90 : decode prog_13_method_21_code 90 = .ok (.aload_n 0, 1) := by decide +kernel
theorem d_M_workTasks_91 : decode prog_13_method_21_code 91 = .ok (.iload_n 2, 1) := by decide +kernel
theorem d_M_workTasks_92 : decode prog_13_method_21_code 92 = .ok (.invokevirtual 179, 3) := by decide +kernel
theorem d_M_workTasks_95 : decode prog_13_method_21_code 95 = .ok (.iinc 1 1, 3) := by decide +kernel
theorem d_M_workTasks_98 : decode prog_13_method_21_code 98 = .ok (.goto (-96), 3) := by decide +kernel
theorem d_M_workTasks_101 : decode prog_13_method_21_code 101 = .ok (.aload_n 0, 1) := by decide +kernel
theorem d_M_workTasks_102 : decode prog_13_method_21_code 102 = .ok (.iconst 0, 1) := by decide +kernel
theorem d_M_workTasks_103 : decode prog_13_method_21_code 103 = .ok (.putfield 169, 3) := by decide +kernel
theorem d_M_workTasks_106 : decode prog_13_method_21_code 106 = .ok (.return_, 1) := by decide +kernel
def y_M_expire : MethodName := ⟨"WindowCacheModel", "expire", "()V"⟩
theorem y_M_expire_ok : y_M_expire.cls ≠ "java/lang/invoke/MethodHandle" ∧ y_M_expire.cls ≠ "java/lang/invoke/VarHandle" ∧ (parseMethodDescriptor y_M_expire.desc).map (fun d => d.parameters.length) = some 0 := by decide +kernel
def rm_M_expire : Room := { frames := 2, cells := 0, slots := 0, locals := 46 }
theorem d_M_expire_0 : decode prog_13_method_22_code 0 = .ok (.iconst 1, 1) := by decide +kernel
theorem d_M_expire_1 : decode prog_13_method_22_code 1 = .ok (.istore_n 1, 1) := by decide +kernel
theorem d_M_expire_2 : decode prog_13_method_22_code 2 = .ok (.iload_n 1, 1) := by decide +kernel
theorem d_M_expire_3 : decode prog_13_method_22_code 3 = .ok (.ifCond .eq 123, 3) := by decide +kernel
theorem d_M_expire_6 : decode prog_13_method_22_code 6 = .ok (.iconst (-1), 1) := by decide +kernel
theorem d_M_expire_7 : decode prog_13_method_22_code 7 = .ok (.istore_n 2, 1) := by decide +kernel
theorem d_M_expire_8 : decode prog_13_method_22_code 8 = .ok (.iconst 0, 1) := by decide +kernel
theorem d_M_expire_9 : decode prog_13_method_22_code 9 = .ok (.istore_n 3, 1) := by decide +kernel
theorem d_M_expire_10 : decode prog_13_method_22_code 10 = .ok (.iload_n 3, 1) := by decide +kernel
theorem d_M_expire_11 : decode prog_13_method_22_code 11 = .ok (.aload_n 0, 1) := by decide +kernel
theorem d_M_expire_12 : decode prog_13_method_22_code 12 = .ok (.getfield 143, 3) := by decide +kernel
theorem d_M_expire_15 : decode prog_13_method_22_code 15 = .ok (.if_icmp .ge 79, 3) := by decide +kernel
theorem d_M_expire_18 : decode prog_13_method_22_code 18 = .ok (.aload_n 0, 1) := by decide +kernel
theorem d_M_expire_19 : decode prog_13_method_22_code 19 = .ok (.getfield 34, 3) := by decide +kernel
theorem d_M_expire_22 : decode prog_13_method_22_code 22 = .ok (.iload_n 3, 1) := by decide +kernel
theorem d_M_expire_23 : decode prog_13_method_22_code 23 = .ok (.iaload, 1) := by decide +kernel
theorem d_M_expire_24 : decode prog_13_method_22_code 24 = .ok (.ifCond .eq 64, 3) := by decide +kernel
theorem d_M_expire_27 : decode prog_13_method_22_code 27 = .ok (.aload_n 0, 1) := by decide +kernel
theorem d_M_expire_28 : decode prog_13_method_22_code 28 = .ok (.iload_n 3, 1) := by decide +kernel
theorem d_M_expire_29 : decode prog_13_method_22_code 29 = .ok (.invokevirtual 132, 3) := by decide +kernel
theorem d_M_expire_32 : decode prog_13_method_22_code 32 = .ok (.ifCond .ne 6, 3) := by decide +kernel
theorem d_M_expire_35 : decode prog_13_method_22_code 35 = .ok (.goto 53, 3) := by decide +kernel
theorem d_M_expire_38 : decode prog_13_method_22_code 38 = .ok (.iload_n 2, 1) := by decide +kernel
theorem d_M_expire_39 : decode prog_13_method_22_code 39 = .ok (.iconst (-1), 1) := by decide +kernel
theorem d_M_expire_40 : decode prog_13_method_22_code 40 = .ok (.if_icmp .eq 46, 3) := by decide +kernel
theorem d_M_expire_43 : decode prog_13_method_22_code 43 = .ok (.aload_n 0, 1) := by decide +kernel
theorem d_M_expire_44 : decode prog_13_method_22_code 44 = .ok (.iload_n 3, 1) := by decide +kernel
theorem d_M_expire_45 : decode prog_13_method_22_code 45 = .ok (.invokevirtual 124, 3) := by decide +kernel
theorem d_M_expire_48 : decode prog_13_method_22_code 48 = .ok (.aload_n 0, 1) := by decide +kernel
theorem d_M_expire_49 : decode prog_13_method_22_code 49 = .ok (.iload_n 2, 1) := by decide +kernel
theorem d_M_expire_50 : decode prog_13_method_22_code 50 = .ok (.invokevirtual 124, 3) := by decide +kernel
theorem d_M_expire_53 : decode prog_13_method_22_code 53 = .ok (.lcmp, 1) := by decide +kernel
theorem d_M_expire_54 : decode prog_13_method_22_code 54 = .ok (.ifCond .lt 32, 3) := by decide +kernel
theorem d_M_expire_57 : decode prog_13_method_22_code 57 = .ok (.aload_n 0, 1) := by decide +kernel
theorem d_M_expire_58 : decode prog_13_method_22_code 58 = .ok (.iload_n 3, 1) := by decide +kernel
theorem d_M_expire_59 : decode prog_13_method_22_code 59 = .ok (.invokevirtual 124, 3) := by decide +kernel
theorem d_M_expire_62 : decode prog_13_method_22_code 62 = .ok (.aload_n 0, 1) := by decide +kernel
theorem d_M_expire_63 : decode prog_13_method_22_code 63 = .ok (.iload_n 2, 1) := by decide +kernel
theorem d_M_expire_64 : decode prog_13_method_22_code 64 = .ok (.invokevirtual 124, 3) := by decide +kernel
theorem d_M_expire_67 : decode prog_13_method_22_code 67 = .ok (.lcmp, 1) := by decide +kernel
theorem d_M_expire_68 : decode prog_13_method_22_code 68 = .ok (.ifCond .ne 20, 3) := by decide +kernel
theorem d_M_expire_71 : decode prog_13_method_22_code 71 = .ok (.aload_n 0, 1) := by decide +kernel
theorem d_M_expire_72 : decode prog_13_method_22_code 72 = .ok (.getfield 22, 3) := by decide +kernel
theorem d_M_expire_75 : decode prog_13_method_22_code 75 = .ok (.iload_n 3, 1) := by decide +kernel
theorem d_M_expire_76 : decode prog_13_method_22_code 76 = .ok (.iaload, 1) := by decide +kernel
theorem d_M_expire_77 : decode prog_13_method_22_code 77 = .ok (.aload_n 0, 1) := by decide +kernel
theorem d_M_expire_78 : decode prog_13_method_22_code 78 = .ok (.getfield 22, 3) := by decide +kernel
theorem d_M_expire_81 : decode prog_13_method_22_code 81 = .ok (.iload_n 2, 1) := by decide +kernel
theorem d_M_expire_82 : decode prog_13_method_22_code 82 = .ok (.iaload, 1) := by decide +kernel
theorem d_M_expire_83 : decode prog_13_method_22_code 83 = .ok (.if_icmp .ge 5, 3) := by decide +kernel
theorem d_M_expire_86 : decode prog_13_method_22_code 86 = .ok (.iload_n 3, 1) := by decide +kernel
theorem d_M_expire_87 : decode prog_13_method_22_code 87 = .ok (.istore_n 2, 1) := by decide +kernel
theorem d_M_expire_88 : decode prog_13_method_22_code 88 = .ok (.iinc 3 1, 3) := by decide +kernel
theorem d_M_expire_91 : decode prog_13_method_22_code 91 = .ok (.goto (-81), 3) := by decide +kernel
theorem d_M_expire_94 : decode prog_13_method_22_code 94 = .ok (.iload_n 2, 1) := by decide +kernel
theorem d_M_expire_95 : decode prog_13_method_22_code 95 = .ok (.iconst (-1), 1) := by decide +kernel
theorem d_M_expire_96 : decode prog_13_method_22_code 96 = .ok (.if_icmp .eq 7, 3) := by decide +kernel
theorem d_M_expire_99 : decode prog_13_method_22_code 99 = .ok (.iconst 1, 1) := by decide +kernel
theorem d_M_expire_100 : decode prog_13_method_22_code 100 = .ok (.goto 4, 3) := by decide +kernel
theorem d_M_expire_103 : decode prog_13_method_22_code 103 = .ok (.iconst 0, 1) := by decide +kernel
theorem d_M_expire_104 : decode prog_13_method_22_code 104 = .ok (.istore_n 1, 1) := by decide +kernel
theorem d_M_expire_105 : decode prog_13_method_22_code 105 = .ok (.iload_n 1, 1) := by decide +kernel
theorem d_M_expire_106 : decode prog_13_method_22_code 106 = .ok (.ifCond .ne 4, 3) := by decide +kernel
theorem d_M_expire_109 : decode prog_13_method_22_code 109 = .ok (.return_, 1) := by decide +kernel
theorem d_M_expire_110 : decode prog_13_method_22_code 110 = .ok (.aload_n 0, 1) := by decide +kernel
theorem d_M_expire_111 : decode prog_13_method_22_code 111 = .ok (.getfield 34, 3) := by decide +kernel
theorem d_M_expire_114 : decode prog_13_method_22_code 114 = .ok (.iload_n 2, 1) := by decide +kernel
theorem d_M_expire_115 : decode prog_13_method_22_code 115 = .ok (.iconst 0, 1) := by decide +kernel
theorem d_M_expire_116 : decode prog_13_method_22_code 116 = .ok (.iastore, 1) := by decide +kernel
theorem d_M_expire_117 : decode prog_13_method_22_code 117 = .ok (.aload_n 0, 1) := by decide +kernel
theorem d_M_expire_118 : decode prog_13_method_22_code 118 = .ok (.iload_n 2, 1) := by decide +kernel
theorem d_M_expire_119 : decode prog_13_method_22_code 119 = .ok (.iconst 2, 1) := by decide +kernel
theorem d_M_expire_120 : decode prog_13_method_22_code 120 = .ok (.invokevirtual 182, 3) := by decide +kernel
theorem d_M_expire_123 : decode prog_13_method_22_code 123 = .ok (.goto (-121), 3) := by decide +kernel
theorem d_M_expire_126 : decode prog_13_method_22_code 126 = .ok (.return_, 1) := by decide +kernel
def y_M_all : MethodName := ⟨"WindowCacheModel", "all", "()I"⟩
theorem y_M_all_ok : y_M_all.cls ≠ "java/lang/invoke/MethodHandle" ∧ y_M_all.cls ≠ "java/lang/invoke/VarHandle" ∧ (parseMethodDescriptor y_M_all.desc).map (fun d => d.parameters.length) = some 0 := by decide +kernel
def rm_M_all : Room := { frames := 1, cells := 0, slots := 0, locals := 23 }
theorem d_M_all_0 : decode prog_13_method_12_code 0 = .ok (.aload_n 0, 1) := by decide +kernel
theorem d_M_all_1 : decode prog_13_method_12_code 1 = .ok (.iconst 1, 1) := by decide +kernel
theorem d_M_all_2 : decode prog_13_method_12_code 2 = .ok (.invokevirtual 146, 3) := by decide +kernel
theorem d_M_all_5 : decode prog_13_method_12_code 5 = .ok (.aload_n 0, 1) := by decide +kernel
theorem d_M_all_6 : decode prog_13_method_12_code 6 = .ok (.iconst 2, 1) := by decide +kernel
theorem d_M_all_7 : decode prog_13_method_12_code 7 = .ok (.invokevirtual 146, 3) := by decide +kernel
theorem d_M_all_10 : decode prog_13_method_12_code 10 = .ok (.iadd, 1) := by decide +kernel
theorem d_M_all_11 : decode prog_13_method_12_code 11 = .ok (.aload_n 0, 1) := by decide +kernel
theorem d_M_all_12 : decode prog_13_method_12_code 12 = .ok (.iconst 3, 1) := by decide +kernel
theorem d_M_all_13 : decode prog_13_method_12_code 13 = .ok (.invokevirtual 146, 3) := by decide +kernel
theorem d_M_all_16 : decode prog_13_method_12_code 16 = .ok (.iadd, 1) := by decide +kernel
theorem d_M_all_17 : decode prog_13_method_12_code 17 = .ok (.ireturn, 1) := by decide +kernel
