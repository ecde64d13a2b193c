/-! The constructor of the reference. -/
theorem gw_133 : (Jvm.Cond.arrayClass Jvm.ClassFile.FieldType.int) ∈ GW := gw_t (tin_1 _ (List.mem_of_getElem? (i := 133) rfl)) rfl
theorem gw_134 : (Jvm.Cond.arrayClass Jvm.ClassFile.FieldType.long) ∈ GW := gw_t (tin_1 _ (List.mem_of_getElem? (i := 134) rfl)) rfl
theorem gw_1884 : (Jvm.Cond.methodLink "SoftControllerModel" (698 : Nat) ({ cls := "java/lang/Object", name := "<init>", desc := "()V" } : Jvm.MethodName)) ∈ GW := gw_t (tin_8 _ (List.mem_of_getElem? (i := 204) rfl)) rfl
theorem gw_2249 : (Jvm.Cond.arrayClass Jvm.ClassFile.FieldType.boolean) ∈ GW := gw_t (tin_10 _ (List.mem_of_getElem? (i := 89) rfl)) rfl
theorem gw_39 : (Jvm.Cond.instanceMethod ({ cls := "java/lang/Object", name := "<init>", desc := "()V" } : Jvm.MethodName)) ∈ GW := gw_t (tin_1 _ (List.mem_of_getElem? (i := 39) rfl)) rfl
theorem gw_40 : (Jvm.Cond.code ({ cls := "java/lang/Object", name := "<init>", desc := "()V" } : Jvm.MethodName) object_method_1_code (1 : Nat) (Option.none : Option Jvm.ClassFile.FieldType)) ∈ GW := gw_t (tin_1 _ (List.mem_of_getElem? (i := 40) rfl)) rfl
abbrev cX12_init : ByteArray := prog_14_method_93_code
def yX12_init : MethodName := ⟨RX12, "<init>", "()V"⟩
theorem dX12_init_0 : decode cX12_init 0 = .ok (.aload_n 0, 1) := by decide +kernel
theorem dX12_init_1 : decode cX12_init 1 = .ok (.invokespecial 698, 3) := by decide +kernel
theorem dX12_init_4 : decode cX12_init 4 = .ok (.aload_n 0, 1) := by decide +kernel
theorem dX12_init_5 : decode cX12_init 5 = .ok (.sipush 6000, 3) := by decide +kernel
theorem dX12_init_8 : decode cX12_init 8 = .ok (.newarray .int, 2) := by decide +kernel
theorem dX12_init_10 : decode cX12_init 10 = .ok (.putfield 10, 3) := by decide +kernel
theorem dX12_init_13 : decode cX12_init 13 = .ok (.aload_n 0, 1) := by decide +kernel
theorem dX12_init_14 : decode cX12_init 14 = .ok (.sipush 1502, 3) := by decide +kernel
theorem dX12_init_17 : decode cX12_init 17 = .ok (.newarray .int, 2) := by decide +kernel
theorem dX12_init_19 : decode cX12_init 19 = .ok (.putfield 38, 3) := by decide +kernel
theorem dX12_init_22 : decode cX12_init 22 = .ok (.aload_n 0, 1) := by decide +kernel
theorem dX12_init_23 : decode cX12_init 23 = .ok (.sipush 1502, 3) := by decide +kernel
theorem dX12_init_26 : decode cX12_init 26 = .ok (.newarray .int, 2) := by decide +kernel
theorem dX12_init_28 : decode cX12_init 28 = .ok (.putfield 35, 3) := by decide +kernel
theorem dX12_init_31 : decode cX12_init 31 = .ok (.aload_n 0, 1) := by decide +kernel
theorem dX12_init_32 : decode cX12_init 32 = .ok (.sipush 1502, 3) := by decide +kernel
theorem dX12_init_35 : decode cX12_init 35 = .ok (.newarray .long, 2) := by decide +kernel
theorem dX12_init_37 : decode cX12_init 37 = .ok (.putfield 45, 3) := by decide +kernel
theorem dX12_init_40 : decode cX12_init 40 = .ok (.aload_n 0, 1) := by decide +kernel
theorem dX12_init_41 : decode cX12_init 41 = .ok (.sipush 1502, 3) := by decide +kernel
theorem dX12_init_44 : decode cX12_init 44 = .ok (.newarray .boolean, 2) := by decide +kernel
theorem dX12_init_46 : decode cX12_init 46 = .ok (.putfield 41, 3) := by decide +kernel
theorem dX12_init_49 : decode cX12_init 49 = .ok (.aload_n 0, 1) := by decide +kernel
theorem dX12_init_50 : decode cX12_init 50 = .ok (.sipush 1502, 3) := by decide +kernel
theorem dX12_init_53 : decode cX12_init 53 = .ok (.newarray .long, 2) := by decide +kernel
theorem dX12_init_55 : decode cX12_init 55 = .ok (.putfield 66, 3) := by decide +kernel
theorem dX12_init_58 : decode cX12_init 58 = .ok (.aload_n 0, 1) := by decide +kernel
theorem dX12_init_59 : decode cX12_init 59 = .ok (.sipush 1502, 3) := by decide +kernel
theorem dX12_init_62 : decode cX12_init 62 = .ok (.newarray .long, 2) := by decide +kernel
theorem dX12_init_64 : decode cX12_init 64 = .ok (.putfield 73, 3) := by decide +kernel
theorem dX12_init_67 : decode cX12_init 67 = .ok (.aload_n 0, 1) := by decide +kernel
theorem dX12_init_68 : decode cX12_init 68 = .ok (.sipush 320, 3) := by decide +kernel
theorem dX12_init_71 : decode cX12_init 71 = .ok (.newarray .int, 2) := by decide +kernel
theorem dX12_init_73 : decode cX12_init 73 = .ok (.putfield 269, 3) := by decide +kernel
theorem dX12_init_76 : decode cX12_init 76 = .ok (.aload_n 0, 1) := by decide +kernel
theorem dX12_init_77 : decode cX12_init 77 = .ok (.sipush 320, 3) := by decide +kernel
theorem dX12_init_80 : decode cX12_init 80 = .ok (.newarray .int, 2) := by decide +kernel
theorem dX12_init_82 : decode cX12_init 82 = .ok (.putfield 275, 3) := by decide +kernel
theorem dX12_init_85 : decode cX12_init 85 = .ok (.aload_n 0, 1) := by decide +kernel
theorem dX12_init_86 : decode cX12_init 86 = .ok (.sipush 320, 3) := by decide +kernel
theorem dX12_init_89 : decode cX12_init 89 = .ok (.newarray .int, 2) := by decide +kernel
theorem dX12_init_91 : decode cX12_init 91 = .ok (.putfield 272, 3) := by decide +kernel
theorem dX12_init_94 : decode cX12_init 94 = .ok (.aload_n 0, 1) := by decide +kernel
theorem dX12_init_95 : decode cX12_init 95 = .ok (.sipush 320, 3) := by decide +kernel
theorem dX12_init_98 : decode cX12_init 98 = .ok (.newarray .boolean, 2) := by decide +kernel
theorem dX12_init_100 : decode cX12_init 100 = .ok (.putfield 278, 3) := by decide +kernel
theorem dX12_init_103 : decode cX12_init 103 = .ok (.aload_n 0, 1) := by decide +kernel
theorem dX12_init_104 : decode cX12_init 104 = .ok (.sipush 320, 3) := by decide +kernel
theorem dX12_init_107 : decode cX12_init 107 = .ok (.newarray .int, 2) := by decide +kernel
theorem dX12_init_109 : decode cX12_init 109 = .ok (.putfield 281, 3) := by decide +kernel
theorem dX12_init_112 : decode cX12_init 112 = .ok (.aload_n 0, 1) := by decide +kernel
theorem dX12_init_113 : decode cX12_init 113 = .ok (.sipush 320, 3) := by decide +kernel
theorem dX12_init_116 : decode cX12_init 116 = .ok (.newarray .int, 2) := by decide +kernel
theorem dX12_init_118 : decode cX12_init 118 = .ok (.putfield 293, 3) := by decide +kernel
theorem dX12_init_121 : decode cX12_init 121 = .ok (.aload_n 0, 1) := by decide +kernel
theorem dX12_init_122 : decode cX12_init 122 = .ok (.sipush 320, 3) := by decide +kernel
theorem dX12_init_125 : decode cX12_init 125 = .ok (.newarray .long, 2) := by decide +kernel
theorem dX12_init_127 : decode cX12_init 127 = .ok (.putfield 284, 3) := by decide +kernel
theorem dX12_init_130 : decode cX12_init 130 = .ok (.aload_n 0, 1) := by decide +kernel
theorem dX12_init_131 : decode cX12_init 131 = .ok (.sipush 320, 3) := by decide +kernel
theorem dX12_init_134 : decode cX12_init 134 = .ok (.newarray .long, 2) := by decide +kernel
theorem dX12_init_136 : decode cX12_init 136 = .ok (.putfield 287, 3) := by decide +kernel
theorem dX12_init_139 : decode cX12_init 139 = .ok (.aload_n 0, 1) := by decide +kernel
theorem dX12_init_140 : decode cX12_init 140 = .ok (.sipush 320, 3) := by decide +kernel
theorem dX12_init_143 : decode cX12_init 143 = .ok (.newarray .long, 2) := by decide +kernel
theorem dX12_init_145 : decode cX12_init 145 = .ok (.putfield 290, 3) := by decide +kernel
theorem dX12_init_148 : decode cX12_init 148 = .ok (.aload_n 0, 1) := by decide +kernel
theorem dX12_init_149 : decode cX12_init 149 = .ok (.iconst 2, 1) := by decide +kernel
theorem dX12_init_150 : decode cX12_init 150 = .ok (.newarray .int, 2) := by decide +kernel
theorem dX12_init_152 : decode cX12_init 152 = .ok (.putfield 266, 3) := by decide +kernel
theorem dX12_init_155 : decode cX12_init 155 = .ok (.aload_n 0, 1) := by decide +kernel
theorem dX12_init_156 : decode cX12_init 156 = .ok (.sipush 320, 3) := by decide +kernel
theorem dX12_init_159 : decode cX12_init 159 = .ok (.newarray .int, 2) := by decide +kernel
theorem dX12_init_161 : decode cX12_init 161 = .ok (.putfield 242, 3) := by decide +kernel
theorem dX12_init_164 : decode cX12_init 164 = .ok (.aload_n 0, 1) := by decide +kernel
theorem dX12_init_165 : decode cX12_init 165 = .ok (.sipush 320, 3) := by decide +kernel
theorem dX12_init_168 : decode cX12_init 168 = .ok (.newarray .int, 2) := by decide +kernel
theorem dX12_init_170 : decode cX12_init 170 = .ok (.putfield 245, 3) := by decide +kernel
theorem dX12_init_173 : decode cX12_init 173 = .ok (.aload_n 0, 1) := by decide +kernel
theorem dX12_init_174 : decode cX12_init 174 = .ok (.sipush 320, 3) := by decide +kernel
theorem dX12_init_177 : decode cX12_init 177 = .ok (.newarray .boolean, 2) := by decide +kernel
theorem dX12_init_179 : decode cX12_init 179 = .ok (.putfield 248, 3) := by decide +kernel
theorem dX12_init_182 : decode cX12_init 182 = .ok (.aload_n 0, 1) := by decide +kernel
theorem dX12_init_183 : decode cX12_init 183 = .ok (.sipush 320, 3) := by decide +kernel
theorem dX12_init_186 : decode cX12_init 186 = .ok (.newarray .int, 2) := by decide +kernel
theorem dX12_init_188 : decode cX12_init 188 = .ok (.putfield 251, 3) := by decide +kernel
theorem dX12_init_191 : decode cX12_init 191 = .ok (.aload_n 0, 1) := by decide +kernel
theorem dX12_init_192 : decode cX12_init 192 = .ok (.sipush 320, 3) := by decide +kernel
theorem dX12_init_195 : decode cX12_init 195 = .ok (.newarray .long, 2) := by decide +kernel
theorem dX12_init_197 : decode cX12_init 197 = .ok (.putfield 254, 3) := by decide +kernel
theorem dX12_init_200 : decode cX12_init 200 = .ok (.aload_n 0, 1) := by decide +kernel
theorem dX12_init_201 : decode cX12_init 201 = .ok (.sipush 320, 3) := by decide +kernel
theorem dX12_init_204 : decode cX12_init 204 = .ok (.newarray .long, 2) := by decide +kernel
theorem dX12_init_206 : decode cX12_init 206 = .ok (.putfield 192, 3) := by decide +kernel
theorem dX12_init_209 : decode cX12_init 209 = .ok (.aload_n 0, 1) := by decide +kernel
theorem dX12_init_210 : decode cX12_init 210 = .ok (.sipush 320, 3) := by decide +kernel
theorem dX12_init_213 : decode cX12_init 213 = .ok (.newarray .long, 2) := by decide +kernel
theorem dX12_init_215 : decode cX12_init 215 = .ok (.putfield 195, 3) := by decide +kernel
theorem dX12_init_218 : decode cX12_init 218 = .ok (.aload_n 0, 1) := by decide +kernel
theorem dX12_init_219 : decode cX12_init 219 = .ok (.iconst 2, 1) := by decide +kernel
theorem dX12_init_220 : decode cX12_init 220 = .ok (.newarray .int, 2) := by decide +kernel
theorem dX12_init_222 : decode cX12_init 222 = .ok (.putfield 189, 3) := by decide +kernel
theorem dX12_init_225 : decode cX12_init 225 = .ok (.aload_n 0, 1) := by decide +kernel
theorem dX12_init_226 : decode cX12_init 226 = .ok (.bipush 48, 2) := by decide +kernel
theorem dX12_init_228 : decode cX12_init 228 = .ok (.newarray .int, 2) := by decide +kernel
theorem dX12_init_230 : decode cX12_init 230 = .ok (.putfield 358, 3) := by decide +kernel
theorem dX12_init_233 : decode cX12_init 233 = .ok (.aload_n 0, 1) := by decide +kernel
theorem dX12_init_234 : decode cX12_init 234 = .ok (.bipush 48, 2) := by decide +kernel
theorem dX12_init_236 : decode cX12_init 236 = .ok (.newarray .int, 2) := by decide +kernel
theorem dX12_init_238 : decode cX12_init 238 = .ok (.putfield 257, 3) := by decide +kernel
theorem dX12_init_241 : decode cX12_init 241 = .ok (.aload_n 0, 1) := by decide +kernel
theorem dX12_init_242 : decode cX12_init 242 = .ok (.bipush 48, 2) := by decide +kernel
theorem dX12_init_244 : decode cX12_init 244 = .ok (.newarray .int, 2) := by decide +kernel
theorem dX12_init_246 : decode cX12_init 246 = .ok (.putfield 233, 3) := by decide +kernel
theorem dX12_init_249 : decode cX12_init 249 = .ok (.aload_n 0, 1) := by decide +kernel
theorem dX12_init_250 : decode cX12_init 250 = .ok (.bipush 48, 2) := by decide +kernel
theorem dX12_init_252 : decode cX12_init 252 = .ok (.newarray .int, 2) := by decide +kernel
theorem dX12_init_254 : decode cX12_init 254 = .ok (.putfield 260, 3) := by decide +kernel
theorem dX12_init_257 : decode cX12_init 257 = .ok (.aload_n 0, 1) := by decide +kernel
theorem dX12_init_258 : decode cX12_init 258 = .ok (.bipush 48, 2) := by decide +kernel
theorem dX12_init_260 : decode cX12_init 260 = .ok (.newarray .int, 2) := by decide +kernel
theorem dX12_init_262 : decode cX12_init 262 = .ok (.putfield 364, 3) := by decide +kernel
theorem dX12_init_265 : decode cX12_init 265 = .ok (.aload_n 0, 1) := by decide +kernel
theorem dX12_init_266 : decode cX12_init 266 = .ok (.bipush 48, 2) := by decide +kernel
theorem dX12_init_268 : decode cX12_init 268 = .ok (.newarray .int, 2) := by decide +kernel
theorem dX12_init_270 : decode cX12_init 270 = .ok (.putfield 355, 3) := by decide +kernel
theorem dX12_init_273 : decode cX12_init 273 = .ok (.aload_n 0, 1) := by decide +kernel
theorem dX12_init_274 : decode cX12_init 274 = .ok (.bipush 48, 2) := by decide +kernel
theorem dX12_init_276 : decode cX12_init 276 = .ok (.newarray .long, 2) := by decide +kernel
theorem dX12_init_278 : decode cX12_init 278 = .ok (.putfield 349, 3) := by decide +kernel
theorem dX12_init_281 : decode cX12_init 281 = .ok (.aload_n 0, 1) := by decide +kernel
theorem dX12_init_282 : decode cX12_init 282 = .ok (.bipush 48, 2) := by decide +kernel
theorem dX12_init_284 : decode cX12_init 284 = .ok (.newarray .long, 2) := by decide +kernel
theorem dX12_init_286 : decode cX12_init 286 = .ok (.putfield 352, 3) := by decide +kernel
theorem dX12_init_289 : decode cX12_init 289 = .ok (.aload_n 0, 1) := by decide +kernel
theorem dX12_init_290 : decode cX12_init 290 = .ok (.iconst 2, 1) := by decide +kernel
theorem dX12_init_291 : decode cX12_init 291 = .ok (.newarray .int, 2) := by decide +kernel
theorem dX12_init_293 : decode cX12_init 293 = .ok (.putfield 343, 3) := by decide +kernel
theorem dX12_init_296 : decode cX12_init 296 = .ok (.aload_n 0, 1) := by decide +kernel
theorem dX12_init_297 : decode cX12_init 297 = .ok (.iconst 2, 1) := by decide +kernel
theorem dX12_init_298 : decode cX12_init 298 = .ok (.newarray .int, 2) := by decide +kernel
theorem dX12_init_300 : decode cX12_init 300 = .ok (.putfield 340, 3) := by decide +kernel
theorem dX12_init_303 : decode cX12_init 303 = .ok (.aload_n 0, 1) := by decide +kernel
theorem dX12_init_304 : decode cX12_init 304 = .ok (.bipush 48, 2) := by decide +kernel
theorem dX12_init_306 : decode cX12_init 306 = .ok (.newarray .int, 2) := by decide +kernel
theorem dX12_init_308 : decode cX12_init 308 = .ok (.putfield 387, 3) := by decide +kernel
theorem dX12_init_311 : decode cX12_init 311 = .ok (.aload_n 0, 1) := by decide +kernel
theorem dX12_init_312 : decode cX12_init 312 = .ok (.bipush 48, 2) := by decide +kernel
theorem dX12_init_314 : decode cX12_init 314 = .ok (.newarray .int, 2) := by decide +kernel
theorem dX12_init_316 : decode cX12_init 316 = .ok (.putfield 390, 3) := by decide +kernel
theorem dX12_init_319 : decode cX12_init 319 = .ok (.aload_n 0, 1) := by decide +kernel
theorem dX12_init_320 : decode cX12_init 320 = .ok (.bipush 48, 2) := by decide +kernel
theorem dX12_init_322 : decode cX12_init 322 = .ok (.newarray .long, 2) := by decide +kernel
theorem dX12_init_324 : decode cX12_init 324 = .ok (.putfield 393, 3) := by decide +kernel
theorem dX12_init_327 : decode cX12_init 327 = .ok (.aload_n 0, 1) := by decide +kernel
theorem dX12_init_328 : decode cX12_init 328 = .ok (.bipush 48, 2) := by decide +kernel
theorem dX12_init_330 : decode cX12_init 330 = .ok (.newarray .long, 2) := by decide +kernel
theorem dX12_init_332 : decode cX12_init 332 = .ok (.putfield 396, 3) := by decide +kernel
theorem dX12_init_335 : decode cX12_init 335 = .ok (.aload_n 0, 1) := by decide +kernel
theorem dX12_init_336 : decode cX12_init 336 = .ok (.iconst 2, 1) := by decide +kernel
theorem dX12_init_337 : decode cX12_init 337 = .ok (.newarray .int, 2) := by decide +kernel
theorem dX12_init_339 : decode cX12_init 339 = .ok (.putfield 384, 3) := by decide +kernel
theorem dX12_init_342 : decode cX12_init 342 = .ok (.aload_n 0, 1) := by decide +kernel
theorem dX12_init_343 : decode cX12_init 343 = .ok (.bipush 16, 2) := by decide +kernel
theorem dX12_init_345 : decode cX12_init 345 = .ok (.newarray .int, 2) := by decide +kernel
theorem dX12_init_347 : decode cX12_init 347 = .ok (.putfield 402, 3) := by decide +kernel
theorem dX12_init_350 : decode cX12_init 350 = .ok (.aload_n 0, 1) := by decide +kernel
theorem dX12_init_351 : decode cX12_init 351 = .ok (.bipush 16, 2) := by decide +kernel
theorem dX12_init_353 : decode cX12_init 353 = .ok (.newarray .int, 2) := by decide +kernel
theorem dX12_init_355 : decode cX12_init 355 = .ok (.putfield 405, 3) := by decide +kernel
theorem dX12_init_358 : decode cX12_init 358 = .ok (.aload_n 0, 1) := by decide +kernel
theorem dX12_init_359 : decode cX12_init 359 = .ok (.bipush 16, 2) := by decide +kernel
theorem dX12_init_361 : decode cX12_init 361 = .ok (.newarray .int, 2) := by decide +kernel
theorem dX12_init_363 : decode cX12_init 363 = .ok (.putfield 408, 3) := by decide +kernel
theorem dX12_init_366 : decode cX12_init 366 = .ok (.aload_n 0, 1) := by decide +kernel
theorem dX12_init_367 : decode cX12_init 367 = .ok (.bipush 16, 2) := by decide +kernel
theorem dX12_init_369 : decode cX12_init 369 = .ok (.newarray .long, 2) := by decide +kernel
theorem dX12_init_371 : decode cX12_init 371 = .ok (.putfield 411, 3) := by decide +kernel
theorem dX12_init_374 : decode cX12_init 374 = .ok (.aload_n 0, 1) := by decide +kernel
theorem dX12_init_375 : decode cX12_init 375 = .ok (.bipush 16, 2) := by decide +kernel
theorem dX12_init_377 : decode cX12_init 377 = .ok (.newarray .long, 2) := by decide +kernel
theorem dX12_init_379 : decode cX12_init 379 = .ok (.putfield 414, 3) := by decide +kernel
theorem dX12_init_382 : decode cX12_init 382 = .ok (.aload_n 0, 1) := by decide +kernel
theorem dX12_init_383 : decode cX12_init 383 = .ok (.iconst 2, 1) := by decide +kernel
theorem dX12_init_384 : decode cX12_init 384 = .ok (.newarray .int, 2) := by decide +kernel
theorem dX12_init_386 : decode cX12_init 386 = .ok (.putfield 399, 3) := by decide +kernel
theorem dX12_init_389 : decode cX12_init 389 = .ok (.aload_n 0, 1) := by decide +kernel
theorem dX12_init_390 : decode cX12_init 390 = .ok (.sipush 16000, 3) := by decide +kernel
theorem dX12_init_393 : decode cX12_init 393 = .ok (.newarray .int, 2) := by decide +kernel
theorem dX12_init_395 : decode cX12_init 395 = .ok (.putfield 135, 3) := by decide +kernel
theorem dX12_init_398 : decode cX12_init 398 = .ok (.aload_n 0, 1) := by decide +kernel
theorem dX12_init_399 : decode cX12_init 399 = .ok (.sipush 16000, 3) := by decide +kernel
theorem dX12_init_402 : decode cX12_init 402 = .ok (.newarray .int, 2) := by decide +kernel
theorem dX12_init_404 : decode cX12_init 404 = .ok (.putfield 138, 3) := by decide +kernel
theorem dX12_init_407 : decode cX12_init 407 = .ok (.aload_n 0, 1) := by decide +kernel
theorem dX12_init_408 : decode cX12_init 408 = .ok (.sipush 16000, 3) := by decide +kernel
theorem dX12_init_411 : decode cX12_init 411 = .ok (.newarray .int, 2) := by decide +kernel
theorem dX12_init_413 : decode cX12_init 413 = .ok (.putfield 141, 3) := by decide +kernel
theorem dX12_init_416 : decode cX12_init 416 = .ok (.aload_n 0, 1) := by decide +kernel
theorem dX12_init_417 : decode cX12_init 417 = .ok (.sipush 16000, 3) := by decide +kernel
theorem dX12_init_420 : decode cX12_init 420 = .ok (.newarray .long, 2) := by decide +kernel
theorem dX12_init_422 : decode cX12_init 422 = .ok (.putfield 148, 3) := by decide +kernel
theorem dX12_init_425 : decode cX12_init 425 = .ok (.aload_n 0, 1) := by decide +kernel
theorem dX12_init_426 : decode cX12_init 426 = .ok (.sipush 16000, 3) := by decide +kernel
theorem dX12_init_429 : decode cX12_init 429 = .ok (.newarray .long, 2) := by decide +kernel
theorem dX12_init_431 : decode cX12_init 431 = .ok (.putfield 533, 3) := by decide +kernel
theorem dX12_init_434 : decode cX12_init 434 = .ok (.aload_n 0, 1) := by decide +kernel
theorem dX12_init_435 : decode cX12_init 435 = .ok (.iconst 2, 1) := by decide +kernel
theorem dX12_init_436 : decode cX12_init 436 = .ok (.newarray .int, 2) := by decide +kernel
theorem dX12_init_438 : decode cX12_init 438 = .ok (.putfield 132, 3) := by decide +kernel
theorem dX12_init_441 : decode cX12_init 441 = .ok (.aload_n 0, 1) := by decide +kernel
theorem dX12_init_442 : decode cX12_init 442 = .ok (.sipush 180, 3) := by decide +kernel
theorem dX12_init_445 : decode cX12_init 445 = .ok (.newarray .long, 2) := by decide +kernel
theorem dX12_init_447 : decode cX12_init 447 = .ok (.putfield 177, 3) := by decide +kernel
theorem dX12_init_450 : decode cX12_init 450 = .ok (.aload_n 0, 1) := by decide +kernel
theorem dX12_init_451 : decode cX12_init 451 = .ok (.sipush 180, 3) := by decide +kernel
theorem dX12_init_454 : decode cX12_init 454 = .ok (.newarray .long, 2) := by decide +kernel
theorem dX12_init_456 : decode cX12_init 456 = .ok (.putfield 180, 3) := by decide +kernel
theorem dX12_init_459 : decode cX12_init 459 = .ok (.aload_n 0, 1) := by decide +kernel
theorem dX12_init_460 : decode cX12_init 460 = .ok (.sipush 180, 3) := by decide +kernel
theorem dX12_init_463 : decode cX12_init 463 = .ok (.newarray .int, 2) := by decide +kernel
theorem dX12_init_465 : decode cX12_init 465 = .ok (.putfield 209, 3) := by decide +kernel
theorem dX12_init_468 : decode cX12_init 468 = .ok (.aload_n 0, 1) := by decide +kernel
theorem dX12_init_469 : decode cX12_init 469 = .ok (.sipush 180, 3) := by decide +kernel
theorem dX12_init_472 : decode cX12_init 472 = .ok (.newarray .int, 2) := by decide +kernel
theorem dX12_init_474 : decode cX12_init 474 = .ok (.putfield 212, 3) := by decide +kernel
theorem dX12_init_477 : decode cX12_init 477 = .ok (.aload_n 0, 1) := by decide +kernel
theorem dX12_init_478 : decode cX12_init 478 = .ok (.iconst 5, 1) := by decide +kernel
theorem dX12_init_479 : decode cX12_init 479 = .ok (.newarray .int, 2) := by decide +kernel
theorem dX12_init_481 : decode cX12_init 481 = .ok (.putfield 263, 3) := by decide +kernel
theorem dX12_init_484 : decode cX12_init 484 = .ok (.aload_n 0, 1) := by decide +kernel
theorem dX12_init_485 : decode cX12_init 485 = .ok (.bipush 30, 2) := by decide +kernel
theorem dX12_init_487 : decode cX12_init 487 = .ok (.newarray .int, 2) := by decide +kernel
theorem dX12_init_489 : decode cX12_init 489 = .ok (.putfield 521, 3) := by decide +kernel
theorem dX12_init_492 : decode cX12_init 492 = .ok (.aload_n 0, 1) := by decide +kernel
theorem dX12_init_493 : decode cX12_init 493 = .ok (.bipush 30, 2) := by decide +kernel
theorem dX12_init_495 : decode cX12_init 495 = .ok (.newarray .int, 2) := by decide +kernel
theorem dX12_init_497 : decode cX12_init 497 = .ok (.putfield 524, 3) := by decide +kernel
theorem dX12_init_500 : decode cX12_init 500 = .ok (.aload_n 0, 1) := by decide +kernel
theorem dX12_init_501 : decode cX12_init 501 = .ok (.sipush 3000, 3) := by decide +kernel
theorem dX12_init_504 : decode cX12_init 504 = .ok (.newarray .long, 2) := by decide +kernel
theorem dX12_init_506 : decode cX12_init 506 = .ok (.putfield 536, 3) := by decide +kernel
theorem dX12_init_509 : decode cX12_init 509 = .ok (.aload_n 0, 1) := by decide +kernel
theorem dX12_init_510 : decode cX12_init 510 = .ok (.sipush 3000, 3) := by decide +kernel
theorem dX12_init_513 : decode cX12_init 513 = .ok (.newarray .long, 2) := by decide +kernel
theorem dX12_init_515 : decode cX12_init 515 = .ok (.putfield 703, 3) := by decide +kernel
theorem dX12_init_518 : decode cX12_init 518 = .ok (.aload_n 0, 1) := by decide +kernel
theorem dX12_init_519 : decode cX12_init 519 = .ok (.sipush 128, 3) := by decide +kernel
theorem dX12_init_522 : decode cX12_init 522 = .ok (.newarray .int, 2) := by decide +kernel
theorem dX12_init_524 : decode cX12_init 524 = .ok (.putfield 659, 3) := by decide +kernel
theorem dX12_init_527 : decode cX12_init 527 = .ok (.aload_n 0, 1) := by decide +kernel
theorem dX12_init_528 : decode cX12_init 528 = .ok (.sipush 128, 3) := by decide +kernel
theorem dX12_init_531 : decode cX12_init 531 = .ok (.newarray .int, 2) := by decide +kernel
theorem dX12_init_533 : decode cX12_init 533 = .ok (.putfield 539, 3) := by decide +kernel
theorem dX12_init_536 : decode cX12_init 536 = .ok (.aload_n 0, 1) := by decide +kernel
theorem dX12_init_537 : decode cX12_init 537 = .ok (.sipush 128, 3) := by decide +kernel
theorem dX12_init_540 : decode cX12_init 540 = .ok (.newarray .int, 2) := by decide +kernel
theorem dX12_init_542 : decode cX12_init 542 = .ok (.putfield 653, 3) := by decide +kernel
theorem dX12_init_545 : decode cX12_init 545 = .ok (.aload_n 0, 1) := by decide +kernel
theorem dX12_init_546 : decode cX12_init 546 = .ok (.sipush 128, 3) := by decide +kernel
theorem dX12_init_549 : decode cX12_init 549 = .ok (.newarray .int, 2) := by decide +kernel
theorem dX12_init_551 : decode cX12_init 551 = .ok (.putfield 656, 3) := by decide +kernel
theorem dX12_init_554 : decode cX12_init 554 = .ok (.aload_n 0, 1) := by decide +kernel
theorem dX12_init_555 : decode cX12_init 555 = .ok (.bipush 8, 2) := by decide +kernel
theorem dX12_init_557 : decode cX12_init 557 = .ok (.newarray .boolean, 2) := by decide +kernel
theorem dX12_init_559 : decode cX12_init 559 = .ok (.putfield 638, 3) := by decide +kernel
theorem dX12_init_562 : decode cX12_init 562 = .ok (.aload_n 0, 1) := by decide +kernel
theorem dX12_init_563 : decode cX12_init 563 = .ok (.bipush 8, 2) := by decide +kernel
theorem dX12_init_565 : decode cX12_init 565 = .ok (.newarray .int, 2) := by decide +kernel
theorem dX12_init_567 : decode cX12_init 567 = .ok (.putfield 629, 3) := by decide +kernel
theorem dX12_init_570 : decode cX12_init 570 = .ok (.aload_n 0, 1) := by decide +kernel
theorem dX12_init_571 : decode cX12_init 571 = .ok (.bipush 8, 2) := by decide +kernel
theorem dX12_init_573 : decode cX12_init 573 = .ok (.newarray .int, 2) := by decide +kernel
theorem dX12_init_575 : decode cX12_init 575 = .ok (.putfield 635, 3) := by decide +kernel
theorem dX12_init_578 : decode cX12_init 578 = .ok (.aload_n 0, 1) := by decide +kernel
theorem dX12_init_579 : decode cX12_init 579 = .ok (.bipush 8, 2) := by decide +kernel
theorem dX12_init_581 : decode cX12_init 581 = .ok (.newarray .int, 2) := by decide +kernel
theorem dX12_init_583 : decode cX12_init 583 = .ok (.putfield 641, 3) := by decide +kernel
theorem dX12_init_586 : decode cX12_init 586 = .ok (.aload_n 0, 1) := by decide +kernel
theorem dX12_init_587 : decode cX12_init 587 = .ok (.bipush 8, 2) := by decide +kernel
theorem dX12_init_589 : decode cX12_init 589 = .ok (.newarray .int, 2) := by decide +kernel
theorem dX12_init_591 : decode cX12_init 591 = .ok (.putfield 644, 3) := by decide +kernel
theorem dX12_init_594 : decode cX12_init 594 = .ok (.aload_n 0, 1) := by decide +kernel
theorem dX12_init_595 : decode cX12_init 595 = .ok (.bipush 8, 2) := by decide +kernel
theorem dX12_init_597 : decode cX12_init 597 = .ok (.newarray .int, 2) := by decide +kernel
theorem dX12_init_599 : decode cX12_init 599 = .ok (.putfield 647, 3) := by decide +kernel
theorem dX12_init_602 : decode cX12_init 602 = .ok (.aload_n 0, 1) := by decide +kernel
theorem dX12_init_603 : decode cX12_init 603 = .ok (.bipush 8, 2) := by decide +kernel
theorem dX12_init_605 : decode cX12_init 605 = .ok (.newarray .int, 2) := by decide +kernel
theorem dX12_init_607 : decode cX12_init 607 = .ok (.putfield 650, 3) := by decide +kernel
theorem dX12_init_610 : decode cX12_init 610 = .ok (.aload_n 0, 1) := by decide +kernel
theorem dX12_init_611 : decode cX12_init 611 = .ok (.bipush 16, 2) := by decide +kernel
theorem dX12_init_613 : decode cX12_init 613 = .ok (.newarray .int, 2) := by decide +kernel
theorem dX12_init_615 : decode cX12_init 615 = .ok (.putfield 671, 3) := by decide +kernel
theorem dX12_init_618 : decode cX12_init 618 = .ok (.aload_n 0, 1) := by decide +kernel
theorem dX12_init_619 : decode cX12_init 619 = .ok (.bipush 16, 2) := by decide +kernel
theorem dX12_init_621 : decode cX12_init 621 = .ok (.newarray .int, 2) := by decide +kernel
theorem dX12_init_623 : decode cX12_init 623 = .ok (.putfield 674, 3) := by decide +kernel
theorem dX12_init_626 : decode cX12_init 626 = .ok (.aload_n 0, 1) := by decide +kernel
theorem dX12_init_627 : decode cX12_init 627 = .ok (.bipush 16, 2) := by decide +kernel
theorem dX12_init_629 : decode cX12_init 629 = .ok (.newarray .long, 2) := by decide +kernel
theorem dX12_init_631 : decode cX12_init 631 = .ok (.putfield 680, 3) := by decide +kernel
theorem dX12_init_634 : decode cX12_init 634 = .ok (.aload_n 0, 1) := by decide +kernel
theorem dX12_init_635 : decode cX12_init 635 = .ok (.bipush 100, 2) := by decide +kernel
theorem dX12_init_637 : decode cX12_init 637 = .ok (.newarray .int, 2) := by decide +kernel
theorem dX12_init_639 : decode cX12_init 639 = .ok (.putfield 683, 3) := by decide +kernel
theorem dX12_init_642 : decode cX12_init 642 = .ok (.aload_n 0, 1) := by decide +kernel
theorem dX12_init_643 : decode cX12_init 643 = .ok (.bipush 100, 2) := by decide +kernel
theorem dX12_init_645 : decode cX12_init 645 = .ok (.newarray .int, 2) := by decide +kernel
theorem dX12_init_647 : decode cX12_init 647 = .ok (.putfield 686, 3) := by decide +kernel
theorem dX12_init_650 : decode cX12_init 650 = .ok (.aload_n 0, 1) := by decide +kernel
theorem dX12_init_651 : decode cX12_init 651 = .ok (.bipush 100, 2) := by decide +kernel
theorem dX12_init_653 : decode cX12_init 653 = .ok (.newarray .int, 2) := by decide +kernel
theorem dX12_init_655 : decode cX12_init 655 = .ok (.putfield 689, 3) := by decide +kernel
theorem dX12_init_658 : decode cX12_init 658 = .ok (.aload_n 0, 1) := by decide +kernel
theorem dX12_init_659 : decode cX12_init 659 = .ok (.bipush 100, 2) := by decide +kernel
theorem dX12_init_661 : decode cX12_init 661 = .ok (.newarray .long, 2) := by decide +kernel
theorem dX12_init_663 : decode cX12_init 663 = .ok (.putfield 692, 3) := by decide +kernel
theorem dX12_init_666 : decode cX12_init 666 = .ok (.aload_n 0, 1) := by decide +kernel
theorem dX12_init_667 : decode cX12_init 667 = .ok (.sipush 3000, 3) := by decide +kernel
theorem dX12_init_670 : decode cX12_init 670 = .ok (.putfield 596, 3) := by decide +kernel
theorem dX12_init_673 : decode cX12_init 673 = .ok (.aload_n 0, 1) := by decide +kernel
theorem dX12_init_674 : decode cX12_init 674 = .ok (.iconst (-1), 1) := by decide +kernel
theorem dX12_init_675 : decode cX12_init 675 = .ok (.putfield 706, 3) := by decide +kernel
theorem dX12_init_678 : decode cX12_init 678 = .ok (.aload_n 0, 1) := by decide +kernel
theorem dX12_init_679 : decode cX12_init 679 = .ok (.sipush 6000, 3) := by decide +kernel
theorem dX12_init_682 : decode cX12_init 682 = .ok (.newarray .long, 2) := by decide +kernel
theorem dX12_init_684 : decode cX12_init 684 = .ok (.putfield 584, 3) := by decide +kernel
theorem dX12_init_687 : decode cX12_init 687 = .ok (.aload_n 0, 1) := by decide +kernel
theorem dX12_init_688 : decode cX12_init 688 = .ok (.bipush 9, 2) := by decide +kernel
theorem dX12_init_690 : decode cX12_init 690 = .ok (.newarray .int, 2) := by decide +kernel
theorem dX12_init_692 : decode cX12_init 692 = .ok (.putfield 563, 3) := by decide +kernel
theorem dX12_init_695 : decode cX12_init 695 = .ok (.aload_n 0, 1) := by decide +kernel
theorem dX12_init_696 : decode cX12_init 696 = .ok (.bipush 9, 2) := by decide +kernel
theorem dX12_init_698 : decode cX12_init 698 = .ok (.newarray .int, 2) := by decide +kernel
theorem dX12_init_700 : decode cX12_init 700 = .ok (.putfield 569, 3) := by decide +kernel
theorem dX12_init_703 : decode cX12_init 703 = .ok (.aload_n 0, 1) := by decide +kernel
theorem dX12_init_704 : decode cX12_init 704 = .ok (.bipush 9, 2) := by decide +kernel
theorem dX12_init_706 : decode cX12_init 706 = .ok (.newarray .int, 2) := by decide +kernel
theorem dX12_init_708 : decode cX12_init 708 = .ok (.putfield 575, 3) := by decide +kernel
theorem dX12_init_711 : decode cX12_init 711 = .ok (.aload_n 0, 1) := by decide +kernel
theorem dX12_init_712 : decode cX12_init 712 = .ok (.bipush 9, 2) := by decide +kernel
theorem dX12_init_714 : decode cX12_init 714 = .ok (.newarray .int, 2) := by decide +kernel
theorem dX12_init_716 : decode cX12_init 716 = .ok (.putfield 590, 3) := by decide +kernel
theorem dX12_init_719 : decode cX12_init 719 = .ok (.aload_n 0, 1) := by decide +kernel
theorem dX12_init_720 : decode cX12_init 720 = .ok (.getfield 38, 3) := by decide +kernel
theorem dX12_init_723 : decode cX12_init 723 = .ok (.iconst 0, 1) := by decide +kernel
theorem dX12_init_724 : decode cX12_init 724 = .ok (.iconst 5, 1) := by decide +kernel
theorem dX12_init_725 : decode cX12_init 725 = .ok (.iastore, 1) := by decide +kernel
theorem dX12_init_726 : decode cX12_init 726 = .ok (.return_, 1) := by decide +kernel
def zu (Z : Nat → Nat) (k q : Nat) : Nat → Nat := fun j => if j = k then q else Z j
def RN0 : List Value := [.null, .int 0, .null, .null, .null, .null, .null, .null, .int 0, .int 0, .null, .null, .null, .null, .null, .null, .null, .null, .null, .null, .null, .null, .null, .null, .null, .null, .null, .null, .null, .null, .null, .null, .null, .null, .null, .null, .null, .null, .null, .null, .null, .null, .null, .null, .null, .null, .null, .null, .null, .null, .null, .null, .null, .null, .null, .int 0, .int 0, .null, .null, .null, .null, .int 0, .int 0, .int 0, .null, .int 0, .int 0, .int 0, .int 0, .int 0, .int 0, .int 0, .int 0, .int 0, .int 0, .null, .null, .long 0, .int 0, .long 0, .int 0, .int 0, .null, .null, .null, .null, .null, .null, .null, .null, .null, .null, .null, .null, .null, .null, .null, .null, .int 0, .null, .null, .null, .null, .int 0, .int 0, .int 0, .int 0, .null, .null, .null, .null, .null, .int 0, .int 0, .int 0, .int 0, .int 0, .int 0, .int 0, .int 0, .long 0]
def FI0 (i j : Nat) (Z : Nat → Nat) : List Value := [(if 0 < i then .ref (Z 0) else .null), .int 0, (if 1 < i then .ref (Z 2) else .null), (if 2 < i then .ref (Z 3) else .null), (if 3 < i then .ref (Z 4) else .null), (if 4 < i then .ref (Z 5) else .null), (if 5 < i then .ref (Z 6) else .null), (if 6 < i then .ref (Z 7) else .null), .int 0, .int 0, (if 7 < i then .ref (Z 10) else .null), (if 8 < i then .ref (Z 11) else .null), (if 9 < i then .ref (Z 12) else .null), (if 10 < i then .ref (Z 13) else .null), (if 11 < i then .ref (Z 14) else .null), (if 12 < i then .ref (Z 15) else .null), (if 13 < i then .ref (Z 16) else .null), (if 14 < i then .ref (Z 17) else .null), (if 15 < i then .ref (Z 18) else .null), (if 16 < i then .ref (Z 19) else .null), (if 17 < i then .ref (Z 20) else .null), (if 18 < i then .ref (Z 21) else .null), (if 19 < i then .ref (Z 22) else .null), (if 20 < i then .ref (Z 23) else .null), (if 21 < i then .ref (Z 24) else .null), (if 22 < i then .ref (Z 25) else .null), (if 23 < i then .ref (Z 26) else .null), (if 24 < i then .ref (Z 27) else .null), (if 25 < i then .ref (Z 28) else .null), (if 26 < i then .ref (Z 29) else .null), (if 27 < i then .ref (Z 30) else .null), (if 28 < i then .ref (Z 31) else .null), (if 29 < i then .ref (Z 32) else .null), (if 30 < i then .ref (Z 33) else .null), (if 31 < i then .ref (Z 34) else .null), (if 32 < i then .ref (Z 35) else .null), (if 33 < i then .ref (Z 36) else .null), (if 34 < i then .ref (Z 37) else .null), (if 35 < i then .ref (Z 38) else .null), (if 36 < i then .ref (Z 39) else .null), (if 37 < i then .ref (Z 40) else .null), (if 38 < i then .ref (Z 41) else .null), (if 39 < i then .ref (Z 42) else .null), (if 40 < i then .ref (Z 43) else .null), (if 41 < i then .ref (Z 44) else .null), (if 42 < i then .ref (Z 45) else .null), (if 43 < i then .ref (Z 46) else .null), (if 44 < i then .ref (Z 47) else .null), (if 45 < i then .ref (Z 48) else .null), (if 46 < i then .ref (Z 49) else .null), (if 47 < i then .ref (Z 50) else .null), (if 48 < i then .ref (Z 51) else .null), (if 49 < i then .ref (Z 52) else .null), (if 50 < i then .ref (Z 53) else .null), (if 51 < i then .ref (Z 54) else .null), .int 0, .int 0, (if 52 < i then .ref (Z 57) else .null), (if 53 < i then .ref (Z 58) else .null), (if 54 < i then .ref (Z 59) else .null), (if 55 < i then .ref (Z 60) else .null), .int 0, .int 0, .int 0, (if 56 < i then .ref (Z 64) else .null), .int 0, .int 0, .int 0, .int 0, .int 0, .int 0, .int 0, .int 0, .int 0, .int 0, (if 57 < i then .ref (Z 75) else .null), (if 58 < i then .ref (Z 76) else .null), .long 0, .int 0, .long 0, .int 0, .int 0, (if 59 < i then .ref (Z 82) else .null), (if 60 < i then .ref (Z 83) else .null), (if 61 < i then .ref (Z 84) else .null), (if 62 < i then .ref (Z 85) else .null), (if 63 < i then .ref (Z 86) else .null), (if 64 < i then .ref (Z 87) else .null), (if 65 < i then .ref (Z 88) else .null), (if 66 < i then .ref (Z 89) else .null), (if 67 < i then .ref (Z 90) else .null), (if 68 < i then .ref (Z 91) else .null), (if 69 < i then .ref (Z 92) else .null), (if 70 < i then .ref (Z 93) else .null), (if 71 < i then .ref (Z 94) else .null), (if 72 < i then .ref (Z 95) else .null), (if 73 < i then .ref (Z 96) else .null), (if 74 < i then .ref (Z 97) else .null), .int 0, (if 75 < i then .ref (Z 99) else .null), (if 76 < i then .ref (Z 100) else .null), (if 77 < i then .ref (Z 101) else .null), (if 78 < i then .ref (Z 102) else .null), .int 0, .int 0, (if 0 < j then .int 3000 else .int 0), (if 1 < j then .int (-1) else .int 0), (if 79 < i then .ref (Z 107) else .null), (if 80 < i then .ref (Z 108) else .null), (if 81 < i then .ref (Z 109) else .null), (if 82 < i then .ref (Z 110) else .null), (if 83 < i then .ref (Z 111) else .null), .int 0, .int 0, .int 0, .int 0, .int 0, .int 0, .int 0, .int 0, .long 0]
def AL0 (kA : Nat → ClassId) (Z : Nat → Nat) : va_W := [(Z 0, .inl (kA 0, 6000, .inl (fun _ => 0))), (Z 2, .inl (kA 0, 1502, .inl (fun _ => 0))), (Z 3, .inl (kA 0, 1502, .inl (fun _ => 0))), (Z 4, .inl (kA 1, 1502, .inr (.inl (fun _ => 0)))), (Z 5, .inl (kA 2, 1502, .inl (fun _ => 0))), (Z 6, .inl (kA 1, 1502, .inr (.inl (fun _ => 0)))), (Z 7, .inl (kA 1, 1502, .inr (.inl (fun _ => 0)))), (Z 10, .inl (kA 0, 320, .inl (fun _ => 0))), (Z 11, .inl (kA 0, 320, .inl (fun _ => 0))), (Z 12, .inl (kA 0, 320, .inl (fun _ => 0))), (Z 13, .inl (kA 2, 320, .inl (fun _ => 0))), (Z 14, .inl (kA 0, 320, .inl (fun _ => 0))), (Z 15, .inl (kA 0, 320, .inl (fun _ => 0))), (Z 16, .inl (kA 1, 320, .inr (.inl (fun _ => 0)))), (Z 17, .inl (kA 1, 320, .inr (.inl (fun _ => 0)))), (Z 18, .inl (kA 1, 320, .inr (.inl (fun _ => 0)))), (Z 19, .inl (kA 0, 2, .inl (fun _ => 0))), (Z 20, .inl (kA 0, 320, .inl (fun _ => 0))), (Z 21, .inl (kA 0, 320, .inl (fun _ => 0))), (Z 22, .inl (kA 2, 320, .inl (fun _ => 0))), (Z 23, .inl (kA 0, 320, .inl (fun _ => 0))), (Z 24, .inl (kA 1, 320, .inr (.inl (fun _ => 0)))), (Z 25, .inl (kA 1, 320, .inr (.inl (fun _ => 0)))), (Z 26, .inl (kA 1, 320, .inr (.inl (fun _ => 0)))), (Z 27, .inl (kA 0, 2, .inl (fun _ => 0))), (Z 28, .inl (kA 0, 48, .inl (fun _ => 0))), (Z 29, .inl (kA 0, 48, .inl (fun _ => 0))), (Z 30, .inl (kA 0, 48, .inl (fun _ => 0))), (Z 31, .inl (kA 0, 48, .inl (fun _ => 0))), (Z 32, .inl (kA 0, 48, .inl (fun _ => 0))), (Z 33, .inl (kA 0, 48, .inl (fun _ => 0))), (Z 34, .inl (kA 1, 48, .inr (.inl (fun _ => 0)))), (Z 35, .inl (kA 1, 48, .inr (.inl (fun _ => 0)))), (Z 36, .inl (kA 0, 2, .inl (fun _ => 0))), (Z 37, .inl (kA 0, 2, .inl (fun _ => 0))), (Z 38, .inl (kA 0, 48, .inl (fun _ => 0))), (Z 39, .inl (kA 0, 48, .inl (fun _ => 0))), (Z 40, .inl (kA 1, 48, .inr (.inl (fun _ => 0)))), (Z 41, .inl (kA 1, 48, .inr (.inl (fun _ => 0)))), (Z 42, .inl (kA 0, 2, .inl (fun _ => 0))), (Z 43, .inl (kA 0, 16, .inl (fun _ => 0))), (Z 44, .inl (kA 0, 16, .inl (fun _ => 0))), (Z 45, .inl (kA 0, 16, .inl (fun _ => 0))), (Z 46, .inl (kA 1, 16, .inr (.inl (fun _ => 0)))), (Z 47, .inl (kA 1, 16, .inr (.inl (fun _ => 0)))), (Z 48, .inl (kA 0, 2, .inl (fun _ => 0))), (Z 49, .inl (kA 0, 16000, .inl (fun _ => 0))), (Z 50, .inl (kA 0, 16000, .inl (fun _ => 0))), (Z 51, .inl (kA 0, 16000, .inl (fun _ => 0))), (Z 52, .inl (kA 1, 16000, .inr (.inl (fun _ => 0)))), (Z 53, .inl (kA 1, 16000, .inr (.inl (fun _ => 0)))), (Z 54, .inl (kA 0, 2, .inl (fun _ => 0))), (Z 57, .inl (kA 1, 180, .inr (.inl (fun _ => 0)))), (Z 58, .inl (kA 1, 180, .inr (.inl (fun _ => 0)))), (Z 59, .inl (kA 0, 180, .inl (fun _ => 0))), (Z 60, .inl (kA 0, 180, .inl (fun _ => 0))), (Z 64, .inl (kA 0, 5, .inl (fun _ => 0))), (Z 75, .inl (kA 0, 30, .inl (fun _ => 0))), (Z 76, .inl (kA 0, 30, .inl (fun _ => 0))), (Z 82, .inl (kA 1, 3000, .inr (.inl (fun _ => 0)))), (Z 83, .inl (kA 1, 3000, .inr (.inl (fun _ => 0)))), (Z 84, .inl (kA 0, 128, .inl (fun _ => 0))), (Z 85, .inl (kA 0, 128, .inl (fun _ => 0))), (Z 86, .inl (kA 0, 128, .inl (fun _ => 0))), (Z 87, .inl (kA 0, 128, .inl (fun _ => 0))), (Z 88, .inl (kA 2, 8, .inl (fun _ => 0))), (Z 89, .inl (kA 0, 8, .inl (fun _ => 0))), (Z 90, .inl (kA 0, 8, .inl (fun _ => 0))), (Z 91, .inl (kA 0, 8, .inl (fun _ => 0))), (Z 92, .inl (kA 0, 8, .inl (fun _ => 0))), (Z 93, .inl (kA 0, 8, .inl (fun _ => 0))), (Z 94, .inl (kA 0, 8, .inl (fun _ => 0))), (Z 95, .inl (kA 0, 16, .inl (fun _ => 0))), (Z 96, .inl (kA 0, 16, .inl (fun _ => 0))), (Z 97, .inl (kA 1, 16, .inr (.inl (fun _ => 0)))), (Z 99, .inl (kA 0, 100, .inl (fun _ => 0))), (Z 100, .inl (kA 0, 100, .inl (fun _ => 0))), (Z 101, .inl (kA 0, 100, .inl (fun _ => 0))), (Z 102, .inl (kA 1, 100, .inr (.inl (fun _ => 0)))), (Z 107, .inl (kA 1, 6000, .inr (.inl (fun _ => 0)))), (Z 108, .inl (kA 0, 9, .inl (fun _ => 0))), (Z 109, .inl (kA 0, 9, .inl (fun _ => 0))), (Z 110, .inl (kA 0, 9, .inl (fun _ => 0))), (Z 111, .inl (kA 0, 9, .inl (fun _ => 0)))]
/-- i arrays stand, j numbers -/
def WI0 (kA : Nat → ClassId) (a1 i j : Nat) (Z : Nat → Nat) : va_W := (a1, .inr (11, FI0 i j Z)) :: (AL0 kA Z).take i
set_option maxHeartbeats 8000000 in
set_option maxRecDepth 100000 in
theorem m0_X12_init (l : Launch) (D : va_G) (kA : Nat → ClassId) (V : Nat → Nat) (sz : Nat) (a1 : Nat) : Met l yX12_init (Cond.code yX12_init cX12_init 1 none :: GW) ({ frames := 1, cells := 84, slots := 114639, locals := 12 }) (va_Pc [.ref a1] (aP D (KT kA) V [(a1, .inr (11, RN0))] sz)) (va_Qv (fun (Z : Nat → Nat) => Z 200 = a1) (fun (Z : Nat → Nat) t => aB D (va_A [(a1, .inr (11, RN0))] sz) (RW kA Z u00) t) (va_A [(a1, .inr (11, RN0))] sz)) 84 114639 (va_A [(a1, .inr (11, RN0))] sz) := by
  refine Met.ofW (cc := cX12_init) (maxL := 1) (ret := none) (by decide) rfl ?_
  intro p e s m args below meth c s₁ Bd hml hv
  obtain ⟨rfl, hsz, hP, hK, hD0, hE⟩ := hv
  have hx := Bd.exec
  have hb := Bd.bytes
  have hr := Bd.returns
  have hts := atoms_spec (ws := Cond.code yX12_init cX12_init 1 none :: GW) Bd.pre
  have hG : ∀ w ∈ GW, w.before ([.ref a1] : List Value).toArray s = true := fun w h => hts w (List.mem_cons_of_mem _ h)
  have hown : s.vm.findClass RX12 = some m.cls := findClass_of_methodNamed Bd.named
  have hlocks := Bd.notSynchronized
  have hin : meth.name = "<init>" := (name_of_methodNamed Bd.named Bd.method).1
  subst hsz
  have hD := hD0.self (sz := s.heap.size)
  generalize hAe : va_A [(a1, .inr (11, RN0))] s.heap.size = A at hD hE ⊢
  have hA : ∀ q : Nat, s.heap.size ≤ q → A q := fun q h => by rw [← hAe]; exact Or.inr h
  have hS : va_S A s.heap s.heap [] := va_S.rf
  have hP : va_P D vwCl (WI0 kA a1 0 0 (fun _ => a1)) s.heap := hP
  have hD : va_D A (WI0 kA a1 0 0 (fun _ => a1)) := hD
  have hZ : (fun _ : Nat => a1) 200 = a1 := rfl
  generalize (fun _ : Nat => a1) = Z0 at hP hD hZ
  have hl := lv_entry ([.ref a1]) (n := 1) (Nat.le_of_ble_eq_true rfl)
  rw [lg_entry_eq]
  generalize (lg_sl ([.ref a1]) ++ List.replicate (1 - (lg_sl ([.ref a1])).length) Slot.unset).toArray = ls at hl ⊢
  have hl : lv_has ls 1 [(0, .ref a1)] := hl
  refine lv_aload_n hx hb dX12_init_0 rfl (lv_at hl 0 rfl) ?_
  refine W.objInit hx hb hown (hG _ gw_1884) (hG _ gw_39) (hG _ gw_40) rfl (by rw [hml]; exact hl.1) rfl dX12_init_1 (Nat.le_of_ble_eq_true rfl) (Nat.le_of_ble_eq_true rfl) ?_
  refine W.eq (g2 := F0 m 4 ls []) rfl ?_
  refine lv_aload_n hx hb dX12_init_4 rfl (lv_at hl 0 rfl) ?_
  refine lv_sipush (v := 6000) hx hb dX12_init_5 (by decide) ?_
  refine ax_newa (D := D) (atype := .int) (N' := 6000) (n := 6000) (ty := .int) (a0 := (6000, .inl (fun _ => 0))) hx hb (hG _ gw_133) rfl hK hP hD hS hA 0 rfl (fun _ => rfl) (by decide) (by decide) (by decide) (Nat.le_of_ble_eq_true rfl) (Nat.le_of_ble_eq_true rfl) dX12_init_8 (fun q_1 H hP hD hS => ?_)
  refine va_putF (D := D) (ci := 11) (v := .ref q_1) (ty := (.array .int)) (C := RX12) (T := TX12) (N := 121) hx hb hG gwl_X12 tyX12 tyX12_ok nmX12 hown hK hP hD hS 0 rfl rfl 0 (by decide) (hG _ gw_1885) (fun _ h9 => h9) rfl hin rfl (by decide +kernel) rfl rfl (Nat.le_of_ble_eq_true rfl) dX12_init_10 (fun H locs hP hD hS => ?_)
  have hP : va_P D vwCl (WI0 kA a1 1 0 (zu Z0 0 q_1)) H := hP
  have hD : va_D A (WI0 kA a1 1 0 (zu Z0 0 q_1)) := hD
  have hZ : zu Z0 0 q_1 200 = a1 := hZ
  generalize zu Z0 0 q_1 = Z1 at hP hD hZ
  refine lv_aload_n hx hb dX12_init_13 rfl (lv_at hl 0 rfl) ?_
  refine lv_sipush (v := 1502) hx hb dX12_init_14 (by decide) ?_
  refine ax_newa (D := D) (atype := .int) (N' := 1502) (n := 1502) (ty := .int) (a0 := (1502, .inl (fun _ => 0))) hx hb (hG _ gw_133) rfl hK hP hD hS hA 0 rfl (fun _ => rfl) (by decide) (by decide) (by decide) (Nat.le_of_ble_eq_true rfl) (Nat.le_of_ble_eq_true rfl) dX12_init_17 (fun q_2 H hP hD hS => ?_)
  refine va_putF (D := D) (ci := 11) (v := .ref q_2) (ty := (.array .int)) (C := RX12) (T := TX12) (N := 121) hx hb hG gwl_X12 tyX12 tyX12_ok nmX12 hown hK hP hD hS 0 rfl rfl 2 (by decide) (hG _ gw_1887) (fun _ h9 => h9) rfl hin rfl (by decide +kernel) rfl rfl (Nat.le_of_ble_eq_true rfl) dX12_init_19 (fun H locs hP hD hS => ?_)
  have hP : va_P D vwCl (WI0 kA a1 2 0 (zu Z1 2 q_2)) H := hP
  have hD : va_D A (WI0 kA a1 2 0 (zu Z1 2 q_2)) := hD
  have hZ : zu Z1 2 q_2 200 = a1 := hZ
  generalize zu Z1 2 q_2 = Z2 at hP hD hZ
  refine lv_aload_n hx hb dX12_init_22 rfl (lv_at hl 0 rfl) ?_
  refine lv_sipush (v := 1502) hx hb dX12_init_23 (by decide) ?_
  refine ax_newa (D := D) (atype := .int) (N' := 1502) (n := 1502) (ty := .int) (a0 := (1502, .inl (fun _ => 0))) hx hb (hG _ gw_133) rfl hK hP hD hS hA 0 rfl (fun _ => rfl) (by decide) (by decide) (by decide) (Nat.le_of_ble_eq_true rfl) (Nat.le_of_ble_eq_true rfl) dX12_init_26 (fun q_3 H hP hD hS => ?_)
  refine va_putF (D := D) (ci := 11) (v := .ref q_3) (ty := (.array .int)) (C := RX12) (T := TX12) (N := 121) hx hb hG gwl_X12 tyX12 tyX12_ok nmX12 hown hK hP hD hS 0 rfl rfl 3 (by decide) (hG _ gw_1888) (fun _ h9 => h9) rfl hin rfl (by decide +kernel) rfl rfl (Nat.le_of_ble_eq_true rfl) dX12_init_28 (fun H locs hP hD hS => ?_)
  have hP : va_P D vwCl (WI0 kA a1 3 0 (zu Z2 3 q_3)) H := hP
  have hD : va_D A (WI0 kA a1 3 0 (zu Z2 3 q_3)) := hD
  have hZ : zu Z2 3 q_3 200 = a1 := hZ
  generalize zu Z2 3 q_3 = Z3 at hP hD hZ
  refine lv_aload_n hx hb dX12_init_31 rfl (lv_at hl 0 rfl) ?_
  refine lv_sipush (v := 1502) hx hb dX12_init_32 (by decide) ?_
  refine ax_newa (D := D) (atype := .long) (N' := 1502) (n := 1502) (ty := .long) (a0 := (1502, .inr (.inl (fun _ => 0)))) hx hb (hG _ gw_134) rfl hK hP hD hS hA 1 rfl (fun _ => rfl) (by decide) (by decide) (by decide) (Nat.le_of_ble_eq_true rfl) (Nat.le_of_ble_eq_true rfl) dX12_init_35 (fun q_4 H hP hD hS => ?_)
  refine va_putF (D := D) (ci := 11) (v := .ref q_4) (ty := (.array .long)) (C := RX12) (T := TX12) (N := 121) hx hb hG gwl_X12 tyX12 tyX12_ok nmX12 hown hK hP hD hS 0 rfl rfl 4 (by decide) (hG _ gw_1889) (fun _ h9 => h9) rfl hin rfl (by decide +kernel) rfl rfl (Nat.le_of_ble_eq_true rfl) dX12_init_37 (fun H locs hP hD hS => ?_)
  have hP : va_P D vwCl (WI0 kA a1 4 0 (zu Z3 4 q_4)) H := hP
  have hD : va_D A (WI0 kA a1 4 0 (zu Z3 4 q_4)) := hD
  have hZ : zu Z3 4 q_4 200 = a1 := hZ
  generalize zu Z3 4 q_4 = Z4 at hP hD hZ
  refine lv_aload_n hx hb dX12_init_40 rfl (lv_at hl 0 rfl) ?_
  refine lv_sipush (v := 1502) hx hb dX12_init_41 (by decide) ?_
  refine ax_newa (D := D) (atype := .boolean) (N' := 1502) (n := 1502) (ty := .boolean) (a0 := (1502, .inl (fun _ => 0))) hx hb (hG _ gw_2249) rfl hK hP hD hS hA 2 rfl (fun _ => rfl) (by decide) (by decide) (by decide) (Nat.le_of_ble_eq_true rfl) (Nat.le_of_ble_eq_true rfl) dX12_init_44 (fun q_5 H hP hD hS => ?_)
  refine va_putF (D := D) (ci := 11) (v := .ref q_5) (ty := (.array .boolean)) (C := RX12) (T := TX12) (N := 121) hx hb hG gwl_X12 tyX12 tyX12_ok nmX12 hown hK hP hD hS 0 rfl rfl 5 (by decide) (hG _ gw_1890) (fun _ h9 => h9) rfl hin rfl (by decide +kernel) rfl rfl (Nat.le_of_ble_eq_true rfl) dX12_init_46 (fun H locs hP hD hS => ?_)
  have hP : va_P D vwCl (WI0 kA a1 5 0 (zu Z4 5 q_5)) H := hP
  have hD : va_D A (WI0 kA a1 5 0 (zu Z4 5 q_5)) := hD
  have hZ : zu Z4 5 q_5 200 = a1 := hZ
  generalize zu Z4 5 q_5 = Z5 at hP hD hZ
  refine lv_aload_n hx hb dX12_init_49 rfl (lv_at hl 0 rfl) ?_
  refine lv_sipush (v := 1502) hx hb dX12_init_50 (by decide) ?_
  refine ax_newa (D := D) (atype := .long) (N' := 1502) (n := 1502) (ty := .long) (a0 := (1502, .inr (.inl (fun _ => 0)))) hx hb (hG _ gw_134) rfl hK hP hD hS hA 1 rfl (fun _ => rfl) (by decide) (by decide) (by decide) (Nat.le_of_ble_eq_true rfl) (Nat.le_of_ble_eq_true rfl) dX12_init_53 (fun q_6 H hP hD hS => ?_)
  refine va_putF (D := D) (ci := 11) (v := .ref q_6) (ty := (.array .long)) (C := RX12) (T := TX12) (N := 121) hx hb hG gwl_X12 tyX12 tyX12_ok nmX12 hown hK hP hD hS 0 rfl rfl 6 (by decide) (hG _ gw_1891) (fun _ h9 => h9) rfl hin rfl (by decide +kernel) rfl rfl (Nat.le_of_ble_eq_true rfl) dX12_init_55 (fun H locs hP hD hS => ?_)
  have hP : va_P D vwCl (WI0 kA a1 6 0 (zu Z5 6 q_6)) H := hP
  have hD : va_D A (WI0 kA a1 6 0 (zu Z5 6 q_6)) := hD
  have hZ : zu Z5 6 q_6 200 = a1 := hZ
  generalize zu Z5 6 q_6 = Z6 at hP hD hZ
  refine lv_aload_n hx hb dX12_init_58 rfl (lv_at hl 0 rfl) ?_
  refine lv_sipush (v := 1502) hx hb dX12_init_59 (by decide) ?_
  refine ax_newa (D := D) (atype := .long) (N' := 1502) (n := 1502) (ty := .long) (a0 := (1502, .inr (.inl (fun _ => 0)))) hx hb (hG _ gw_134) rfl hK hP hD hS hA 1 rfl (fun _ => rfl) (by decide) (by decide) (by decide) (Nat.le_of_ble_eq_true rfl) (Nat.le_of_ble_eq_true rfl) dX12_init_62 (fun q_7 H hP hD hS => ?_)
  refine va_putF (D := D) (ci := 11) (v := .ref q_7) (ty := (.array .long)) (C := RX12) (T := TX12) (N := 121) hx hb hG gwl_X12 tyX12 tyX12_ok nmX12 hown hK hP hD hS 0 rfl rfl 7 (by decide) (hG _ gw_1892) (fun _ h9 => h9) rfl hin rfl (by decide +kernel) rfl rfl (Nat.le_of_ble_eq_true rfl) dX12_init_64 (fun H locs hP hD hS => ?_)
  have hP : va_P D vwCl (WI0 kA a1 7 0 (zu Z6 7 q_7)) H := hP
  have hD : va_D A (WI0 kA a1 7 0 (zu Z6 7 q_7)) := hD
  have hZ : zu Z6 7 q_7 200 = a1 := hZ
  generalize zu Z6 7 q_7 = Z7 at hP hD hZ
  refine lv_aload_n hx hb dX12_init_67 rfl (lv_at hl 0 rfl) ?_
  refine lv_sipush (v := 320) hx hb dX12_init_68 (by decide) ?_
  refine ax_newa (D := D) (atype := .int) (N' := 320) (n := 320) (ty := .int) (a0 := (320, .inl (fun _ => 0))) hx hb (hG _ gw_133) rfl hK hP hD hS hA 0 rfl (fun _ => rfl) (by decide) (by decide) (by decide) (Nat.le_of_ble_eq_true rfl) (Nat.le_of_ble_eq_true rfl) dX12_init_71 (fun q_8 H hP hD hS => ?_)
  refine va_putF (D := D) (ci := 11) (v := .ref q_8) (ty := (.array .int)) (C := RX12) (T := TX12) (N := 121) hx hb hG gwl_X12 tyX12 tyX12_ok nmX12 hown hK hP hD hS 0 rfl rfl 10 (by decide) (hG _ gw_1895) (fun _ h9 => h9) rfl hin rfl (by decide +kernel) rfl rfl (Nat.le_of_ble_eq_true rfl) dX12_init_73 (fun H locs hP hD hS => ?_)
  have hP : va_P D vwCl (WI0 kA a1 8 0 (zu Z7 10 q_8)) H := hP
  have hD : va_D A (WI0 kA a1 8 0 (zu Z7 10 q_8)) := hD
  have hZ : zu Z7 10 q_8 200 = a1 := hZ
  generalize zu Z7 10 q_8 = Z8 at hP hD hZ
  refine lv_aload_n hx hb dX12_init_76 rfl (lv_at hl 0 rfl) ?_
  refine lv_sipush (v := 320) hx hb dX12_init_77 (by decide) ?_
  refine ax_newa (D := D) (atype := .int) (N' := 320) (n := 320) (ty := .int) (a0 := (320, .inl (fun _ => 0))) hx hb (hG _ gw_133) rfl hK hP hD hS hA 0 rfl (fun _ => rfl) (by decide) (by decide) (by decide) (Nat.le_of_ble_eq_true rfl) (Nat.le_of_ble_eq_true rfl) dX12_init_80 (fun q_9 H hP hD hS => ?_)
  refine va_putF (D := D) (ci := 11) (v := .ref q_9) (ty := (.array .int)) (C := RX12) (T := TX12) (N := 121) hx hb hG gwl_X12 tyX12 tyX12_ok nmX12 hown hK hP hD hS 0 rfl rfl 11 (by decide) (hG _ gw_1896) (fun _ h9 => h9) rfl hin rfl (by decide +kernel) rfl rfl (Nat.le_of_ble_eq_true rfl) dX12_init_82 (fun H locs hP hD hS => ?_)
  have hP : va_P D vwCl (WI0 kA a1 9 0 (zu Z8 11 q_9)) H := hP
  have hD : va_D A (WI0 kA a1 9 0 (zu Z8 11 q_9)) := hD
  have hZ : zu Z8 11 q_9 200 = a1 := hZ
  generalize zu Z8 11 q_9 = Z9 at hP hD hZ
  refine lv_aload_n hx hb dX12_init_85 rfl (lv_at hl 0 rfl) ?_
  refine lv_sipush (v := 320) hx hb dX12_init_86 (by decide) ?_
  refine ax_newa (D := D) (atype := .int) (N' := 320) (n := 320) (ty := .int) (a0 := (320, .inl (fun _ => 0))) hx hb (hG _ gw_133) rfl hK hP hD hS hA 0 rfl (fun _ => rfl) (by decide) (by decide) (by decide) (Nat.le_of_ble_eq_true rfl) (Nat.le_of_ble_eq_true rfl) dX12_init_89 (fun q_10 H hP hD hS => ?_)
  refine va_putF (D := D) (ci := 11) (v := .ref q_10) (ty := (.array .int)) (C := RX12) (T := TX12) (N := 121) hx hb hG gwl_X12 tyX12 tyX12_ok nmX12 hown hK hP hD hS 0 rfl rfl 12 (by decide) (hG _ gw_1897) (fun _ h9 => h9) rfl hin rfl (by decide +kernel) rfl rfl (Nat.le_of_ble_eq_true rfl) dX12_init_91 (fun H locs hP hD hS => ?_)
  have hP : va_P D vwCl (WI0 kA a1 10 0 (zu Z9 12 q_10)) H := hP
  have hD : va_D A (WI0 kA a1 10 0 (zu Z9 12 q_10)) := hD
  have hZ : zu Z9 12 q_10 200 = a1 := hZ
  generalize zu Z9 12 q_10 = Z10 at hP hD hZ
  refine lv_aload_n hx hb dX12_init_94 rfl (lv_at hl 0 rfl) ?_
  refine lv_sipush (v := 320) hx hb dX12_init_95 (by decide) ?_
  refine ax_newa (D := D) (atype := .boolean) (N' := 320) (n := 320) (ty := .boolean) (a0 := (320, .inl (fun _ => 0))) hx hb (hG _ gw_2249) rfl hK hP hD hS hA 2 rfl (fun _ => rfl) (by decide) (by decide) (by decide) (Nat.le_of_ble_eq_true rfl) (Nat.le_of_ble_eq_true rfl) dX12_init_98 (fun q_11 H hP hD hS => ?_)
  refine va_putF (D := D) (ci := 11) (v := .ref q_11) (ty := (.array .boolean)) (C := RX12) (T := TX12) (N := 121) hx hb hG gwl_X12 tyX12 tyX12_ok nmX12 hown hK hP hD hS 0 rfl rfl 13 (by decide) (hG _ gw_1898) (fun _ h9 => h9) rfl hin rfl (by decide +kernel) rfl rfl (Nat.le_of_ble_eq_true rfl) dX12_init_100 (fun H locs hP hD hS => ?_)
  have hP : va_P D vwCl (WI0 kA a1 11 0 (zu Z10 13 q_11)) H := hP
  have hD : va_D A (WI0 kA a1 11 0 (zu Z10 13 q_11)) := hD
  have hZ : zu Z10 13 q_11 200 = a1 := hZ
  generalize zu Z10 13 q_11 = Z11 at hP hD hZ
  refine lv_aload_n hx hb dX12_init_103 rfl (lv_at hl 0 rfl) ?_
  refine lv_sipush (v := 320) hx hb dX12_init_104 (by decide) ?_
  refine ax_newa (D := D) (atype := .int) (N' := 320) (n := 320) (ty := .int) (a0 := (320, .inl (fun _ => 0))) hx hb (hG _ gw_133) rfl hK hP hD hS hA 0 rfl (fun _ => rfl) (by decide) (by decide) (by decide) (Nat.le_of_ble_eq_true rfl) (Nat.le_of_ble_eq_true rfl) dX12_init_107 (fun q_12 H hP hD hS => ?_)
  refine va_putF (D := D) (ci := 11) (v := .ref q_12) (ty := (.array .int)) (C := RX12) (T := TX12) (N := 121) hx hb hG gwl_X12 tyX12 tyX12_ok nmX12 hown hK hP hD hS 0 rfl rfl 14 (by decide) (hG _ gw_1899) (fun _ h9 => h9) rfl hin rfl (by decide +kernel) rfl rfl (Nat.le_of_ble_eq_true rfl) dX12_init_109 (fun H locs hP hD hS => ?_)
  have hP : va_P D vwCl (WI0 kA a1 12 0 (zu Z11 14 q_12)) H := hP
  have hD : va_D A (WI0 kA a1 12 0 (zu Z11 14 q_12)) := hD
  have hZ : zu Z11 14 q_12 200 = a1 := hZ
  generalize zu Z11 14 q_12 = Z12 at hP hD hZ
  refine lv_aload_n hx hb dX12_init_112 rfl (lv_at hl 0 rfl) ?_
  refine lv_sipush (v := 320) hx hb dX12_init_113 (by decide) ?_
  refine ax_newa (D := D) (atype := .int) (N' := 320) (n := 320) (ty := .int) (a0 := (320, .inl (fun _ => 0))) hx hb (hG _ gw_133) rfl hK hP hD hS hA 0 rfl (fun _ => rfl) (by decide) (by decide) (by decide) (Nat.le_of_ble_eq_true rfl) (Nat.le_of_ble_eq_true rfl) dX12_init_116 (fun q_13 H hP hD hS => ?_)
  refine va_putF (D := D) (ci := 11) (v := .ref q_13) (ty := (.array .int)) (C := RX12) (T := TX12) (N := 121) hx hb hG gwl_X12 tyX12 tyX12_ok nmX12 hown hK hP hD hS 0 rfl rfl 15 (by decide) (hG _ gw_1900) (fun _ h9 => h9) rfl hin rfl (by decide +kernel) rfl rfl (Nat.le_of_ble_eq_true rfl) dX12_init_118 (fun H locs hP hD hS => ?_)
  have hP : va_P D vwCl (WI0 kA a1 13 0 (zu Z12 15 q_13)) H := hP
  have hD : va_D A (WI0 kA a1 13 0 (zu Z12 15 q_13)) := hD
  have hZ : zu Z12 15 q_13 200 = a1 := hZ
  generalize zu Z12 15 q_13 = Z13 at hP hD hZ
  refine lv_aload_n hx hb dX12_init_121 rfl (lv_at hl 0 rfl) ?_
  refine lv_sipush (v := 320) hx hb dX12_init_122 (by decide) ?_
  refine ax_newa (D := D) (atype := .long) (N' := 320) (n := 320) (ty := .long) (a0 := (320, .inr (.inl (fun _ => 0)))) hx hb (hG _ gw_134) rfl hK hP hD hS hA 1 rfl (fun _ => rfl) (by decide) (by decide) (by decide) (Nat.le_of_ble_eq_true rfl) (Nat.le_of_ble_eq_true rfl) dX12_init_125 (fun q_14 H hP hD hS => ?_)
  refine va_putF (D := D) (ci := 11) (v := .ref q_14) (ty := (.array .long)) (C := RX12) (T := TX12) (N := 121) hx hb hG gwl_X12 tyX12 tyX12_ok nmX12 hown hK hP hD hS 0 rfl rfl 16 (by decide) (hG _ gw_1901) (fun _ h9 => h9) rfl hin rfl (by decide +kernel) rfl rfl (Nat.le_of_ble_eq_true rfl) dX12_init_127 (fun H locs hP hD hS => ?_)
  have hP : va_P D vwCl (WI0 kA a1 14 0 (zu Z13 16 q_14)) H := hP
  have hD : va_D A (WI0 kA a1 14 0 (zu Z13 16 q_14)) := hD
  have hZ : zu Z13 16 q_14 200 = a1 := hZ
  generalize zu Z13 16 q_14 = Z14 at hP hD hZ
  refine lv_aload_n hx hb dX12_init_130 rfl (lv_at hl 0 rfl) ?_
  refine lv_sipush (v := 320) hx hb dX12_init_131 (by decide) ?_
  refine ax_newa (D := D) (atype := .long) (N' := 320) (n := 320) (ty := .long) (a0 := (320, .inr (.inl (fun _ => 0)))) hx hb (hG _ gw_134) rfl hK hP hD hS hA 1 rfl (fun _ => rfl) (by decide) (by decide) (by decide) (Nat.le_of_ble_eq_true rfl) (Nat.le_of_ble_eq_true rfl) dX12_init_134 (fun q_15 H hP hD hS => ?_)
  refine va_putF (D := D) (ci := 11) (v := .ref q_15) (ty := (.array .long)) (C := RX12) (T := TX12) (N := 121) hx hb hG gwl_X12 tyX12 tyX12_ok nmX12 hown hK hP hD hS 0 rfl rfl 17 (by decide) (hG _ gw_1902) (fun _ h9 => h9) rfl hin rfl (by decide +kernel) rfl rfl (Nat.le_of_ble_eq_true rfl) dX12_init_136 (fun H locs hP hD hS => ?_)
  have hP : va_P D vwCl (WI0 kA a1 15 0 (zu Z14 17 q_15)) H := hP
  have hD : va_D A (WI0 kA a1 15 0 (zu Z14 17 q_15)) := hD
  have hZ : zu Z14 17 q_15 200 = a1 := hZ
  generalize zu Z14 17 q_15 = Z15 at hP hD hZ
  refine lv_aload_n hx hb dX12_init_139 rfl (lv_at hl 0 rfl) ?_
  refine lv_sipush (v := 320) hx hb dX12_init_140 (by decide) ?_
  refine ax_newa (D := D) (atype := .long) (N' := 320) (n := 320) (ty := .long) (a0 := (320, .inr (.inl (fun _ => 0)))) hx hb (hG _ gw_134) rfl hK hP hD hS hA 1 rfl (fun _ => rfl) (by decide) (by decide) (by decide) (Nat.le_of_ble_eq_true rfl) (Nat.le_of_ble_eq_true rfl) dX12_init_143 (fun q_16 H hP hD hS => ?_)
  refine va_putF (D := D) (ci := 11) (v := .ref q_16) (ty := (.array .long)) (C := RX12) (T := TX12) (N := 121) hx hb hG gwl_X12 tyX12 tyX12_ok nmX12 hown hK hP hD hS 0 rfl rfl 18 (by decide) (hG _ gw_1903) (fun _ h9 => h9) rfl hin rfl (by decide +kernel) rfl rfl (Nat.le_of_ble_eq_true rfl) dX12_init_145 (fun H locs hP hD hS => ?_)
  have hP : va_P D vwCl (WI0 kA a1 16 0 (zu Z15 18 q_16)) H := hP
  have hD : va_D A (WI0 kA a1 16 0 (zu Z15 18 q_16)) := hD
  have hZ : zu Z15 18 q_16 200 = a1 := hZ
  generalize zu Z15 18 q_16 = Z16 at hP hD hZ
  refine lv_aload_n hx hb dX12_init_148 rfl (lv_at hl 0 rfl) ?_
  refine lv_iconst (v := 2) hx hb dX12_init_149 (by decide) ?_
  refine ax_newa (D := D) (atype := .int) (N' := 2) (n := 2) (ty := .int) (a0 := (2, .inl (fun _ => 0))) hx hb (hG _ gw_133) rfl hK hP hD hS hA 0 rfl (fun _ => rfl) (by decide) (by decide) (by decide) (Nat.le_of_ble_eq_true rfl) (Nat.le_of_ble_eq_true rfl) dX12_init_150 (fun q_17 H hP hD hS => ?_)
  refine va_putF (D := D) (ci := 11) (v := .ref q_17) (ty := (.array .int)) (C := RX12) (T := TX12) (N := 121) hx hb hG gwl_X12 tyX12 tyX12_ok nmX12 hown hK hP hD hS 0 rfl rfl 19 (by decide) (hG _ gw_1904) (fun _ h9 => h9) rfl hin rfl (by decide +kernel) rfl rfl (Nat.le_of_ble_eq_true rfl) dX12_init_152 (fun H locs hP hD hS => ?_)
  have hP : va_P D vwCl (WI0 kA a1 17 0 (zu Z16 19 q_17)) H := hP
  have hD : va_D A (WI0 kA a1 17 0 (zu Z16 19 q_17)) := hD
  have hZ : zu Z16 19 q_17 200 = a1 := hZ
  generalize zu Z16 19 q_17 = Z17 at hP hD hZ
  refine lv_aload_n hx hb dX12_init_155 rfl (lv_at hl 0 rfl) ?_
  refine lv_sipush (v := 320) hx hb dX12_init_156 (by decide) ?_
  refine ax_newa (D := D) (atype := .int) (N' := 320) (n := 320) (ty := .int) (a0 := (320, .inl (fun _ => 0))) hx hb (hG _ gw_133) rfl hK hP hD hS hA 0 rfl (fun _ => rfl) (by decide) (by decide) (by decide) (Nat.le_of_ble_eq_true rfl) (Nat.le_of_ble_eq_true rfl) dX12_init_159 (fun q_18 H hP hD hS => ?_)
  refine va_putF (D := D) (ci := 11) (v := .ref q_18) (ty := (.array .int)) (C := RX12) (T := TX12) (N := 121) hx hb hG gwl_X12 tyX12 tyX12_ok nmX12 hown hK hP hD hS 0 rfl rfl 20 (by decide) (hG _ gw_1905) (fun _ h9 => h9) rfl hin rfl (by decide +kernel) rfl rfl (Nat.le_of_ble_eq_true rfl) dX12_init_161 (fun H locs hP hD hS => ?_)
  have hP : va_P D vwCl (WI0 kA a1 18 0 (zu Z17 20 q_18)) H := hP
  have hD : va_D A (WI0 kA a1 18 0 (zu Z17 20 q_18)) := hD
  have hZ : zu Z17 20 q_18 200 = a1 := hZ
  generalize zu Z17 20 q_18 = Z18 at hP hD hZ
  refine lv_aload_n hx hb dX12_init_164 rfl (lv_at hl 0 rfl) ?_
  refine lv_sipush (v := 320) hx hb dX12_init_165 (by decide) ?_
  refine ax_newa (D := D) (atype := .int) (N' := 320) (n := 320) (ty := .int) (a0 := (320, .inl (fun _ => 0))) hx hb (hG _ gw_133) rfl hK hP hD hS hA 0 rfl (fun _ => rfl) (by decide) (by decide) (by decide) (Nat.le_of_ble_eq_true rfl) (Nat.le_of_ble_eq_true rfl) dX12_init_168 (fun q_19 H hP hD hS => ?_)
  refine va_putF (D := D) (ci := 11) (v := .ref q_19) (ty := (.array .int)) (C := RX12) (T := TX12) (N := 121) hx hb hG gwl_X12 tyX12 tyX12_ok nmX12 hown hK hP hD hS 0 rfl rfl 21 (by decide) (hG _ gw_1906) (fun _ h9 => h9) rfl hin rfl (by decide +kernel) rfl rfl (Nat.le_of_ble_eq_true rfl) dX12_init_170 (fun H locs hP hD hS => ?_)
  have hP : va_P D vwCl (WI0 kA a1 19 0 (zu Z18 21 q_19)) H := hP
  have hD : va_D A (WI0 kA a1 19 0 (zu Z18 21 q_19)) := hD
  have hZ : zu Z18 21 q_19 200 = a1 := hZ
  generalize zu Z18 21 q_19 = Z19 at hP hD hZ
  refine lv_aload_n hx hb dX12_init_173 rfl (lv_at hl 0 rfl) ?_
  refine lv_sipush (v := 320) hx hb dX12_init_174 (by decide) ?_
  refine ax_newa (D := D) (atype := .boolean) (N' := 320) (n := 320) (ty := .boolean) (a0 := (320, .inl (fun _ => 0))) hx hb (hG _ gw_2249) rfl hK hP hD hS hA 2 rfl (fun _ => rfl) (by decide) (by decide) (by decide) (Nat.le_of_ble_eq_true rfl) (Nat.le_of_ble_eq_true rfl) dX12_init_177 (fun q_20 H hP hD hS => ?_)
  refine va_putF (D := D) (ci := 11) (v := .ref q_20) (ty := (.array .boolean)) (C := RX12) (T := TX12) (N := 121) hx hb hG gwl_X12 tyX12 tyX12_ok nmX12 hown hK hP hD hS 0 rfl rfl 22 (by decide) (hG _ gw_1907) (fun _ h9 => h9) rfl hin rfl (by decide +kernel) rfl rfl (Nat.le_of_ble_eq_true rfl) dX12_init_179 (fun H locs hP hD hS => ?_)
  have hP : va_P D vwCl (WI0 kA a1 20 0 (zu Z19 22 q_20)) H := hP
  have hD : va_D A (WI0 kA a1 20 0 (zu Z19 22 q_20)) := hD
  have hZ : zu Z19 22 q_20 200 = a1 := hZ
  generalize zu Z19 22 q_20 = Z20 at hP hD hZ
  refine lv_aload_n hx hb dX12_init_182 rfl (lv_at hl 0 rfl) ?_
  refine lv_sipush (v := 320) hx hb dX12_init_183 (by decide) ?_
  refine ax_newa (D := D) (atype := .int) (N' := 320) (n := 320) (ty := .int) (a0 := (320, .inl (fun _ => 0))) hx hb (hG _ gw_133) rfl hK hP hD hS hA 0 rfl (fun _ => rfl) (by decide) (by decide) (by decide) (Nat.le_of_ble_eq_true rfl) (Nat.le_of_ble_eq_true rfl) dX12_init_186 (fun q_21 H hP hD hS => ?_)
  refine va_putF (D := D) (ci := 11) (v := .ref q_21) (ty := (.array .int)) (C := RX12) (T := TX12) (N := 121) hx hb hG gwl_X12 tyX12 tyX12_ok nmX12 hown hK hP hD hS 0 rfl rfl 23 (by decide) (hG _ gw_1908) (fun _ h9 => h9) rfl hin rfl (by decide +kernel) rfl rfl (Nat.le_of_ble_eq_true rfl) dX12_init_188 (fun H locs hP hD hS => ?_)
  have hP : va_P D vwCl (WI0 kA a1 21 0 (zu Z20 23 q_21)) H := hP
  have hD : va_D A (WI0 kA a1 21 0 (zu Z20 23 q_21)) := hD
  have hZ : zu Z20 23 q_21 200 = a1 := hZ
  generalize zu Z20 23 q_21 = Z21 at hP hD hZ
  refine lv_aload_n hx hb dX12_init_191 rfl (lv_at hl 0 rfl) ?_
  refine lv_sipush (v := 320) hx hb dX12_init_192 (by decide) ?_
  refine ax_newa (D := D) (atype := .long) (N' := 320) (n := 320) (ty := .long) (a0 := (320, .inr (.inl (fun _ => 0)))) hx hb (hG _ gw_134) rfl hK hP hD hS hA 1 rfl (fun _ => rfl) (by decide) (by decide) (by decide) (Nat.le_of_ble_eq_true rfl) (Nat.le_of_ble_eq_true rfl) dX12_init_195 (fun q_22 H hP hD hS => ?_)
  refine va_putF (D := D) (ci := 11) (v := .ref q_22) (ty := (.array .long)) (C := RX12) (T := TX12) (N := 121) hx hb hG gwl_X12 tyX12 tyX12_ok nmX12 hown hK hP hD hS 0 rfl rfl 24 (by decide) (hG _ gw_1909) (fun _ h9 => h9) rfl hin rfl (by decide +kernel) rfl rfl (Nat.le_of_ble_eq_true rfl) dX12_init_197 (fun H locs hP hD hS => ?_)
  have hP : va_P D vwCl (WI0 kA a1 22 0 (zu Z21 24 q_22)) H := hP
  have hD : va_D A (WI0 kA a1 22 0 (zu Z21 24 q_22)) := hD
  have hZ : zu Z21 24 q_22 200 = a1 := hZ
  generalize zu Z21 24 q_22 = Z22 at hP hD hZ
  refine lv_aload_n hx hb dX12_init_200 rfl (lv_at hl 0 rfl) ?_
  refine lv_sipush (v := 320) hx hb dX12_init_201 (by decide) ?_
  refine ax_newa (D := D) (atype := .long) (N' := 320) (n := 320) (ty := .long) (a0 := (320, .inr (.inl (fun _ => 0)))) hx hb (hG _ gw_134) rfl hK hP hD hS hA 1 rfl (fun _ => rfl) (by decide) (by decide) (by decide) (Nat.le_of_ble_eq_true rfl) (Nat.le_of_ble_eq_true rfl) dX12_init_204 (fun q_23 H hP hD hS => ?_)
  refine va_putF (D := D) (ci := 11) (v := .ref q_23) (ty := (.array .long)) (C := RX12) (T := TX12) (N := 121) hx hb hG gwl_X12 tyX12 tyX12_ok nmX12 hown hK hP hD hS 0 rfl rfl 25 (by decide) (hG _ gw_1910) (fun _ h9 => h9) rfl hin rfl (by decide +kernel) rfl rfl (Nat.le_of_ble_eq_true rfl) dX12_init_206 (fun H locs hP hD hS => ?_)
  have hP : va_P D vwCl (WI0 kA a1 23 0 (zu Z22 25 q_23)) H := hP
  have hD : va_D A (WI0 kA a1 23 0 (zu Z22 25 q_23)) := hD
  have hZ : zu Z22 25 q_23 200 = a1 := hZ
  generalize zu Z22 25 q_23 = Z23 at hP hD hZ
  refine lv_aload_n hx hb dX12_init_209 rfl (lv_at hl 0 rfl) ?_
  refine lv_sipush (v := 320) hx hb dX12_init_210 (by decide) ?_
  refine ax_newa (D := D) (atype := .long) (N' := 320) (n := 320) (ty := .long) (a0 := (320, .inr (.inl (fun _ => 0)))) hx hb (hG _ gw_134) rfl hK hP hD hS hA 1 rfl (fun _ => rfl) (by decide) (by decide) (by decide) (Nat.le_of_ble_eq_true rfl) (Nat.le_of_ble_eq_true rfl) dX12_init_213 (fun q_24 H hP hD hS => ?_)
  refine va_putF (D := D) (ci := 11) (v := .ref q_24) (ty := (.array .long)) (C := RX12) (T := TX12) (N := 121) hx hb hG gwl_X12 tyX12 tyX12_ok nmX12 hown hK hP hD hS 0 rfl rfl 26 (by decide) (hG _ gw_1911) (fun _ h9 => h9) rfl hin rfl (by decide +kernel) rfl rfl (Nat.le_of_ble_eq_true rfl) dX12_init_215 (fun H locs hP hD hS => ?_)
  have hP : va_P D vwCl (WI0 kA a1 24 0 (zu Z23 26 q_24)) H := hP
  have hD : va_D A (WI0 kA a1 24 0 (zu Z23 26 q_24)) := hD
  have hZ : zu Z23 26 q_24 200 = a1 := hZ
  generalize zu Z23 26 q_24 = Z24 at hP hD hZ
  refine lv_aload_n hx hb dX12_init_218 rfl (lv_at hl 0 rfl) ?_
  refine lv_iconst (v := 2) hx hb dX12_init_219 (by decide) ?_
  refine ax_newa (D := D) (atype := .int) (N' := 2) (n := 2) (ty := .int) (a0 := (2, .inl (fun _ => 0))) hx hb (hG _ gw_133) rfl hK hP hD hS hA 0 rfl (fun _ => rfl) (by decide) (by decide) (by decide) (Nat.le_of_ble_eq_true rfl) (Nat.le_of_ble_eq_true rfl) dX12_init_220 (fun q_25 H hP hD hS => ?_)
  refine va_putF (D := D) (ci := 11) (v := .ref q_25) (ty := (.array .int)) (C := RX12) (T := TX12) (N := 121) hx hb hG gwl_X12 tyX12 tyX12_ok nmX12 hown hK hP hD hS 0 rfl rfl 27 (by decide) (hG _ gw_1912) (fun _ h9 => h9) rfl hin rfl (by decide +kernel) rfl rfl (Nat.le_of_ble_eq_true rfl) dX12_init_222 (fun H locs hP hD hS => ?_)
  have hP : va_P D vwCl (WI0 kA a1 25 0 (zu Z24 27 q_25)) H := hP
  have hD : va_D A (WI0 kA a1 25 0 (zu Z24 27 q_25)) := hD
  have hZ : zu Z24 27 q_25 200 = a1 := hZ
  generalize zu Z24 27 q_25 = Z25 at hP hD hZ
  refine lv_aload_n hx hb dX12_init_225 rfl (lv_at hl 0 rfl) ?_
  refine lv_bipush (v := 48) hx hb dX12_init_226 (by decide) ?_
  refine ax_newa (D := D) (atype := .int) (N' := 48) (n := 48) (ty := .int) (a0 := (48, .inl (fun _ => 0))) hx hb (hG _ gw_133) rfl hK hP hD hS hA 0 rfl (fun _ => rfl) (by decide) (by decide) (by decide) (Nat.le_of_ble_eq_true rfl) (Nat.le_of_ble_eq_true rfl) dX12_init_228 (fun q_26 H hP hD hS => ?_)
  refine va_putF (D := D) (ci := 11) (v := .ref q_26) (ty := (.array .int)) (C := RX12) (T := TX12) (N := 121) hx hb hG gwl_X12 tyX12 tyX12_ok nmX12 hown hK hP hD hS 0 rfl rfl 28 (by decide) (hG _ gw_1913) (fun _ h9 => h9) rfl hin rfl (by decide +kernel) rfl rfl (Nat.le_of_ble_eq_true rfl) dX12_init_230 (fun H locs hP hD hS => ?_)
  have hP : va_P D vwCl (WI0 kA a1 26 0 (zu Z25 28 q_26)) H := hP
  have hD : va_D A (WI0 kA a1 26 0 (zu Z25 28 q_26)) := hD
  have hZ : zu Z25 28 q_26 200 = a1 := hZ
  generalize zu Z25 28 q_26 = Z26 at hP hD hZ
  refine lv_aload_n hx hb dX12_init_233 rfl (lv_at hl 0 rfl) ?_
  refine lv_bipush (v := 48) hx hb dX12_init_234 (by decide) ?_
  refine ax_newa (D := D) (atype := .int) (N' := 48) (n := 48) (ty := .int) (a0 := (48, .inl (fun _ => 0))) hx hb (hG _ gw_133) rfl hK hP hD hS hA 0 rfl (fun _ => rfl) (by decide) (by decide) (by decide) (Nat.le_of_ble_eq_true rfl) (Nat.le_of_ble_eq_true rfl) dX12_init_236 (fun q_27 H hP hD hS => ?_)
  refine va_putF (D := D) (ci := 11) (v := .ref q_27) (ty := (.array .int)) (C := RX12) (T := TX12) (N := 121) hx hb hG gwl_X12 tyX12 tyX12_ok nmX12 hown hK hP hD hS 0 rfl rfl 29 (by decide) (hG _ gw_1914) (fun _ h9 => h9) rfl hin rfl (by decide +kernel) rfl rfl (Nat.le_of_ble_eq_true rfl) dX12_init_238 (fun H locs hP hD hS => ?_)
  have hP : va_P D vwCl (WI0 kA a1 27 0 (zu Z26 29 q_27)) H := hP
  have hD : va_D A (WI0 kA a1 27 0 (zu Z26 29 q_27)) := hD
  have hZ : zu Z26 29 q_27 200 = a1 := hZ
  generalize zu Z26 29 q_27 = Z27 at hP hD hZ
  refine lv_aload_n hx hb dX12_init_241 rfl (lv_at hl 0 rfl) ?_
  refine lv_bipush (v := 48) hx hb dX12_init_242 (by decide) ?_
  refine ax_newa (D := D) (atype := .int) (N' := 48) (n := 48) (ty := .int) (a0 := (48, .inl (fun _ => 0))) hx hb (hG _ gw_133) rfl hK hP hD hS hA 0 rfl (fun _ => rfl) (by decide) (by decide) (by decide) (Nat.le_of_ble_eq_true rfl) (Nat.le_of_ble_eq_true rfl) dX12_init_244 (fun q_28 H hP hD hS => ?_)
  refine va_putF (D := D) (ci := 11) (v := .ref q_28) (ty := (.array .int)) (C := RX12) (T := TX12) (N := 121) hx hb hG gwl_X12 tyX12 tyX12_ok nmX12 hown hK hP hD hS 0 rfl rfl 30 (by decide) (hG _ gw_1915) (fun _ h9 => h9) rfl hin rfl (by decide +kernel) rfl rfl (Nat.le_of_ble_eq_true rfl) dX12_init_246 (fun H locs hP hD hS => ?_)
  have hP : va_P D vwCl (WI0 kA a1 28 0 (zu Z27 30 q_28)) H := hP
  have hD : va_D A (WI0 kA a1 28 0 (zu Z27 30 q_28)) := hD
  have hZ : zu Z27 30 q_28 200 = a1 := hZ
  generalize zu Z27 30 q_28 = Z28 at hP hD hZ
  refine lv_aload_n hx hb dX12_init_249 rfl (lv_at hl 0 rfl) ?_
  refine lv_bipush (v := 48) hx hb dX12_init_250 (by decide) ?_
  refine ax_newa (D := D) (atype := .int) (N' := 48) (n := 48) (ty := .int) (a0 := (48, .inl (fun _ => 0))) hx hb (hG _ gw_133) rfl hK hP hD hS hA 0 rfl (fun _ => rfl) (by decide) (by decide) (by decide) (Nat.le_of_ble_eq_true rfl) (Nat.le_of_ble_eq_true rfl) dX12_init_252 (fun q_29 H hP hD hS => ?_)
  refine va_putF (D := D) (ci := 11) (v := .ref q_29) (ty := (.array .int)) (C := RX12) (T := TX12) (N := 121) hx hb hG gwl_X12 tyX12 tyX12_ok nmX12 hown hK hP hD hS 0 rfl rfl 31 (by decide) (hG _ gw_1916) (fun _ h9 => h9) rfl hin rfl (by decide +kernel) rfl rfl (Nat.le_of_ble_eq_true rfl) dX12_init_254 (fun H locs hP hD hS => ?_)
  have hP : va_P D vwCl (WI0 kA a1 29 0 (zu Z28 31 q_29)) H := hP
  have hD : va_D A (WI0 kA a1 29 0 (zu Z28 31 q_29)) := hD
  have hZ : zu Z28 31 q_29 200 = a1 := hZ
  generalize zu Z28 31 q_29 = Z29 at hP hD hZ
  refine lv_aload_n hx hb dX12_init_257 rfl (lv_at hl 0 rfl) ?_
  refine lv_bipush (v := 48) hx hb dX12_init_258 (by decide) ?_
  refine ax_newa (D := D) (atype := .int) (N' := 48) (n := 48) (ty := .int) (a0 := (48, .inl (fun _ => 0))) hx hb (hG _ gw_133) rfl hK hP hD hS hA 0 rfl (fun _ => rfl) (by decide) (by decide) (by decide) (Nat.le_of_ble_eq_true rfl) (Nat.le_of_ble_eq_true rfl) dX12_init_260 (fun q_30 H hP hD hS => ?_)
  refine va_putF (D := D) (ci := 11) (v := .ref q_30) (ty := (.array .int)) (C := RX12) (T := TX12) (N := 121) hx hb hG gwl_X12 tyX12 tyX12_ok nmX12 hown hK hP hD hS 0 rfl rfl 32 (by decide) (hG _ gw_1917) (fun _ h9 => h9) rfl hin rfl (by decide +kernel) rfl rfl (Nat.le_of_ble_eq_true rfl) dX12_init_262 (fun H locs hP hD hS => ?_)
  have hP : va_P D vwCl (WI0 kA a1 30 0 (zu Z29 32 q_30)) H := hP
  have hD : va_D A (WI0 kA a1 30 0 (zu Z29 32 q_30)) := hD
  have hZ : zu Z29 32 q_30 200 = a1 := hZ
  generalize zu Z29 32 q_30 = Z30 at hP hD hZ
  refine lv_aload_n hx hb dX12_init_265 rfl (lv_at hl 0 rfl) ?_
  refine lv_bipush (v := 48) hx hb dX12_init_266 (by decide) ?_
  refine ax_newa (D := D) (atype := .int) (N' := 48) (n := 48) (ty := .int) (a0 := (48, .inl (fun _ => 0))) hx hb (hG _ gw_133) rfl hK hP hD hS hA 0 rfl (fun _ => rfl) (by decide) (by decide) (by decide) (Nat.le_of_ble_eq_true rfl) (Nat.le_of_ble_eq_true rfl) dX12_init_268 (fun q_31 H hP hD hS => ?_)
  refine va_putF (D := D) (ci := 11) (v := .ref q_31) (ty := (.array .int)) (C := RX12) (T := TX12) (N := 121) hx hb hG gwl_X12 tyX12 tyX12_ok nmX12 hown hK hP hD hS 0 rfl rfl 33 (by decide) (hG _ gw_1918) (fun _ h9 => h9) rfl hin rfl (by decide +kernel) rfl rfl (Nat.le_of_ble_eq_true rfl) dX12_init_270 (fun H locs hP hD hS => ?_)
  have hP : va_P D vwCl (WI0 kA a1 31 0 (zu Z30 33 q_31)) H := hP
  have hD : va_D A (WI0 kA a1 31 0 (zu Z30 33 q_31)) := hD
  have hZ : zu Z30 33 q_31 200 = a1 := hZ
  generalize zu Z30 33 q_31 = Z31 at hP hD hZ
  refine lv_aload_n hx hb dX12_init_273 rfl (lv_at hl 0 rfl) ?_
  refine lv_bipush (v := 48) hx hb dX12_init_274 (by decide) ?_
  refine ax_newa (D := D) (atype := .long) (N' := 48) (n := 48) (ty := .long) (a0 := (48, .inr (.inl (fun _ => 0)))) hx hb (hG _ gw_134) rfl hK hP hD hS hA 1 rfl (fun _ => rfl) (by decide) (by decide) (by decide) (Nat.le_of_ble_eq_true rfl) (Nat.le_of_ble_eq_true rfl) dX12_init_276 (fun q_32 H hP hD hS => ?_)
  refine va_putF (D := D) (ci := 11) (v := .ref q_32) (ty := (.array .long)) (C := RX12) (T := TX12) (N := 121) hx hb hG gwl_X12 tyX12 tyX12_ok nmX12 hown hK hP hD hS 0 rfl rfl 34 (by decide) (hG _ gw_1919) (fun _ h9 => h9) rfl hin rfl (by decide +kernel) rfl rfl (Nat.le_of_ble_eq_true rfl) dX12_init_278 (fun H locs hP hD hS => ?_)
  have hP : va_P D vwCl (WI0 kA a1 32 0 (zu Z31 34 q_32)) H := hP
  have hD : va_D A (WI0 kA a1 32 0 (zu Z31 34 q_32)) := hD
  have hZ : zu Z31 34 q_32 200 = a1 := hZ
  generalize zu Z31 34 q_32 = Z32 at hP hD hZ
  refine lv_aload_n hx hb dX12_init_281 rfl (lv_at hl 0 rfl) ?_
  refine lv_bipush (v := 48) hx hb dX12_init_282 (by decide) ?_
  refine ax_newa (D := D) (atype := .long) (N' := 48) (n := 48) (ty := .long) (a0 := (48, .inr (.inl (fun _ => 0)))) hx hb (hG _ gw_134) rfl hK hP hD hS hA 1 rfl (fun _ => rfl) (by decide) (by decide) (by decide) (Nat.le_of_ble_eq_true rfl) (Nat.le_of_ble_eq_true rfl) dX12_init_284 (fun q_33 H hP hD hS => ?_)
  refine va_putF (D := D) (ci := 11) (v := .ref q_33) (ty := (.array .long)) (C := RX12) (T := TX12) (N := 121) hx hb hG gwl_X12 tyX12 tyX12_ok nmX12 hown hK hP hD hS 0 rfl rfl 35 (by decide) (hG _ gw_1920) (fun _ h9 => h9) rfl hin rfl (by decide +kernel) rfl rfl (Nat.le_of_ble_eq_true rfl) dX12_init_286 (fun H locs hP hD hS => ?_)
  have hP : va_P D vwCl (WI0 kA a1 33 0 (zu Z32 35 q_33)) H := hP
  have hD : va_D A (WI0 kA a1 33 0 (zu Z32 35 q_33)) := hD
  have hZ : zu Z32 35 q_33 200 = a1 := hZ
  generalize zu Z32 35 q_33 = Z33 at hP hD hZ
  refine lv_aload_n hx hb dX12_init_289 rfl (lv_at hl 0 rfl) ?_
  refine lv_iconst (v := 2) hx hb dX12_init_290 (by decide) ?_
  refine ax_newa (D := D) (atype := .int) (N' := 2) (n := 2) (ty := .int) (a0 := (2, .inl (fun _ => 0))) hx hb (hG _ gw_133) rfl hK hP hD hS hA 0 rfl (fun _ => rfl) (by decide) (by decide) (by decide) (Nat.le_of_ble_eq_true rfl) (Nat.le_of_ble_eq_true rfl) dX12_init_291 (fun q_34 H hP hD hS => ?_)
  refine va_putF (D := D) (ci := 11) (v := .ref q_34) (ty := (.array .int)) (C := RX12) (T := TX12) (N := 121) hx hb hG gwl_X12 tyX12 tyX12_ok nmX12 hown hK hP hD hS 0 rfl rfl 36 (by decide) (hG _ gw_1921) (fun _ h9 => h9) rfl hin rfl (by decide +kernel) rfl rfl (Nat.le_of_ble_eq_true rfl) dX12_init_293 (fun H locs hP hD hS => ?_)
  have hP : va_P D vwCl (WI0 kA a1 34 0 (zu Z33 36 q_34)) H := hP
  have hD : va_D A (WI0 kA a1 34 0 (zu Z33 36 q_34)) := hD
  have hZ : zu Z33 36 q_34 200 = a1 := hZ
  generalize zu Z33 36 q_34 = Z34 at hP hD hZ
  refine lv_aload_n hx hb dX12_init_296 rfl (lv_at hl 0 rfl) ?_
  refine lv_iconst (v := 2) hx hb dX12_init_297 (by decide) ?_
  refine ax_newa (D := D) (atype := .int) (N' := 2) (n := 2) (ty := .int) (a0 := (2, .inl (fun _ => 0))) hx hb (hG _ gw_133) rfl hK hP hD hS hA 0 rfl (fun _ => rfl) (by decide) (by decide) (by decide) (Nat.le_of_ble_eq_true rfl) (Nat.le_of_ble_eq_true rfl) dX12_init_298 (fun q_35 H hP hD hS => ?_)
  refine va_putF (D := D) (ci := 11) (v := .ref q_35) (ty := (.array .int)) (C := RX12) (T := TX12) (N := 121) hx hb hG gwl_X12 tyX12 tyX12_ok nmX12 hown hK hP hD hS 0 rfl rfl 37 (by decide) (hG _ gw_1922) (fun _ h9 => h9) rfl hin rfl (by decide +kernel) rfl rfl (Nat.le_of_ble_eq_true rfl) dX12_init_300 (fun H locs hP hD hS => ?_)
  have hP : va_P D vwCl (WI0 kA a1 35 0 (zu Z34 37 q_35)) H := hP
  have hD : va_D A (WI0 kA a1 35 0 (zu Z34 37 q_35)) := hD
  have hZ : zu Z34 37 q_35 200 = a1 := hZ
  generalize zu Z34 37 q_35 = Z35 at hP hD hZ
  refine lv_aload_n hx hb dX12_init_303 rfl (lv_at hl 0 rfl) ?_
  refine lv_bipush (v := 48) hx hb dX12_init_304 (by decide) ?_
  refine ax_newa (D := D) (atype := .int) (N' := 48) (n := 48) (ty := .int) (a0 := (48, .inl (fun _ => 0))) hx hb (hG _ gw_133) rfl hK hP hD hS hA 0 rfl (fun _ => rfl) (by decide) (by decide) (by decide) (Nat.le_of_ble_eq_true rfl) (Nat.le_of_ble_eq_true rfl) dX12_init_306 (fun q_36 H hP hD hS => ?_)
  refine va_putF (D := D) (ci := 11) (v := .ref q_36) (ty := (.array .int)) (C := RX12) (T := TX12) (N := 121) hx hb hG gwl_X12 tyX12 tyX12_ok nmX12 hown hK hP hD hS 0 rfl rfl 38 (by decide) (hG _ gw_1923) (fun _ h9 => h9) rfl hin rfl (by decide +kernel) rfl rfl (Nat.le_of_ble_eq_true rfl) dX12_init_308 (fun H locs hP hD hS => ?_)
  have hP : va_P D vwCl (WI0 kA a1 36 0 (zu Z35 38 q_36)) H := hP
  have hD : va_D A (WI0 kA a1 36 0 (zu Z35 38 q_36)) := hD
  have hZ : zu Z35 38 q_36 200 = a1 := hZ
  generalize zu Z35 38 q_36 = Z36 at hP hD hZ
  refine lv_aload_n hx hb dX12_init_311 rfl (lv_at hl 0 rfl) ?_
  refine lv_bipush (v := 48) hx hb dX12_init_312 (by decide) ?_
  refine ax_newa (D := D) (atype := .int) (N' := 48) (n := 48) (ty := .int) (a0 := (48, .inl (fun _ => 0))) hx hb (hG _ gw_133) rfl hK hP hD hS hA 0 rfl (fun _ => rfl) (by decide) (by decide) (by decide) (Nat.le_of_ble_eq_true rfl) (Nat.le_of_ble_eq_true rfl) dX12_init_314 (fun q_37 H hP hD hS => ?_)
  refine va_putF (D := D) (ci := 11) (v := .ref q_37) (ty := (.array .int)) (C := RX12) (T := TX12) (N := 121) hx hb hG gwl_X12 tyX12 tyX12_ok nmX12 hown hK hP hD hS 0 rfl rfl 39 (by decide) (hG _ gw_1924) (fun _ h9 => h9) rfl hin rfl (by decide +kernel) rfl rfl (Nat.le_of_ble_eq_true rfl) dX12_init_316 (fun H locs hP hD hS => ?_)
  have hP : va_P D vwCl (WI0 kA a1 37 0 (zu Z36 39 q_37)) H := hP
  have hD : va_D A (WI0 kA a1 37 0 (zu Z36 39 q_37)) := hD
  have hZ : zu Z36 39 q_37 200 = a1 := hZ
  generalize zu Z36 39 q_37 = Z37 at hP hD hZ
  refine lv_aload_n hx hb dX12_init_319 rfl (lv_at hl 0 rfl) ?_
  refine lv_bipush (v := 48) hx hb dX12_init_320 (by decide) ?_
  refine ax_newa (D := D) (atype := .long) (N' := 48) (n := 48) (ty := .long) (a0 := (48, .inr (.inl (fun _ => 0)))) hx hb (hG _ gw_134) rfl hK hP hD hS hA 1 rfl (fun _ => rfl) (by decide) (by decide) (by decide) (Nat.le_of_ble_eq_true rfl) (Nat.le_of_ble_eq_true rfl) dX12_init_322 (fun q_38 H hP hD hS => ?_)
  refine va_putF (D := D) (ci := 11) (v := .ref q_38) (ty := (.array .long)) (C := RX12) (T := TX12) (N := 121) hx hb hG gwl_X12 tyX12 tyX12_ok nmX12 hown hK hP hD hS 0 rfl rfl 40 (by decide) (hG _ gw_1925) (fun _ h9 => h9) rfl hin rfl (by decide +kernel) rfl rfl (Nat.le_of_ble_eq_true rfl) dX12_init_324 (fun H locs hP hD hS => ?_)
  have hP : va_P D vwCl (WI0 kA a1 38 0 (zu Z37 40 q_38)) H := hP
  have hD : va_D A (WI0 kA a1 38 0 (zu Z37 40 q_38)) := hD
  have hZ : zu Z37 40 q_38 200 = a1 := hZ
  generalize zu Z37 40 q_38 = Z38 at hP hD hZ
  refine lv_aload_n hx hb dX12_init_327 rfl (lv_at hl 0 rfl) ?_
  refine lv_bipush (v := 48) hx hb dX12_init_328 (by decide) ?_
  refine ax_newa (D := D) (atype := .long) (N' := 48) (n := 48) (ty := .long) (a0 := (48, .inr (.inl (fun _ => 0)))) hx hb (hG _ gw_134) rfl hK hP hD hS hA 1 rfl (fun _ => rfl) (by decide) (by decide) (by decide) (Nat.le_of_ble_eq_true rfl) (Nat.le_of_ble_eq_true rfl) dX12_init_330 (fun q_39 H hP hD hS => ?_)
  refine va_putF (D := D) (ci := 11) (v := .ref q_39) (ty := (.array .long)) (C := RX12) (T := TX12) (N := 121) hx hb hG gwl_X12 tyX12 tyX12_ok nmX12 hown hK hP hD hS 0 rfl rfl 41 (by decide) (hG _ gw_1926) (fun _ h9 => h9) rfl hin rfl (by decide +kernel) rfl rfl (Nat.le_of_ble_eq_true rfl) dX12_init_332 (fun H locs hP hD hS => ?_)
  have hP : va_P D vwCl (WI0 kA a1 39 0 (zu Z38 41 q_39)) H := hP
  have hD : va_D A (WI0 kA a1 39 0 (zu Z38 41 q_39)) := hD
  have hZ : zu Z38 41 q_39 200 = a1 := hZ
  generalize zu Z38 41 q_39 = Z39 at hP hD hZ
  refine lv_aload_n hx hb dX12_init_335 rfl (lv_at hl 0 rfl) ?_
  refine lv_iconst (v := 2) hx hb dX12_init_336 (by decide) ?_
  refine ax_newa (D := D) (atype := .int) (N' := 2) (n := 2) (ty := .int) (a0 := (2, .inl (fun _ => 0))) hx hb (hG _ gw_133) rfl hK hP hD hS hA 0 rfl (fun _ => rfl) (by decide) (by decide) (by decide) (Nat.le_of_ble_eq_true rfl) (Nat.le_of_ble_eq_true rfl) dX12_init_337 (fun q_40 H hP hD hS => ?_)
  refine va_putF (D := D) (ci := 11) (v := .ref q_40) (ty := (.array .int)) (C := RX12) (T := TX12) (N := 121) hx hb hG gwl_X12 tyX12 tyX12_ok nmX12 hown hK hP hD hS 0 rfl rfl 42 (by decide) (hG _ gw_1927) (fun _ h9 => h9) rfl hin rfl (by decide +kernel) rfl rfl (Nat.le_of_ble_eq_true rfl) dX12_init_339 (fun H locs hP hD hS => ?_)
  have hP : va_P D vwCl (WI0 kA a1 40 0 (zu Z39 42 q_40)) H := hP
  have hD : va_D A (WI0 kA a1 40 0 (zu Z39 42 q_40)) := hD
  have hZ : zu Z39 42 q_40 200 = a1 := hZ
  generalize zu Z39 42 q_40 = Z40 at hP hD hZ
  refine lv_aload_n hx hb dX12_init_342 rfl (lv_at hl 0 rfl) ?_
  refine lv_bipush (v := 16) hx hb dX12_init_343 (by decide) ?_
  refine ax_newa (D := D) (atype := .int) (N' := 16) (n := 16) (ty := .int) (a0 := (16, .inl (fun _ => 0))) hx hb (hG _ gw_133) rfl hK hP hD hS hA 0 rfl (fun _ => rfl) (by decide) (by decide) (by decide) (Nat.le_of_ble_eq_true rfl) (Nat.le_of_ble_eq_true rfl) dX12_init_345 (fun q_41 H hP hD hS => ?_)
  refine va_putF (D := D) (ci := 11) (v := .ref q_41) (ty := (.array .int)) (C := RX12) (T := TX12) (N := 121) hx hb hG gwl_X12 tyX12 tyX12_ok nmX12 hown hK hP hD hS 0 rfl rfl 43 (by decide) (hG _ gw_1928) (fun _ h9 => h9) rfl hin rfl (by decide +kernel) rfl rfl (Nat.le_of_ble_eq_true rfl) dX12_init_347 (fun H locs hP hD hS => ?_)
  have hP : va_P D vwCl (WI0 kA a1 41 0 (zu Z40 43 q_41)) H := hP
  have hD : va_D A (WI0 kA a1 41 0 (zu Z40 43 q_41)) := hD
  have hZ : zu Z40 43 q_41 200 = a1 := hZ
  generalize zu Z40 43 q_41 = Z41 at hP hD hZ
  refine lv_aload_n hx hb dX12_init_350 rfl (lv_at hl 0 rfl) ?_
  refine lv_bipush (v := 16) hx hb dX12_init_351 (by decide) ?_
  refine ax_newa (D := D) (atype := .int) (N' := 16) (n := 16) (ty := .int) (a0 := (16, .inl (fun _ => 0))) hx hb (hG _ gw_133) rfl hK hP hD hS hA 0 rfl (fun _ => rfl) (by decide) (by decide) (by decide) (Nat.le_of_ble_eq_true rfl) (Nat.le_of_ble_eq_true rfl) dX12_init_353 (fun q_42 H hP hD hS => ?_)
  refine va_putF (D := D) (ci := 11) (v := .ref q_42) (ty := (.array .int)) (C := RX12) (T := TX12) (N := 121) hx hb hG gwl_X12 tyX12 tyX12_ok nmX12 hown hK hP hD hS 0 rfl rfl 44 (by decide) (hG _ gw_1929) (fun _ h9 => h9) rfl hin rfl (by decide +kernel) rfl rfl (Nat.le_of_ble_eq_true rfl) dX12_init_355 (fun H locs hP hD hS => ?_)
  have hP : va_P D vwCl (WI0 kA a1 42 0 (zu Z41 44 q_42)) H := hP
  have hD : va_D A (WI0 kA a1 42 0 (zu Z41 44 q_42)) := hD
  have hZ : zu Z41 44 q_42 200 = a1 := hZ
  generalize zu Z41 44 q_42 = Z42 at hP hD hZ
  refine lv_aload_n hx hb dX12_init_358 rfl (lv_at hl 0 rfl) ?_
  refine lv_bipush (v := 16) hx hb dX12_init_359 (by decide) ?_
  refine ax_newa (D := D) (atype := .int) (N' := 16) (n := 16) (ty := .int) (a0 := (16, .inl (fun _ => 0))) hx hb (hG _ gw_133) rfl hK hP hD hS hA 0 rfl (fun _ => rfl) (by decide) (by decide) (by decide) (Nat.le_of_ble_eq_true rfl) (Nat.le_of_ble_eq_true rfl) dX12_init_361 (fun q_43 H hP hD hS => ?_)
  refine va_putF (D := D) (ci := 11) (v := .ref q_43) (ty := (.array .int)) (C := RX12) (T := TX12) (N := 121) hx hb hG gwl_X12 tyX12 tyX12_ok nmX12 hown hK hP hD hS 0 rfl rfl 45 (by decide) (hG _ gw_1930) (fun _ h9 => h9) rfl hin rfl (by decide +kernel) rfl rfl (Nat.le_of_ble_eq_true rfl) dX12_init_363 (fun H locs hP hD hS => ?_)
  have hP : va_P D vwCl (WI0 kA a1 43 0 (zu Z42 45 q_43)) H := hP
  have hD : va_D A (WI0 kA a1 43 0 (zu Z42 45 q_43)) := hD
  have hZ : zu Z42 45 q_43 200 = a1 := hZ
  generalize zu Z42 45 q_43 = Z43 at hP hD hZ
  refine lv_aload_n hx hb dX12_init_366 rfl (lv_at hl 0 rfl) ?_
  refine lv_bipush (v := 16) hx hb dX12_init_367 (by decide) ?_
  refine ax_newa (D := D) (atype := .long) (N' := 16) (n := 16) (ty := .long) (a0 := (16, .inr (.inl (fun _ => 0)))) hx hb (hG _ gw_134) rfl hK hP hD hS hA 1 rfl (fun _ => rfl) (by decide) (by decide) (by decide) (Nat.le_of_ble_eq_true rfl) (Nat.le_of_ble_eq_true rfl) dX12_init_369 (fun q_44 H hP hD hS => ?_)
  refine va_putF (D := D) (ci := 11) (v := .ref q_44) (ty := (.array .long)) (C := RX12) (T := TX12) (N := 121) hx hb hG gwl_X12 tyX12 tyX12_ok nmX12 hown hK hP hD hS 0 rfl rfl 46 (by decide) (hG _ gw_1931) (fun _ h9 => h9) rfl hin rfl (by decide +kernel) rfl rfl (Nat.le_of_ble_eq_true rfl) dX12_init_371 (fun H locs hP hD hS => ?_)
  have hP : va_P D vwCl (WI0 kA a1 44 0 (zu Z43 46 q_44)) H := hP
  have hD : va_D A (WI0 kA a1 44 0 (zu Z43 46 q_44)) := hD
  have hZ : zu Z43 46 q_44 200 = a1 := hZ
  generalize zu Z43 46 q_44 = Z44 at hP hD hZ
  refine lv_aload_n hx hb dX12_init_374 rfl (lv_at hl 0 rfl) ?_
  refine lv_bipush (v := 16) hx hb dX12_init_375 (by decide) ?_
  refine ax_newa (D := D) (atype := .long) (N' := 16) (n := 16) (ty := .long) (a0 := (16, .inr (.inl (fun _ => 0)))) hx hb (hG _ gw_134) rfl hK hP hD hS hA 1 rfl (fun _ => rfl) (by decide) (by decide) (by decide) (Nat.le_of_ble_eq_true rfl) (Nat.le_of_ble_eq_true rfl) dX12_init_377 (fun q_45 H hP hD hS => ?_)
  refine va_putF (D := D) (ci := 11) (v := .ref q_45) (ty := (.array .long)) (C := RX12) (T := TX12) (N := 121) hx hb hG gwl_X12 tyX12 tyX12_ok nmX12 hown hK hP hD hS 0 rfl rfl 47 (by decide) (hG _ gw_1932) (fun _ h9 => h9) rfl hin rfl (by decide +kernel) rfl rfl (Nat.le_of_ble_eq_true rfl) dX12_init_379 (fun H locs hP hD hS => ?_)
  have hP : va_P D vwCl (WI0 kA a1 45 0 (zu Z44 47 q_45)) H := hP
  have hD : va_D A (WI0 kA a1 45 0 (zu Z44 47 q_45)) := hD
  have hZ : zu Z44 47 q_45 200 = a1 := hZ
  generalize zu Z44 47 q_45 = Z45 at hP hD hZ
  refine lv_aload_n hx hb dX12_init_382 rfl (lv_at hl 0 rfl) ?_
  refine lv_iconst (v := 2) hx hb dX12_init_383 (by decide) ?_
  refine ax_newa (D := D) (atype := .int) (N' := 2) (n := 2) (ty := .int) (a0 := (2, .inl (fun _ => 0))) hx hb (hG _ gw_133) rfl hK hP hD hS hA 0 rfl (fun _ => rfl) (by decide) (by decide) (by decide) (Nat.le_of_ble_eq_true rfl) (Nat.le_of_ble_eq_true rfl) dX12_init_384 (fun q_46 H hP hD hS => ?_)
  refine va_putF (D := D) (ci := 11) (v := .ref q_46) (ty := (.array .int)) (C := RX12) (T := TX12) (N := 121) hx hb hG gwl_X12 tyX12 tyX12_ok nmX12 hown hK hP hD hS 0 rfl rfl 48 (by decide) (hG _ gw_1933) (fun _ h9 => h9) rfl hin rfl (by decide +kernel) rfl rfl (Nat.le_of_ble_eq_true rfl) dX12_init_386 (fun H locs hP hD hS => ?_)
  have hP : va_P D vwCl (WI0 kA a1 46 0 (zu Z45 48 q_46)) H := hP
  have hD : va_D A (WI0 kA a1 46 0 (zu Z45 48 q_46)) := hD
  have hZ : zu Z45 48 q_46 200 = a1 := hZ
  generalize zu Z45 48 q_46 = Z46 at hP hD hZ
  refine lv_aload_n hx hb dX12_init_389 rfl (lv_at hl 0 rfl) ?_
  refine lv_sipush (v := 16000) hx hb dX12_init_390 (by decide) ?_
  refine ax_newa (D := D) (atype := .int) (N' := 16000) (n := 16000) (ty := .int) (a0 := (16000, .inl (fun _ => 0))) hx hb (hG _ gw_133) rfl hK hP hD hS hA 0 rfl (fun _ => rfl) (by decide) (by decide) (by decide) (Nat.le_of_ble_eq_true rfl) (Nat.le_of_ble_eq_true rfl) dX12_init_393 (fun q_47 H hP hD hS => ?_)
  refine va_putF (D := D) (ci := 11) (v := .ref q_47) (ty := (.array .int)) (C := RX12) (T := TX12) (N := 121) hx hb hG gwl_X12 tyX12 tyX12_ok nmX12 hown hK hP hD hS 0 rfl rfl 49 (by decide) (hG _ gw_1934) (fun _ h9 => h9) rfl hin rfl (by decide +kernel) rfl rfl (Nat.le_of_ble_eq_true rfl) dX12_init_395 (fun H locs hP hD hS => ?_)
  have hP : va_P D vwCl (WI0 kA a1 47 0 (zu Z46 49 q_47)) H := hP
  have hD : va_D A (WI0 kA a1 47 0 (zu Z46 49 q_47)) := hD
  have hZ : zu Z46 49 q_47 200 = a1 := hZ
  generalize zu Z46 49 q_47 = Z47 at hP hD hZ
  refine lv_aload_n hx hb dX12_init_398 rfl (lv_at hl 0 rfl) ?_
  refine lv_sipush (v := 16000) hx hb dX12_init_399 (by decide) ?_
  refine ax_newa (D := D) (atype := .int) (N' := 16000) (n := 16000) (ty := .int) (a0 := (16000, .inl (fun _ => 0))) hx hb (hG _ gw_133) rfl hK hP hD hS hA 0 rfl (fun _ => rfl) (by decide) (by decide) (by decide) (Nat.le_of_ble_eq_true rfl) (Nat.le_of_ble_eq_true rfl) dX12_init_402 (fun q_48 H hP hD hS => ?_)
  refine va_putF (D := D) (ci := 11) (v := .ref q_48) (ty := (.array .int)) (C := RX12) (T := TX12) (N := 121) hx hb hG gwl_X12 tyX12 tyX12_ok nmX12 hown hK hP hD hS 0 rfl rfl 50 (by decide) (hG _ gw_1935) (fun _ h9 => h9) rfl hin rfl (by decide +kernel) rfl rfl (Nat.le_of_ble_eq_true rfl) dX12_init_404 (fun H locs hP hD hS => ?_)
  have hP : va_P D vwCl (WI0 kA a1 48 0 (zu Z47 50 q_48)) H := hP
  have hD : va_D A (WI0 kA a1 48 0 (zu Z47 50 q_48)) := hD
  have hZ : zu Z47 50 q_48 200 = a1 := hZ
  generalize zu Z47 50 q_48 = Z48 at hP hD hZ
  refine lv_aload_n hx hb dX12_init_407 rfl (lv_at hl 0 rfl) ?_
  refine lv_sipush (v := 16000) hx hb dX12_init_408 (by decide) ?_
  refine ax_newa (D := D) (atype := .int) (N' := 16000) (n := 16000) (ty := .int) (a0 := (16000, .inl (fun _ => 0))) hx hb (hG _ gw_133) rfl hK hP hD hS hA 0 rfl (fun _ => rfl) (by decide) (by decide) (by decide) (Nat.le_of_ble_eq_true rfl) (Nat.le_of_ble_eq_true rfl) dX12_init_411 (fun q_49 H hP hD hS => ?_)
  refine va_putF (D := D) (ci := 11) (v := .ref q_49) (ty := (.array .int)) (C := RX12) (T := TX12) (N := 121) hx hb hG gwl_X12 tyX12 tyX12_ok nmX12 hown hK hP hD hS 0 rfl rfl 51 (by decide) (hG _ gw_1936) (fun _ h9 => h9) rfl hin rfl (by decide +kernel) rfl rfl (Nat.le_of_ble_eq_true rfl) dX12_init_413 (fun H locs hP hD hS => ?_)
  have hP : va_P D vwCl (WI0 kA a1 49 0 (zu Z48 51 q_49)) H := hP
  have hD : va_D A (WI0 kA a1 49 0 (zu Z48 51 q_49)) := hD
  have hZ : zu Z48 51 q_49 200 = a1 := hZ
  generalize zu Z48 51 q_49 = Z49 at hP hD hZ
  refine lv_aload_n hx hb dX12_init_416 rfl (lv_at hl 0 rfl) ?_
  refine lv_sipush (v := 16000) hx hb dX12_init_417 (by decide) ?_
  refine ax_newa (D := D) (atype := .long) (N' := 16000) (n := 16000) (ty := .long) (a0 := (16000, .inr (.inl (fun _ => 0)))) hx hb (hG _ gw_134) rfl hK hP hD hS hA 1 rfl (fun _ => rfl) (by decide) (by decide) (by decide) (Nat.le_of_ble_eq_true rfl) (Nat.le_of_ble_eq_true rfl) dX12_init_420 (fun q_50 H hP hD hS => ?_)
  refine va_putF (D := D) (ci := 11) (v := .ref q_50) (ty := (.array .long)) (C := RX12) (T := TX12) (N := 121) hx hb hG gwl_X12 tyX12 tyX12_ok nmX12 hown hK hP hD hS 0 rfl rfl 52 (by decide) (hG _ gw_1937) (fun _ h9 => h9) rfl hin rfl (by decide +kernel) rfl rfl (Nat.le_of_ble_eq_true rfl) dX12_init_422 (fun H locs hP hD hS => ?_)
  have hP : va_P D vwCl (WI0 kA a1 50 0 (zu Z49 52 q_50)) H := hP
  have hD : va_D A (WI0 kA a1 50 0 (zu Z49 52 q_50)) := hD
  have hZ : zu Z49 52 q_50 200 = a1 := hZ
  generalize zu Z49 52 q_50 = Z50 at hP hD hZ
  refine lv_aload_n hx hb dX12_init_425 rfl (lv_at hl 0 rfl) ?_
  refine lv_sipush (v := 16000) hx hb dX12_init_426 (by decide) ?_
  refine ax_newa (D := D) (atype := .long) (N' := 16000) (n := 16000) (ty := .long) (a0 := (16000, .inr (.inl (fun _ => 0)))) hx hb (hG _ gw_134) rfl hK hP hD hS hA 1 rfl (fun _ => rfl) (by decide) (by decide) (by decide) (Nat.le_of_ble_eq_true rfl) (Nat.le_of_ble_eq_true rfl) dX12_init_429 (fun q_51 H hP hD hS => ?_)
  refine va_putF (D := D) (ci := 11) (v := .ref q_51) (ty := (.array .long)) (C := RX12) (T := TX12) (N := 121) hx hb hG gwl_X12 tyX12 tyX12_ok nmX12 hown hK hP hD hS 0 rfl rfl 53 (by decide) (hG _ gw_1938) (fun _ h9 => h9) rfl hin rfl (by decide +kernel) rfl rfl (Nat.le_of_ble_eq_true rfl) dX12_init_431 (fun H locs hP hD hS => ?_)
  have hP : va_P D vwCl (WI0 kA a1 51 0 (zu Z50 53 q_51)) H := hP
  have hD : va_D A (WI0 kA a1 51 0 (zu Z50 53 q_51)) := hD
  have hZ : zu Z50 53 q_51 200 = a1 := hZ
  generalize zu Z50 53 q_51 = Z51 at hP hD hZ
  refine lv_aload_n hx hb dX12_init_434 rfl (lv_at hl 0 rfl) ?_
  refine lv_iconst (v := 2) hx hb dX12_init_435 (by decide) ?_
  refine ax_newa (D := D) (atype := .int) (N' := 2) (n := 2) (ty := .int) (a0 := (2, .inl (fun _ => 0))) hx hb (hG _ gw_133) rfl hK hP hD hS hA 0 rfl (fun _ => rfl) (by decide) (by decide) (by decide) (Nat.le_of_ble_eq_true rfl) (Nat.le_of_ble_eq_true rfl) dX12_init_436 (fun q_52 H hP hD hS => ?_)
  refine va_putF (D := D) (ci := 11) (v := .ref q_52) (ty := (.array .int)) (C := RX12) (T := TX12) (N := 121) hx hb hG gwl_X12 tyX12 tyX12_ok nmX12 hown hK hP hD hS 0 rfl rfl 54 (by decide) (hG _ gw_1939) (fun _ h9 => h9) rfl hin rfl (by decide +kernel) rfl rfl (Nat.le_of_ble_eq_true rfl) dX12_init_438 (fun H locs hP hD hS => ?_)
  have hP : va_P D vwCl (WI0 kA a1 52 0 (zu Z51 54 q_52)) H := hP
  have hD : va_D A (WI0 kA a1 52 0 (zu Z51 54 q_52)) := hD
  have hZ : zu Z51 54 q_52 200 = a1 := hZ
  generalize zu Z51 54 q_52 = Z52 at hP hD hZ
  refine lv_aload_n hx hb dX12_init_441 rfl (lv_at hl 0 rfl) ?_
  refine lv_sipush (v := 180) hx hb dX12_init_442 (by decide) ?_
  refine ax_newa (D := D) (atype := .long) (N' := 180) (n := 180) (ty := .long) (a0 := (180, .inr (.inl (fun _ => 0)))) hx hb (hG _ gw_134) rfl hK hP hD hS hA 1 rfl (fun _ => rfl) (by decide) (by decide) (by decide) (Nat.le_of_ble_eq_true rfl) (Nat.le_of_ble_eq_true rfl) dX12_init_445 (fun q_53 H hP hD hS => ?_)
  refine va_putF (D := D) (ci := 11) (v := .ref q_53) (ty := (.array .long)) (C := RX12) (T := TX12) (N := 121) hx hb hG gwl_X12 tyX12 tyX12_ok nmX12 hown hK hP hD hS 0 rfl rfl 57 (by decide) (hG _ gw_1942) (fun _ h9 => h9) rfl hin rfl (by decide +kernel) rfl rfl (Nat.le_of_ble_eq_true rfl) dX12_init_447 (fun H locs hP hD hS => ?_)
  have hP : va_P D vwCl (WI0 kA a1 53 0 (zu Z52 57 q_53)) H := hP
  have hD : va_D A (WI0 kA a1 53 0 (zu Z52 57 q_53)) := hD
  have hZ : zu Z52 57 q_53 200 = a1 := hZ
  generalize zu Z52 57 q_53 = Z53 at hP hD hZ
  refine lv_aload_n hx hb dX12_init_450 rfl (lv_at hl 0 rfl) ?_
  refine lv_sipush (v := 180) hx hb dX12_init_451 (by decide) ?_
  refine ax_newa (D := D) (atype := .long) (N' := 180) (n := 180) (ty := .long) (a0 := (180, .inr (.inl (fun _ => 0)))) hx hb (hG _ gw_134) rfl hK hP hD hS hA 1 rfl (fun _ => rfl) (by decide) (by decide) (by decide) (Nat.le_of_ble_eq_true rfl) (Nat.le_of_ble_eq_true rfl) dX12_init_454 (fun q_54 H hP hD hS => ?_)
  refine va_putF (D := D) (ci := 11) (v := .ref q_54) (ty := (.array .long)) (C := RX12) (T := TX12) (N := 121) hx hb hG gwl_X12 tyX12 tyX12_ok nmX12 hown hK hP hD hS 0 rfl rfl 58 (by decide) (hG _ gw_1943) (fun _ h9 => h9) rfl hin rfl (by decide +kernel) rfl rfl (Nat.le_of_ble_eq_true rfl) dX12_init_456 (fun H locs hP hD hS => ?_)
  have hP : va_P D vwCl (WI0 kA a1 54 0 (zu Z53 58 q_54)) H := hP
  have hD : va_D A (WI0 kA a1 54 0 (zu Z53 58 q_54)) := hD
  have hZ : zu Z53 58 q_54 200 = a1 := hZ
  generalize zu Z53 58 q_54 = Z54 at hP hD hZ
  refine lv_aload_n hx hb dX12_init_459 rfl (lv_at hl 0 rfl) ?_
  refine lv_sipush (v := 180) hx hb dX12_init_460 (by decide) ?_
  refine ax_newa (D := D) (atype := .int) (N' := 180) (n := 180) (ty := .int) (a0 := (180, .inl (fun _ => 0))) hx hb (hG _ gw_133) rfl hK hP hD hS hA 0 rfl (fun _ => rfl) (by decide) (by decide) (by decide) (Nat.le_of_ble_eq_true rfl) (Nat.le_of_ble_eq_true rfl) dX12_init_463 (fun q_55 H hP hD hS => ?_)
  refine va_putF (D := D) (ci := 11) (v := .ref q_55) (ty := (.array .int)) (C := RX12) (T := TX12) (N := 121) hx hb hG gwl_X12 tyX12 tyX12_ok nmX12 hown hK hP hD hS 0 rfl rfl 59 (by decide) (hG _ gw_1944) (fun _ h9 => h9) rfl hin rfl (by decide +kernel) rfl rfl (Nat.le_of_ble_eq_true rfl) dX12_init_465 (fun H locs hP hD hS => ?_)
  have hP : va_P D vwCl (WI0 kA a1 55 0 (zu Z54 59 q_55)) H := hP
  have hD : va_D A (WI0 kA a1 55 0 (zu Z54 59 q_55)) := hD
  have hZ : zu Z54 59 q_55 200 = a1 := hZ
  generalize zu Z54 59 q_55 = Z55 at hP hD hZ
  refine lv_aload_n hx hb dX12_init_468 rfl (lv_at hl 0 rfl) ?_
  refine lv_sipush (v := 180) hx hb dX12_init_469 (by decide) ?_
  refine ax_newa (D := D) (atype := .int) (N' := 180) (n := 180) (ty := .int) (a0 := (180, .inl (fun _ => 0))) hx hb (hG _ gw_133) rfl hK hP hD hS hA 0 rfl (fun _ => rfl) (by decide) (by decide) (by decide) (Nat.le_of_ble_eq_true rfl) (Nat.le_of_ble_eq_true rfl) dX12_init_472 (fun q_56 H hP hD hS => ?_)
  refine va_putF (D := D) (ci := 11) (v := .ref q_56) (ty := (.array .int)) (C := RX12) (T := TX12) (N := 121) hx hb hG gwl_X12 tyX12 tyX12_ok nmX12 hown hK hP hD hS 0 rfl rfl 60 (by decide) (hG _ gw_1945) (fun _ h9 => h9) rfl hin rfl (by decide +kernel) rfl rfl (Nat.le_of_ble_eq_true rfl) dX12_init_474 (fun H locs hP hD hS => ?_)
  have hP : va_P D vwCl (WI0 kA a1 56 0 (zu Z55 60 q_56)) H := hP
  have hD : va_D A (WI0 kA a1 56 0 (zu Z55 60 q_56)) := hD
  have hZ : zu Z55 60 q_56 200 = a1 := hZ
  generalize zu Z55 60 q_56 = Z56 at hP hD hZ
  refine lv_aload_n hx hb dX12_init_477 rfl (lv_at hl 0 rfl) ?_
  refine lv_iconst (v := 5) hx hb dX12_init_478 (by decide) ?_
  refine ax_newa (D := D) (atype := .int) (N' := 5) (n := 5) (ty := .int) (a0 := (5, .inl (fun _ => 0))) hx hb (hG _ gw_133) rfl hK hP hD hS hA 0 rfl (fun _ => rfl) (by decide) (by decide) (by decide) (Nat.le_of_ble_eq_true rfl) (Nat.le_of_ble_eq_true rfl) dX12_init_479 (fun q_57 H hP hD hS => ?_)
  refine va_putF (D := D) (ci := 11) (v := .ref q_57) (ty := (.array .int)) (C := RX12) (T := TX12) (N := 121) hx hb hG gwl_X12 tyX12 tyX12_ok nmX12 hown hK hP hD hS 0 rfl rfl 64 (by decide) (hG _ gw_1949) (fun _ h9 => h9) rfl hin rfl (by decide +kernel) rfl rfl (Nat.le_of_ble_eq_true rfl) dX12_init_481 (fun H locs hP hD hS => ?_)
  have hP : va_P D vwCl (WI0 kA a1 57 0 (zu Z56 64 q_57)) H := hP
  have hD : va_D A (WI0 kA a1 57 0 (zu Z56 64 q_57)) := hD
  have hZ : zu Z56 64 q_57 200 = a1 := hZ
  generalize zu Z56 64 q_57 = Z57 at hP hD hZ
  refine lv_aload_n hx hb dX12_init_484 rfl (lv_at hl 0 rfl) ?_
  refine lv_bipush (v := 30) hx hb dX12_init_485 (by decide) ?_
  refine ax_newa (D := D) (atype := .int) (N' := 30) (n := 30) (ty := .int) (a0 := (30, .inl (fun _ => 0))) hx hb (hG _ gw_133) rfl hK hP hD hS hA 0 rfl (fun _ => rfl) (by decide) (by decide) (by decide) (Nat.le_of_ble_eq_true rfl) (Nat.le_of_ble_eq_true rfl) dX12_init_487 (fun q_58 H hP hD hS => ?_)
  refine va_putF (D := D) (ci := 11) (v := .ref q_58) (ty := (.array .int)) (C := RX12) (T := TX12) (N := 121) hx hb hG gwl_X12 tyX12 tyX12_ok nmX12 hown hK hP hD hS 0 rfl rfl 75 (by decide) (hG _ gw_1960) (fun _ h9 => h9) rfl hin rfl (by decide +kernel) rfl rfl (Nat.le_of_ble_eq_true rfl) dX12_init_489 (fun H locs hP hD hS => ?_)
  have hP : va_P D vwCl (WI0 kA a1 58 0 (zu Z57 75 q_58)) H := hP
  have hD : va_D A (WI0 kA a1 58 0 (zu Z57 75 q_58)) := hD
  have hZ : zu Z57 75 q_58 200 = a1 := hZ
  generalize zu Z57 75 q_58 = Z58 at hP hD hZ
  refine lv_aload_n hx hb dX12_init_492 rfl (lv_at hl 0 rfl) ?_
  refine lv_bipush (v := 30) hx hb dX12_init_493 (by decide) ?_
  refine ax_newa (D := D) (atype := .int) (N' := 30) (n := 30) (ty := .int) (a0 := (30, .inl (fun _ => 0))) hx hb (hG _ gw_133) rfl hK hP hD hS hA 0 rfl (fun _ => rfl) (by decide) (by decide) (by decide) (Nat.le_of_ble_eq_true rfl) (Nat.le_of_ble_eq_true rfl) dX12_init_495 (fun q_59 H hP hD hS => ?_)
  refine va_putF (D := D) (ci := 11) (v := .ref q_59) (ty := (.array .int)) (C := RX12) (T := TX12) (N := 121) hx hb hG gwl_X12 tyX12 tyX12_ok nmX12 hown hK hP hD hS 0 rfl rfl 76 (by decide) (hG _ gw_1961) (fun _ h9 => h9) rfl hin rfl (by decide +kernel) rfl rfl (Nat.le_of_ble_eq_true rfl) dX12_init_497 (fun H locs hP hD hS => ?_)
  have hP : va_P D vwCl (WI0 kA a1 59 0 (zu Z58 76 q_59)) H := hP
  have hD : va_D A (WI0 kA a1 59 0 (zu Z58 76 q_59)) := hD
  have hZ : zu Z58 76 q_59 200 = a1 := hZ
  generalize zu Z58 76 q_59 = Z59 at hP hD hZ
  refine lv_aload_n hx hb dX12_init_500 rfl (lv_at hl 0 rfl) ?_
  refine lv_sipush (v := 3000) hx hb dX12_init_501 (by decide) ?_
  refine ax_newa (D := D) (atype := .long) (N' := 3000) (n := 3000) (ty := .long) (a0 := (3000, .inr (.inl (fun _ => 0)))) hx hb (hG _ gw_134) rfl hK hP hD hS hA 1 rfl (fun _ => rfl) (by decide) (by decide) (by decide) (Nat.le_of_ble_eq_true rfl) (Nat.le_of_ble_eq_true rfl) dX12_init_504 (fun q_60 H hP hD hS => ?_)
  refine va_putF (D := D) (ci := 11) (v := .ref q_60) (ty := (.array .long)) (C := RX12) (T := TX12) (N := 121) hx hb hG gwl_X12 tyX12 tyX12_ok nmX12 hown hK hP hD hS 0 rfl rfl 82 (by decide) (hG _ gw_1967) (fun _ h9 => h9) rfl hin rfl (by decide +kernel) rfl rfl (Nat.le_of_ble_eq_true rfl) dX12_init_506 (fun H locs hP hD hS => ?_)
  have hP : va_P D vwCl (WI0 kA a1 60 0 (zu Z59 82 q_60)) H := hP
  have hD : va_D A (WI0 kA a1 60 0 (zu Z59 82 q_60)) := hD
  have hZ : zu Z59 82 q_60 200 = a1 := hZ
  generalize zu Z59 82 q_60 = Z60 at hP hD hZ
  refine lv_aload_n hx hb dX12_init_509 rfl (lv_at hl 0 rfl) ?_
  refine lv_sipush (v := 3000) hx hb dX12_init_510 (by decide) ?_
  refine ax_newa (D := D) (atype := .long) (N' := 3000) (n := 3000) (ty := .long) (a0 := (3000, .inr (.inl (fun _ => 0)))) hx hb (hG _ gw_134) rfl hK hP hD hS hA 1 rfl (fun _ => rfl) (by decide) (by decide) (by decide) (Nat.le_of_ble_eq_true rfl) (Nat.le_of_ble_eq_true rfl) dX12_init_513 (fun q_61 H hP hD hS => ?_)
  refine va_putF (D := D) (ci := 11) (v := .ref q_61) (ty := (.array .long)) (C := RX12) (T := TX12) (N := 121) hx hb hG gwl_X12 tyX12 tyX12_ok nmX12 hown hK hP hD hS 0 rfl rfl 83 (by decide) (hG _ gw_1968) (fun _ h9 => h9) rfl hin rfl (by decide +kernel) rfl rfl (Nat.le_of_ble_eq_true rfl) dX12_init_515 (fun H locs hP hD hS => ?_)
  have hP : va_P D vwCl (WI0 kA a1 61 0 (zu Z60 83 q_61)) H := hP
  have hD : va_D A (WI0 kA a1 61 0 (zu Z60 83 q_61)) := hD
  have hZ : zu Z60 83 q_61 200 = a1 := hZ
  generalize zu Z60 83 q_61 = Z61 at hP hD hZ
  refine lv_aload_n hx hb dX12_init_518 rfl (lv_at hl 0 rfl) ?_
  refine lv_sipush (v := 128) hx hb dX12_init_519 (by decide) ?_
  refine ax_newa (D := D) (atype := .int) (N' := 128) (n := 128) (ty := .int) (a0 := (128, .inl (fun _ => 0))) hx hb (hG _ gw_133) rfl hK hP hD hS hA 0 rfl (fun _ => rfl) (by decide) (by decide) (by decide) (Nat.le_of_ble_eq_true rfl) (Nat.le_of_ble_eq_true rfl) dX12_init_522 (fun q_62 H hP hD hS => ?_)
  refine va_putF (D := D) (ci := 11) (v := .ref q_62) (ty := (.array .int)) (C := RX12) (T := TX12) (N := 121) hx hb hG gwl_X12 tyX12 tyX12_ok nmX12 hown hK hP hD hS 0 rfl rfl 84 (by decide) (hG _ gw_1969) (fun _ h9 => h9) rfl hin rfl (by decide +kernel) rfl rfl (Nat.le_of_ble_eq_true rfl) dX12_init_524 (fun H locs hP hD hS => ?_)
  have hP : va_P D vwCl (WI0 kA a1 62 0 (zu Z61 84 q_62)) H := hP
  have hD : va_D A (WI0 kA a1 62 0 (zu Z61 84 q_62)) := hD
  have hZ : zu Z61 84 q_62 200 = a1 := hZ
  generalize zu Z61 84 q_62 = Z62 at hP hD hZ
  refine lv_aload_n hx hb dX12_init_527 rfl (lv_at hl 0 rfl) ?_
  refine lv_sipush (v := 128) hx hb dX12_init_528 (by decide) ?_
  refine ax_newa (D := D) (atype := .int) (N' := 128) (n := 128) (ty := .int) (a0 := (128, .inl (fun _ => 0))) hx hb (hG _ gw_133) rfl hK hP hD hS hA 0 rfl (fun _ => rfl) (by decide) (by decide) (by decide) (Nat.le_of_ble_eq_true rfl) (Nat.le_of_ble_eq_true rfl) dX12_init_531 (fun q_63 H hP hD hS => ?_)
  refine va_putF (D := D) (ci := 11) (v := .ref q_63) (ty := (.array .int)) (C := RX12) (T := TX12) (N := 121) hx hb hG gwl_X12 tyX12 tyX12_ok nmX12 hown hK hP hD hS 0 rfl rfl 85 (by decide) (hG _ gw_1970) (fun _ h9 => h9) rfl hin rfl (by decide +kernel) rfl rfl (Nat.le_of_ble_eq_true rfl) dX12_init_533 (fun H locs hP hD hS => ?_)
  have hP : va_P D vwCl (WI0 kA a1 63 0 (zu Z62 85 q_63)) H := hP
  have hD : va_D A (WI0 kA a1 63 0 (zu Z62 85 q_63)) := hD
  have hZ : zu Z62 85 q_63 200 = a1 := hZ
  generalize zu Z62 85 q_63 = Z63 at hP hD hZ
  refine lv_aload_n hx hb dX12_init_536 rfl (lv_at hl 0 rfl) ?_
  refine lv_sipush (v := 128) hx hb dX12_init_537 (by decide) ?_
  refine ax_newa (D := D) (atype := .int) (N' := 128) (n := 128) (ty := .int) (a0 := (128, .inl (fun _ => 0))) hx hb (hG _ gw_133) rfl hK hP hD hS hA 0 rfl (fun _ => rfl) (by decide) (by decide) (by decide) (Nat.le_of_ble_eq_true rfl) (Nat.le_of_ble_eq_true rfl) dX12_init_540 (fun q_64 H hP hD hS => ?_)
  refine va_putF (D := D) (ci := 11) (v := .ref q_64) (ty := (.array .int)) (C := RX12) (T := TX12) (N := 121) hx hb hG gwl_X12 tyX12 tyX12_ok nmX12 hown hK hP hD hS 0 rfl rfl 86 (by decide) (hG _ gw_1971) (fun _ h9 => h9) rfl hin rfl (by decide +kernel) rfl rfl (Nat.le_of_ble_eq_true rfl) dX12_init_542 (fun H locs hP hD hS => ?_)
  have hP : va_P D vwCl (WI0 kA a1 64 0 (zu Z63 86 q_64)) H := hP
  have hD : va_D A (WI0 kA a1 64 0 (zu Z63 86 q_64)) := hD
  have hZ : zu Z63 86 q_64 200 = a1 := hZ
  generalize zu Z63 86 q_64 = Z64 at hP hD hZ
  refine lv_aload_n hx hb dX12_init_545 rfl (lv_at hl 0 rfl) ?_
  refine lv_sipush (v := 128) hx hb dX12_init_546 (by decide) ?_
  refine ax_newa (D := D) (atype := .int) (N' := 128) (n := 128) (ty := .int) (a0 := (128, .inl (fun _ => 0))) hx hb (hG _ gw_133) rfl hK hP hD hS hA 0 rfl (fun _ => rfl) (by decide) (by decide) (by decide) (Nat.le_of_ble_eq_true rfl) (Nat.le_of_ble_eq_true rfl) dX12_init_549 (fun q_65 H hP hD hS => ?_)
  refine va_putF (D := D) (ci := 11) (v := .ref q_65) (ty := (.array .int)) (C := RX12) (T := TX12) (N := 121) hx hb hG gwl_X12 tyX12 tyX12_ok nmX12 hown hK hP hD hS 0 rfl rfl 87 (by decide) (hG _ gw_1972) (fun _ h9 => h9) rfl hin rfl (by decide +kernel) rfl rfl (Nat.le_of_ble_eq_true rfl) dX12_init_551 (fun H locs hP hD hS => ?_)
  have hP : va_P D vwCl (WI0 kA a1 65 0 (zu Z64 87 q_65)) H := hP
  have hD : va_D A (WI0 kA a1 65 0 (zu Z64 87 q_65)) := hD
  have hZ : zu Z64 87 q_65 200 = a1 := hZ
  generalize zu Z64 87 q_65 = Z65 at hP hD hZ
  refine lv_aload_n hx hb dX12_init_554 rfl (lv_at hl 0 rfl) ?_
  refine lv_bipush (v := 8) hx hb dX12_init_555 (by decide) ?_
  refine ax_newa (D := D) (atype := .boolean) (N' := 8) (n := 8) (ty := .boolean) (a0 := (8, .inl (fun _ => 0))) hx hb (hG _ gw_2249) rfl hK hP hD hS hA 2 rfl (fun _ => rfl) (by decide) (by decide) (by decide) (Nat.le_of_ble_eq_true rfl) (Nat.le_of_ble_eq_true rfl) dX12_init_557 (fun q_66 H hP hD hS => ?_)
  refine va_putF (D := D) (ci := 11) (v := .ref q_66) (ty := (.array .boolean)) (C := RX12) (T := TX12) (N := 121) hx hb hG gwl_X12 tyX12 tyX12_ok nmX12 hown hK hP hD hS 0 rfl rfl 88 (by decide) (hG _ gw_1973) (fun _ h9 => h9) rfl hin rfl (by decide +kernel) rfl rfl (Nat.le_of_ble_eq_true rfl) dX12_init_559 (fun H locs hP hD hS => ?_)
  have hP : va_P D vwCl (WI0 kA a1 66 0 (zu Z65 88 q_66)) H := hP
  have hD : va_D A (WI0 kA a1 66 0 (zu Z65 88 q_66)) := hD
  have hZ : zu Z65 88 q_66 200 = a1 := hZ
  generalize zu Z65 88 q_66 = Z66 at hP hD hZ
  refine lv_aload_n hx hb dX12_init_562 rfl (lv_at hl 0 rfl) ?_
  refine lv_bipush (v := 8) hx hb dX12_init_563 (by decide) ?_
  refine ax_newa (D := D) (atype := .int) (N' := 8) (n := 8) (ty := .int) (a0 := (8, .inl (fun _ => 0))) hx hb (hG _ gw_133) rfl hK hP hD hS hA 0 rfl (fun _ => rfl) (by decide) (by decide) (by decide) (Nat.le_of_ble_eq_true rfl) (Nat.le_of_ble_eq_true rfl) dX12_init_565 (fun q_67 H hP hD hS => ?_)
  refine va_putF (D := D) (ci := 11) (v := .ref q_67) (ty := (.array .int)) (C := RX12) (T := TX12) (N := 121) hx hb hG gwl_X12 tyX12 tyX12_ok nmX12 hown hK hP hD hS 0 rfl rfl 89 (by decide) (hG _ gw_1974) (fun _ h9 => h9) rfl hin rfl (by decide +kernel) rfl rfl (Nat.le_of_ble_eq_true rfl) dX12_init_567 (fun H locs hP hD hS => ?_)
  have hP : va_P D vwCl (WI0 kA a1 67 0 (zu Z66 89 q_67)) H := hP
  have hD : va_D A (WI0 kA a1 67 0 (zu Z66 89 q_67)) := hD
  have hZ : zu Z66 89 q_67 200 = a1 := hZ
  generalize zu Z66 89 q_67 = Z67 at hP hD hZ
  refine lv_aload_n hx hb dX12_init_570 rfl (lv_at hl 0 rfl) ?_
  refine lv_bipush (v := 8) hx hb dX12_init_571 (by decide) ?_
  refine ax_newa (D := D) (atype := .int) (N' := 8) (n := 8) (ty := .int) (a0 := (8, .inl (fun _ => 0))) hx hb (hG _ gw_133) rfl hK hP hD hS hA 0 rfl (fun _ => rfl) (by decide) (by decide) (by decide) (Nat.le_of_ble_eq_true rfl) (Nat.le_of_ble_eq_true rfl) dX12_init_573 (fun q_68 H hP hD hS => ?_)
  refine va_putF (D := D) (ci := 11) (v := .ref q_68) (ty := (.array .int)) (C := RX12) (T := TX12) (N := 121) hx hb hG gwl_X12 tyX12 tyX12_ok nmX12 hown hK hP hD hS 0 rfl rfl 90 (by decide) (hG _ gw_1975) (fun _ h9 => h9) rfl hin rfl (by decide +kernel) rfl rfl (Nat.le_of_ble_eq_true rfl) dX12_init_575 (fun H locs hP hD hS => ?_)
  have hP : va_P D vwCl (WI0 kA a1 68 0 (zu Z67 90 q_68)) H := hP
  have hD : va_D A (WI0 kA a1 68 0 (zu Z67 90 q_68)) := hD
  have hZ : zu Z67 90 q_68 200 = a1 := hZ
  generalize zu Z67 90 q_68 = Z68 at hP hD hZ
  refine lv_aload_n hx hb dX12_init_578 rfl (lv_at hl 0 rfl) ?_
  refine lv_bipush (v := 8) hx hb dX12_init_579 (by decide) ?_
  refine ax_newa (D := D) (atype := .int) (N' := 8) (n := 8) (ty := .int) (a0 := (8, .inl (fun _ => 0))) hx hb (hG _ gw_133) rfl hK hP hD hS hA 0 rfl (fun _ => rfl) (by decide) (by decide) (by decide) (Nat.le_of_ble_eq_true rfl) (Nat.le_of_ble_eq_true rfl) dX12_init_581 (fun q_69 H hP hD hS => ?_)
  refine va_putF (D := D) (ci := 11) (v := .ref q_69) (ty := (.array .int)) (C := RX12) (T := TX12) (N := 121) hx hb hG gwl_X12 tyX12 tyX12_ok nmX12 hown hK hP hD hS 0 rfl rfl 91 (by decide) (hG _ gw_1976) (fun _ h9 => h9) rfl hin rfl (by decide +kernel) rfl rfl (Nat.le_of_ble_eq_true rfl) dX12_init_583 (fun H locs hP hD hS => ?_)
  have hP : va_P D vwCl (WI0 kA a1 69 0 (zu Z68 91 q_69)) H := hP
  have hD : va_D A (WI0 kA a1 69 0 (zu Z68 91 q_69)) := hD
  have hZ : zu Z68 91 q_69 200 = a1 := hZ
  generalize zu Z68 91 q_69 = Z69 at hP hD hZ
  refine lv_aload_n hx hb dX12_init_586 rfl (lv_at hl 0 rfl) ?_
  refine lv_bipush (v := 8) hx hb dX12_init_587 (by decide) ?_
  refine ax_newa (D := D) (atype := .int) (N' := 8) (n := 8) (ty := .int) (a0 := (8, .inl (fun _ => 0))) hx hb (hG _ gw_133) rfl hK hP hD hS hA 0 rfl (fun _ => rfl) (by decide) (by decide) (by decide) (Nat.le_of_ble_eq_true rfl) (Nat.le_of_ble_eq_true rfl) dX12_init_589 (fun q_70 H hP hD hS => ?_)
  refine va_putF (D := D) (ci := 11) (v := .ref q_70) (ty := (.array .int)) (C := RX12) (T := TX12) (N := 121) hx hb hG gwl_X12 tyX12 tyX12_ok nmX12 hown hK hP hD hS 0 rfl rfl 92 (by decide) (hG _ gw_1977) (fun _ h9 => h9) rfl hin rfl (by decide +kernel) rfl rfl (Nat.le_of_ble_eq_true rfl) dX12_init_591 (fun H locs hP hD hS => ?_)
  have hP : va_P D vwCl (WI0 kA a1 70 0 (zu Z69 92 q_70)) H := hP
  have hD : va_D A (WI0 kA a1 70 0 (zu Z69 92 q_70)) := hD
  have hZ : zu Z69 92 q_70 200 = a1 := hZ
  generalize zu Z69 92 q_70 = Z70 at hP hD hZ
  refine lv_aload_n hx hb dX12_init_594 rfl (lv_at hl 0 rfl) ?_
  refine lv_bipush (v := 8) hx hb dX12_init_595 (by decide) ?_
  refine ax_newa (D := D) (atype := .int) (N' := 8) (n := 8) (ty := .int) (a0 := (8, .inl (fun _ => 0))) hx hb (hG _ gw_133) rfl hK hP hD hS hA 0 rfl (fun _ => rfl) (by decide) (by decide) (by decide) (Nat.le_of_ble_eq_true rfl) (Nat.le_of_ble_eq_true rfl) dX12_init_597 (fun q_71 H hP hD hS => ?_)
  refine va_putF (D := D) (ci := 11) (v := .ref q_71) (ty := (.array .int)) (C := RX12) (T := TX12) (N := 121) hx hb hG gwl_X12 tyX12 tyX12_ok nmX12 hown hK hP hD hS 0 rfl rfl 93 (by decide) (hG _ gw_1978) (fun _ h9 => h9) rfl hin rfl (by decide +kernel) rfl rfl (Nat.le_of_ble_eq_true rfl) dX12_init_599 (fun H locs hP hD hS => ?_)
  have hP : va_P D vwCl (WI0 kA a1 71 0 (zu Z70 93 q_71)) H := hP
  have hD : va_D A (WI0 kA a1 71 0 (zu Z70 93 q_71)) := hD
  have hZ : zu Z70 93 q_71 200 = a1 := hZ
  generalize zu Z70 93 q_71 = Z71 at hP hD hZ
  refine lv_aload_n hx hb dX12_init_602 rfl (lv_at hl 0 rfl) ?_
  refine lv_bipush (v := 8) hx hb dX12_init_603 (by decide) ?_
  refine ax_newa (D := D) (atype := .int) (N' := 8) (n := 8) (ty := .int) (a0 := (8, .inl (fun _ => 0))) hx hb (hG _ gw_133) rfl hK hP hD hS hA 0 rfl (fun _ => rfl) (by decide) (by decide) (by decide) (Nat.le_of_ble_eq_true rfl) (Nat.le_of_ble_eq_true rfl) dX12_init_605 (fun q_72 H hP hD hS => ?_)
  refine va_putF (D := D) (ci := 11) (v := .ref q_72) (ty := (.array .int)) (C := RX12) (T := TX12) (N := 121) hx hb hG gwl_X12 tyX12 tyX12_ok nmX12 hown hK hP hD hS 0 rfl rfl 94 (by decide) (hG _ gw_1979) (fun _ h9 => h9) rfl hin rfl (by decide +kernel) rfl rfl (Nat.le_of_ble_eq_true rfl) dX12_init_607 (fun H locs hP hD hS => ?_)
  have hP : va_P D vwCl (WI0 kA a1 72 0 (zu Z71 94 q_72)) H := hP
  have hD : va_D A (WI0 kA a1 72 0 (zu Z71 94 q_72)) := hD
  have hZ : zu Z71 94 q_72 200 = a1 := hZ
  generalize zu Z71 94 q_72 = Z72 at hP hD hZ
  refine lv_aload_n hx hb dX12_init_610 rfl (lv_at hl 0 rfl) ?_
  refine lv_bipush (v := 16) hx hb dX12_init_611 (by decide) ?_
  refine ax_newa (D := D) (atype := .int) (N' := 16) (n := 16) (ty := .int) (a0 := (16, .inl (fun _ => 0))) hx hb (hG _ gw_133) rfl hK hP hD hS hA 0 rfl (fun _ => rfl) (by decide) (by decide) (by decide) (Nat.le_of_ble_eq_true rfl) (Nat.le_of_ble_eq_true rfl) dX12_init_613 (fun q_73 H hP hD hS => ?_)
  refine va_putF (D := D) (ci := 11) (v := .ref q_73) (ty := (.array .int)) (C := RX12) (T := TX12) (N := 121) hx hb hG gwl_X12 tyX12 tyX12_ok nmX12 hown hK hP hD hS 0 rfl rfl 95 (by decide) (hG _ gw_1980) (fun _ h9 => h9) rfl hin rfl (by decide +kernel) rfl rfl (Nat.le_of_ble_eq_true rfl) dX12_init_615 (fun H locs hP hD hS => ?_)
  have hP : va_P D vwCl (WI0 kA a1 73 0 (zu Z72 95 q_73)) H := hP
  have hD : va_D A (WI0 kA a1 73 0 (zu Z72 95 q_73)) := hD
  have hZ : zu Z72 95 q_73 200 = a1 := hZ
  generalize zu Z72 95 q_73 = Z73 at hP hD hZ
  refine lv_aload_n hx hb dX12_init_618 rfl (lv_at hl 0 rfl) ?_
  refine lv_bipush (v := 16) hx hb dX12_init_619 (by decide) ?_
  refine ax_newa (D := D) (atype := .int) (N' := 16) (n := 16) (ty := .int) (a0 := (16, .inl (fun _ => 0))) hx hb (hG _ gw_133) rfl hK hP hD hS hA 0 rfl (fun _ => rfl) (by decide) (by decide) (by decide) (Nat.le_of_ble_eq_true rfl) (Nat.le_of_ble_eq_true rfl) dX12_init_621 (fun q_74 H hP hD hS => ?_)
  refine va_putF (D := D) (ci := 11) (v := .ref q_74) (ty := (.array .int)) (C := RX12) (T := TX12) (N := 121) hx hb hG gwl_X12 tyX12 tyX12_ok nmX12 hown hK hP hD hS 0 rfl rfl 96 (by decide) (hG _ gw_1981) (fun _ h9 => h9) rfl hin rfl (by decide +kernel) rfl rfl (Nat.le_of_ble_eq_true rfl) dX12_init_623 (fun H locs hP hD hS => ?_)
  have hP : va_P D vwCl (WI0 kA a1 74 0 (zu Z73 96 q_74)) H := hP
  have hD : va_D A (WI0 kA a1 74 0 (zu Z73 96 q_74)) := hD
  have hZ : zu Z73 96 q_74 200 = a1 := hZ
  generalize zu Z73 96 q_74 = Z74 at hP hD hZ
  refine lv_aload_n hx hb dX12_init_626 rfl (lv_at hl 0 rfl) ?_
  refine lv_bipush (v := 16) hx hb dX12_init_627 (by decide) ?_
  refine ax_newa (D := D) (atype := .long) (N' := 16) (n := 16) (ty := .long) (a0 := (16, .inr (.inl (fun _ => 0)))) hx hb (hG _ gw_134) rfl hK hP hD hS hA 1 rfl (fun _ => rfl) (by decide) (by decide) (by decide) (Nat.le_of_ble_eq_true rfl) (Nat.le_of_ble_eq_true rfl) dX12_init_629 (fun q_75 H hP hD hS => ?_)
  refine va_putF (D := D) (ci := 11) (v := .ref q_75) (ty := (.array .long)) (C := RX12) (T := TX12) (N := 121) hx hb hG gwl_X12 tyX12 tyX12_ok nmX12 hown hK hP hD hS 0 rfl rfl 97 (by decide) (hG _ gw_1982) (fun _ h9 => h9) rfl hin rfl (by decide +kernel) rfl rfl (Nat.le_of_ble_eq_true rfl) dX12_init_631 (fun H locs hP hD hS => ?_)
  have hP : va_P D vwCl (WI0 kA a1 75 0 (zu Z74 97 q_75)) H := hP
  have hD : va_D A (WI0 kA a1 75 0 (zu Z74 97 q_75)) := hD
  have hZ : zu Z74 97 q_75 200 = a1 := hZ
  generalize zu Z74 97 q_75 = Z75 at hP hD hZ
  refine lv_aload_n hx hb dX12_init_634 rfl (lv_at hl 0 rfl) ?_
  refine lv_bipush (v := 100) hx hb dX12_init_635 (by decide) ?_
  refine ax_newa (D := D) (atype := .int) (N' := 100) (n := 100) (ty := .int) (a0 := (100, .inl (fun _ => 0))) hx hb (hG _ gw_133) rfl hK hP hD hS hA 0 rfl (fun _ => rfl) (by decide) (by decide) (by decide) (Nat.le_of_ble_eq_true rfl) (Nat.le_of_ble_eq_true rfl) dX12_init_637 (fun q_76 H hP hD hS => ?_)
  refine va_putF (D := D) (ci := 11) (v := .ref q_76) (ty := (.array .int)) (C := RX12) (T := TX12) (N := 121) hx hb hG gwl_X12 tyX12 tyX12_ok nmX12 hown hK hP hD hS 0 rfl rfl 99 (by decide) (hG _ gw_1984) (fun _ h9 => h9) rfl hin rfl (by decide +kernel) rfl rfl (Nat.le_of_ble_eq_true rfl) dX12_init_639 (fun H locs hP hD hS => ?_)
  have hP : va_P D vwCl (WI0 kA a1 76 0 (zu Z75 99 q_76)) H := hP
  have hD : va_D A (WI0 kA a1 76 0 (zu Z75 99 q_76)) := hD
  have hZ : zu Z75 99 q_76 200 = a1 := hZ
  generalize zu Z75 99 q_76 = Z76 at hP hD hZ
  refine lv_aload_n hx hb dX12_init_642 rfl (lv_at hl 0 rfl) ?_
  refine lv_bipush (v := 100) hx hb dX12_init_643 (by decide) ?_
  refine ax_newa (D := D) (atype := .int) (N' := 100) (n := 100) (ty := .int) (a0 := (100, .inl (fun _ => 0))) hx hb (hG _ gw_133) rfl hK hP hD hS hA 0 rfl (fun _ => rfl) (by decide) (by decide) (by decide) (Nat.le_of_ble_eq_true rfl) (Nat.le_of_ble_eq_true rfl) dX12_init_645 (fun q_77 H hP hD hS => ?_)
  refine va_putF (D := D) (ci := 11) (v := .ref q_77) (ty := (.array .int)) (C := RX12) (T := TX12) (N := 121) hx hb hG gwl_X12 tyX12 tyX12_ok nmX12 hown hK hP hD hS 0 rfl rfl 100 (by decide) (hG _ gw_1985) (fun _ h9 => h9) rfl hin rfl (by decide +kernel) rfl rfl (Nat.le_of_ble_eq_true rfl) dX12_init_647 (fun H locs hP hD hS => ?_)
  have hP : va_P D vwCl (WI0 kA a1 77 0 (zu Z76 100 q_77)) H := hP
  have hD : va_D A (WI0 kA a1 77 0 (zu Z76 100 q_77)) := hD
  have hZ : zu Z76 100 q_77 200 = a1 := hZ
  generalize zu Z76 100 q_77 = Z77 at hP hD hZ
  refine lv_aload_n hx hb dX12_init_650 rfl (lv_at hl 0 rfl) ?_
  refine lv_bipush (v := 100) hx hb dX12_init_651 (by decide) ?_
  refine ax_newa (D := D) (atype := .int) (N' := 100) (n := 100) (ty := .int) (a0 := (100, .inl (fun _ => 0))) hx hb (hG _ gw_133) rfl hK hP hD hS hA 0 rfl (fun _ => rfl) (by decide) (by decide) (by decide) (Nat.le_of_ble_eq_true rfl) (Nat.le_of_ble_eq_true rfl) dX12_init_653 (fun q_78 H hP hD hS => ?_)
  refine va_putF (D := D) (ci := 11) (v := .ref q_78) (ty := (.array .int)) (C := RX12) (T := TX12) (N := 121) hx hb hG gwl_X12 tyX12 tyX12_ok nmX12 hown hK hP hD hS 0 rfl rfl 101 (by decide) (hG _ gw_1986) (fun _ h9 => h9) rfl hin rfl (by decide +kernel) rfl rfl (Nat.le_of_ble_eq_true rfl) dX12_init_655 (fun H locs hP hD hS => ?_)
  have hP : va_P D vwCl (WI0 kA a1 78 0 (zu Z77 101 q_78)) H := hP
  have hD : va_D A (WI0 kA a1 78 0 (zu Z77 101 q_78)) := hD
  have hZ : zu Z77 101 q_78 200 = a1 := hZ
  generalize zu Z77 101 q_78 = Z78 at hP hD hZ
  refine lv_aload_n hx hb dX12_init_658 rfl (lv_at hl 0 rfl) ?_
  refine lv_bipush (v := 100) hx hb dX12_init_659 (by decide) ?_
  refine ax_newa (D := D) (atype := .long) (N' := 100) (n := 100) (ty := .long) (a0 := (100, .inr (.inl (fun _ => 0)))) hx hb (hG _ gw_134) rfl hK hP hD hS hA 1 rfl (fun _ => rfl) (by decide) (by decide) (by decide) (Nat.le_of_ble_eq_true rfl) (Nat.le_of_ble_eq_true rfl) dX12_init_661 (fun q_79 H hP hD hS => ?_)
  refine va_putF (D := D) (ci := 11) (v := .ref q_79) (ty := (.array .long)) (C := RX12) (T := TX12) (N := 121) hx hb hG gwl_X12 tyX12 tyX12_ok nmX12 hown hK hP hD hS 0 rfl rfl 102 (by decide) (hG _ gw_1987) (fun _ h9 => h9) rfl hin rfl (by decide +kernel) rfl rfl (Nat.le_of_ble_eq_true rfl) dX12_init_663 (fun H locs hP hD hS => ?_)
  have hP : va_P D vwCl (WI0 kA a1 79 0 (zu Z78 102 q_79)) H := hP
  have hD : va_D A (WI0 kA a1 79 0 (zu Z78 102 q_79)) := hD
  have hZ : zu Z78 102 q_79 200 = a1 := hZ
  generalize zu Z78 102 q_79 = Z79 at hP hD hZ
  refine lv_aload_n hx hb dX12_init_666 rfl (lv_at hl 0 rfl) ?_
  refine lv_sipush (v := 3000) hx hb dX12_init_667 (by decide) ?_
  refine va_put (D := D) (ci := 11) (v := .int 3000) (ty := .int) (C := RX12) (T := TX12) (N := 121) hx hb hG gwl_X12 tyX12 tyX12_ok nmX12 hown hK hP hD hS 0 rfl rfl 105 (by decide) (hG _ gw_1990) (fun _ h9 => h9) rfl (by decide +kernel) rfl rfl (Nat.le_of_ble_eq_true rfl) dX12_init_670 (fun H locs hP hD hS => ?_)
  have hP : va_P D vwCl (WI0 kA a1 79 1 Z79) H := hP
  have hD : va_D A (WI0 kA a1 79 1 Z79) := hD
  refine lv_aload_n hx hb dX12_init_673 rfl (lv_at hl 0 rfl) ?_
  refine lv_iconst (v := (-1)) hx hb dX12_init_674 (by decide) ?_
  refine va_put (D := D) (ci := 11) (v := .int (-1)) (ty := .int) (C := RX12) (T := TX12) (N := 121) hx hb hG gwl_X12 tyX12 tyX12_ok nmX12 hown hK hP hD hS 0 rfl rfl 106 (by decide) (hG _ gw_1991) (fun _ h9 => h9) rfl (by decide +kernel) rfl rfl (Nat.le_of_ble_eq_true rfl) dX12_init_675 (fun H locs hP hD hS => ?_)
  have hP : va_P D vwCl (WI0 kA a1 79 2 Z79) H := hP
  have hD : va_D A (WI0 kA a1 79 2 Z79) := hD
  refine lv_aload_n hx hb dX12_init_678 rfl (lv_at hl 0 rfl) ?_
  refine lv_sipush (v := 6000) hx hb dX12_init_679 (by decide) ?_
  refine ax_newa (D := D) (atype := .long) (N' := 6000) (n := 6000) (ty := .long) (a0 := (6000, .inr (.inl (fun _ => 0)))) hx hb (hG _ gw_134) rfl hK hP hD hS hA 1 rfl (fun _ => rfl) (by decide) (by decide) (by decide) (Nat.le_of_ble_eq_true rfl) (Nat.le_of_ble_eq_true rfl) dX12_init_682 (fun q_80 H hP hD hS => ?_)
  refine va_putF (D := D) (ci := 11) (v := .ref q_80) (ty := (.array .long)) (C := RX12) (T := TX12) (N := 121) hx hb hG gwl_X12 tyX12 tyX12_ok nmX12 hown hK hP hD hS 0 rfl rfl 107 (by decide) (hG _ gw_1992) (fun _ h9 => h9) rfl hin rfl (by decide +kernel) rfl rfl (Nat.le_of_ble_eq_true rfl) dX12_init_684 (fun H locs hP hD hS => ?_)
  have hP : va_P D vwCl (WI0 kA a1 80 2 (zu Z79 107 q_80)) H := hP
  have hD : va_D A (WI0 kA a1 80 2 (zu Z79 107 q_80)) := hD
  have hZ : zu Z79 107 q_80 200 = a1 := hZ
  generalize zu Z79 107 q_80 = Z80 at hP hD hZ
  refine lv_aload_n hx hb dX12_init_687 rfl (lv_at hl 0 rfl) ?_
  refine lv_bipush (v := 9) hx hb dX12_init_688 (by decide) ?_
  refine ax_newa (D := D) (atype := .int) (N' := 9) (n := 9) (ty := .int) (a0 := (9, .inl (fun _ => 0))) hx hb (hG _ gw_133) rfl hK hP hD hS hA 0 rfl (fun _ => rfl) (by decide) (by decide) (by decide) (Nat.le_of_ble_eq_true rfl) (Nat.le_of_ble_eq_true rfl) dX12_init_690 (fun q_81 H hP hD hS => ?_)
  refine va_putF (D := D) (ci := 11) (v := .ref q_81) (ty := (.array .int)) (C := RX12) (T := TX12) (N := 121) hx hb hG gwl_X12 tyX12 tyX12_ok nmX12 hown hK hP hD hS 0 rfl rfl 108 (by decide) (hG _ gw_1993) (fun _ h9 => h9) rfl hin rfl (by decide +kernel) rfl rfl (Nat.le_of_ble_eq_true rfl) dX12_init_692 (fun H locs hP hD hS => ?_)
  have hP : va_P D vwCl (WI0 kA a1 81 2 (zu Z80 108 q_81)) H := hP
  have hD : va_D A (WI0 kA a1 81 2 (zu Z80 108 q_81)) := hD
  have hZ : zu Z80 108 q_81 200 = a1 := hZ
  generalize zu Z80 108 q_81 = Z81 at hP hD hZ
  refine lv_aload_n hx hb dX12_init_695 rfl (lv_at hl 0 rfl) ?_
  refine lv_bipush (v := 9) hx hb dX12_init_696 (by decide) ?_
  refine ax_newa (D := D) (atype := .int) (N' := 9) (n := 9) (ty := .int) (a0 := (9, .inl (fun _ => 0))) hx hb (hG _ gw_133) rfl hK hP hD hS hA 0 rfl (fun _ => rfl) (by decide) (by decide) (by decide) (Nat.le_of_ble_eq_true rfl) (Nat.le_of_ble_eq_true rfl) dX12_init_698 (fun q_82 H hP hD hS => ?_)
  refine va_putF (D := D) (ci := 11) (v := .ref q_82) (ty := (.array .int)) (C := RX12) (T := TX12) (N := 121) hx hb hG gwl_X12 tyX12 tyX12_ok nmX12 hown hK hP hD hS 0 rfl rfl 109 (by decide) (hG _ gw_1994) (fun _ h9 => h9) rfl hin rfl (by decide +kernel) rfl rfl (Nat.le_of_ble_eq_true rfl) dX12_init_700 (fun H locs hP hD hS => ?_)
  have hP : va_P D vwCl (WI0 kA a1 82 2 (zu Z81 109 q_82)) H := hP
  have hD : va_D A (WI0 kA a1 82 2 (zu Z81 109 q_82)) := hD
  have hZ : zu Z81 109 q_82 200 = a1 := hZ
  generalize zu Z81 109 q_82 = Z82 at hP hD hZ
  refine lv_aload_n hx hb dX12_init_703 rfl (lv_at hl 0 rfl) ?_
  refine lv_bipush (v := 9) hx hb dX12_init_704 (by decide) ?_
  refine ax_newa (D := D) (atype := .int) (N' := 9) (n := 9) (ty := .int) (a0 := (9, .inl (fun _ => 0))) hx hb (hG _ gw_133) rfl hK hP hD hS hA 0 rfl (fun _ => rfl) (by decide) (by decide) (by decide) (Nat.le_of_ble_eq_true rfl) (Nat.le_of_ble_eq_true rfl) dX12_init_706 (fun q_83 H hP hD hS => ?_)
  refine va_putF (D := D) (ci := 11) (v := .ref q_83) (ty := (.array .int)) (C := RX12) (T := TX12) (N := 121) hx hb hG gwl_X12 tyX12 tyX12_ok nmX12 hown hK hP hD hS 0 rfl rfl 110 (by decide) (hG _ gw_1995) (fun _ h9 => h9) rfl hin rfl (by decide +kernel) rfl rfl (Nat.le_of_ble_eq_true rfl) dX12_init_708 (fun H locs hP hD hS => ?_)
  have hP : va_P D vwCl (WI0 kA a1 83 2 (zu Z82 110 q_83)) H := hP
  have hD : va_D A (WI0 kA a1 83 2 (zu Z82 110 q_83)) := hD
  have hZ : zu Z82 110 q_83 200 = a1 := hZ
  generalize zu Z82 110 q_83 = Z83 at hP hD hZ
  refine lv_aload_n hx hb dX12_init_711 rfl (lv_at hl 0 rfl) ?_
  refine lv_bipush (v := 9) hx hb dX12_init_712 (by decide) ?_
  refine ax_newa (D := D) (atype := .int) (N' := 9) (n := 9) (ty := .int) (a0 := (9, .inl (fun _ => 0))) hx hb (hG _ gw_133) rfl hK hP hD hS hA 0 rfl (fun _ => rfl) (by decide) (by decide) (by decide) (Nat.le_of_ble_eq_true rfl) (Nat.le_of_ble_eq_true rfl) dX12_init_714 (fun q_84 H hP hD hS => ?_)
  refine va_putF (D := D) (ci := 11) (v := .ref q_84) (ty := (.array .int)) (C := RX12) (T := TX12) (N := 121) hx hb hG gwl_X12 tyX12 tyX12_ok nmX12 hown hK hP hD hS 0 rfl rfl 111 (by decide) (hG _ gw_1996) (fun _ h9 => h9) rfl hin rfl (by decide +kernel) rfl rfl (Nat.le_of_ble_eq_true rfl) dX12_init_716 (fun H locs hP hD hS => ?_)
  have hP : va_P D vwCl (WI0 kA a1 84 2 (zu Z83 111 q_84)) H := hP
  have hD : va_D A (WI0 kA a1 84 2 (zu Z83 111 q_84)) := hD
  have hZ : zu Z83 111 q_84 200 = a1 := hZ
  generalize zu Z83 111 q_84 = Z84 at hP hD hZ
  refine lv_aload_n hx hb dX12_init_719 rfl (lv_at hl 0 rfl) ?_
  refine va_get (D := D) (ci := 11) (v := .ref (Z84 2)) (C := RX12) (T := TX12) (N := 121) hx hb hG gwl_X12 hown hK hP 0 rfl rfl 2 (by decide) (hG _ gw_1887) (fun _ h9 => h9) rfl dX12_init_720 ?_
  refine lv_iconst (v := 0) hx hb dX12_init_723 (by decide) ?_
  refine lv_iconst (v := 5) hx hb dX12_init_724 (by decide) ?_
  refine va_iast hx hb hK hP hD hS 2 0 rfl rfl (show vp_in 0 1502 by unfold vp_in; decide) dX12_init_725 (fun H locs hP hD hS => ?_)
  have hP : va_P D vwCl ((a1, .inr (11, RF Z84 u00)) :: (RW kA Z84 u00).tail) H := hP
  have hD : va_D A ((a1, .inr (11, RF Z84 u00)) :: (RW kA Z84 u00).tail) := hD
  rw [← hZ] at hP hD
  have hP : va_P D vwCl (RW kA Z84 u00) H := hP
  have hD : va_D A (RW kA Z84 u00) := hD
  refine W.widen (k := 84) (n := 114639) (Nat.le_of_ble_eq_true rfl) (Nat.le_of_ble_eq_true rfl) ?_
  exact (W.vret hx hb hr (fun t ht hW => ⟨⟨Z84, rfl, hZ, by rw [ht]; exact hP, hD⟩, hS.F ht⟩) hS.2.2 dX12_init_726)
