abbrev cX12_figures : ByteArray := prog_14_method_12_code
def yX12_figures : MethodName := ⟨RX12, "figures", "(I)I"⟩
theorem dX12_figures_0 : decode cX12_figures 0 = .ok (.aload_n 0, 1) := by decide +kernel
theorem dX12_figures_1 : decode cX12_figures 1 = .ok (.iload_n 1, 1) := by decide +kernel
theorem dX12_figures_2 : decode cX12_figures 2 = .ok (.invokevirtual 28, 3) := by decide +kernel
theorem dX12_figures_5 : decode cX12_figures 5 = .ok (.bipush 48, 2) := by decide +kernel
theorem dX12_figures_7 : decode cX12_figures 7 = .ok (.if_icmp .ne 19, 3) := by decide +kernel
theorem dX12_figures_10 : decode cX12_figures 10 = .ok (.aload_n 0, 1) := by decide +kernel
theorem dX12_figures_11 : decode cX12_figures 11 = .ok (.iload_n 1, 1) := by decide +kernel
theorem dX12_figures_12 : decode cX12_figures 12 = .ok (.iconst 1, 1) := by decide +kernel
theorem dX12_figures_13 : decode cX12_figures 13 = .ok (.iadd, 1) := by decide +kernel
theorem dX12_figures_14 : decode cX12_figures 14 = .ok (.invokevirtual 28, 3) := by decide +kernel
theorem dX12_figures_17 : decode cX12_figures 17 = .ok (.bipush 120, 2) := by decide +kernel
theorem dX12_figures_19 : decode cX12_figures 19 = .ok (.if_icmp .ne 7, 3) := by decide +kernel
theorem dX12_figures_22 : decode cX12_figures 22 = .ok (.iconst 1, 1) := by decide +kernel
theorem dX12_figures_23 : decode cX12_figures 23 = .ok (.goto 4, 3) := by decide +kernel
theorem dX12_figures_26 : decode cX12_figures 26 = .ok (.iconst 0, 1) := by decide +kernel
theorem dX12_figures_27 : decode cX12_figures 27 = .ok (.istore_n 2, 1) := by decide +kernel
theorem dX12_figures_28 : decode cX12_figures 28 = .ok (.iload_n 2, 1) := by decide +kernel
theorem dX12_figures_29 : decode cX12_figures 29 = .ok (.ifCond .eq 9, 3) := by decide +kernel
theorem dX12_figures_32 : decode cX12_figures 32 = .ok (.iload_n 1, 1) := by decide +kernel
theorem dX12_figures_33 : decode cX12_figures 33 = .ok (.iconst 2, 1) := by decide +kernel
theorem dX12_figures_34 : decode cX12_figures 34 = .ok (.iadd, 1) := by decide +kernel
theorem dX12_figures_35 : decode cX12_figures 35 = .ok (.goto 4, 3) := by decide +kernel
theorem dX12_figures_38 : decode cX12_figures 38 = .ok (.iload_n 1, 1) := by decide +kernel
theorem dX12_figures_39 : decode cX12_figures 39 = .ok (.istore_n 3, 1) := by decide +kernel
theorem dX12_figures_40 : decode cX12_figures 40 = .ok (.iload_n 3, 1) := by decide +kernel
theorem dX12_figures_41 : decode cX12_figures 41 = .ok (.istore 4, 2) := by decide +kernel
theorem dX12_figures_43 : decode cX12_figures 43 = .ok (.iload_n 2, 1) := by decide +kernel
theorem dX12_figures_44 : decode cX12_figures 44 = .ok (.ifCond .eq 19, 3) := by decide +kernel
theorem dX12_figures_47 : decode cX12_figures 47 = .ok (.aload_n 0, 1) := by decide +kernel
theorem dX12_figures_48 : decode cX12_figures 48 = .ok (.iload 4, 2) := by decide +kernel
theorem dX12_figures_50 : decode cX12_figures 50 = .ok (.invokevirtual 28, 3) := by decide +kernel
theorem dX12_figures_53 : decode cX12_figures 53 = .ok (.invokestatic 80, 3) := by decide +kernel
theorem dX12_figures_56 : decode cX12_figures 56 = .ok (.iconst (-1), 1) := by decide +kernel
theorem dX12_figures_57 : decode cX12_figures 57 = .ok (.if_icmp .eq 24, 3) := by decide +kernel
theorem dX12_figures_60 : decode cX12_figures 60 = .ok (.goto 15, 3) := by decide +kernel
theorem dX12_figures_63 : decode cX12_figures 63 = .ok (.aload_n 0, 1) := by decide +kernel
theorem dX12_figures_64 : decode cX12_figures 64 = .ok (.iload 4, 2) := by decide +kernel
theorem dX12_figures_66 : decode cX12_figures 66 = .ok (.invokevirtual 28, 3) := by decide +kernel
theorem dX12_figures_69 : decode cX12_figures 69 = .ok (.invokestatic 14, 3) := by decide +kernel
theorem dX12_figures_72 : decode cX12_figures 72 = .ok (.ifCond .eq 9, 3) := by decide +kernel
theorem dX12_figures_75 : decode cX12_figures 75 = .ok (.iinc 4 1, 3) := by decide +kernel
theorem dX12_figures_78 : decode cX12_figures 78 = .ok (.goto (-35), 3) := by decide +kernel
theorem dX12_figures_81 : decode cX12_figures 81 = .ok (.iload 4, 2) := by decide +kernel
theorem dX12_figures_83 : decode cX12_figures 83 = .ok (.iload_n 3, 1) := by decide +kernel
theorem dX12_figures_84 : decode cX12_figures 84 = .ok (.isub, 1) := by decide +kernel
theorem dX12_figures_85 : decode cX12_figures 85 = .ok (.istore 5, 2) := by decide +kernel
theorem dX12_figures_87 : decode cX12_figures 87 = .ok (.aload_n 0, 1) := by decide +kernel
theorem dX12_figures_88 : decode cX12_figures 88 = .ok (.iload 4, 2) := by decide +kernel
theorem dX12_figures_90 : decode cX12_figures 90 = .ok (.invokevirtual 28, 3) := by decide +kernel
theorem dX12_figures_93 : decode cX12_figures 93 = .ok (.bipush 76, 2) := by decide +kernel
theorem dX12_figures_95 : decode cX12_figures 95 = .ok (.if_icmp .ne 7, 3) := by decide +kernel
theorem dX12_figures_98 : decode cX12_figures 98 = .ok (.iconst 1, 1) := by decide +kernel
theorem dX12_figures_99 : decode cX12_figures 99 = .ok (.goto 4, 3) := by decide +kernel
theorem dX12_figures_102 : decode cX12_figures 102 = .ok (.iconst 0, 1) := by decide +kernel
theorem dX12_figures_103 : decode cX12_figures 103 = .ok (.istore 6, 2) := by decide +kernel
theorem dX12_figures_105 : decode cX12_figures 105 = .ok (.iload 6, 2) := by decide +kernel
theorem dX12_figures_107 : decode cX12_figures 107 = .ok (.ifCond .eq 10, 3) := by decide +kernel
theorem dX12_figures_110 : decode cX12_figures 110 = .ok (.iload 4, 2) := by decide +kernel
theorem dX12_figures_112 : decode cX12_figures 112 = .ok (.iconst 1, 1) := by decide +kernel
theorem dX12_figures_113 : decode cX12_figures 113 = .ok (.iadd, 1) := by decide +kernel
theorem dX12_figures_114 : decode cX12_figures 114 = .ok (.goto 5, 3) := by decide +kernel
theorem dX12_figures_117 : decode cX12_figures 117 = .ok (.iload 4, 2) := by decide +kernel
theorem dX12_figures_119 : decode cX12_figures 119 = .ok (.istore 7, 2) := by decide +kernel
theorem dX12_figures_121 : decode cX12_figures 121 = .ok (.iload 5, 2) := by decide +kernel
theorem dX12_figures_123 : decode cX12_figures 123 = .ok (.ifCond .le 67, 3) := by decide +kernel
theorem dX12_figures_126 : decode cX12_figures 126 = .ok (.iload 5, 2) := by decide +kernel
theorem dX12_figures_128 : decode cX12_figures 128 = .ok (.iload_n 2, 1) := by decide +kernel
theorem dX12_figures_129 : decode cX12_figures 129 = .ok (.ifCond .eq 18, 3) := by decide +kernel
theorem dX12_figures_132 : decode cX12_figures 132 = .ok (.iload 6, 2) := by decide +kernel
theorem dX12_figures_134 : decode cX12_figures 134 = .ok (.ifCond .eq 8, 3) := by decide +kernel
theorem dX12_figures_137 : decode cX12_figures 137 = .ok (.bipush 16, 2) := by decide +kernel
theorem dX12_figures_139 : decode cX12_figures 139 = .ok (.goto 20, 3) := by decide +kernel
theorem dX12_figures_142 : decode cX12_figures 142 = .ok (.bipush 8, 2) := by decide +kernel
theorem dX12_figures_144 : decode cX12_figures 144 = .ok (.goto 15, 3) := by decide +kernel
theorem dX12_figures_147 : decode cX12_figures 147 = .ok (.iload 6, 2) := by decide +kernel
theorem dX12_figures_149 : decode cX12_figures 149 = .ok (.ifCond .eq 8, 3) := by decide +kernel
theorem dX12_figures_152 : decode cX12_figures 152 = .ok (.bipush 19, 2) := by decide +kernel
theorem dX12_figures_154 : decode cX12_figures 154 = .ok (.goto 5, 3) := by decide +kernel
theorem dX12_figures_157 : decode cX12_figures 157 = .ok (.bipush 10, 2) := by decide +kernel
theorem dX12_figures_159 : decode cX12_figures 159 = .ok (.if_icmp .gt 31, 3) := by decide +kernel
theorem dX12_figures_162 : decode cX12_figures 162 = .ok (.aload_n 0, 1) := by decide +kernel
theorem dX12_figures_163 : decode cX12_figures 163 = .ok (.iload 7, 2) := by decide +kernel
theorem dX12_figures_165 : decode cX12_figures 165 = .ok (.invokevirtual 28, 3) := by decide +kernel
theorem dX12_figures_168 : decode cX12_figures 168 = .ok (.invokestatic 49, 3) := by decide +kernel
theorem dX12_figures_171 : decode cX12_figures 171 = .ok (.ifCond .ne 19, 3) := by decide +kernel
theorem dX12_figures_174 : decode cX12_figures 174 = .ok (.aload_n 0, 1) := by decide +kernel
theorem dX12_figures_175 : decode cX12_figures 175 = .ok (.iload 7, 2) := by decide +kernel
theorem dX12_figures_177 : decode cX12_figures 177 = .ok (.invokevirtual 28, 3) := by decide +kernel
theorem dX12_figures_180 : decode cX12_figures 180 = .ok (.invokestatic 14, 3) := by decide +kernel
theorem dX12_figures_183 : decode cX12_figures 183 = .ok (.ifCond .ne 7, 3) := by decide +kernel
theorem dX12_figures_186 : decode cX12_figures 186 = .ok (.iconst 1, 1) := by decide +kernel
theorem dX12_figures_187 : decode cX12_figures 187 = .ok (.goto 4, 3) := by decide +kernel
theorem dX12_figures_190 : decode cX12_figures 190 = .ok (.iconst 0, 1) := by decide +kernel
theorem dX12_figures_191 : decode cX12_figures 191 = .ok (.istore 8, 2) := by decide +kernel
theorem dX12_figures_193 : decode cX12_figures 193 = .ok (.iload 8, 2) := by decide +kernel
theorem dX12_figures_195 : decode cX12_figures 195 = .ok (.ifCond .ne 6, 3) := by decide +kernel
theorem dX12_figures_198 : decode cX12_figures 198 = .ok (.iload 7, 2) := by decide +kernel
theorem dX12_figures_200 : decode cX12_figures 200 = .ok (.ireturn, 1) := by decide +kernel
theorem dX12_figures_201 : decode cX12_figures 201 = .ok (.lconst 0, 1) := by decide +kernel
theorem dX12_figures_202 : decode cX12_figures 202 = .ok (.lstore 9, 2) := by decide +kernel
theorem dX12_figures_204 : decode cX12_figures 204 = .ok (.iconst 0, 1) := by decide +kernel
theorem dX12_figures_205 : decode cX12_figures 205 = .ok (.istore 11, 2) := by decide +kernel
theorem dX12_figures_207 : decode cX12_figures 207 = .ok (.iload_n 3, 1) := by decide +kernel
theorem dX12_figures_208 : decode cX12_figures 208 = .ok (.istore 12, 2) := by decide +kernel
theorem dX12_figures_210 : decode cX12_figures 210 = .ok (.iload 12, 2) := by decide +kernel
theorem dX12_figures_212 : decode cX12_figures 212 = .ok (.iload 4, 2) := by decide +kernel
theorem dX12_figures_214 : decode cX12_figures 214 = .ok (.if_icmp .ge 88, 3) := by decide +kernel
theorem dX12_figures_217 : decode cX12_figures 217 = .ok (.aload_n 0, 1) := by decide +kernel
theorem dX12_figures_218 : decode cX12_figures 218 = .ok (.iload 12, 2) := by decide +kernel
theorem dX12_figures_220 : decode cX12_figures 220 = .ok (.invokevirtual 28, 3) := by decide +kernel
theorem dX12_figures_223 : decode cX12_figures 223 = .ok (.invokestatic 80, 3) := by decide +kernel
theorem dX12_figures_226 : decode cX12_figures 226 = .ok (.istore 13, 2) := by decide +kernel
theorem dX12_figures_228 : decode cX12_figures 228 = .ok (.iload 11, 2) := by decide +kernel
theorem dX12_figures_230 : decode cX12_figures 230 = .ok (.ifCond .ne 32, 3) := by decide +kernel
theorem dX12_figures_233 : decode cX12_figures 233 = .ok (.iload_n 2, 1) := by decide +kernel
theorem dX12_figures_234 : decode cX12_figures 234 = .ok (.ifCond .ne 32, 3) := by decide +kernel
theorem dX12_figures_237 : decode cX12_figures 237 = .ok (.lload 9, 2) := by decide +kernel
theorem dX12_figures_239 : decode cX12_figures 239 = .ok (.ldc2_w 83, 3) := by decide +kernel
theorem dX12_figures_242 : decode cX12_figures 242 = .ok (.lcmp, 1) := by decide +kernel
theorem dX12_figures_243 : decode cX12_figures 243 = .ok (.ifCond .gt 19, 3) := by decide +kernel
theorem dX12_figures_246 : decode cX12_figures 246 = .ok (.lload 9, 2) := by decide +kernel
theorem dX12_figures_248 : decode cX12_figures 248 = .ok (.ldc2_w 83, 3) := by decide +kernel
theorem dX12_figures_251 : decode cX12_figures 251 = .ok (.lcmp, 1) := by decide +kernel
theorem dX12_figures_252 : decode cX12_figures 252 = .ok (.ifCond .ne 14, 3) := by decide +kernel
theorem dX12_figures_255 : decode cX12_figures 255 = .ok (.iload 13, 2) := by decide +kernel
theorem dX12_figures_257 : decode cX12_figures 257 = .ok (.bipush 7, 2) := by decide +kernel
theorem dX12_figures_259 : decode cX12_figures 259 = .ok (.if_icmp .le 7, 3) := by decide +kernel
theorem dX12_figures_262 : decode cX12_figures 262 = .ok (.iconst 1, 1) := by decide +kernel
theorem dX12_figures_263 : decode cX12_figures 263 = .ok (.goto 4, 3) := by decide +kernel
theorem dX12_figures_266 : decode cX12_figures 266 = .ok (.iconst 0, 1) := by decide +kernel
theorem dX12_figures_267 : decode cX12_figures 267 = .ok (.istore 11, 2) := by decide +kernel
theorem dX12_figures_269 : decode cX12_figures 269 = .ok (.iload_n 2, 1) := by decide +kernel
theorem dX12_figures_270 : decode cX12_figures 270 = .ok (.ifCond .eq 14, 3) := by decide +kernel
theorem dX12_figures_273 : decode cX12_figures 273 = .ok (.lload 9, 2) := by decide +kernel
theorem dX12_figures_275 : decode cX12_figures 275 = .ok (.iconst 4, 1) := by decide +kernel
theorem dX12_figures_276 : decode cX12_figures 276 = .ok (.lshl, 1) := by decide +kernel
theorem dX12_figures_277 : decode cX12_figures 277 = .ok (.iload 13, 2) := by decide +kernel
theorem dX12_figures_279 : decode cX12_figures 279 = .ok (.i2l, 1) := by decide +kernel
theorem dX12_figures_280 : decode cX12_figures 280 = .ok (.lor, 1) := by decide +kernel
theorem dX12_figures_281 : decode cX12_figures 281 = .ok (.goto 13, 3) := by decide +kernel
theorem dX12_figures_284 : decode cX12_figures 284 = .ok (.ldc2_w 85, 3) := by decide +kernel
theorem dX12_figures_287 : decode cX12_figures 287 = .ok (.lload 9, 2) := by decide +kernel
theorem dX12_figures_289 : decode cX12_figures 289 = .ok (.lmul, 1) := by decide +kernel
theorem dX12_figures_290 : decode cX12_figures 290 = .ok (.iload 13, 2) := by decide +kernel
theorem dX12_figures_292 : decode cX12_figures 292 = .ok (.i2l, 1) := by decide +kernel
theorem dX12_figures_293 : decode cX12_figures 293 = .ok (.ladd, 1) := by decide +kernel
theorem dX12_figures_294 : decode cX12_figures 294 = .ok (.lstore 9, 2) := by decide +kernel
theorem dX12_figures_296 : decode cX12_figures 296 = .ok (.iinc 12 1, 3) := by decide +kernel
theorem dX12_figures_299 : decode cX12_figures 299 = .ok (.goto (-89), 3) := by decide +kernel
theorem dX12_figures_302 : decode cX12_figures 302 = .ok (.iload 6, 2) := by decide +kernel
theorem dX12_figures_304 : decode cX12_figures 304 = .ok (.ifCond .ne 29, 3) := by decide +kernel
theorem dX12_figures_307 : decode cX12_figures 307 = .ok (.iload_n 2, 1) := by decide +kernel
theorem dX12_figures_308 : decode cX12_figures 308 = .ok (.ifCond .ne 16, 3) := by decide +kernel
theorem dX12_figures_311 : decode cX12_figures 311 = .ok (.lload 9, 2) := by decide +kernel
theorem dX12_figures_313 : decode cX12_figures 313 = .ok (.ldc2_w 87, 3) := by decide +kernel
theorem dX12_figures_316 : decode cX12_figures 316 = .ok (.lcmp, 1) := by decide +kernel
theorem dX12_figures_317 : decode cX12_figures 317 = .ok (.ifCond .le 7, 3) := by decide +kernel
theorem dX12_figures_320 : decode cX12_figures 320 = .ok (.iconst 1, 1) := by decide +kernel
theorem dX12_figures_321 : decode cX12_figures 321 = .ok (.goto 4, 3) := by decide +kernel
theorem dX12_figures_324 : decode cX12_figures 324 = .ok (.iconst 0, 1) := by decide +kernel
theorem dX12_figures_325 : decode cX12_figures 325 = .ok (.istore 11, 2) := by decide +kernel
theorem dX12_figures_327 : decode cX12_figures 327 = .ok (.lload 9, 2) := by decide +kernel
theorem dX12_figures_329 : decode cX12_figures 329 = .ok (.l2i, 1) := by decide +kernel
theorem dX12_figures_330 : decode cX12_figures 330 = .ok (.i2l, 1) := by decide +kernel
theorem dX12_figures_331 : decode cX12_figures 331 = .ok (.lstore 9, 2) := by decide +kernel
theorem dX12_figures_333 : decode cX12_figures 333 = .ok (.aload_n 0, 1) := by decide +kernel
theorem dX12_figures_334 : decode cX12_figures 334 = .ok (.getfield 32, 3) := by decide +kernel
theorem dX12_figures_337 : decode cX12_figures 337 = .ok (.istore 12, 2) := by decide +kernel
theorem dX12_figures_339 : decode cX12_figures 339 = .ok (.aload_n 0, 1) := by decide +kernel
theorem dX12_figures_340 : decode cX12_figures 340 = .ok (.getfield 38, 3) := by decide +kernel
theorem dX12_figures_343 : decode cX12_figures 343 = .ok (.iload 12, 2) := by decide +kernel
theorem dX12_figures_345 : decode cX12_figures 345 = .ok (.iload 11, 2) := by decide +kernel
theorem dX12_figures_347 : decode cX12_figures 347 = .ok (.ifCond .eq 7, 3) := by decide +kernel
theorem dX12_figures_350 : decode cX12_figures 350 = .ok (.iconst 3, 1) := by decide +kernel
theorem dX12_figures_351 : decode cX12_figures 351 = .ok (.goto 4, 3) := by decide +kernel
theorem dX12_figures_354 : decode cX12_figures 354 = .ok (.iconst 2, 1) := by decide +kernel
theorem dX12_figures_355 : decode cX12_figures 355 = .ok (.iastore, 1) := by decide +kernel
theorem dX12_figures_356 : decode cX12_figures 356 = .ok (.aload_n 0, 1) := by decide +kernel
theorem dX12_figures_357 : decode cX12_figures 357 = .ok (.getfield 45, 3) := by decide +kernel
theorem dX12_figures_360 : decode cX12_figures 360 = .ok (.iload 12, 2) := by decide +kernel
theorem dX12_figures_362 : decode cX12_figures 362 = .ok (.lload 9, 2) := by decide +kernel
theorem dX12_figures_364 : decode cX12_figures 364 = .ok (.lastore, 1) := by decide +kernel
theorem dX12_figures_365 : decode cX12_figures 365 = .ok (.aload_n 0, 1) := by decide +kernel
theorem dX12_figures_366 : decode cX12_figures 366 = .ok (.getfield 41, 3) := by decide +kernel
theorem dX12_figures_369 : decode cX12_figures 369 = .ok (.iload 12, 2) := by decide +kernel
theorem dX12_figures_371 : decode cX12_figures 371 = .ok (.iload 6, 2) := by decide +kernel
theorem dX12_figures_373 : decode cX12_figures 373 = .ok (.bastore, 1) := by decide +kernel
theorem dX12_figures_374 : decode cX12_figures 374 = .ok (.iload 7, 2) := by decide +kernel
theorem dX12_figures_376 : decode cX12_figures 376 = .ok (.ireturn, 1) := by decide +kernel
abbrev cX12_packed : ByteArray := prog_14_method_11_code
def yX12_packed : MethodName := ⟨RX12, "packed", "(III)J"⟩
theorem dX12_packed_0 : decode cX12_packed 0 = .ok (.lconst 0, 1) := by decide +kernel
theorem dX12_packed_1 : decode cX12_packed 1 = .ok (.lstore 4, 2) := by decide +kernel
theorem dX12_packed_3 : decode cX12_packed 3 = .ok (.iload_n 1, 1) := by decide +kernel
theorem dX12_packed_4 : decode cX12_packed 4 = .ok (.iload_n 3, 1) := by decide +kernel
theorem dX12_packed_5 : decode cX12_packed 5 = .ok (.iadd, 1) := by decide +kernel
theorem dX12_packed_6 : decode cX12_packed 6 = .ok (.istore 6, 2) := by decide +kernel
theorem dX12_packed_8 : decode cX12_packed 8 = .ok (.iload 6, 2) := by decide +kernel
theorem dX12_packed_10 : decode cX12_packed 10 = .ok (.iload_n 2, 1) := by decide +kernel
theorem dX12_packed_11 : decode cX12_packed 11 = .ok (.if_icmp .ge 33, 3) := by decide +kernel
theorem dX12_packed_14 : decode cX12_packed 14 = .ok (.iload 6, 2) := by decide +kernel
theorem dX12_packed_16 : decode cX12_packed 16 = .ok (.iload_n 1, 1) := by decide +kernel
theorem dX12_packed_17 : decode cX12_packed 17 = .ok (.iload_n 3, 1) := by decide +kernel
theorem dX12_packed_18 : decode cX12_packed 18 = .ok (.iadd, 1) := by decide +kernel
theorem dX12_packed_19 : decode cX12_packed 19 = .ok (.bipush 6, 2) := by decide +kernel
theorem dX12_packed_21 : decode cX12_packed 21 = .ok (.iadd, 1) := by decide +kernel
theorem dX12_packed_22 : decode cX12_packed 22 = .ok (.if_icmp .ge 22, 3) := by decide +kernel
theorem dX12_packed_25 : decode cX12_packed 25 = .ok (.lload 4, 2) := by decide +kernel
theorem dX12_packed_27 : decode cX12_packed 27 = .ok (.aload_n 0, 1) := by decide +kernel
theorem dX12_packed_28 : decode cX12_packed 28 = .ok (.iload 6, 2) := by decide +kernel
theorem dX12_packed_30 : decode cX12_packed 30 = .ok (.invokevirtual 28, 3) := by decide +kernel
theorem dX12_packed_33 : decode cX12_packed 33 = .ok (.invokestatic 76, 3) := by decide +kernel
theorem dX12_packed_36 : decode cX12_packed 36 = .ok (.lstore 4, 2) := by decide +kernel
theorem dX12_packed_38 : decode cX12_packed 38 = .ok (.iinc 6 1, 3) := by decide +kernel
theorem dX12_packed_41 : decode cX12_packed 41 = .ok (.goto (-33), 3) := by decide +kernel
theorem dX12_packed_44 : decode cX12_packed 44 = .ok (.lload 4, 2) := by decide +kernel
theorem dX12_packed_46 : decode cX12_packed 46 = .ok (.lreturn, 1) := by decide +kernel
abbrev cX12_find : ByteArray := prog_14_method_120_code
def yX12_find : MethodName := ⟨RX12, "find", "(I)I"⟩
theorem dX12_find_0 : decode cX12_find 0 = .ok (.aload_n 0, 1) := by decide +kernel
theorem dX12_find_1 : decode cX12_find 1 = .ok (.iload_n 1, 1) := by decide +kernel
theorem dX12_find_2 : decode cX12_find 2 = .ok (.iconst 0, 1) := by decide +kernel
theorem dX12_find_3 : decode cX12_find 3 = .ok (.iconst 4, 1) := by decide +kernel
theorem dX12_find_4 : decode cX12_find 4 = .ok (.invokestatic 732, 3) := by decide +kernel
theorem dX12_find_7 : decode cX12_find 7 = .ok (.ifCond .eq 7, 3) := by decide +kernel
theorem dX12_find_10 : decode cX12_find 10 = .ok (.iconst 0, 1) := by decide +kernel
theorem dX12_find_11 : decode cX12_find 11 = .ok (.goto 4, 3) := by decide +kernel
theorem dX12_find_14 : decode cX12_find 14 = .ok (.iconst 1, 1) := by decide +kernel
theorem dX12_find_15 : decode cX12_find 15 = .ok (.putfield 1, 3) := by decide +kernel
theorem dX12_find_18 : decode cX12_find 18 = .ok (.aload_n 0, 1) := by decide +kernel
theorem dX12_find_19 : decode cX12_find 19 = .ok (.getfield 7, 3) := by decide +kernel
theorem dX12_find_22 : decode cX12_find 22 = .ok (.ifCond .le 23, 3) := by decide +kernel
theorem dX12_find_25 : decode cX12_find 25 = .ok (.aload_n 0, 1) := by decide +kernel
theorem dX12_find_26 : decode cX12_find 26 = .ok (.getfield 7, 3) := by decide +kernel
theorem dX12_find_29 : decode cX12_find 29 = .ok (.bipush 13, 2) := by decide +kernel
theorem dX12_find_31 : decode cX12_find 31 = .ok (.if_icmp .ge 14, 3) := by decide +kernel
theorem dX12_find_34 : decode cX12_find 34 = .ok (.aload_n 0, 1) := by decide +kernel
theorem dX12_find_35 : decode cX12_find 35 = .ok (.getfield 1, 3) := by decide +kernel
theorem dX12_find_38 : decode cX12_find 38 = .ok (.ifCond .ne 7, 3) := by decide +kernel
theorem dX12_find_41 : decode cX12_find 41 = .ok (.iconst 1, 1) := by decide +kernel
theorem dX12_find_42 : decode cX12_find 42 = .ok (.goto 4, 3) := by decide +kernel
theorem dX12_find_45 : decode cX12_find 45 = .ok (.iconst 0, 1) := by decide +kernel
theorem dX12_find_46 : decode cX12_find 46 = .ok (.istore_n 2, 1) := by decide +kernel
theorem dX12_find_47 : decode cX12_find 47 = .ok (.iconst 0, 1) := by decide +kernel
theorem dX12_find_48 : decode cX12_find 48 = .ok (.istore_n 3, 1) := by decide +kernel
theorem dX12_find_49 : decode cX12_find 49 = .ok (.iload_n 3, 1) := by decide +kernel
theorem dX12_find_50 : decode cX12_find 50 = .ok (.aload_n 0, 1) := by decide +kernel
theorem dX12_find_51 : decode cX12_find 51 = .ok (.getfield 7, 3) := by decide +kernel
theorem dX12_find_54 : decode cX12_find 54 = .ok (.if_icmp .ge 28, 3) := by decide +kernel
theorem dX12_find_57 : decode cX12_find 57 = .ok (.iload_n 2, 1) := by decide +kernel
theorem dX12_find_58 : decode cX12_find 58 = .ok (.ifCond .eq 24, 3) := by decide +kernel
theorem dX12_find_61 : decode cX12_find 61 = .ok (.aload_n 0, 1) := by decide +kernel
theorem dX12_find_62 : decode cX12_find 62 = .ok (.getfield 10, 3) := by decide +kernel
theorem dX12_find_65 : decode cX12_find 65 = .ok (.iload_n 3, 1) := by decide +kernel
theorem dX12_find_66 : decode cX12_find 66 = .ok (.iaload, 1) := by decide +kernel
theorem dX12_find_67 : decode cX12_find 67 = .ok (.ifCond .le 7, 3) := by decide +kernel
theorem dX12_find_70 : decode cX12_find 70 = .ok (.iconst 1, 1) := by decide +kernel
theorem dX12_find_71 : decode cX12_find 71 = .ok (.goto 4, 3) := by decide +kernel
theorem dX12_find_74 : decode cX12_find 74 = .ok (.iconst 0, 1) := by decide +kernel
theorem dX12_find_75 : decode cX12_find 75 = .ok (.istore_n 2, 1) := by decide +kernel
theorem dX12_find_76 : decode cX12_find 76 = .ok (.iinc 3 1, 3) := by decide +kernel
theorem dX12_find_79 : decode cX12_find 79 = .ok (.goto (-30), 3) := by decide +kernel
theorem dX12_find_82 : decode cX12_find 82 = .ok (.iload_n 2, 1) := by decide +kernel
theorem dX12_find_83 : decode cX12_find 83 = .ok (.ifCond .ne 16, 3) := by decide +kernel
theorem dX12_find_86 : decode cX12_find 86 = .ok (.aload_n 0, 1) := by decide +kernel
theorem dX12_find_87 : decode cX12_find 87 = .ok (.getfield 1, 3) := by decide +kernel
theorem dX12_find_90 : decode cX12_find 90 = .ok (.ifCond .le 7, 3) := by decide +kernel
theorem dX12_find_93 : decode cX12_find 93 = .ok (.iconst 0, 1) := by decide +kernel
theorem dX12_find_94 : decode cX12_find 94 = .ok (.goto 4, 3) := by decide +kernel
theorem dX12_find_97 : decode cX12_find 97 = .ok (.iconst (-1), 1) := by decide +kernel
theorem dX12_find_98 : decode cX12_find 98 = .ok (.ireturn, 1) := by decide +kernel
theorem dX12_find_99 : decode cX12_find 99 = .ok (.aload_n 0, 1) := by decide +kernel
theorem dX12_find_100 : decode cX12_find 100 = .ok (.iconst 0, 1) := by decide +kernel
theorem dX12_find_101 : decode cX12_find 101 = .ok (.aload_n 0, 1) := by decide +kernel
theorem dX12_find_102 : decode cX12_find 102 = .ok (.getfield 7, 3) := by decide +kernel
theorem dX12_find_105 : decode cX12_find 105 = .ok (.iconst 0, 1) := by decide +kernel
theorem dX12_find_106 : decode cX12_find 106 = .ok (.invokevirtual 69, 3) := by decide +kernel
theorem dX12_find_109 : decode cX12_find 109 = .ok (.lstore_n 3, 1) := by decide +kernel
theorem dX12_find_110 : decode cX12_find 110 = .ok (.aload_n 0, 1) := by decide +kernel
theorem dX12_find_111 : decode cX12_find 111 = .ok (.iconst 0, 1) := by decide +kernel
theorem dX12_find_112 : decode cX12_find 112 = .ok (.aload_n 0, 1) := by decide +kernel
theorem dX12_find_113 : decode cX12_find 113 = .ok (.getfield 7, 3) := by decide +kernel
theorem dX12_find_116 : decode cX12_find 116 = .ok (.bipush 6, 2) := by decide +kernel
theorem dX12_find_118 : decode cX12_find 118 = .ok (.invokevirtual 69, 3) := by decide +kernel
theorem dX12_find_121 : decode cX12_find 121 = .ok (.lstore 5, 2) := by decide +kernel
theorem dX12_find_123 : decode cX12_find 123 = .ok (.iload_n 1, 1) := by decide +kernel
theorem dX12_find_124 : decode cX12_find 124 = .ok (.ifCond .ne 15, 3) := by decide +kernel
theorem dX12_find_127 : decode cX12_find 127 = .ok (.aload_n 0, 1) := by decide +kernel
theorem dX12_find_128 : decode cX12_find 128 = .ok (.getfield 266, 3) := by decide +kernel
theorem dX12_find_131 : decode cX12_find 131 = .ok (.aload_n 0, 1) := by decide +kernel
theorem dX12_find_132 : decode cX12_find 132 = .ok (.getfield 581, 3) := by decide +kernel
theorem dX12_find_135 : decode cX12_find 135 = .ok (.iaload, 1) := by decide +kernel
theorem dX12_find_136 : decode cX12_find 136 = .ok (.goto 63, 3) := by decide +kernel
theorem dX12_find_139 : decode cX12_find 139 = .ok (.iload_n 1, 1) := by decide +kernel
theorem dX12_find_140 : decode cX12_find 140 = .ok (.iconst 1, 1) := by decide +kernel
theorem dX12_find_141 : decode cX12_find 141 = .ok (.if_icmp .ne 15, 3) := by decide +kernel
theorem dX12_find_144 : decode cX12_find 144 = .ok (.aload_n 0, 1) := by decide +kernel
theorem dX12_find_145 : decode cX12_find 145 = .ok (.getfield 384, 3) := by decide +kernel
theorem dX12_find_148 : decode cX12_find 148 = .ok (.aload_n 0, 1) := by decide +kernel
theorem dX12_find_149 : decode cX12_find 149 = .ok (.getfield 581, 3) := by decide +kernel
theorem dX12_find_152 : decode cX12_find 152 = .ok (.iaload, 1) := by decide +kernel
theorem dX12_find_153 : decode cX12_find 153 = .ok (.goto 46, 3) := by decide +kernel
theorem dX12_find_156 : decode cX12_find 156 = .ok (.iload_n 1, 1) := by decide +kernel
theorem dX12_find_157 : decode cX12_find 157 = .ok (.iconst 2, 1) := by decide +kernel
theorem dX12_find_158 : decode cX12_find 158 = .ok (.if_icmp .ne 15, 3) := by decide +kernel
theorem dX12_find_161 : decode cX12_find 161 = .ok (.aload_n 0, 1) := by decide +kernel
theorem dX12_find_162 : decode cX12_find 162 = .ok (.getfield 399, 3) := by decide +kernel
theorem dX12_find_165 : decode cX12_find 165 = .ok (.aload_n 0, 1) := by decide +kernel
theorem dX12_find_166 : decode cX12_find 166 = .ok (.getfield 581, 3) := by decide +kernel
theorem dX12_find_169 : decode cX12_find 169 = .ok (.iaload, 1) := by decide +kernel
theorem dX12_find_170 : decode cX12_find 170 = .ok (.goto 29, 3) := by decide +kernel
theorem dX12_find_173 : decode cX12_find 173 = .ok (.iload_n 1, 1) := by decide +kernel
theorem dX12_find_174 : decode cX12_find 174 = .ok (.iconst 3, 1) := by decide +kernel
theorem dX12_find_175 : decode cX12_find 175 = .ok (.if_icmp .ne 15, 3) := by decide +kernel
theorem dX12_find_178 : decode cX12_find 178 = .ok (.aload_n 0, 1) := by decide +kernel
theorem dX12_find_179 : decode cX12_find 179 = .ok (.getfield 343, 3) := by decide +kernel
theorem dX12_find_182 : decode cX12_find 182 = .ok (.aload_n 0, 1) := by decide +kernel
theorem dX12_find_183 : decode cX12_find 183 = .ok (.getfield 581, 3) := by decide +kernel
theorem dX12_find_186 : decode cX12_find 186 = .ok (.iaload, 1) := by decide +kernel
theorem dX12_find_187 : decode cX12_find 187 = .ok (.goto 12, 3) := by decide +kernel
theorem dX12_find_190 : decode cX12_find 190 = .ok (.aload_n 0, 1) := by decide +kernel
theorem dX12_find_191 : decode cX12_find 191 = .ok (.getfield 340, 3) := by decide +kernel
theorem dX12_find_194 : decode cX12_find 194 = .ok (.aload_n 0, 1) := by decide +kernel
theorem dX12_find_195 : decode cX12_find 195 = .ok (.getfield 581, 3) := by decide +kernel
theorem dX12_find_198 : decode cX12_find 198 = .ok (.iaload, 1) := by decide +kernel
theorem dX12_find_199 : decode cX12_find 199 = .ok (.istore 7, 2) := by decide +kernel
theorem dX12_find_201 : decode cX12_find 201 = .ok (.iconst 0, 1) := by decide +kernel
theorem dX12_find_202 : decode cX12_find 202 = .ok (.istore 8, 2) := by decide +kernel
theorem dX12_find_204 : decode cX12_find 204 = .ok (.iload 8, 2) := by decide +kernel
theorem dX12_find_206 : decode cX12_find 206 = .ok (.iload 7, 2) := by decide +kernel
theorem dX12_find_208 : decode cX12_find 208 = .ok (.if_icmp .ge 251, 3) := by decide +kernel
theorem dX12_find_211 : decode cX12_find 211 = .ok (.iload_n 1, 1) := by decide +kernel
theorem dX12_find_212 : decode cX12_find 212 = .ok (.ifCond .ne 22, 3) := by decide +kernel
theorem dX12_find_215 : decode cX12_find 215 = .ok (.aload_n 0, 1) := by decide +kernel
theorem dX12_find_216 : decode cX12_find 216 = .ok (.getfield 287, 3) := by decide +kernel
theorem dX12_find_219 : decode cX12_find 219 = .ok (.sipush 160, 3) := by decide +kernel
theorem dX12_find_222 : decode cX12_find 222 = .ok (.aload_n 0, 1) := by decide +kernel
theorem dX12_find_223 : decode cX12_find 223 = .ok (.getfield 581, 3) := by decide +kernel
theorem dX12_find_226 : decode cX12_find 226 = .ok (.imul, 1) := by decide +kernel
theorem dX12_find_227 : decode cX12_find 227 = .ok (.iload 8, 2) := by decide +kernel
theorem dX12_find_229 : decode cX12_find 229 = .ok (.iadd, 1) := by decide +kernel
theorem dX12_find_230 : decode cX12_find 230 = .ok (.laload, 1) := by decide +kernel
theorem dX12_find_231 : decode cX12_find 231 = .ok (.goto 90, 3) := by decide +kernel
theorem dX12_find_234 : decode cX12_find 234 = .ok (.iload_n 1, 1) := by decide +kernel
theorem dX12_find_235 : decode cX12_find 235 = .ok (.iconst 1, 1) := by decide +kernel
theorem dX12_find_236 : decode cX12_find 236 = .ok (.if_icmp .ne 21, 3) := by decide +kernel
theorem dX12_find_239 : decode cX12_find 239 = .ok (.aload_n 0, 1) := by decide +kernel
theorem dX12_find_240 : decode cX12_find 240 = .ok (.getfield 393, 3) := by decide +kernel
theorem dX12_find_243 : decode cX12_find 243 = .ok (.bipush 24, 2) := by decide +kernel
theorem dX12_find_245 : decode cX12_find 245 = .ok (.aload_n 0, 1) := by decide +kernel
theorem dX12_find_246 : decode cX12_find 246 = .ok (.getfield 581, 3) := by decide +kernel
theorem dX12_find_249 : decode cX12_find 249 = .ok (.imul, 1) := by decide +kernel
theorem dX12_find_250 : decode cX12_find 250 = .ok (.iload 8, 2) := by decide +kernel
theorem dX12_find_252 : decode cX12_find 252 = .ok (.iadd, 1) := by decide +kernel
theorem dX12_find_253 : decode cX12_find 253 = .ok (.laload, 1) := by decide +kernel
theorem dX12_find_254 : decode cX12_find 254 = .ok (.goto 67, 3) := by decide +kernel
theorem dX12_find_257 : decode cX12_find 257 = .ok (.iload_n 1, 1) := by decide +kernel
theorem dX12_find_258 : decode cX12_find 258 = .ok (.iconst 2, 1) := by decide +kernel
theorem dX12_find_259 : decode cX12_find 259 = .ok (.if_icmp .ne 21, 3) := by decide +kernel
theorem dX12_find_262 : decode cX12_find 262 = .ok (.aload_n 0, 1) := by decide +kernel
theorem dX12_find_263 : decode cX12_find 263 = .ok (.getfield 411, 3) := by decide +kernel
theorem dX12_find_266 : decode cX12_find 266 = .ok (.bipush 8, 2) := by decide +kernel
theorem dX12_find_268 : decode cX12_find 268 = .ok (.aload_n 0, 1) := by decide +kernel
theorem dX12_find_269 : decode cX12_find 269 = .ok (.getfield 581, 3) := by decide +kernel
theorem dX12_find_272 : decode cX12_find 272 = .ok (.imul, 1) := by decide +kernel
theorem dX12_find_273 : decode cX12_find 273 = .ok (.iload 8, 2) := by decide +kernel
theorem dX12_find_275 : decode cX12_find 275 = .ok (.iadd, 1) := by decide +kernel
theorem dX12_find_276 : decode cX12_find 276 = .ok (.laload, 1) := by decide +kernel
theorem dX12_find_277 : decode cX12_find 277 = .ok (.goto 44, 3) := by decide +kernel
theorem dX12_find_280 : decode cX12_find 280 = .ok (.iload_n 1, 1) := by decide +kernel
theorem dX12_find_281 : decode cX12_find 281 = .ok (.iconst 3, 1) := by decide +kernel
theorem dX12_find_282 : decode cX12_find 282 = .ok (.if_icmp .ne 21, 3) := by decide +kernel
theorem dX12_find_285 : decode cX12_find 285 = .ok (.aload_n 0, 1) := by decide +kernel
theorem dX12_find_286 : decode cX12_find 286 = .ok (.getfield 349, 3) := by decide +kernel
theorem dX12_find_289 : decode cX12_find 289 = .ok (.bipush 24, 2) := by decide +kernel
theorem dX12_find_291 : decode cX12_find 291 = .ok (.aload_n 0, 1) := by decide +kernel
theorem dX12_find_292 : decode cX12_find 292 = .ok (.getfield 581, 3) := by decide +kernel
theorem dX12_find_295 : decode cX12_find 295 = .ok (.imul, 1) := by decide +kernel
theorem dX12_find_296 : decode cX12_find 296 = .ok (.iload 8, 2) := by decide +kernel
theorem dX12_find_298 : decode cX12_find 298 = .ok (.iadd, 1) := by decide +kernel
theorem dX12_find_299 : decode cX12_find 299 = .ok (.laload, 1) := by decide +kernel
theorem dX12_find_300 : decode cX12_find 300 = .ok (.goto 21, 3) := by decide +kernel
theorem dX12_find_303 : decode cX12_find 303 = .ok (.aload_n 0, 1) := by decide +kernel
theorem dX12_find_304 : decode cX12_find 304 = .ok (.getfield 349, 3) := by decide +kernel
theorem dX12_find_307 : decode cX12_find 307 = .ok (.bipush 24, 2) := by decide +kernel
theorem dX12_find_309 : decode cX12_find 309 = .ok (.aload_n 0, 1) := by decide +kernel
theorem dX12_find_310 : decode cX12_find 310 = .ok (.getfield 581, 3) := by decide +kernel
theorem dX12_find_313 : decode cX12_find 313 = .ok (.imul, 1) := by decide +kernel
theorem dX12_find_314 : decode cX12_find 314 = .ok (.bipush 8, 2) := by decide +kernel
theorem dX12_find_316 : decode cX12_find 316 = .ok (.iadd, 1) := by decide +kernel
theorem dX12_find_317 : decode cX12_find 317 = .ok (.iload 8, 2) := by decide +kernel
theorem dX12_find_319 : decode cX12_find 319 = .ok (.iadd, 1) := by decide +kernel
theorem dX12_find_320 : decode cX12_find 320 = .ok (.laload, 1) := by decide +kernel
theorem dX12_find_321 : decode cX12_find 321 = .ok (.lstore 9, 2) := by decide +kernel
theorem dX12_find_323 : decode cX12_find 323 = .ok (.iload_n 1, 1) := by decide +kernel
theorem dX12_find_324 : decode cX12_find 324 = .ok (.ifCond .ne 22, 3) := by decide +kernel
theorem dX12_find_327 : decode cX12_find 327 = .ok (.aload_n 0, 1) := by decide +kernel
theorem dX12_find_328 : decode cX12_find 328 = .ok (.getfield 290, 3) := by decide +kernel
theorem dX12_find_331 : decode cX12_find 331 = .ok (.sipush 160, 3) := by decide +kernel
theorem dX12_find_334 : decode cX12_find 334 = .ok (.aload_n 0, 1) := by decide +kernel
theorem dX12_find_335 : decode cX12_find 335 = .ok (.getfield 581, 3) := by decide +kernel
theorem dX12_find_338 : decode cX12_find 338 = .ok (.imul, 1) := by decide +kernel
theorem dX12_find_339 : decode cX12_find 339 = .ok (.iload 8, 2) := by decide +kernel
theorem dX12_find_341 : decode cX12_find 341 = .ok (.iadd, 1) := by decide +kernel
theorem dX12_find_342 : decode cX12_find 342 = .ok (.laload, 1) := by decide +kernel
theorem dX12_find_343 : decode cX12_find 343 = .ok (.goto 90, 3) := by decide +kernel
theorem dX12_find_346 : decode cX12_find 346 = .ok (.iload_n 1, 1) := by decide +kernel
theorem dX12_find_347 : decode cX12_find 347 = .ok (.iconst 1, 1) := by decide +kernel
theorem dX12_find_348 : decode cX12_find 348 = .ok (.if_icmp .ne 21, 3) := by decide +kernel
theorem dX12_find_351 : decode cX12_find 351 = .ok (.aload_n 0, 1) := by decide +kernel
theorem dX12_find_352 : decode cX12_find 352 = .ok (.getfield 396, 3) := by decide +kernel
theorem dX12_find_355 : decode cX12_find 355 = .ok (.bipush 24, 2) := by decide +kernel
theorem dX12_find_357 : decode cX12_find 357 = .ok (.aload_n 0, 1) := by decide +kernel
theorem dX12_find_358 : decode cX12_find 358 = .ok (.getfield 581, 3) := by decide +kernel
theorem dX12_find_361 : decode cX12_find 361 = .ok (.imul, 1) := by decide +kernel
theorem dX12_find_362 : decode cX12_find 362 = .ok (.iload 8, 2) := by decide +kernel
theorem dX12_find_364 : decode cX12_find 364 = .ok (.iadd, 1) := by decide +kernel
theorem dX12_find_365 : decode cX12_find 365 = .ok (.laload, 1) := by decide +kernel
theorem dX12_find_366 : decode cX12_find 366 = .ok (.goto 67, 3) := by decide +kernel
theorem dX12_find_369 : decode cX12_find 369 = .ok (.iload_n 1, 1) := by decide +kernel
theorem dX12_find_370 : decode cX12_find 370 = .ok (.iconst 2, 1) := by decide +kernel
theorem dX12_find_371 : decode cX12_find 371 = .ok (.if_icmp .ne 21, 3) := by decide +kernel
theorem dX12_find_374 : decode cX12_find 374 = .ok (.aload_n 0, 1) := by decide +kernel
theorem dX12_find_375 : decode cX12_find 375 = .ok (.getfield 414, 3) := by decide +kernel
theorem dX12_find_378 : decode cX12_find 378 = .ok (.bipush 8, 2) := by decide +kernel
theorem dX12_find_380 : decode cX12_find 380 = .ok (.aload_n 0, 1) := by decide +kernel
theorem dX12_find_381 : decode cX12_find 381 = .ok (.getfield 581, 3) := by decide +kernel
theorem dX12_find_384 : decode cX12_find 384 = .ok (.imul, 1) := by decide +kernel
theorem dX12_find_385 : decode cX12_find 385 = .ok (.iload 8, 2) := by decide +kernel
theorem dX12_find_387 : decode cX12_find 387 = .ok (.iadd, 1) := by decide +kernel
theorem dX12_find_388 : decode cX12_find 388 = .ok (.laload, 1) := by decide +kernel
theorem dX12_find_389 : decode cX12_find 389 = .ok (.goto 44, 3) := by decide +kernel
theorem dX12_find_392 : decode cX12_find 392 = .ok (.iload_n 1, 1) := by decide +kernel
theorem dX12_find_393 : decode cX12_find 393 = .ok (.iconst 3, 1) := by decide +kernel
theorem dX12_find_394 : decode cX12_find 394 = .ok (.if_icmp .ne 21, 3) := by decide +kernel
theorem dX12_find_397 : decode cX12_find 397 = .ok (.aload_n 0, 1) := by decide +kernel
theorem dX12_find_398 : decode cX12_find 398 = .ok (.getfield 352, 3) := by decide +kernel
theorem dX12_find_401 : decode cX12_find 401 = .ok (.bipush 24, 2) := by decide +kernel
theorem dX12_find_403 : decode cX12_find 403 = .ok (.aload_n 0, 1) := by decide +kernel
theorem dX12_find_404 : decode cX12_find 404 = .ok (.getfield 581, 3) := by decide +kernel
theorem dX12_find_407 : decode cX12_find 407 = .ok (.imul, 1) := by decide +kernel
theorem dX12_find_408 : decode cX12_find 408 = .ok (.iload 8, 2) := by decide +kernel
theorem dX12_find_410 : decode cX12_find 410 = .ok (.iadd, 1) := by decide +kernel
theorem dX12_find_411 : decode cX12_find 411 = .ok (.laload, 1) := by decide +kernel
theorem dX12_find_412 : decode cX12_find 412 = .ok (.goto 21, 3) := by decide +kernel
theorem dX12_find_415 : decode cX12_find 415 = .ok (.aload_n 0, 1) := by decide +kernel
theorem dX12_find_416 : decode cX12_find 416 = .ok (.getfield 352, 3) := by decide +kernel
theorem dX12_find_419 : decode cX12_find 419 = .ok (.bipush 24, 2) := by decide +kernel
theorem dX12_find_421 : decode cX12_find 421 = .ok (.aload_n 0, 1) := by decide +kernel
theorem dX12_find_422 : decode cX12_find 422 = .ok (.getfield 581, 3) := by decide +kernel
theorem dX12_find_425 : decode cX12_find 425 = .ok (.imul, 1) := by decide +kernel
theorem dX12_find_426 : decode cX12_find 426 = .ok (.bipush 8, 2) := by decide +kernel
theorem dX12_find_428 : decode cX12_find 428 = .ok (.iadd, 1) := by decide +kernel
theorem dX12_find_429 : decode cX12_find 429 = .ok (.iload 8, 2) := by decide +kernel
theorem dX12_find_431 : decode cX12_find 431 = .ok (.iadd, 1) := by decide +kernel
theorem dX12_find_432 : decode cX12_find 432 = .ok (.laload, 1) := by decide +kernel
theorem dX12_find_433 : decode cX12_find 433 = .ok (.lstore 11, 2) := by decide +kernel
theorem dX12_find_435 : decode cX12_find 435 = .ok (.lload 9, 2) := by decide +kernel
theorem dX12_find_437 : decode cX12_find 437 = .ok (.lload_n 3, 1) := by decide +kernel
theorem dX12_find_438 : decode cX12_find 438 = .ok (.lcmp, 1) := by decide +kernel
theorem dX12_find_439 : decode cX12_find 439 = .ok (.ifCond .ne 14, 3) := by decide +kernel
theorem dX12_find_442 : decode cX12_find 442 = .ok (.lload 11, 2) := by decide +kernel
theorem dX12_find_444 : decode cX12_find 444 = .ok (.lload 5, 2) := by decide +kernel
theorem dX12_find_446 : decode cX12_find 446 = .ok (.lcmp, 1) := by decide +kernel
theorem dX12_find_447 : decode cX12_find 447 = .ok (.ifCond .ne 6, 3) := by decide +kernel
theorem dX12_find_450 : decode cX12_find 450 = .ok (.iload 8, 2) := by decide +kernel
theorem dX12_find_452 : decode cX12_find 452 = .ok (.ireturn, 1) := by decide +kernel
theorem dX12_find_453 : decode cX12_find 453 = .ok (.iinc 8 1, 3) := by decide +kernel
theorem dX12_find_456 : decode cX12_find 456 = .ok (.goto (-252), 3) := by decide +kernel
theorem dX12_find_459 : decode cX12_find 459 = .ok (.iconst (-1), 1) := by decide +kernel
theorem dX12_find_460 : decode cX12_find 460 = .ok (.ireturn, 1) := by decide +kernel
theorem gs_7_12 : Cond.selects "SoftControllerModel" ⟨"SoftControllerModel", "packed", "(III)J"⟩ ⟨"SoftControllerModel", "packed", "(III)J"⟩ ∈ GW := gw_s (List.mem_map.mpr ⟨_, pin_7 _ (List.mem_of_getElem? (i := 12) rfl), rfl⟩) rfl
theorem gs_7_13 : Cond.selects "SoftControllerModel" ⟨"SoftControllerModel", "figures", "(I)I"⟩ ⟨"SoftControllerModel", "figures", "(I)I"⟩ ∈ GW := gw_s (List.mem_map.mpr ⟨_, pin_7 _ (List.mem_of_getElem? (i := 13) rfl), rfl⟩) rfl
theorem gw_2277 : (Jvm.Cond.methodLink "SoftControllerModel" (49 : Nat) ({ cls := "SoftControllerModel", name := "isLetter", desc := "(I)Z" } : Jvm.MethodName)) ∈ GW := gw_t (tin_10 _ (List.mem_of_getElem? (i := 117) rfl)) rfl
theorem gw_2278 : (Jvm.Cond.static ({ cls := "SoftControllerModel", name := "isLetter", desc := "(I)Z" } : Jvm.MethodName)) ∈ GW := gw_t (tin_10 _ (List.mem_of_getElem? (i := 118) rfl)) rfl
theorem gw_2284 : (Jvm.Cond.methodLink "SoftControllerModel" (14 : Nat) ({ cls := "SoftControllerModel", name := "isDigit", desc := "(I)Z" } : Jvm.MethodName)) ∈ GW := gw_t (tin_10 _ (List.mem_of_getElem? (i := 124) rfl)) rfl
theorem gw_2285 : (Jvm.Cond.static ({ cls := "SoftControllerModel", name := "isDigit", desc := "(I)Z" } : Jvm.MethodName)) ∈ GW := gw_t (tin_10 _ (List.mem_of_getElem? (i := 125) rfl)) rfl
theorem gw_2294 : (Jvm.Cond.methodLink "SoftControllerModel" (69 : Nat) ({ cls := "SoftControllerModel", name := "packed", desc := "(III)J" } : Jvm.MethodName)) ∈ GW := gw_t (tin_10 _ (List.mem_of_getElem? (i := 134) rfl)) rfl
theorem gw_2296 : (Jvm.Cond.instanceMethod ({ cls := "SoftControllerModel", name := "packed", desc := "(III)J" } : Jvm.MethodName)) ∈ GW := gw_t (tin_10 _ (List.mem_of_getElem? (i := 136) rfl)) rfl
theorem gw_2297 : (Jvm.Cond.code ({ cls := "SoftControllerModel", name := "packed", desc := "(III)J" } : Jvm.MethodName) prog_14_method_11_code (7 : Nat) (Option.some Jvm.ClassFile.FieldType.long)) ∈ GW := gw_t (tin_10 _ (List.mem_of_getElem? (i := 137) rfl)) rfl
theorem gw_2298 : (Jvm.Cond.methodLink "SoftControllerModel" (76 : Nat) ({ cls := "SoftControllerModel", name := "half", desc := "(JI)J" } : Jvm.MethodName)) ∈ GW := gw_t (tin_10 _ (List.mem_of_getElem? (i := 138) rfl)) rfl
theorem gw_2299 : (Jvm.Cond.static ({ cls := "SoftControllerModel", name := "half", desc := "(JI)J" } : Jvm.MethodName)) ∈ GW := gw_t (tin_10 _ (List.mem_of_getElem? (i := 139) rfl)) rfl
theorem gw_2301 : (Jvm.Cond.methodLink "SoftControllerModel" (55 : Nat) ({ cls := "SoftControllerModel", name := "figures", desc := "(I)I" } : Jvm.MethodName)) ∈ GW := gw_t (tin_10 _ (List.mem_of_getElem? (i := 141) rfl)) rfl
theorem gw_2303 : (Jvm.Cond.instanceMethod ({ cls := "SoftControllerModel", name := "figures", desc := "(I)I" } : Jvm.MethodName)) ∈ GW := gw_t (tin_10 _ (List.mem_of_getElem? (i := 143) rfl)) rfl
theorem gw_2304 : (Jvm.Cond.code ({ cls := "SoftControllerModel", name := "figures", desc := "(I)I" } : Jvm.MethodName) prog_14_method_12_code (14 : Nat) (Option.some Jvm.ClassFile.FieldType.int)) ∈ GW := gw_t (tin_10 _ (List.mem_of_getElem? (i := 144) rfl)) rfl
theorem gw_2305 : (Jvm.Cond.methodLink "SoftControllerModel" (80 : Nat) ({ cls := "SoftControllerModel", name := "hex", desc := "(I)I" } : Jvm.MethodName)) ∈ GW := gw_t (tin_10 _ (List.mem_of_getElem? (i := 145) rfl)) rfl
theorem gw_2306 : (Jvm.Cond.static ({ cls := "SoftControllerModel", name := "hex", desc := "(I)I" } : Jvm.MethodName)) ∈ GW := gw_t (tin_10 _ (List.mem_of_getElem? (i := 146) rfl)) rfl
theorem gw_2308 : (Jvm.Cond.constantLong "SoftControllerModel" (83 : Nat) (922337203685477580 : Int64)) ∈ GW := gw_t (tin_10 _ (List.mem_of_getElem? (i := 148) rfl)) rfl
theorem gw_2309 : (Jvm.Cond.constantLong "SoftControllerModel" (85 : Nat) (10 : Int64)) ∈ GW := gw_t (tin_10 _ (List.mem_of_getElem? (i := 149) rfl)) rfl
theorem gw_2310 : (Jvm.Cond.constantLong "SoftControllerModel" (87 : Nat) (2147483647 : Int64)) ∈ GW := gw_t (tin_10 _ (List.mem_of_getElem? (i := 150) rfl)) rfl
theorem gwp_X12_half : ∀ w ∈ wsX12_half, w ∈ GW := gwl [2300] (by decide +kernel) (by decide +kernel)
theorem gwp_X12_hex : ∀ w ∈ wsX12_hex, w ∈ GW := gwl [2307, 2284, 2285, 16, 2286] (by decide +kernel) (by decide +kernel)
theorem gwp_X12_isDigit : ∀ w ∈ wsX12_isDigit, w ∈ GW := gwl [2286] (by decide +kernel) (by decide +kernel)
theorem gwp_X12_isLetter : ∀ w ∈ wsX12_isLetter, w ∈ GW := gwl [2279] (by decide +kernel) (by decide +kernel)
section FiguresRows
variable {p : Program} {l : Launch} {e : Env} {R : Room} {s : State} {m : MethodId} {args : Array Value} {below : List Frame} {meth : Method} {c : Code} {H : Heap} {locs : List Loc} {Q : State → Prop}
variable {ls : Array Slot} {D : va_G} {kA : Nat → ClassId} {V Z : Nat → Nat} {A : Nat → Prop} {N d : Nat} {w : RSt}
def B_figures_75 (N : Nat) (R_43 : Int32 × Int32 × Int32 × RSt → Option (Int32 × RSt)) (l2 : Int32) (l3 : Int32) (l4 : Int32) (u : RSt) : Option (Int32 × RSt) := R_43 (l2, l3, (l4 + 1), u)
set_option maxHeartbeats 4000000 in
theorem b_figures_75 {r : Int32} (X : RC p s m args c cX12_figures 14 (Cond.code yX12_figures cX12_figures 14 (some .int)) D kA V A) (hE : REi p l e R s m args below meth c cX12_figures D kA Z A Q r w) (hF : 2 ≤ R.frames) (hL : 40 ≤ R.locals) {R_43 : Int32 × Int32 × Int32 × RSt → Option (Int32 × RSt)} {l2 : Int32} {l3 : Int32} {l4 : Int32} (hR_43 : ∀ (l2 : Int32) (l3 : Int32) (l4 : Int32) (u : RSt), R_43 (l2, l3, l4, u) = some (r, w) → ∀ (H : Heap) (locs : List Loc) (ls : Array Slot), RS D kA Z A s u H locs → lv_has ls 14 [(0, .ref (Z 200)), (2, .int l2), (3, .int l3), (4, .int l4)] → W p l e R s m args below meth c H locs 0 0 Q (F0 m 43 ls [])) {u : RSt} (h : B_figures_75 N R_43 l2 l3 l4 u = some (r, w)) (hS : RS D kA Z A s u H locs) (hl : lv_has ls 14 [(0, .ref (Z 200)), (2, .int l2), (3, .int l3), (4, .int l4)]) : W p l e R s m args below meth c H locs 0 0 Q (F0 m 75 ls []) := by
  obtain ⟨⟨hx, hb, hml, hown, hts⟩, hK, hEV, hA⟩ := id X
  have hG : ∀ w ∈ GW, w.before args s = true := fun w h => hts w (List.mem_cons_of_mem _ h)
  unfold B_figures_75 at h
  refine lv_iinc (v := l4 + 1) (lv' := [(4, .int (l4 + 1)), (0, .ref (Z 200)), (2, .int l2), (3, .int l3)]) hx hb dX12_figures_75 hl (k := 3) rfl rfl (by decide) rfl (fun ls hl => ?_)
  refine lv_goto (tgt := 43) hx hb dX12_figures_78 (by decide) ?_
  exact hR_43 _ _ _ _ h _ _ _ hS (lv_sub hl [1, 2, 3, 0] rfl)
def B_figures_294 (N : Nat) (R_210 : Int32 × Int32 × Int32 × Int32 × Int64 × Int32 × Int32 × RSt → Option (Int32 × RSt)) (l2 : Int32) (l4 : Int32) (l6 : Int32) (l7 : Int32) (l11 : Int32) (l12 : Int32) (s0 : Int64) (u : RSt) : Option (Int32 × RSt) := R_210 (l2, l4, l6, l7, s0, l11, (l12 + 1), u)
set_option maxHeartbeats 4000000 in
theorem b_figures_294 {r : Int32} (X : RC p s m args c cX12_figures 14 (Cond.code yX12_figures cX12_figures 14 (some .int)) D kA V A) (hE : REi p l e R s m args below meth c cX12_figures D kA Z A Q r w) (hF : 2 ≤ R.frames) (hL : 40 ≤ R.locals) {R_210 : Int32 × Int32 × Int32 × Int32 × Int64 × Int32 × Int32 × RSt → Option (Int32 × RSt)} {l2 : Int32} {l4 : Int32} {l6 : Int32} {l7 : Int32} {l11 : Int32} {l12 : Int32} {s0 : Int64} (hR_210 : ∀ (l2 : Int32) (l4 : Int32) (l6 : Int32) (l7 : Int32) (l9 : Int64) (l11 : Int32) (l12 : Int32) (u : RSt), R_210 (l2, l4, l6, l7, l9, l11, l12, u) = some (r, w) → ∀ (H : Heap) (locs : List Loc) (ls : Array Slot), RS D kA Z A s u H locs → lv_has ls 14 [(0, .ref (Z 200)), (2, .int l2), (4, .int l4), (6, .int l6), (7, .int l7), (9, .long l9), (11, .int l11), (12, .int l12)] → W p l e R s m args below meth c H locs 0 0 Q (F0 m 210 ls [])) {u : RSt} (h : B_figures_294 N R_210 l2 l4 l6 l7 l11 l12 s0 u = some (r, w)) (hS : RS D kA Z A s u H locs) (hl : lv_has ls 14 [(0, .ref (Z 200)), (2, .int l2), (4, .int l4), (6, .int l6), (7, .int l7), (11, .int l11), (12, .int l12)]) : W p l e R s m args below meth c H locs 0 0 Q (F0 m 294 ls [.long s0]) := by
  obtain ⟨⟨hx, hb, hml, hown, hts⟩, hK, hEV, hA⟩ := id X
  have hG : ∀ w ∈ GW, w.before args s = true := fun w h => hts w (List.mem_cons_of_mem _ h)
  unfold B_figures_294 at h
  refine lv_lstore (lv' := [(9, .long s0), (0, .ref (Z 200)), (2, .int l2), (4, .int l4), (6, .int l6), (7, .int l7), (11, .int l11), (12, .int l12)]) hx hb dX12_figures_294 hl (by decide) rfl (fun ls hl => ?_)
  refine lv_iinc (v := l12 + 1) (lv' := [(12, .int (l12 + 1)), (9, .long s0), (0, .ref (Z 200)), (2, .int l2), (4, .int l4), (6, .int l6), (7, .int l7), (11, .int l11)]) hx hb dX12_figures_296 hl (k := 7) rfl rfl (by decide) rfl (fun ls hl => ?_)
  refine lv_goto (tgt := 210) hx hb dX12_figures_299 (by decide) ?_
  exact hR_210 _ _ _ _ _ _ _ _ h _ _ _ hS (lv_sub hl [2, 3, 4, 5, 6, 1, 7, 0] rfl)
def B_figures_267 (N : Nat) (R_210 : Int32 × Int32 × Int32 × Int32 × Int64 × Int32 × Int32 × RSt → Option (Int32 × RSt)) (l2 : Int32) (l4 : Int32) (l6 : Int32) (l7 : Int32) (l9 : Int64) (l12 : Int32) (l13 : Int32) (s0 : Int32) (u : RSt) : Option (Int32 × RSt) := if l2 = (0 : Int32) then (B_figures_294 N R_210 l2 l4 l6 l7 s0 l12 ((10 * l9) + l13.toInt64) u) else (B_figures_294 N R_210 l2 l4 l6 l7 s0 l12 ((l9 <<< ((4 : Int32).toInt64 &&& 63)) ||| l13.toInt64) u)
set_option maxHeartbeats 4000000 in
theorem b_figures_267 {r : Int32} (X : RC p s m args c cX12_figures 14 (Cond.code yX12_figures cX12_figures 14 (some .int)) D kA V A) (hE : REi p l e R s m args below meth c cX12_figures D kA Z A Q r w) (hF : 2 ≤ R.frames) (hL : 40 ≤ R.locals) {R_210 : Int32 × Int32 × Int32 × Int32 × Int64 × Int32 × Int32 × RSt → Option (Int32 × RSt)} {l2 : Int32} {l4 : Int32} {l6 : Int32} {l7 : Int32} {l9 : Int64} {l12 : Int32} {l13 : Int32} {s0 : Int32} (hR_210 : ∀ (l2 : Int32) (l4 : Int32) (l6 : Int32) (l7 : Int32) (l9 : Int64) (l11 : Int32) (l12 : Int32) (u : RSt), R_210 (l2, l4, l6, l7, l9, l11, l12, u) = some (r, w) → ∀ (H : Heap) (locs : List Loc) (ls : Array Slot), RS D kA Z A s u H locs → lv_has ls 14 [(0, .ref (Z 200)), (2, .int l2), (4, .int l4), (6, .int l6), (7, .int l7), (9, .long l9), (11, .int l11), (12, .int l12)] → W p l e R s m args below meth c H locs 0 0 Q (F0 m 210 ls [])) {u : RSt} (h : B_figures_267 N R_210 l2 l4 l6 l7 l9 l12 l13 s0 u = some (r, w)) (hS : RS D kA Z A s u H locs) (hl : lv_has ls 14 [(0, .ref (Z 200)), (2, .int l2), (4, .int l4), (6, .int l6), (7, .int l7), (9, .long l9), (12, .int l12), (13, .int l13)]) : W p l e R s m args below meth c H locs 0 0 Q (F0 m 267 ls [.int s0]) := by
  obtain ⟨⟨hx, hb, hml, hown, hts⟩, hK, hEV, hA⟩ := id X
  have hG : ∀ w ∈ GW, w.before args s = true := fun w h => hts w (List.mem_cons_of_mem _ h)
  unfold B_figures_267 at h
  refine lv_istore (lv' := [(11, .int s0), (0, .ref (Z 200)), (2, .int l2), (4, .int l4), (6, .int l6), (7, .int l7), (9, .long l9), (12, .int l12), (13, .int l13)]) hx hb dX12_figures_267 hl (by decide) rfl (fun ls hl => ?_)
  refine lv_iload_n hx hb dX12_figures_269 rfl (lv_at hl 2 rfl) ?_
  refine lv_if_eq (tgt := 284) hx hb dX12_figures_270 (by decide) (fun c_1 => ?_) (fun c_1 => ?_)
  · have h := ip (c_1) h
    refine lv_ldc2 (v := 10) hx hb hown (hG _ gw_2309) dX12_figures_284 ?_
    refine lv_lload hx hb dX12_figures_287 (lv_at hl 6 rfl) ?_
    refine lv_lmul hx hb dX12_figures_289 ?_
    refine lv_iload hx hb dX12_figures_290 (lv_at hl 8 rfl) ?_
    refine lv_i2l (v := l13.toInt64) hx hb dX12_figures_292 rfl ?_
    refine lv_ladd hx hb dX12_figures_293 ?_
    exact b_figures_294 X hE hF hL hR_210 h hS (lv_sub hl [1, 2, 3, 4, 5, 0, 7] rfl)
  · have h := im (c_1) h
    refine lv_lload hx hb dX12_figures_273 (lv_at hl 6 rfl) ?_
    refine lv_iconst (v := 4) hx hb dX12_figures_275 (by decide) ?_
    refine lv_lshl (v := l9 <<< ((4 : Int32).toInt64 &&& 63)) hx hb dX12_figures_276 rfl ?_
    refine lv_iload hx hb dX12_figures_277 (lv_at hl 8 rfl) ?_
    refine lv_i2l (v := l13.toInt64) hx hb dX12_figures_279 rfl ?_
    refine lv_lor hx hb dX12_figures_280 ?_
    refine lv_goto (tgt := 294) hx hb dX12_figures_281 (by decide) ?_
    exact b_figures_294 X hE hF hL hR_210 h hS (lv_sub hl [1, 2, 3, 4, 5, 0, 7] rfl)
def B_figures_262 (N : Nat) (R_210 : Int32 × Int32 × Int32 × Int32 × Int64 × Int32 × Int32 × RSt → Option (Int32 × RSt)) (l2 : Int32) (l4 : Int32) (l6 : Int32) (l7 : Int32) (l9 : Int64) (l12 : Int32) (l13 : Int32) (u : RSt) : Option (Int32 × RSt) := B_figures_267 N R_210 l2 l4 l6 l7 l9 l12 l13 1 u
set_option maxHeartbeats 4000000 in
theorem b_figures_262 {r : Int32} (X : RC p s m args c cX12_figures 14 (Cond.code yX12_figures cX12_figures 14 (some .int)) D kA V A) (hE : REi p l e R s m args below meth c cX12_figures D kA Z A Q r w) (hF : 2 ≤ R.frames) (hL : 40 ≤ R.locals) {R_210 : Int32 × Int32 × Int32 × Int32 × Int64 × Int32 × Int32 × RSt → Option (Int32 × RSt)} {l2 : Int32} {l4 : Int32} {l6 : Int32} {l7 : Int32} {l9 : Int64} {l12 : Int32} {l13 : Int32} (hR_210 : ∀ (l2 : Int32) (l4 : Int32) (l6 : Int32) (l7 : Int32) (l9 : Int64) (l11 : Int32) (l12 : Int32) (u : RSt), R_210 (l2, l4, l6, l7, l9, l11, l12, u) = some (r, w) → ∀ (H : Heap) (locs : List Loc) (ls : Array Slot), RS D kA Z A s u H locs → lv_has ls 14 [(0, .ref (Z 200)), (2, .int l2), (4, .int l4), (6, .int l6), (7, .int l7), (9, .long l9), (11, .int l11), (12, .int l12)] → W p l e R s m args below meth c H locs 0 0 Q (F0 m 210 ls [])) {u : RSt} (h : B_figures_262 N R_210 l2 l4 l6 l7 l9 l12 l13 u = some (r, w)) (hS : RS D kA Z A s u H locs) (hl : lv_has ls 14 [(0, .ref (Z 200)), (2, .int l2), (4, .int l4), (6, .int l6), (7, .int l7), (9, .long l9), (12, .int l12), (13, .int l13)]) : W p l e R s m args below meth c H locs 0 0 Q (F0 m 262 ls []) := by
  obtain ⟨⟨hx, hb, hml, hown, hts⟩, hK, hEV, hA⟩ := id X
  have hG : ∀ w ∈ GW, w.before args s = true := fun w h => hts w (List.mem_cons_of_mem _ h)
  unfold B_figures_262 at h
  refine lv_iconst (v := 1) hx hb dX12_figures_262 (by decide) ?_
  refine lv_goto (tgt := 267) hx hb dX12_figures_263 (by decide) ?_
  exact b_figures_267 X hE hF hL hR_210 h hS (lv_sub hl [0, 1, 2, 3, 4, 5, 6, 7] rfl)
def B_figures_266 (N : Nat) (R_210 : Int32 × Int32 × Int32 × Int32 × Int64 × Int32 × Int32 × RSt → Option (Int32 × RSt)) (l2 : Int32) (l4 : Int32) (l6 : Int32) (l7 : Int32) (l9 : Int64) (l12 : Int32) (l13 : Int32) (u : RSt) : Option (Int32 × RSt) := B_figures_267 N R_210 l2 l4 l6 l7 l9 l12 l13 0 u
set_option maxHeartbeats 4000000 in
theorem b_figures_266 {r : Int32} (X : RC p s m args c cX12_figures 14 (Cond.code yX12_figures cX12_figures 14 (some .int)) D kA V A) (hE : REi p l e R s m args below meth c cX12_figures D kA Z A Q r w) (hF : 2 ≤ R.frames) (hL : 40 ≤ R.locals) {R_210 : Int32 × Int32 × Int32 × Int32 × Int64 × Int32 × Int32 × RSt → Option (Int32 × RSt)} {l2 : Int32} {l4 : Int32} {l6 : Int32} {l7 : Int32} {l9 : Int64} {l12 : Int32} {l13 : Int32} (hR_210 : ∀ (l2 : Int32) (l4 : Int32) (l6 : Int32) (l7 : Int32) (l9 : Int64) (l11 : Int32) (l12 : Int32) (u : RSt), R_210 (l2, l4, l6, l7, l9, l11, l12, u) = some (r, w) → ∀ (H : Heap) (locs : List Loc) (ls : Array Slot), RS D kA Z A s u H locs → lv_has ls 14 [(0, .ref (Z 200)), (2, .int l2), (4, .int l4), (6, .int l6), (7, .int l7), (9, .long l9), (11, .int l11), (12, .int l12)] → W p l e R s m args below meth c H locs 0 0 Q (F0 m 210 ls [])) {u : RSt} (h : B_figures_266 N R_210 l2 l4 l6 l7 l9 l12 l13 u = some (r, w)) (hS : RS D kA Z A s u H locs) (hl : lv_has ls 14 [(0, .ref (Z 200)), (2, .int l2), (4, .int l4), (6, .int l6), (7, .int l7), (9, .long l9), (12, .int l12), (13, .int l13)]) : W p l e R s m args below meth c H locs 0 0 Q (F0 m 266 ls []) := by
  obtain ⟨⟨hx, hb, hml, hown, hts⟩, hK, hEV, hA⟩ := id X
  have hG : ∀ w ∈ GW, w.before args s = true := fun w h => hts w (List.mem_cons_of_mem _ h)
  unfold B_figures_266 at h
  refine lv_iconst (v := 0) hx hb dX12_figures_266 (by decide) ?_
  exact b_figures_267 X hE hF hL hR_210 h hS (lv_sub hl [0, 1, 2, 3, 4, 5, 6, 7] rfl)
def B_figures_355 (N : Nat) (l6 : Int32) (l7 : Int32) (l9 : Int64) (l12 : Int32) (s1 : Int32) (s2 : Int32) (u : RSt) : Option (Int32 × RSt) := wr 1502 s1 (sA u 2 s1.toNatClampNeg s2) fun u_2 => wr 1502 l12 (sB u_2 4 l12.toNatClampNeg l9) fun u_4 => wr 1502 l12 (sA u_4 5 l12.toNatClampNeg (vp_nar .boolean l6)) fun u_6 => some (l7, u_6)
set_option maxHeartbeats 4000000 in
theorem b_figures_355 {r : Int32} (X : RC p s m args c cX12_figures 14 (Cond.code yX12_figures cX12_figures 14 (some .int)) D kA V A) (hE : REi p l e R s m args below meth c cX12_figures D kA Z A Q r w) (hF : 2 ≤ R.frames) (hL : 40 ≤ R.locals) {l6 : Int32} {l7 : Int32} {l9 : Int64} {l12 : Int32} {s1 : Int32} {s2 : Int32}  {u : RSt} (h : B_figures_355 N l6 l7 l9 l12 s1 s2 u = some (r, w)) (hS : RS D kA Z A s u H locs) (hl : lv_has ls 14 [(0, .ref (Z 200)), (6, .int l6), (7, .int l7), (9, .long l9), (12, .int l12)]) : W p l e R s m args below meth c H locs 0 0 Q (F0 m 355 ls [.int s2, .int s1, .ref (Z 2)]) := by
  obtain ⟨⟨hx, hb, hml, hown, hts⟩, hK, hEV, hA⟩ := id X
  have hG : ∀ w ∈ GW, w.before args s = true := fun w h => hts w (List.mem_cons_of_mem _ h)
  unfold B_figures_355 at h
  obtain ⟨u_2, e_u_2, i_3, h⟩ := wr_of h
  refine rs_2 X hS i_3 e_u_2 dX12_figures_355 (fun H locs hS => ?_)
  refine lv_aload_n hx hb dX12_figures_356 rfl (lv_at hl 0 rfl) ?_
  refine rg_4 X hS dX12_figures_357 ?_
  refine lv_iload hx hb dX12_figures_360 (lv_at hl 4 rfl) ?_
  refine lv_lload hx hb dX12_figures_362 (lv_at hl 3 rfl) ?_
  obtain ⟨u_4, e_u_4, i_5, h⟩ := wr_of h
  refine rs_4 X hS i_5 e_u_4 dX12_figures_364 (fun H locs hS => ?_)
  refine lv_aload_n hx hb dX12_figures_365 rfl (lv_at hl 0 rfl) ?_
  refine rg_5 X hS dX12_figures_366 ?_
  refine lv_iload hx hb dX12_figures_369 (lv_at hl 4 rfl) ?_
  refine lv_iload hx hb dX12_figures_371 (lv_at hl 1 rfl) ?_
  obtain ⟨u_6, e_u_6, i_7, h⟩ := wr_of h
  refine rs_5 X hS i_7 e_u_6 dX12_figures_373 (fun H locs hS => ?_)
  refine lv_iload hx hb dX12_figures_374 (lv_at hl 2 rfl) ?_
  obtain ⟨rfl, rfl⟩ := so h
  exact hE _ _ _ _ hS dX12_figures_376
def B_figures_333 (N : Nat) (l6 : Int32) (l7 : Int32) (l9 : Int64) (l11 : Int32) (u : RSt) : Option (Int32 × RSt) := if l11 = (0 : Int32) then (B_figures_355 N l6 l7 l9 (u.1 8) (u.1 8) 2 u) else (B_figures_355 N l6 l7 l9 (u.1 8) (u.1 8) 3 u)
set_option maxHeartbeats 4000000 in
theorem b_figures_333 {r : Int32} (X : RC p s m args c cX12_figures 14 (Cond.code yX12_figures cX12_figures 14 (some .int)) D kA V A) (hE : REi p l e R s m args below meth c cX12_figures D kA Z A Q r w) (hF : 2 ≤ R.frames) (hL : 40 ≤ R.locals) {l6 : Int32} {l7 : Int32} {l9 : Int64} {l11 : Int32}  {u : RSt} (h : B_figures_333 N l6 l7 l9 l11 u = some (r, w)) (hS : RS D kA Z A s u H locs) (hl : lv_has ls 14 [(0, .ref (Z 200)), (6, .int l6), (7, .int l7), (9, .long l9), (11, .int l11)]) : W p l e R s m args below meth c H locs 0 0 Q (F0 m 333 ls []) := by
  obtain ⟨⟨hx, hb, hml, hown, hts⟩, hK, hEV, hA⟩ := id X
  have hG : ∀ w ∈ GW, w.before args s = true := fun w h => hts w (List.mem_cons_of_mem _ h)
  unfold B_figures_333 at h
  refine lv_aload_n hx hb dX12_figures_333 rfl (lv_at hl 0 rfl) ?_
  refine rg_8 X hS dX12_figures_334 ?_
  refine lv_istore (lv' := [(12, .int (u.1 8)), (0, .ref (Z 200)), (6, .int l6), (7, .int l7), (9, .long l9), (11, .int l11)]) hx hb dX12_figures_337 hl (by decide) rfl (fun ls hl => ?_)
  refine lv_aload_n hx hb dX12_figures_339 rfl (lv_at hl 1 rfl) ?_
  refine rg_2 X hS dX12_figures_340 ?_
  refine lv_iload hx hb dX12_figures_343 (lv_at hl 0 rfl) ?_
  refine lv_iload hx hb dX12_figures_345 (lv_at hl 5 rfl) ?_
  refine lv_if_eq (tgt := 354) hx hb dX12_figures_347 (by decide) (fun c_8 => ?_) (fun c_8 => ?_)
  · have h := ip (c_8) h
    refine lv_iconst (v := 2) hx hb dX12_figures_354 (by decide) ?_
    exact b_figures_355 X hE hF hL  h hS (lv_sub hl [1, 2, 3, 4, 0] rfl)
  · have h := im (c_8) h
    refine lv_iconst (v := 3) hx hb dX12_figures_350 (by decide) ?_
    refine lv_goto (tgt := 355) hx hb dX12_figures_351 (by decide) ?_
    exact b_figures_355 X hE hF hL  h hS (lv_sub hl [1, 2, 3, 4, 0] rfl)
def B_figures_325 (N : Nat) (l6 : Int32) (l7 : Int32) (l9 : Int64) (s0 : Int32) (u : RSt) : Option (Int32 × RSt) := B_figures_333 N l6 l7 l9.toInt32.toInt64 s0 u
set_option maxHeartbeats 4000000 in
theorem b_figures_325 {r : Int32} (X : RC p s m args c cX12_figures 14 (Cond.code yX12_figures cX12_figures 14 (some .int)) D kA V A) (hE : REi p l e R s m args below meth c cX12_figures D kA Z A Q r w) (hF : 2 ≤ R.frames) (hL : 40 ≤ R.locals) {l6 : Int32} {l7 : Int32} {l9 : Int64} {s0 : Int32}  {u : RSt} (h : B_figures_325 N l6 l7 l9 s0 u = some (r, w)) (hS : RS D kA Z A s u H locs) (hl : lv_has ls 14 [(0, .ref (Z 200)), (6, .int l6), (7, .int l7), (9, .long l9)]) : W p l e R s m args below meth c H locs 0 0 Q (F0 m 325 ls [.int s0]) := by
  obtain ⟨⟨hx, hb, hml, hown, hts⟩, hK, hEV, hA⟩ := id X
  have hG : ∀ w ∈ GW, w.before args s = true := fun w h => hts w (List.mem_cons_of_mem _ h)
  unfold B_figures_325 at h
  refine lv_istore (lv' := [(11, .int s0), (0, .ref (Z 200)), (6, .int l6), (7, .int l7), (9, .long l9)]) hx hb dX12_figures_325 hl (by decide) rfl (fun ls hl => ?_)
  refine lv_lload hx hb dX12_figures_327 (lv_at hl 4 rfl) ?_
  refine lv_l2i (v := l9.toInt32) hx hb dX12_figures_329 rfl ?_
  refine lv_i2l (v := l9.toInt32.toInt64) hx hb dX12_figures_330 rfl ?_
  refine lv_lstore (lv' := [(9, .long l9.toInt32.toInt64), (11, .int s0), (0, .ref (Z 200)), (6, .int l6), (7, .int l7)]) hx hb dX12_figures_331 hl (by decide) rfl (fun ls hl => ?_)
  exact b_figures_333 X hE hF hL  h hS (lv_sub hl [2, 3, 4, 0, 1] rfl)
def B_figures_324 (N : Nat) (l6 : Int32) (l7 : Int32) (l9 : Int64) (u : RSt) : Option (Int32 × RSt) := B_figures_325 N l6 l7 l9 0 u
set_option maxHeartbeats 4000000 in
theorem b_figures_324 {r : Int32} (X : RC p s m args c cX12_figures 14 (Cond.code yX12_figures cX12_figures 14 (some .int)) D kA V A) (hE : REi p l e R s m args below meth c cX12_figures D kA Z A Q r w) (hF : 2 ≤ R.frames) (hL : 40 ≤ R.locals) {l6 : Int32} {l7 : Int32} {l9 : Int64}  {u : RSt} (h : B_figures_324 N l6 l7 l9 u = some (r, w)) (hS : RS D kA Z A s u H locs) (hl : lv_has ls 14 [(0, .ref (Z 200)), (6, .int l6), (7, .int l7), (9, .long l9)]) : W p l e R s m args below meth c H locs 0 0 Q (F0 m 324 ls []) := by
  obtain ⟨⟨hx, hb, hml, hown, hts⟩, hK, hEV, hA⟩ := id X
  have hG : ∀ w ∈ GW, w.before args s = true := fun w h => hts w (List.mem_cons_of_mem _ h)
  unfold B_figures_324 at h
  refine lv_iconst (v := 0) hx hb dX12_figures_324 (by decide) ?_
  exact b_figures_325 X hE hF hL  h hS (lv_sub hl [0, 1, 2, 3] rfl)
def B_figures_210 (N : Nat) (R_210 : Int32 × Int32 × Int32 × Int32 × Int64 × Int32 × Int32 × RSt → Option (Int32 × RSt)) (l2 : Int32) (l4 : Int32) (l6 : Int32) (l7 : Int32) (l9 : Int64) (l11 : Int32) (l12 : Int32) (u : RSt) : Option (Int32 × RSt) := if l4 ≤ l12 then (if l6 = (0 : Int32) then (if l2 = (0 : Int32) then (if l9 ≤ (2147483647 : Int64) then (B_figures_324 N l6 l7 l9 u) else (B_figures_325 N l6 l7 l9 1 u)) else (B_figures_324 N l6 l7 l9 u)) else (B_figures_333 N l6 l7 l9 l11 u)) else (bn (F_see N l12 u) fun r_14 u_13 => if l11 = (0 : Int32) then (if l2 = (0 : Int32) then (if (922337203685477580 : Int64) < l9 then (B_figures_262 N R_210 l2 l4 l6 l7 l9 l12 (r_hex r_14) u_13) else (if l9 = (922337203685477580 : Int64) then (if (r_hex r_14) ≤ (7 : Int32) then (B_figures_266 N R_210 l2 l4 l6 l7 l9 l12 (r_hex r_14) u_13) else (B_figures_262 N R_210 l2 l4 l6 l7 l9 l12 (r_hex r_14) u_13)) else (B_figures_266 N R_210 l2 l4 l6 l7 l9 l12 (r_hex r_14) u_13))) else (B_figures_266 N R_210 l2 l4 l6 l7 l9 l12 (r_hex r_14) u_13)) else (B_figures_262 N R_210 l2 l4 l6 l7 l9 l12 (r_hex r_14) u_13))
set_option maxHeartbeats 4000000 in
theorem b_figures_210 {r : Int32} (X : RC p s m args c cX12_figures 14 (Cond.code yX12_figures cX12_figures 14 (some .int)) D kA V A) (hE : REi p l e R s m args below meth c cX12_figures D kA Z A Q r w) (hF : 2 ≤ R.frames) (hL : 40 ≤ R.locals) {R_210 : Int32 × Int32 × Int32 × Int32 × Int64 × Int32 × Int32 × RSt → Option (Int32 × RSt)} {l2 : Int32} {l4 : Int32} {l6 : Int32} {l7 : Int32} {l9 : Int64} {l11 : Int32} {l12 : Int32} (hR_210 : ∀ (l2 : Int32) (l4 : Int32) (l6 : Int32) (l7 : Int32) (l9 : Int64) (l11 : Int32) (l12 : Int32) (u : RSt), R_210 (l2, l4, l6, l7, l9, l11, l12, u) = some (r, w) → ∀ (H : Heap) (locs : List Loc) (ls : Array Slot), RS D kA Z A s u H locs → lv_has ls 14 [(0, .ref (Z 200)), (2, .int l2), (4, .int l4), (6, .int l6), (7, .int l7), (9, .long l9), (11, .int l11), (12, .int l12)] → W p l e R s m args below meth c H locs 0 0 Q (F0 m 210 ls [])) {u : RSt} (h : B_figures_210 N R_210 l2 l4 l6 l7 l9 l11 l12 u = some (r, w)) (hS : RS D kA Z A s u H locs) (hl : lv_has ls 14 [(0, .ref (Z 200)), (2, .int l2), (4, .int l4), (6, .int l6), (7, .int l7), (9, .long l9), (11, .int l11), (12, .int l12)]) : W p l e R s m args below meth c H locs 0 0 Q (F0 m 210 ls []) := by
  obtain ⟨⟨hx, hb, hml, hown, hts⟩, hK, hEV, hA⟩ := id X
  have hG : ∀ w ∈ GW, w.before args s = true := fun w h => hts w (List.mem_cons_of_mem _ h)
  unfold B_figures_210 at h
  refine lv_iload hx hb dX12_figures_210 (lv_at hl 7 rfl) ?_
  refine lv_iload hx hb dX12_figures_212 (lv_at hl 2 rfl) ?_
  refine lv_icmp_ge (tgt := 302) hx hb dX12_figures_214 (by decide) (fun c_9 => ?_) (fun c_9 => ?_)
  · have h := ip (c_9) h
    refine lv_iload hx hb dX12_figures_302 (lv_at hl 3 rfl) ?_
    refine lv_if_ne (tgt := 333) hx hb dX12_figures_304 (by decide) (fun c_10 => ?_) (fun c_10 => ?_)
    · have h := im (c_10) h
      exact b_figures_333 X hE hF hL  h hS (lv_sub hl [0, 3, 4, 5, 6] rfl)
    · have h := ip (c_10) h
      refine lv_iload_n hx hb dX12_figures_307 rfl (lv_at hl 1 rfl) ?_
      refine lv_if_ne (tgt := 324) hx hb dX12_figures_308 (by decide) (fun c_11 => ?_) (fun c_11 => ?_)
      · have h := im (c_11) h
        exact b_figures_324 X hE hF hL  h hS (lv_sub hl [0, 3, 4, 5] rfl)
      · have h := ip (c_11) h
        refine lv_lload hx hb dX12_figures_311 (lv_at hl 5 rfl) ?_
        refine lv_ldc2 (v := 2147483647) hx hb hown (hG _ gw_2310) dX12_figures_313 ?_
        refine W.lcmp hx hb dX12_figures_316 ?_
        refine lv_if_le (tgt := 324) hx hb dX12_figures_317 (by decide) (fun c_12 => ?_) (fun c_12 => ?_)
        · have h := ip ((lg_cmp_le _ _).mp c_12) h
          exact b_figures_324 X hE hF hL  h hS (lv_sub hl [0, 3, 4, 5] rfl)
        · have h := im (mt (lg_cmp_le _ _).mpr c_12) h
          refine lv_iconst (v := 1) hx hb dX12_figures_320 (by decide) ?_
          refine lv_goto (tgt := 325) hx hb dX12_figures_321 (by decide) ?_
          exact b_figures_325 X hE hF hL  h hS (lv_sub hl [0, 3, 4, 5] rfl)
  · have h := im (c_9) h
    refine lv_aload_n hx hb dX12_figures_217 rfl (lv_at hl 0 rfl) ?_
    refine lv_iload hx hb dX12_figures_218 (lv_at hl 7 rfl) ?_
    obtain ⟨r_14, u_13, h_u_13, h⟩ := bn_of h
    refine kc_see X hS h_u_13 (Nat.le_trans (Nat.le_of_ble_eq_true rfl) hF) (Nat.le_trans (Nat.le_of_ble_eq_true rfl) hL) hl.1 (Nat.le_of_ble_eq_true rfl) dX12_figures_220 (fun H locs hS => ?_)
    refine vp_callSi (W.runS (As := [.int r_14]) (rest := []) X.1 (c_X12_hex l r_14) (va_cwS 1 hts (gw_P gw_2305 gw_2306 gw_16 gwp_X12_hex) rfl rfl rfl (by decide +kernel) ⟨Nat.le_trans (Nat.le_of_ble_eq_true rfl) hF, Nat.le_trans (Nat.le_of_ble_eq_true rfl) hL⟩) ⟨fun _ _ _ _ q => q, fun _ _ _ => ⟨rfl, trivial⟩⟩ rfl rfl hl.1 rfl (lv_room (Nat.le_of_ble_eq_true rfl)) dX12_figures_223 ⟨Nat.zero_le _, Nat.zero_le _⟩) (fun r_15 q_16 => ?_)
    subst q_16
    refine lv_istore (lv' := [(13, .int (r_hex r_14)), (0, .ref (Z 200)), (2, .int l2), (4, .int l4), (6, .int l6), (7, .int l7), (9, .long l9), (11, .int l11), (12, .int l12)]) hx hb dX12_figures_226 hl (by decide) rfl (fun ls hl => ?_)
    refine lv_iload hx hb dX12_figures_228 (lv_at hl 7 rfl) ?_
    refine lv_if_ne (tgt := 262) hx hb dX12_figures_230 (by decide) (fun c_17 => ?_) (fun c_17 => ?_)
    · have h := im (c_17) h
      exact b_figures_262 X hE hF hL hR_210 h hS (lv_sub hl [1, 2, 3, 4, 5, 6, 8, 0] rfl)
    · have h := ip (c_17) h
      refine lv_iload_n hx hb dX12_figures_233 rfl (lv_at hl 2 rfl) ?_
      refine lv_if_ne (tgt := 266) hx hb dX12_figures_234 (by decide) (fun c_18 => ?_) (fun c_18 => ?_)
      · have h := im (c_18) h
        exact b_figures_266 X hE hF hL hR_210 h hS (lv_sub hl [1, 2, 3, 4, 5, 6, 8, 0] rfl)
      · have h := ip (c_18) h
        refine lv_lload hx hb dX12_figures_237 (lv_at hl 6 rfl) ?_
        refine lv_ldc2 (v := 922337203685477580) hx hb hown (hG _ gw_2308) dX12_figures_239 ?_
        refine W.lcmp hx hb dX12_figures_242 ?_
        refine lv_if_gt (tgt := 262) hx hb dX12_figures_243 (by decide) (fun c_19 => ?_) (fun c_19 => ?_)
        · have h := ip ((lg_cmp_gt _ _).mp c_19) h
          exact b_figures_262 X hE hF hL hR_210 h hS (lv_sub hl [1, 2, 3, 4, 5, 6, 8, 0] rfl)
        · have h := im (mt (lg_cmp_gt _ _).mpr c_19) h
          refine lv_lload hx hb dX12_figures_246 (lv_at hl 6 rfl) ?_
          refine lv_ldc2 (v := 922337203685477580) hx hb hown (hG _ gw_2308) dX12_figures_248 ?_
          refine W.lcmp hx hb dX12_figures_251 ?_
          refine lv_if_ne (tgt := 266) hx hb dX12_figures_252 (by decide) (fun c_20 => ?_) (fun c_20 => ?_)
          · have h := im (mt (lg_cmp_eq _ _).mpr c_20) h
            exact b_figures_266 X hE hF hL hR_210 h hS (lv_sub hl [1, 2, 3, 4, 5, 6, 8, 0] rfl)
          · have h := ip ((lg_cmp_eq _ _).mp c_20) h
            refine lv_iload hx hb dX12_figures_255 (lv_at hl 0 rfl) ?_
            refine lv_bipush (v := 7) hx hb dX12_figures_257 (by decide) ?_
            refine lv_icmp_le (tgt := 266) hx hb dX12_figures_259 (by decide) (fun c_21 => ?_) (fun c_21 => ?_)
            · have h := ip (c_21) h
              exact b_figures_266 X hE hF hL hR_210 h hS (lv_sub hl [1, 2, 3, 4, 5, 6, 8, 0] rfl)
            · have h := im (c_21) h
              exact b_figures_262 X hE hF hL hR_210 h hS (lv_sub hl [1, 2, 3, 4, 5, 6, 8, 0] rfl)
def LP_figures_210 (N : Nat) : Nat → Int32 × Int32 × Int32 × Int32 × Int64 × Int32 × Int32 × RSt → Option (Int32 × RSt) := lp (fun R a => B_figures_210 N R a.1 a.2.1 a.2.2.1 a.2.2.2.1 a.2.2.2.2.1 a.2.2.2.2.2.1 a.2.2.2.2.2.2.1 a.2.2.2.2.2.2.2)
theorem bl_figures_210 {r : Int32} (X : RC p s m args c cX12_figures 14 (Cond.code yX12_figures cX12_figures 14 (some .int)) D kA V A) (hE : REi p l e R s m args below meth c cX12_figures D kA Z A Q r w) (hF : 2 ≤ R.frames) (hL : 40 ≤ R.locals)  : ∀ (n : Nat) (l2 : Int32) (l4 : Int32) (l6 : Int32) (l7 : Int32) (l9 : Int64) (l11 : Int32) (l12 : Int32) (u : RSt), LP_figures_210 N n (l2, l4, l6, l7, l9, l11, l12, u) = some (r, w) → ∀ (H : Heap) (locs : List Loc) (ls : Array Slot), RS D kA Z A s u H locs → lv_has ls 14 [(0, .ref (Z 200)), (2, .int l2), (4, .int l4), (6, .int l6), (7, .int l7), (9, .long l9), (11, .int l11), (12, .int l12)] → W p l e R s m args below meth c H locs 0 0 Q (F0 m 210 ls []) := by
  intro n
  induction n with
  | zero => intro l2 l4 l6 l7 l9 l11 l12 u h; exact nomatch h
  | succ n ih => intro l2 l4 l6 l7 l9 l11 l12 u h H locs ls hS hl; exact b_figures_210 (N := N) (R_210 := LP_figures_210 N n) X hE hF hL  ih h hS hl
def B_figures_191 (N : Nat) (l2 : Int32) (l3 : Int32) (l4 : Int32) (l6 : Int32) (l7 : Int32) (s0 : Int32) (u : RSt) : Option (Int32 × RSt) := if s0 = (0 : Int32) then (some (l7, u)) else (LP_figures_210 N N (l2, l4, l6, l7, 0, 0, l3, u))
set_option maxHeartbeats 4000000 in
theorem b_figures_191 {r : Int32} (X : RC p s m args c cX12_figures 14 (Cond.code yX12_figures cX12_figures 14 (some .int)) D kA V A) (hE : REi p l e R s m args below meth c cX12_figures D kA Z A Q r w) (hF : 2 ≤ R.frames) (hL : 40 ≤ R.locals) {l2 : Int32} {l3 : Int32} {l4 : Int32} {l6 : Int32} {l7 : Int32} {s0 : Int32}  {u : RSt} (h : B_figures_191 N l2 l3 l4 l6 l7 s0 u = some (r, w)) (hS : RS D kA Z A s u H locs) (hl : lv_has ls 14 [(0, .ref (Z 200)), (2, .int l2), (3, .int l3), (4, .int l4), (6, .int l6), (7, .int l7)]) : W p l e R s m args below meth c H locs 0 0 Q (F0 m 191 ls [.int s0]) := by
  obtain ⟨⟨hx, hb, hml, hown, hts⟩, hK, hEV, hA⟩ := id X
  have hG : ∀ w ∈ GW, w.before args s = true := fun w h => hts w (List.mem_cons_of_mem _ h)
  unfold B_figures_191 at h
  refine lv_istore (lv' := [(8, .int s0), (0, .ref (Z 200)), (2, .int l2), (3, .int l3), (4, .int l4), (6, .int l6), (7, .int l7)]) hx hb dX12_figures_191 hl (by decide) rfl (fun ls hl => ?_)
  refine lv_iload hx hb dX12_figures_193 (lv_at hl 0 rfl) ?_
  refine lv_if_ne (tgt := 201) hx hb dX12_figures_195 (by decide) (fun c_22 => ?_) (fun c_22 => ?_)
  · have h := im (c_22) h
    refine lv_lconst (v := 0) hx hb dX12_figures_201 (by decide) ?_
    refine lv_lstore (lv' := [(9, .long 0), (8, .int s0), (0, .ref (Z 200)), (2, .int l2), (3, .int l3), (4, .int l4), (6, .int l6), (7, .int l7)]) hx hb dX12_figures_202 hl (by decide) rfl (fun ls hl => ?_)
    refine lv_iconst (v := 0) hx hb dX12_figures_204 (by decide) ?_
    refine lv_istore (lv' := [(11, .int 0), (9, .long 0), (8, .int s0), (0, .ref (Z 200)), (2, .int l2), (3, .int l3), (4, .int l4), (6, .int l6), (7, .int l7)]) hx hb dX12_figures_205 hl (by decide) rfl (fun ls hl => ?_)
    refine lv_iload_n hx hb dX12_figures_207 rfl (lv_at hl 5 rfl) ?_
    refine lv_istore (lv' := [(12, .int l3), (11, .int 0), (9, .long 0), (8, .int s0), (0, .ref (Z 200)), (2, .int l2), (3, .int l3), (4, .int l4), (6, .int l6), (7, .int l7)]) hx hb dX12_figures_208 hl (by decide) rfl (fun ls hl => ?_)
    exact bl_figures_210 X hE hF hL  _ _ _ _ _ _ _ _ _ h _ _ _ hS (lv_sub hl [4, 5, 7, 8, 9, 2, 1, 0] rfl)
  · have h := ip (c_22) h
    refine lv_iload hx hb dX12_figures_198 (lv_at hl 6 rfl) ?_
    obtain ⟨rfl, rfl⟩ := so h
    exact hE _ _ _ _ hS dX12_figures_200
def B_figures_190 (N : Nat) (l2 : Int32) (l3 : Int32) (l4 : Int32) (l6 : Int32) (l7 : Int32) (u : RSt) : Option (Int32 × RSt) := B_figures_191 N l2 l3 l4 l6 l7 0 u
set_option maxHeartbeats 4000000 in
theorem b_figures_190 {r : Int32} (X : RC p s m args c cX12_figures 14 (Cond.code yX12_figures cX12_figures 14 (some .int)) D kA V A) (hE : REi p l e R s m args below meth c cX12_figures D kA Z A Q r w) (hF : 2 ≤ R.frames) (hL : 40 ≤ R.locals) {l2 : Int32} {l3 : Int32} {l4 : Int32} {l6 : Int32} {l7 : Int32}  {u : RSt} (h : B_figures_190 N l2 l3 l4 l6 l7 u = some (r, w)) (hS : RS D kA Z A s u H locs) (hl : lv_has ls 14 [(0, .ref (Z 200)), (2, .int l2), (3, .int l3), (4, .int l4), (6, .int l6), (7, .int l7)]) : W p l e R s m args below meth c H locs 0 0 Q (F0 m 190 ls []) := by
  obtain ⟨⟨hx, hb, hml, hown, hts⟩, hK, hEV, hA⟩ := id X
  have hG : ∀ w ∈ GW, w.before args s = true := fun w h => hts w (List.mem_cons_of_mem _ h)
  unfold B_figures_190 at h
  refine lv_iconst (v := 0) hx hb dX12_figures_190 (by decide) ?_
  exact b_figures_191 X hE hF hL  h hS (lv_sub hl [0, 1, 2, 3, 4, 5] rfl)
def B_figures_159 (N : Nat) (l2 : Int32) (l3 : Int32) (l4 : Int32) (l6 : Int32) (l7 : Int32) (s0 : Int32) (s1 : Int32) (u : RSt) : Option (Int32 × RSt) := if s1 < s0 then (B_figures_190 N l2 l3 l4 l6 l7 u) else (bn (F_see N l7 u) fun r_25 u_24 => if (r_let r_25) = (0 : Int32) then (bn (F_see N l7 u_24) fun r_30 u_29 => if (r_dig r_30) = (0 : Int32) then (B_figures_191 N l2 l3 l4 l6 l7 1 u_29) else (B_figures_190 N l2 l3 l4 l6 l7 u_29)) else (B_figures_190 N l2 l3 l4 l6 l7 u_24))
set_option maxHeartbeats 4000000 in
theorem b_figures_159 {r : Int32} (X : RC p s m args c cX12_figures 14 (Cond.code yX12_figures cX12_figures 14 (some .int)) D kA V A) (hE : REi p l e R s m args below meth c cX12_figures D kA Z A Q r w) (hF : 2 ≤ R.frames) (hL : 40 ≤ R.locals) {l2 : Int32} {l3 : Int32} {l4 : Int32} {l6 : Int32} {l7 : Int32} {s0 : Int32} {s1 : Int32}  {u : RSt} (h : B_figures_159 N l2 l3 l4 l6 l7 s0 s1 u = some (r, w)) (hS : RS D kA Z A s u H locs) (hl : lv_has ls 14 [(0, .ref (Z 200)), (2, .int l2), (3, .int l3), (4, .int l4), (6, .int l6), (7, .int l7)]) : W p l e R s m args below meth c H locs 0 0 Q (F0 m 159 ls [.int s1, .int s0]) := by
  obtain ⟨⟨hx, hb, hml, hown, hts⟩, hK, hEV, hA⟩ := id X
  have hG : ∀ w ∈ GW, w.before args s = true := fun w h => hts w (List.mem_cons_of_mem _ h)
  unfold B_figures_159 at h
  refine lv_icmp_gt (tgt := 190) hx hb dX12_figures_159 (by decide) (fun c_23 => ?_) (fun c_23 => ?_)
  · have h := ip (c_23) h
    exact b_figures_190 X hE hF hL  h hS (lv_sub hl [0, 1, 2, 3, 4, 5] rfl)
  · have h := im (c_23) h
    refine lv_aload_n hx hb dX12_figures_162 rfl (lv_at hl 0 rfl) ?_
    refine lv_iload hx hb dX12_figures_163 (lv_at hl 5 rfl) ?_
    obtain ⟨r_25, u_24, h_u_24, h⟩ := bn_of h
    refine kc_see X hS h_u_24 (Nat.le_trans (Nat.le_of_ble_eq_true rfl) hF) (Nat.le_trans (Nat.le_of_ble_eq_true rfl) hL) hl.1 (Nat.le_of_ble_eq_true rfl) dX12_figures_165 (fun H locs hS => ?_)
    refine vp_callSi (W.runS (As := [.int r_25]) (rest := []) X.1 (c_X12_isLetter l r_25) (va_cwS 1 hts (gw_P gw_2277 gw_2278 gw_16 gwp_X12_isLetter) rfl rfl rfl (by decide +kernel) ⟨Nat.le_trans (Nat.le_of_ble_eq_true rfl) hF, Nat.le_trans (Nat.le_of_ble_eq_true rfl) hL⟩) ⟨fun _ _ _ _ q => q, fun _ _ _ => ⟨rfl, trivial⟩⟩ rfl rfl hl.1 rfl (lv_room (Nat.le_of_ble_eq_true rfl)) dX12_figures_168 ⟨Nat.zero_le _, Nat.zero_le _⟩) (fun r_26 q_27 => ?_)
    subst q_27
    refine lv_if_ne (tgt := 190) hx hb dX12_figures_171 (by decide) (fun c_28 => ?_) (fun c_28 => ?_)
    · have h := im (c_28) h
      exact b_figures_190 X hE hF hL  h hS (lv_sub hl [0, 1, 2, 3, 4, 5] rfl)
    · have h := ip (c_28) h
      refine lv_aload_n hx hb dX12_figures_174 rfl (lv_at hl 0 rfl) ?_
      refine lv_iload hx hb dX12_figures_175 (lv_at hl 5 rfl) ?_
      obtain ⟨r_30, u_29, h_u_29, h⟩ := bn_of h
      refine kc_see X hS h_u_29 (Nat.le_trans (Nat.le_of_ble_eq_true rfl) hF) (Nat.le_trans (Nat.le_of_ble_eq_true rfl) hL) hl.1 (Nat.le_of_ble_eq_true rfl) dX12_figures_177 (fun H locs hS => ?_)
      refine vp_callSi (W.runS (As := [.int r_30]) (rest := []) X.1 (c_X12_isDigit l r_30) (va_cwS 1 hts (gw_P gw_2284 gw_2285 gw_16 gwp_X12_isDigit) rfl rfl rfl (by decide +kernel) ⟨Nat.le_trans (Nat.le_of_ble_eq_true rfl) hF, Nat.le_trans (Nat.le_of_ble_eq_true rfl) hL⟩) ⟨fun _ _ _ _ q => q, fun _ _ _ => ⟨rfl, trivial⟩⟩ rfl rfl hl.1 rfl (lv_room (Nat.le_of_ble_eq_true rfl)) dX12_figures_180 ⟨Nat.zero_le _, Nat.zero_le _⟩) (fun r_31 q_32 => ?_)
      subst q_32
      refine lv_if_ne (tgt := 190) hx hb dX12_figures_183 (by decide) (fun c_33 => ?_) (fun c_33 => ?_)
      · have h := im (c_33) h
        exact b_figures_190 X hE hF hL  h hS (lv_sub hl [0, 1, 2, 3, 4, 5] rfl)
      · have h := ip (c_33) h
        refine lv_iconst (v := 1) hx hb dX12_figures_186 (by decide) ?_
        refine lv_goto (tgt := 191) hx hb dX12_figures_187 (by decide) ?_
        exact b_figures_191 X hE hF hL  h hS (lv_sub hl [0, 1, 2, 3, 4, 5] rfl)
def B_figures_119 (N : Nat) (l2 : Int32) (l3 : Int32) (l4 : Int32) (l5 : Int32) (l6 : Int32) (s0 : Int32) (u : RSt) : Option (Int32 × RSt) := if l5 ≤ (0 : Int32) then (B_figures_190 N l2 l3 l4 l6 s0 u) else (if l2 = (0 : Int32) then (if l6 = (0 : Int32) then (B_figures_159 N l2 l3 l4 l6 s0 l5 10 u) else (B_figures_159 N l2 l3 l4 l6 s0 l5 19 u)) else (if l6 = (0 : Int32) then (B_figures_159 N l2 l3 l4 l6 s0 l5 8 u) else (B_figures_159 N l2 l3 l4 l6 s0 l5 16 u)))
set_option maxHeartbeats 4000000 in
theorem b_figures_119 {r : Int32} (X : RC p s m args c cX12_figures 14 (Cond.code yX12_figures cX12_figures 14 (some .int)) D kA V A) (hE : REi p l e R s m args below meth c cX12_figures D kA Z A Q r w) (hF : 2 ≤ R.frames) (hL : 40 ≤ R.locals) {l2 : Int32} {l3 : Int32} {l4 : Int32} {l5 : Int32} {l6 : Int32} {s0 : Int32}  {u : RSt} (h : B_figures_119 N l2 l3 l4 l5 l6 s0 u = some (r, w)) (hS : RS D kA Z A s u H locs) (hl : lv_has ls 14 [(0, .ref (Z 200)), (2, .int l2), (3, .int l3), (4, .int l4), (5, .int l5), (6, .int l6)]) : W p l e R s m args below meth c H locs 0 0 Q (F0 m 119 ls [.int s0]) := by
  obtain ⟨⟨hx, hb, hml, hown, hts⟩, hK, hEV, hA⟩ := id X
  have hG : ∀ w ∈ GW, w.before args s = true := fun w h => hts w (List.mem_cons_of_mem _ h)
  unfold B_figures_119 at h
  refine lv_istore (lv' := [(7, .int s0), (0, .ref (Z 200)), (2, .int l2), (3, .int l3), (4, .int l4), (5, .int l5), (6, .int l6)]) hx hb dX12_figures_119 hl (by decide) rfl (fun ls hl => ?_)
  refine lv_iload hx hb dX12_figures_121 (lv_at hl 5 rfl) ?_
  refine lv_if_le (tgt := 190) hx hb dX12_figures_123 (by decide) (fun c_34 => ?_) (fun c_34 => ?_)
  · have h := ip (c_34) h
    exact b_figures_190 X hE hF hL  h hS (lv_sub hl [1, 2, 3, 4, 6, 0] rfl)
  · have h := im (c_34) h
    refine lv_iload hx hb dX12_figures_126 (lv_at hl 5 rfl) ?_
    refine lv_iload_n hx hb dX12_figures_128 rfl (lv_at hl 2 rfl) ?_
    refine lv_if_eq (tgt := 147) hx hb dX12_figures_129 (by decide) (fun c_35 => ?_) (fun c_35 => ?_)
    · have h := ip (c_35) h
      refine lv_iload hx hb dX12_figures_147 (lv_at hl 6 rfl) ?_
      refine lv_if_eq (tgt := 157) hx hb dX12_figures_149 (by decide) (fun c_36 => ?_) (fun c_36 => ?_)
      · have h := ip (c_36) h
        refine lv_bipush (v := 10) hx hb dX12_figures_157 (by decide) ?_
        exact b_figures_159 X hE hF hL  h hS (lv_sub hl [1, 2, 3, 4, 6, 0] rfl)
      · have h := im (c_36) h
        refine lv_bipush (v := 19) hx hb dX12_figures_152 (by decide) ?_
        refine lv_goto (tgt := 159) hx hb dX12_figures_154 (by decide) ?_
        exact b_figures_159 X hE hF hL  h hS (lv_sub hl [1, 2, 3, 4, 6, 0] rfl)
    · have h := im (c_35) h
      refine lv_iload hx hb dX12_figures_132 (lv_at hl 6 rfl) ?_
      refine lv_if_eq (tgt := 142) hx hb dX12_figures_134 (by decide) (fun c_37 => ?_) (fun c_37 => ?_)
      · have h := ip (c_37) h
        refine lv_bipush (v := 8) hx hb dX12_figures_142 (by decide) ?_
        refine lv_goto (tgt := 159) hx hb dX12_figures_144 (by decide) ?_
        exact b_figures_159 X hE hF hL  h hS (lv_sub hl [1, 2, 3, 4, 6, 0] rfl)
      · have h := im (c_37) h
        refine lv_bipush (v := 16) hx hb dX12_figures_137 (by decide) ?_
        refine lv_goto (tgt := 159) hx hb dX12_figures_139 (by decide) ?_
        exact b_figures_159 X hE hF hL  h hS (lv_sub hl [1, 2, 3, 4, 6, 0] rfl)
def B_figures_103 (N : Nat) (l2 : Int32) (l3 : Int32) (l4 : Int32) (l5 : Int32) (s0 : Int32) (u : RSt) : Option (Int32 × RSt) := if s0 = (0 : Int32) then (B_figures_119 N l2 l3 l4 l5 s0 l4 u) else (B_figures_119 N l2 l3 l4 l5 s0 (l4 + 1) u)
set_option maxHeartbeats 4000000 in
theorem b_figures_103 {r : Int32} (X : RC p s m args c cX12_figures 14 (Cond.code yX12_figures cX12_figures 14 (some .int)) D kA V A) (hE : REi p l e R s m args below meth c cX12_figures D kA Z A Q r w) (hF : 2 ≤ R.frames) (hL : 40 ≤ R.locals) {l2 : Int32} {l3 : Int32} {l4 : Int32} {l5 : Int32} {s0 : Int32}  {u : RSt} (h : B_figures_103 N l2 l3 l4 l5 s0 u = some (r, w)) (hS : RS D kA Z A s u H locs) (hl : lv_has ls 14 [(0, .ref (Z 200)), (2, .int l2), (3, .int l3), (4, .int l4), (5, .int l5)]) : W p l e R s m args below meth c H locs 0 0 Q (F0 m 103 ls [.int s0]) := by
  obtain ⟨⟨hx, hb, hml, hown, hts⟩, hK, hEV, hA⟩ := id X
  have hG : ∀ w ∈ GW, w.before args s = true := fun w h => hts w (List.mem_cons_of_mem _ h)
  unfold B_figures_103 at h
  refine lv_istore (lv' := [(6, .int s0), (0, .ref (Z 200)), (2, .int l2), (3, .int l3), (4, .int l4), (5, .int l5)]) hx hb dX12_figures_103 hl (by decide) rfl (fun ls hl => ?_)
  refine lv_iload hx hb dX12_figures_105 (lv_at hl 0 rfl) ?_
  refine lv_if_eq (tgt := 117) hx hb dX12_figures_107 (by decide) (fun c_38 => ?_) (fun c_38 => ?_)
  · have h := ip (c_38) h
    refine lv_iload hx hb dX12_figures_117 (lv_at hl 4 rfl) ?_
    exact b_figures_119 X hE hF hL  h hS (lv_sub hl [1, 2, 3, 4, 5, 0] rfl)
  · have h := im (c_38) h
    refine lv_iload hx hb dX12_figures_110 (lv_at hl 4 rfl) ?_
    refine lv_iconst (v := 1) hx hb dX12_figures_112 (by decide) ?_
    refine lv_iadd hx hb dX12_figures_113 ?_
    refine lv_goto (tgt := 119) hx hb dX12_figures_114 (by decide) ?_
    exact b_figures_119 X hE hF hL  h hS (lv_sub hl [1, 2, 3, 4, 5, 0] rfl)
def B_figures_81 (N : Nat) (l2 : Int32) (l3 : Int32) (l4 : Int32) (u : RSt) : Option (Int32 × RSt) := bn (F_see N l4 u) fun r_40 u_39 => if r_40 = (76 : Int32) then (B_figures_103 N l2 l3 l4 (l4 - l3) 1 u_39) else (B_figures_103 N l2 l3 l4 (l4 - l3) 0 u_39)
set_option maxHeartbeats 4000000 in
theorem b_figures_81 {r : Int32} (X : RC p s m args c cX12_figures 14 (Cond.code yX12_figures cX12_figures 14 (some .int)) D kA V A) (hE : REi p l e R s m args below meth c cX12_figures D kA Z A Q r w) (hF : 2 ≤ R.frames) (hL : 40 ≤ R.locals) {l2 : Int32} {l3 : Int32} {l4 : Int32}  {u : RSt} (h : B_figures_81 N l2 l3 l4 u = some (r, w)) (hS : RS D kA Z A s u H locs) (hl : lv_has ls 14 [(0, .ref (Z 200)), (2, .int l2), (3, .int l3), (4, .int l4)]) : W p l e R s m args below meth c H locs 0 0 Q (F0 m 81 ls []) := by
  obtain ⟨⟨hx, hb, hml, hown, hts⟩, hK, hEV, hA⟩ := id X
  have hG : ∀ w ∈ GW, w.before args s = true := fun w h => hts w (List.mem_cons_of_mem _ h)
  unfold B_figures_81 at h
  refine lv_iload hx hb dX12_figures_81 (lv_at hl 3 rfl) ?_
  refine lv_iload_n hx hb dX12_figures_83 rfl (lv_at hl 2 rfl) ?_
  refine lv_isub hx hb dX12_figures_84 ?_
  refine lv_istore (lv' := [(5, .int (l4 - l3)), (0, .ref (Z 200)), (2, .int l2), (3, .int l3), (4, .int l4)]) hx hb dX12_figures_85 hl (by decide) rfl (fun ls hl => ?_)
  refine lv_aload_n hx hb dX12_figures_87 rfl (lv_at hl 1 rfl) ?_
  refine lv_iload hx hb dX12_figures_88 (lv_at hl 4 rfl) ?_
  obtain ⟨r_40, u_39, h_u_39, h⟩ := bn_of h
  refine kc_see X hS h_u_39 (Nat.le_trans (Nat.le_of_ble_eq_true rfl) hF) (Nat.le_trans (Nat.le_of_ble_eq_true rfl) hL) hl.1 (Nat.le_of_ble_eq_true rfl) dX12_figures_90 (fun H locs hS => ?_)
  refine lv_bipush (v := 76) hx hb dX12_figures_93 (by decide) ?_
  refine lv_icmp_ne (tgt := 102) hx hb dX12_figures_95 (by decide) (fun c_41 => ?_) (fun c_41 => ?_)
  · have h := im (c_41) h
    refine lv_iconst (v := 0) hx hb dX12_figures_102 (by decide) ?_
    exact b_figures_103 X hE hF hL  h hS (lv_sub hl [1, 2, 3, 4, 0] rfl)
  · have h := ip (c_41) h
    refine lv_iconst (v := 1) hx hb dX12_figures_98 (by decide) ?_
    refine lv_goto (tgt := 103) hx hb dX12_figures_99 (by decide) ?_
    exact b_figures_103 X hE hF hL  h hS (lv_sub hl [1, 2, 3, 4, 0] rfl)
def B_figures_43 (N : Nat) (R_43 : Int32 × Int32 × Int32 × RSt → Option (Int32 × RSt)) (l2 : Int32) (l3 : Int32) (l4 : Int32) (u : RSt) : Option (Int32 × RSt) := if l2 = (0 : Int32) then (bn (F_see N l4 u) fun r_44 u_43 => if (r_dig r_44) = (0 : Int32) then (B_figures_81 N l2 l3 l4 u_43) else (B_figures_75 N R_43 l2 l3 l4 u_43)) else (bn (F_see N l4 u) fun r_49 u_48 => if (r_hex r_49) = ((-1) : Int32) then (B_figures_81 N l2 l3 l4 u_48) else (B_figures_75 N R_43 l2 l3 l4 u_48))
set_option maxHeartbeats 4000000 in
theorem b_figures_43 {r : Int32} (X : RC p s m args c cX12_figures 14 (Cond.code yX12_figures cX12_figures 14 (some .int)) D kA V A) (hE : REi p l e R s m args below meth c cX12_figures D kA Z A Q r w) (hF : 2 ≤ R.frames) (hL : 40 ≤ R.locals) {R_43 : Int32 × Int32 × Int32 × RSt → Option (Int32 × RSt)} {l2 : Int32} {l3 : Int32} {l4 : Int32} (hR_43 : ∀ (l2 : Int32) (l3 : Int32) (l4 : Int32) (u : RSt), R_43 (l2, l3, l4, u) = some (r, w) → ∀ (H : Heap) (locs : List Loc) (ls : Array Slot), RS D kA Z A s u H locs → lv_has ls 14 [(0, .ref (Z 200)), (2, .int l2), (3, .int l3), (4, .int l4)] → W p l e R s m args below meth c H locs 0 0 Q (F0 m 43 ls [])) {u : RSt} (h : B_figures_43 N R_43 l2 l3 l4 u = some (r, w)) (hS : RS D kA Z A s u H locs) (hl : lv_has ls 14 [(0, .ref (Z 200)), (2, .int l2), (3, .int l3), (4, .int l4)]) : W p l e R s m args below meth c H locs 0 0 Q (F0 m 43 ls []) := by
  obtain ⟨⟨hx, hb, hml, hown, hts⟩, hK, hEV, hA⟩ := id X
  have hG : ∀ w ∈ GW, w.before args s = true := fun w h => hts w (List.mem_cons_of_mem _ h)
  unfold B_figures_43 at h
  refine lv_iload_n hx hb dX12_figures_43 rfl (lv_at hl 1 rfl) ?_
  refine lv_if_eq (tgt := 63) hx hb dX12_figures_44 (by decide) (fun c_42 => ?_) (fun c_42 => ?_)
  · have h := ip (c_42) h
    refine lv_aload_n hx hb dX12_figures_63 rfl (lv_at hl 0 rfl) ?_
    refine lv_iload hx hb dX12_figures_64 (lv_at hl 3 rfl) ?_
    obtain ⟨r_44, u_43, h_u_43, h⟩ := bn_of h
    refine kc_see X hS h_u_43 (Nat.le_trans (Nat.le_of_ble_eq_true rfl) hF) (Nat.le_trans (Nat.le_of_ble_eq_true rfl) hL) hl.1 (Nat.le_of_ble_eq_true rfl) dX12_figures_66 (fun H locs hS => ?_)
    refine vp_callSi (W.runS (As := [.int r_44]) (rest := []) X.1 (c_X12_isDigit l r_44) (va_cwS 1 hts (gw_P gw_2284 gw_2285 gw_16 gwp_X12_isDigit) rfl rfl rfl (by decide +kernel) ⟨Nat.le_trans (Nat.le_of_ble_eq_true rfl) hF, Nat.le_trans (Nat.le_of_ble_eq_true rfl) hL⟩) ⟨fun _ _ _ _ q => q, fun _ _ _ => ⟨rfl, trivial⟩⟩ rfl rfl hl.1 rfl (lv_room (Nat.le_of_ble_eq_true rfl)) dX12_figures_69 ⟨Nat.zero_le _, Nat.zero_le _⟩) (fun r_45 q_46 => ?_)
    subst q_46
    refine lv_if_eq (tgt := 81) hx hb dX12_figures_72 (by decide) (fun c_47 => ?_) (fun c_47 => ?_)
    · have h := ip (c_47) h
      exact b_figures_81 X hE hF hL  h hS (lv_sub hl [0, 1, 2, 3] rfl)
    · have h := im (c_47) h
      exact b_figures_75 X hE hF hL hR_43 h hS (lv_sub hl [0, 1, 2, 3] rfl)
  · have h := im (c_42) h
    refine lv_aload_n hx hb dX12_figures_47 rfl (lv_at hl 0 rfl) ?_
    refine lv_iload hx hb dX12_figures_48 (lv_at hl 3 rfl) ?_
    obtain ⟨r_49, u_48, h_u_48, h⟩ := bn_of h
    refine kc_see X hS h_u_48 (Nat.le_trans (Nat.le_of_ble_eq_true rfl) hF) (Nat.le_trans (Nat.le_of_ble_eq_true rfl) hL) hl.1 (Nat.le_of_ble_eq_true rfl) dX12_figures_50 (fun H locs hS => ?_)
    refine vp_callSi (W.runS (As := [.int r_49]) (rest := []) X.1 (c_X12_hex l r_49) (va_cwS 1 hts (gw_P gw_2305 gw_2306 gw_16 gwp_X12_hex) rfl rfl rfl (by decide +kernel) ⟨Nat.le_trans (Nat.le_of_ble_eq_true rfl) hF, Nat.le_trans (Nat.le_of_ble_eq_true rfl) hL⟩) ⟨fun _ _ _ _ q => q, fun _ _ _ => ⟨rfl, trivial⟩⟩ rfl rfl hl.1 rfl (lv_room (Nat.le_of_ble_eq_true rfl)) dX12_figures_53 ⟨Nat.zero_le _, Nat.zero_le _⟩) (fun r_50 q_51 => ?_)
    subst q_51
    refine lv_iconst (v := (-1)) hx hb dX12_figures_56 (by decide) ?_
    refine lv_icmp_eq (tgt := 81) hx hb dX12_figures_57 (by decide) (fun c_52 => ?_) (fun c_52 => ?_)
    · have h := ip (c_52) h
      exact b_figures_81 X hE hF hL  h hS (lv_sub hl [0, 1, 2, 3] rfl)
    · have h := im (c_52) h
      refine lv_goto (tgt := 75) hx hb dX12_figures_60 (by decide) ?_
      exact b_figures_75 X hE hF hL hR_43 h hS (lv_sub hl [0, 1, 2, 3] rfl)
def LP_figures_43 (N : Nat) : Nat → Int32 × Int32 × Int32 × RSt → Option (Int32 × RSt) := lp (fun R a => B_figures_43 N R a.1 a.2.1 a.2.2.1 a.2.2.2)
theorem bl_figures_43 {r : Int32} (X : RC p s m args c cX12_figures 14 (Cond.code yX12_figures cX12_figures 14 (some .int)) D kA V A) (hE : REi p l e R s m args below meth c cX12_figures D kA Z A Q r w) (hF : 2 ≤ R.frames) (hL : 40 ≤ R.locals)  : ∀ (n : Nat) (l2 : Int32) (l3 : Int32) (l4 : Int32) (u : RSt), LP_figures_43 N n (l2, l3, l4, u) = some (r, w) → ∀ (H : Heap) (locs : List Loc) (ls : Array Slot), RS D kA Z A s u H locs → lv_has ls 14 [(0, .ref (Z 200)), (2, .int l2), (3, .int l3), (4, .int l4)] → W p l e R s m args below meth c H locs 0 0 Q (F0 m 43 ls []) := by
  intro n
  induction n with
  | zero => intro l2 l3 l4 u h; exact nomatch h
  | succ n ih => intro l2 l3 l4 u h H locs ls hS hl; exact b_figures_43 (N := N) (R_43 := LP_figures_43 N n) X hE hF hL  ih h hS hl
def B_figures_39 (N : Nat) (l2 : Int32) (s0 : Int32) (u : RSt) : Option (Int32 × RSt) := LP_figures_43 N N (l2, s0, s0, u)
set_option maxHeartbeats 4000000 in
theorem b_figures_39 {r : Int32} (X : RC p s m args c cX12_figures 14 (Cond.code yX12_figures cX12_figures 14 (some .int)) D kA V A) (hE : REi p l e R s m args below meth c cX12_figures D kA Z A Q r w) (hF : 2 ≤ R.frames) (hL : 40 ≤ R.locals) {l2 : Int32} {s0 : Int32}  {u : RSt} (h : B_figures_39 N l2 s0 u = some (r, w)) (hS : RS D kA Z A s u H locs) (hl : lv_has ls 14 [(0, .ref (Z 200)), (2, .int l2)]) : W p l e R s m args below meth c H locs 0 0 Q (F0 m 39 ls [.int s0]) := by
  obtain ⟨⟨hx, hb, hml, hown, hts⟩, hK, hEV, hA⟩ := id X
  have hG : ∀ w ∈ GW, w.before args s = true := fun w h => hts w (List.mem_cons_of_mem _ h)
  unfold B_figures_39 at h
  refine lv_istore_n (lv' := [(3, .int s0), (0, .ref (Z 200)), (2, .int l2)]) hx hb dX12_figures_39 rfl hl (by decide) rfl (fun ls hl => ?_)
  refine lv_iload_n hx hb dX12_figures_40 rfl (lv_at hl 0 rfl) ?_
  refine lv_istore (lv' := [(4, .int s0), (3, .int s0), (0, .ref (Z 200)), (2, .int l2)]) hx hb dX12_figures_41 hl (by decide) rfl (fun ls hl => ?_)
  exact bl_figures_43 X hE hF hL  _ _ _ _ _ h _ _ _ hS (lv_sub hl [2, 3, 1, 0] rfl)
def B_figures_27 (N : Nat) (l1 : Int32) (s0 : Int32) (u : RSt) : Option (Int32 × RSt) := if s0 = (0 : Int32) then (B_figures_39 N s0 l1 u) else (B_figures_39 N s0 (l1 + 2) u)
set_option maxHeartbeats 4000000 in
theorem b_figures_27 {r : Int32} (X : RC p s m args c cX12_figures 14 (Cond.code yX12_figures cX12_figures 14 (some .int)) D kA V A) (hE : REi p l e R s m args below meth c cX12_figures D kA Z A Q r w) (hF : 2 ≤ R.frames) (hL : 40 ≤ R.locals) {l1 : Int32} {s0 : Int32}  {u : RSt} (h : B_figures_27 N l1 s0 u = some (r, w)) (hS : RS D kA Z A s u H locs) (hl : lv_has ls 14 [(0, .ref (Z 200)), (1, .int l1)]) : W p l e R s m args below meth c H locs 0 0 Q (F0 m 27 ls [.int s0]) := by
  obtain ⟨⟨hx, hb, hml, hown, hts⟩, hK, hEV, hA⟩ := id X
  have hG : ∀ w ∈ GW, w.before args s = true := fun w h => hts w (List.mem_cons_of_mem _ h)
  unfold B_figures_27 at h
  refine lv_istore_n (lv' := [(2, .int s0), (0, .ref (Z 200)), (1, .int l1)]) hx hb dX12_figures_27 rfl hl (by decide) rfl (fun ls hl => ?_)
  refine lv_iload_n hx hb dX12_figures_28 rfl (lv_at hl 0 rfl) ?_
  refine lv_if_eq (tgt := 38) hx hb dX12_figures_29 (by decide) (fun c_53 => ?_) (fun c_53 => ?_)
  · have h := ip (c_53) h
    refine lv_iload_n hx hb dX12_figures_38 rfl (lv_at hl 2 rfl) ?_
    exact b_figures_39 X hE hF hL  h hS (lv_sub hl [1, 0] rfl)
  · have h := im (c_53) h
    refine lv_iload_n hx hb dX12_figures_32 rfl (lv_at hl 2 rfl) ?_
    refine lv_iconst (v := 2) hx hb dX12_figures_33 (by decide) ?_
    refine lv_iadd hx hb dX12_figures_34 ?_
    refine lv_goto (tgt := 39) hx hb dX12_figures_35 (by decide) ?_
    exact b_figures_39 X hE hF hL  h hS (lv_sub hl [1, 0] rfl)
def B_figures_26 (N : Nat) (l1 : Int32) (u : RSt) : Option (Int32 × RSt) := B_figures_27 N l1 0 u
set_option maxHeartbeats 4000000 in
theorem b_figures_26 {r : Int32} (X : RC p s m args c cX12_figures 14 (Cond.code yX12_figures cX12_figures 14 (some .int)) D kA V A) (hE : REi p l e R s m args below meth c cX12_figures D kA Z A Q r w) (hF : 2 ≤ R.frames) (hL : 40 ≤ R.locals) {l1 : Int32}  {u : RSt} (h : B_figures_26 N l1 u = some (r, w)) (hS : RS D kA Z A s u H locs) (hl : lv_has ls 14 [(0, .ref (Z 200)), (1, .int l1)]) : W p l e R s m args below meth c H locs 0 0 Q (F0 m 26 ls []) := by
  obtain ⟨⟨hx, hb, hml, hown, hts⟩, hK, hEV, hA⟩ := id X
  have hG : ∀ w ∈ GW, w.before args s = true := fun w h => hts w (List.mem_cons_of_mem _ h)
  unfold B_figures_26 at h
  refine lv_iconst (v := 0) hx hb dX12_figures_26 (by decide) ?_
  exact b_figures_27 X hE hF hL  h hS (lv_sub hl [0, 1] rfl)
def B_figures_0 (N : Nat) (l1 : Int32) (u : RSt) : Option (Int32 × RSt) := bn (F_see N l1 u) fun r_55 u_54 => if r_55 = (48 : Int32) then (bn (F_see N (l1 + 1) u_54) fun r_58 u_57 => if r_58 = (120 : Int32) then (B_figures_27 N l1 1 u_57) else (B_figures_26 N l1 u_57)) else (B_figures_26 N l1 u_54)
set_option maxHeartbeats 4000000 in
theorem b_figures_0 {r : Int32} (X : RC p s m args c cX12_figures 14 (Cond.code yX12_figures cX12_figures 14 (some .int)) D kA V A) (hE : REi p l e R s m args below meth c cX12_figures D kA Z A Q r w) (hF : 2 ≤ R.frames) (hL : 40 ≤ R.locals) {l1 : Int32}  {u : RSt} (h : B_figures_0 N l1 u = some (r, w)) (hS : RS D kA Z A s u H locs) (hl : lv_has ls 14 [(0, .ref (Z 200)), (1, .int l1)]) : W p l e R s m args below meth c H locs 0 0 Q (F0 m 0 ls []) := by
  obtain ⟨⟨hx, hb, hml, hown, hts⟩, hK, hEV, hA⟩ := id X
  have hG : ∀ w ∈ GW, w.before args s = true := fun w h => hts w (List.mem_cons_of_mem _ h)
  unfold B_figures_0 at h
  refine lv_aload_n hx hb dX12_figures_0 rfl (lv_at hl 0 rfl) ?_
  refine lv_iload_n hx hb dX12_figures_1 rfl (lv_at hl 1 rfl) ?_
  obtain ⟨r_55, u_54, h_u_54, h⟩ := bn_of h
  refine kc_see X hS h_u_54 (Nat.le_trans (Nat.le_of_ble_eq_true rfl) hF) (Nat.le_trans (Nat.le_of_ble_eq_true rfl) hL) hl.1 (Nat.le_of_ble_eq_true rfl) dX12_figures_2 (fun H locs hS => ?_)
  refine lv_bipush (v := 48) hx hb dX12_figures_5 (by decide) ?_
  refine lv_icmp_ne (tgt := 26) hx hb dX12_figures_7 (by decide) (fun c_56 => ?_) (fun c_56 => ?_)
  · have h := im (c_56) h
    exact b_figures_26 X hE hF hL  h hS (lv_sub hl [0, 1] rfl)
  · have h := ip (c_56) h
    refine lv_aload_n hx hb dX12_figures_10 rfl (lv_at hl 0 rfl) ?_
    refine lv_iload_n hx hb dX12_figures_11 rfl (lv_at hl 1 rfl) ?_
    refine lv_iconst (v := 1) hx hb dX12_figures_12 (by decide) ?_
    refine lv_iadd hx hb dX12_figures_13 ?_
    obtain ⟨r_58, u_57, h_u_57, h⟩ := bn_of h
    refine kc_see X hS h_u_57 (Nat.le_trans (Nat.le_of_ble_eq_true rfl) hF) (Nat.le_trans (Nat.le_of_ble_eq_true rfl) hL) hl.1 (Nat.le_of_ble_eq_true rfl) dX12_figures_14 (fun H locs hS => ?_)
    refine lv_bipush (v := 120) hx hb dX12_figures_17 (by decide) ?_
    refine lv_icmp_ne (tgt := 26) hx hb dX12_figures_19 (by decide) (fun c_59 => ?_) (fun c_59 => ?_)
    · have h := im (c_59) h
      exact b_figures_26 X hE hF hL  h hS (lv_sub hl [0, 1] rfl)
    · have h := ip (c_59) h
      refine lv_iconst (v := 1) hx hb dX12_figures_22 (by decide) ?_
      refine lv_goto (tgt := 27) hx hb dX12_figures_23 (by decide) ?_
      exact b_figures_27 X hE hF hL  h hS (lv_sub hl [0, 1] rfl)
def F_figures (N : Nat) (l1 : Int32) (u : RSt) : Option (Int32 × RSt) := B_figures_0 N l1 u
set_option maxHeartbeats 4000000 in
theorem k_figures (l : Launch) (D : va_G) (kA : Nat → ClassId) (V Z : Nat → Nat) (N : Nat) (l1 : Int32) (u : RSt) (sz : Nat) {r : Int32} {w : RSt} (h : F_figures N l1 u = some (r, w)) : Met l yX12_figures (Cond.code yX12_figures cX12_figures 14 (some .int) :: GW) { frames := 2, cells := 0, slots := 0, locals := 40 } (rPc D kA V Z [.int l1] u sz) (rQi D kA Z u sz r w) 0 0 (va_A (RW kA Z u) sz) := by
  refine Met.ofW (cc := cX12_figures) (maxL := 14) (ret := (some .int)) (by decide) rfl ?_
  intro p e s m args below meth c s₁ Bd hml hv
  obtain ⟨rfl, hsz, hP, hK, hD0, hE⟩ := hv
  have hts := atoms_spec (ws := Cond.code yX12_figures cX12_figures 14 (some .int) :: GW) Bd.pre
  have hl := lv_entry (.ref (Z 200) :: [.int l1]) (n := 14) (Nat.le_of_ble_eq_true rfl)
  rw [lg_entry_eq]
  generalize (lg_sl (.ref (Z 200) :: [.int l1]) ++ List.replicate (14 - (lg_sl (.ref (Z 200) :: [.int l1])).length) Slot.unset).toArray = ls at hl ⊢
  have hl : lv_has ls 14 [(0, .ref (Z 200)), (1, .int l1)] := hl
  subst hsz
  have X : RC p s m (.ref (Z 200) :: [.int l1]).toArray c cX12_figures 14 (Cond.code yX12_figures cX12_figures 14 (some .int)) D kA V (va_A (RW kA Z u) s.heap.size) := ⟨⟨Bd.exec, Bd.bytes, hml, findClass_of_methodNamed Bd.named, hts⟩, hK, hE, fun q h => Or.inr h⟩
  exact b_figures_0 X (rend_i (cy := cX12_figures) X Bd.returns Bd.notSynchronized) (Nat.le_refl _) (Nat.le_refl _) h ⟨hP, hD0.self, va_S.rf⟩ (lv_sub hl [0, 1] rfl)
theorem kc_figures {r : Int32} {cc : ByteArray} {pc nL : Nat} {c0 : Cond} {rest : List Value} {l1 : Int32} {u : RSt} (X : RC p s m args c cc nL c0 D kA V A) (hS : RS D kA Z A s u H locs) (h : F_figures N l1 u = some (r, w)) (hF : 2 + 1 ≤ R.frames) (hL : 8 + (14 + 11) + 40 ≤ R.locals) (hl : ls.size = nL) (hc : (rest.map fun v => v.category).sum ≤ 8) (hdg : decode cc pc = .ok (.invokevirtual 55, 3)) (kk : ∀ H locs, RS D kA Z A s w H locs → W p l e R s m args below meth c H locs 0 0 Q (F0 m (pc + 3) ls (.int r :: rest))) : W p l e R s m args below meth c H locs 0 0 Q (F0 m pc ls (.int l1 :: .ref (Z 200) :: rest)) :=
  rcall_i (n := 1) X hS (k_figures l D kA V Z N l1 u H.size h) (gw_V gw_2301 gw_2303 gs_7_13 gw_16 gw_2304) (by decide +kernel) hF hL rfl hl hc rfl hdg kk
def B_packed_8 (N : Nat) (R_8 : Int32 × Int32 × Int32 × Int64 × Int32 × RSt → Option (Int64 × RSt)) (l1 : Int32) (l2 : Int32) (l3 : Int32) (l4 : Int64) (l6 : Int32) (u : RSt) : Option (Int64 × RSt) := if l2 ≤ l6 then (some (l4, u)) else (if ((l1 + l3) + 6) ≤ l6 then (some (l4, u)) else (bn (F_see N l6 u) fun r_4 u_3 => R_8 (l1, l2, l3, (r_half l4 r_4), (l6 + 1), u_3)))
set_option maxHeartbeats 4000000 in
theorem b_packed_8 {r : Int64} (X : RC p s m args c cX12_packed 7 (Cond.code yX12_packed cX12_packed 7 (some .long)) D kA V A) (hE : REl p l e R s m args below meth c cX12_packed D kA Z A Q r w) (hF : 1 ≤ R.frames) (hL : 22 ≤ R.locals) {R_8 : Int32 × Int32 × Int32 × Int64 × Int32 × RSt → Option (Int64 × RSt)} {l1 : Int32} {l2 : Int32} {l3 : Int32} {l4 : Int64} {l6 : Int32} (hR_8 : ∀ (l1 : Int32) (l2 : Int32) (l3 : Int32) (l4 : Int64) (l6 : Int32) (u : RSt), R_8 (l1, l2, l3, l4, l6, u) = some (r, w) → ∀ (H : Heap) (locs : List Loc) (ls : Array Slot), RS D kA Z A s u H locs → lv_has ls 7 [(0, .ref (Z 200)), (1, .int l1), (2, .int l2), (3, .int l3), (4, .long l4), (6, .int l6)] → W p l e R s m args below meth c H locs 0 0 Q (F0 m 8 ls [])) {u : RSt} (h : B_packed_8 N R_8 l1 l2 l3 l4 l6 u = some (r, w)) (hS : RS D kA Z A s u H locs) (hl : lv_has ls 7 [(0, .ref (Z 200)), (1, .int l1), (2, .int l2), (3, .int l3), (4, .long l4), (6, .int l6)]) : W p l e R s m args below meth c H locs 0 0 Q (F0 m 8 ls []) := by
  obtain ⟨⟨hx, hb, hml, hown, hts⟩, hK, hEV, hA⟩ := id X
  have hG : ∀ w ∈ GW, w.before args s = true := fun w h => hts w (List.mem_cons_of_mem _ h)
  unfold B_packed_8 at h
  refine lv_iload hx hb dX12_packed_8 (lv_at hl 5 rfl) ?_
  refine lv_iload_n hx hb dX12_packed_10 rfl (lv_at hl 2 rfl) ?_
  refine lv_icmp_ge (tgt := 44) hx hb dX12_packed_11 (by decide) (fun c_1 => ?_) (fun c_1 => ?_)
  · have h := ip (c_1) h
    refine lv_lload hx hb dX12_packed_44 (lv_at hl 4 rfl) ?_
    obtain ⟨rfl, rfl⟩ := so h
    exact hE _ _ _ _ hS dX12_packed_46
  · have h := im (c_1) h
    refine lv_iload hx hb dX12_packed_14 (lv_at hl 5 rfl) ?_
    refine lv_iload_n hx hb dX12_packed_16 rfl (lv_at hl 1 rfl) ?_
    refine lv_iload_n hx hb dX12_packed_17 rfl (lv_at hl 3 rfl) ?_
    refine lv_iadd hx hb dX12_packed_18 ?_
    refine lv_bipush (v := 6) hx hb dX12_packed_19 (by decide) ?_
    refine lv_iadd hx hb dX12_packed_21 ?_
    refine lv_icmp_ge (tgt := 44) hx hb dX12_packed_22 (by decide) (fun c_2 => ?_) (fun c_2 => ?_)
    · have h := ip (c_2) h
      refine lv_lload hx hb dX12_packed_44 (lv_at hl 4 rfl) ?_
      obtain ⟨rfl, rfl⟩ := so h
      exact hE _ _ _ _ hS dX12_packed_46
    · have h := im (c_2) h
      refine lv_lload hx hb dX12_packed_25 (lv_at hl 4 rfl) ?_
      refine lv_aload_n hx hb dX12_packed_27 rfl (lv_at hl 0 rfl) ?_
      refine lv_iload hx hb dX12_packed_28 (lv_at hl 5 rfl) ?_
      obtain ⟨r_4, u_3, h_u_3, h⟩ := bn_of h
      refine kc_see X hS h_u_3 (Nat.le_trans (Nat.le_of_ble_eq_true rfl) hF) (Nat.le_trans (Nat.le_of_ble_eq_true rfl) hL) hl.1 (Nat.le_of_ble_eq_true rfl) dX12_packed_30 (fun H locs hS => ?_)
      refine vp_callSl (W.runS (As := [.long l4, .int r_4]) (rest := []) X.1 (c_X12_half l l4 r_4) (va_cwS 2 hts (gw_P gw_2298 gw_2299 gw_16 gwp_X12_half) rfl rfl rfl (by decide +kernel) ⟨Nat.le_trans (Nat.le_of_ble_eq_true rfl) hF, Nat.le_trans (Nat.le_of_ble_eq_true rfl) hL⟩) ⟨fun _ _ _ _ q => q, fun _ _ _ => ⟨rfl, trivial⟩⟩ rfl rfl hl.1 rfl (lv_room (Nat.le_of_ble_eq_true rfl)) dX12_packed_33 ⟨Nat.zero_le _, Nat.zero_le _⟩) (fun r_5 q_6 => ?_)
      subst q_6
      refine lv_lstore (lv' := [(4, .long (r_half l4 r_4)), (0, .ref (Z 200)), (1, .int l1), (2, .int l2), (3, .int l3), (6, .int l6)]) hx hb dX12_packed_36 hl (by decide) rfl (fun ls hl => ?_)
      refine lv_iinc (v := l6 + 1) (lv' := [(6, .int (l6 + 1)), (4, .long (r_half l4 r_4)), (0, .ref (Z 200)), (1, .int l1), (2, .int l2), (3, .int l3)]) hx hb dX12_packed_38 hl (k := 5) rfl rfl (by decide) rfl (fun ls hl => ?_)
      refine lv_goto (tgt := 8) hx hb dX12_packed_41 (by decide) ?_
      exact hR_8 _ _ _ _ _ _ h _ _ _ hS (lv_sub hl [2, 3, 4, 5, 1, 0] rfl)
def LP_packed_8 (N : Nat) : Nat → Int32 × Int32 × Int32 × Int64 × Int32 × RSt → Option (Int64 × RSt) := lp (fun R a => B_packed_8 N R a.1 a.2.1 a.2.2.1 a.2.2.2.1 a.2.2.2.2.1 a.2.2.2.2.2)
theorem bl_packed_8 {r : Int64} (X : RC p s m args c cX12_packed 7 (Cond.code yX12_packed cX12_packed 7 (some .long)) D kA V A) (hE : REl p l e R s m args below meth c cX12_packed D kA Z A Q r w) (hF : 1 ≤ R.frames) (hL : 22 ≤ R.locals)  : ∀ (n : Nat) (l1 : Int32) (l2 : Int32) (l3 : Int32) (l4 : Int64) (l6 : Int32) (u : RSt), LP_packed_8 N n (l1, l2, l3, l4, l6, u) = some (r, w) → ∀ (H : Heap) (locs : List Loc) (ls : Array Slot), RS D kA Z A s u H locs → lv_has ls 7 [(0, .ref (Z 200)), (1, .int l1), (2, .int l2), (3, .int l3), (4, .long l4), (6, .int l6)] → W p l e R s m args below meth c H locs 0 0 Q (F0 m 8 ls []) := by
  intro n
  induction n with
  | zero => intro l1 l2 l3 l4 l6 u h; exact nomatch h
  | succ n ih => intro l1 l2 l3 l4 l6 u h H locs ls hS hl; exact b_packed_8 (N := N) (R_8 := LP_packed_8 N n) X hE hF hL  ih h hS hl
def B_packed_0 (N : Nat) (l1 : Int32) (l2 : Int32) (l3 : Int32) (u : RSt) : Option (Int64 × RSt) := LP_packed_8 N N (l1, l2, l3, 0, (l1 + l3), u)
set_option maxHeartbeats 4000000 in
theorem b_packed_0 {r : Int64} (X : RC p s m args c cX12_packed 7 (Cond.code yX12_packed cX12_packed 7 (some .long)) D kA V A) (hE : REl p l e R s m args below meth c cX12_packed D kA Z A Q r w) (hF : 1 ≤ R.frames) (hL : 22 ≤ R.locals) {l1 : Int32} {l2 : Int32} {l3 : Int32}  {u : RSt} (h : B_packed_0 N l1 l2 l3 u = some (r, w)) (hS : RS D kA Z A s u H locs) (hl : lv_has ls 7 [(0, .ref (Z 200)), (1, .int l1), (2, .int l2), (3, .int l3)]) : W p l e R s m args below meth c H locs 0 0 Q (F0 m 0 ls []) := by
  obtain ⟨⟨hx, hb, hml, hown, hts⟩, hK, hEV, hA⟩ := id X
  have hG : ∀ w ∈ GW, w.before args s = true := fun w h => hts w (List.mem_cons_of_mem _ h)
  unfold B_packed_0 at h
  refine lv_lconst (v := 0) hx hb dX12_packed_0 (by decide) ?_
  refine lv_lstore (lv' := [(4, .long 0), (0, .ref (Z 200)), (1, .int l1), (2, .int l2), (3, .int l3)]) hx hb dX12_packed_1 hl (by decide) rfl (fun ls hl => ?_)
  refine lv_iload_n hx hb dX12_packed_3 rfl (lv_at hl 2 rfl) ?_
  refine lv_iload_n hx hb dX12_packed_4 rfl (lv_at hl 4 rfl) ?_
  refine lv_iadd hx hb dX12_packed_5 ?_
  refine lv_istore (lv' := [(6, .int (l1 + l3)), (4, .long 0), (0, .ref (Z 200)), (1, .int l1), (2, .int l2), (3, .int l3)]) hx hb dX12_packed_6 hl (by decide) rfl (fun ls hl => ?_)
  exact bl_packed_8 X hE hF hL  _ _ _ _ _ _ _ h _ _ _ hS (lv_sub hl [2, 3, 4, 5, 1, 0] rfl)
def F_packed (N : Nat) (l1 : Int32) (l2 : Int32) (l3 : Int32) (u : RSt) : Option (Int64 × RSt) := B_packed_0 N l1 l2 l3 u
set_option maxHeartbeats 4000000 in
theorem k_packed (l : Launch) (D : va_G) (kA : Nat → ClassId) (V Z : Nat → Nat) (N : Nat) (l1 : Int32) (l2 : Int32) (l3 : Int32) (u : RSt) (sz : Nat) {r : Int64} {w : RSt} (h : F_packed N l1 l2 l3 u = some (r, w)) : Met l yX12_packed (Cond.code yX12_packed cX12_packed 7 (some .long) :: GW) { frames := 1, cells := 0, slots := 0, locals := 22 } (rPc D kA V Z [.int l1, .int l2, .int l3] u sz) (rQl D kA Z u sz r w) 0 0 (va_A (RW kA Z u) sz) := by
  refine Met.ofW (cc := cX12_packed) (maxL := 7) (ret := (some .long)) (by decide) rfl ?_
  intro p e s m args below meth c s₁ Bd hml hv
  obtain ⟨rfl, hsz, hP, hK, hD0, hE⟩ := hv
  have hts := atoms_spec (ws := Cond.code yX12_packed cX12_packed 7 (some .long) :: GW) Bd.pre
  have hl := lv_entry (.ref (Z 200) :: [.int l1, .int l2, .int l3]) (n := 7) (Nat.le_of_ble_eq_true rfl)
  rw [lg_entry_eq]
  generalize (lg_sl (.ref (Z 200) :: [.int l1, .int l2, .int l3]) ++ List.replicate (7 - (lg_sl (.ref (Z 200) :: [.int l1, .int l2, .int l3])).length) Slot.unset).toArray = ls at hl ⊢
  have hl : lv_has ls 7 [(0, .ref (Z 200)), (1, .int l1), (2, .int l2), (3, .int l3)] := hl
  subst hsz
  have X : RC p s m (.ref (Z 200) :: [.int l1, .int l2, .int l3]).toArray c cX12_packed 7 (Cond.code yX12_packed cX12_packed 7 (some .long)) D kA V (va_A (RW kA Z u) s.heap.size) := ⟨⟨Bd.exec, Bd.bytes, hml, findClass_of_methodNamed Bd.named, hts⟩, hK, hE, fun q h => Or.inr h⟩
  exact b_packed_0 X (rend_l (cy := cX12_packed) X Bd.returns Bd.notSynchronized) (Nat.le_refl _) (Nat.le_refl _) h ⟨hP, hD0.self, va_S.rf⟩ (lv_sub hl [0, 1, 2, 3] rfl)
theorem kc_packed {r : Int64} {cc : ByteArray} {pc nL : Nat} {c0 : Cond} {rest : List Value} {l1 : Int32} {l2 : Int32} {l3 : Int32} {u : RSt} (X : RC p s m args c cc nL c0 D kA V A) (hS : RS D kA Z A s u H locs) (h : F_packed N l1 l2 l3 u = some (r, w)) (hF : 1 + 1 ≤ R.frames) (hL : 8 + (7 + 11) + 22 ≤ R.locals) (hl : ls.size = nL) (hc : (rest.map fun v => v.category).sum ≤ 8) (hdg : decode cc pc = .ok (.invokevirtual 69, 3)) (kk : ∀ H locs, RS D kA Z A s w H locs → W p l e R s m args below meth c H locs 0 0 Q (F0 m (pc + 3) ls (.long r :: rest))) : W p l e R s m args below meth c H locs 0 0 Q (F0 m pc ls (.int l3 :: .int l2 :: .int l1 :: .ref (Z 200) :: rest)) :=
  rcall_l (n := 3) X hS (k_packed l D kA V Z N l1 l2 l3 u H.size h) (gw_V gw_2294 gw_2296 gs_7_12 gw_16 gw_2297) (by decide +kernel) hF hL rfl hl hc rfl hdg kk
def B_find_75 (N : Nat) (R_49 : Int32 × Int32 × Int32 × RSt → Option (Int32 × RSt)) (l1 : Int32) (l3 : Int32) (s0 : Int32) (u : RSt) : Option (Int32 × RSt) := R_49 (l1, s0, (l3 + 1), u)
set_option maxHeartbeats 4000000 in
theorem b_find_75 {r : Int32} (X : RC p s m args c cX12_find 13 (Cond.code yX12_find cX12_find 13 (some .int)) D kA V A) (hE : REi p l e R s m args below meth c cX12_find D kA Z A Q r w) (hF : 2 ≤ R.frames) (hL : 48 ≤ R.locals) {R_49 : Int32 × Int32 × Int32 × RSt → Option (Int32 × RSt)} {l1 : Int32} {l3 : Int32} {s0 : Int32} (hR_49 : ∀ (l1 : Int32) (l2 : Int32) (l3 : Int32) (u : RSt), R_49 (l1, l2, l3, u) = some (r, w) → ∀ (H : Heap) (locs : List Loc) (ls : Array Slot), RS D kA Z A s u H locs → lv_has ls 13 [(0, .ref (Z 200)), (1, .int l1), (2, .int l2), (3, .int l3)] → W p l e R s m args below meth c H locs 0 0 Q (F0 m 49 ls [])) {u : RSt} (h : B_find_75 N R_49 l1 l3 s0 u = some (r, w)) (hS : RS D kA Z A s u H locs) (hl : lv_has ls 13 [(0, .ref (Z 200)), (1, .int l1), (3, .int l3)]) : W p l e R s m args below meth c H locs 0 0 Q (F0 m 75 ls [.int s0]) := by
  obtain ⟨⟨hx, hb, hml, hown, hts⟩, hK, hEV, hA⟩ := id X
  have hG : ∀ w ∈ GW, w.before args s = true := fun w h => hts w (List.mem_cons_of_mem _ h)
  unfold B_find_75 at h
  refine lv_istore_n (lv' := [(2, .int s0), (0, .ref (Z 200)), (1, .int l1), (3, .int l3)]) hx hb dX12_find_75 rfl hl (by decide) rfl (fun ls hl => ?_)
  refine lv_iinc (v := l3 + 1) (lv' := [(3, .int (l3 + 1)), (2, .int s0), (0, .ref (Z 200)), (1, .int l1)]) hx hb dX12_find_76 hl (k := 3) rfl rfl (by decide) rfl (fun ls hl => ?_)
  refine lv_goto (tgt := 49) hx hb dX12_find_79 (by decide) ?_
  exact hR_49 _ _ _ _ h _ _ _ hS (lv_sub hl [2, 3, 1, 0] rfl)
def B_find_453 (N : Nat) (R_204 : Int32 × Int64 × Int64 × Int32 × Int32 × RSt → Option (Int32 × RSt)) (l1 : Int32) (l3 : Int64) (l5 : Int64) (l7 : Int32) (l8 : Int32) (u : RSt) : Option (Int32 × RSt) := R_204 (l1, l3, l5, l7, (l8 + 1), u)
set_option maxHeartbeats 4000000 in
theorem b_find_453 {r : Int32} (X : RC p s m args c cX12_find 13 (Cond.code yX12_find cX12_find 13 (some .int)) D kA V A) (hE : REi p l e R s m args below meth c cX12_find D kA Z A Q r w) (hF : 2 ≤ R.frames) (hL : 48 ≤ R.locals) {R_204 : Int32 × Int64 × Int64 × Int32 × Int32 × RSt → Option (Int32 × RSt)} {l1 : Int32} {l3 : Int64} {l5 : Int64} {l7 : Int32} {l8 : Int32} (hR_204 : ∀ (l1 : Int32) (l3 : Int64) (l5 : Int64) (l7 : Int32) (l8 : Int32) (u : RSt), R_204 (l1, l3, l5, l7, l8, u) = some (r, w) → ∀ (H : Heap) (locs : List Loc) (ls : Array Slot), RS D kA Z A s u H locs → lv_has ls 13 [(0, .ref (Z 200)), (1, .int l1), (3, .long l3), (5, .long l5), (7, .int l7), (8, .int l8)] → W p l e R s m args below meth c H locs 0 0 Q (F0 m 204 ls [])) {u : RSt} (h : B_find_453 N R_204 l1 l3 l5 l7 l8 u = some (r, w)) (hS : RS D kA Z A s u H locs) (hl : lv_has ls 13 [(0, .ref (Z 200)), (1, .int l1), (3, .long l3), (5, .long l5), (7, .int l7), (8, .int l8)]) : W p l e R s m args below meth c H locs 0 0 Q (F0 m 453 ls []) := by
  obtain ⟨⟨hx, hb, hml, hown, hts⟩, hK, hEV, hA⟩ := id X
  have hG : ∀ w ∈ GW, w.before args s = true := fun w h => hts w (List.mem_cons_of_mem _ h)
  unfold B_find_453 at h
  refine lv_iinc (v := l8 + 1) (lv' := [(8, .int (l8 + 1)), (0, .ref (Z 200)), (1, .int l1), (3, .long l3), (5, .long l5), (7, .int l7)]) hx hb dX12_find_453 hl (k := 5) rfl rfl (by decide) rfl (fun ls hl => ?_)
  refine lv_goto (tgt := 204) hx hb dX12_find_456 (by decide) ?_
  exact hR_204 _ _ _ _ _ _ h _ _ _ hS (lv_sub hl [1, 2, 3, 4, 5, 0] rfl)
def B_find_433 (N : Nat) (R_204 : Int32 × Int64 × Int64 × Int32 × Int32 × RSt → Option (Int32 × RSt)) (l1 : Int32) (l3 : Int64) (l5 : Int64) (l7 : Int32) (l8 : Int32) (l9 : Int64) (s0 : Int64) (u : RSt) : Option (Int32 × RSt) := if l9 = l3 then (if s0 = l5 then (some (l8, u)) else (B_find_453 N R_204 l1 l3 l5 l7 l8 u)) else (B_find_453 N R_204 l1 l3 l5 l7 l8 u)
set_option maxHeartbeats 4000000 in
theorem b_find_433 {r : Int32} (X : RC p s m args c cX12_find 13 (Cond.code yX12_find cX12_find 13 (some .int)) D kA V A) (hE : REi p l e R s m args below meth c cX12_find D kA Z A Q r w) (hF : 2 ≤ R.frames) (hL : 48 ≤ R.locals) {R_204 : Int32 × Int64 × Int64 × Int32 × Int32 × RSt → Option (Int32 × RSt)} {l1 : Int32} {l3 : Int64} {l5 : Int64} {l7 : Int32} {l8 : Int32} {l9 : Int64} {s0 : Int64} (hR_204 : ∀ (l1 : Int32) (l3 : Int64) (l5 : Int64) (l7 : Int32) (l8 : Int32) (u : RSt), R_204 (l1, l3, l5, l7, l8, u) = some (r, w) → ∀ (H : Heap) (locs : List Loc) (ls : Array Slot), RS D kA Z A s u H locs → lv_has ls 13 [(0, .ref (Z 200)), (1, .int l1), (3, .long l3), (5, .long l5), (7, .int l7), (8, .int l8)] → W p l e R s m args below meth c H locs 0 0 Q (F0 m 204 ls [])) {u : RSt} (h : B_find_433 N R_204 l1 l3 l5 l7 l8 l9 s0 u = some (r, w)) (hS : RS D kA Z A s u H locs) (hl : lv_has ls 13 [(0, .ref (Z 200)), (1, .int l1), (3, .long l3), (5, .long l5), (7, .int l7), (8, .int l8), (9, .long l9)]) : W p l e R s m args below meth c H locs 0 0 Q (F0 m 433 ls [.long s0]) := by
  obtain ⟨⟨hx, hb, hml, hown, hts⟩, hK, hEV, hA⟩ := id X
  have hG : ∀ w ∈ GW, w.before args s = true := fun w h => hts w (List.mem_cons_of_mem _ h)
  unfold B_find_433 at h
  refine lv_lstore (lv' := [(11, .long s0), (0, .ref (Z 200)), (1, .int l1), (3, .long l3), (5, .long l5), (7, .int l7), (8, .int l8), (9, .long l9)]) hx hb dX12_find_433 hl (by decide) rfl (fun ls hl => ?_)
  refine lv_lload hx hb dX12_find_435 (lv_at hl 7 rfl) ?_
  refine lv_lload_n hx hb dX12_find_437 rfl (lv_at hl 3 rfl) ?_
  refine W.lcmp hx hb dX12_find_438 ?_
  refine lv_if_ne (tgt := 453) hx hb dX12_find_439 (by decide) (fun c_1 => ?_) (fun c_1 => ?_)
  · have h := im (mt (lg_cmp_eq _ _).mpr c_1) h
    exact b_find_453 X hE hF hL hR_204 h hS (lv_sub hl [1, 2, 3, 4, 5, 6] rfl)
  · have h := ip ((lg_cmp_eq _ _).mp c_1) h
    refine lv_lload hx hb dX12_find_442 (lv_at hl 0 rfl) ?_
    refine lv_lload hx hb dX12_find_444 (lv_at hl 4 rfl) ?_
    refine W.lcmp hx hb dX12_find_446 ?_
    refine lv_if_ne (tgt := 453) hx hb dX12_find_447 (by decide) (fun c_2 => ?_) (fun c_2 => ?_)
    · have h := im (mt (lg_cmp_eq _ _).mpr c_2) h
      exact b_find_453 X hE hF hL hR_204 h hS (lv_sub hl [1, 2, 3, 4, 5, 6] rfl)
    · have h := ip ((lg_cmp_eq _ _).mp c_2) h
      refine lv_iload hx hb dX12_find_450 (lv_at hl 6 rfl) ?_
      obtain ⟨rfl, rfl⟩ := so h
      exact hE _ _ _ _ hS dX12_find_452
def B_find_321 (N : Nat) (R_204 : Int32 × Int64 × Int64 × Int32 × Int32 × RSt → Option (Int32 × RSt)) (l1 : Int32) (l3 : Int64) (l5 : Int64) (l7 : Int32) (l8 : Int32) (s0 : Int64) (u : RSt) : Option (Int32 × RSt) := if l1 = (0 : Int32) then (rd (u.2.2.2 18) 320 ((160 * (u.1 55)) + l8) fun v_15 => B_find_433 N R_204 l1 l3 l5 l7 l8 s0 v_15 u) else (if l1 = (1 : Int32) then (rd (u.2.2.2 41) 48 ((24 * (u.1 55)) + l8) fun v_13 => B_find_433 N R_204 l1 l3 l5 l7 l8 s0 v_13 u) else (if l1 = (2 : Int32) then (rd (u.2.2.2 47) 16 ((8 * (u.1 55)) + l8) fun v_11 => B_find_433 N R_204 l1 l3 l5 l7 l8 s0 v_11 u) else (if l1 = (3 : Int32) then (rd (u.2.2.2 35) 48 ((24 * (u.1 55)) + l8) fun v_9 => B_find_433 N R_204 l1 l3 l5 l7 l8 s0 v_9 u) else (rd (u.2.2.2 35) 48 (((24 * (u.1 55)) + 8) + l8) fun v_7 => B_find_433 N R_204 l1 l3 l5 l7 l8 s0 v_7 u))))
set_option maxHeartbeats 4000000 in
theorem b_find_321 {r : Int32} (X : RC p s m args c cX12_find 13 (Cond.code yX12_find cX12_find 13 (some .int)) D kA V A) (hE : REi p l e R s m args below meth c cX12_find D kA Z A Q r w) (hF : 2 ≤ R.frames) (hL : 48 ≤ R.locals) {R_204 : Int32 × Int64 × Int64 × Int32 × Int32 × RSt → Option (Int32 × RSt)} {l1 : Int32} {l3 : Int64} {l5 : Int64} {l7 : Int32} {l8 : Int32} {s0 : Int64} (hR_204 : ∀ (l1 : Int32) (l3 : Int64) (l5 : Int64) (l7 : Int32) (l8 : Int32) (u : RSt), R_204 (l1, l3, l5, l7, l8, u) = some (r, w) → ∀ (H : Heap) (locs : List Loc) (ls : Array Slot), RS D kA Z A s u H locs → lv_has ls 13 [(0, .ref (Z 200)), (1, .int l1), (3, .long l3), (5, .long l5), (7, .int l7), (8, .int l8)] → W p l e R s m args below meth c H locs 0 0 Q (F0 m 204 ls [])) {u : RSt} (h : B_find_321 N R_204 l1 l3 l5 l7 l8 s0 u = some (r, w)) (hS : RS D kA Z A s u H locs) (hl : lv_has ls 13 [(0, .ref (Z 200)), (1, .int l1), (3, .long l3), (5, .long l5), (7, .int l7), (8, .int l8)]) : W p l e R s m args below meth c H locs 0 0 Q (F0 m 321 ls [.long s0]) := by
  obtain ⟨⟨hx, hb, hml, hown, hts⟩, hK, hEV, hA⟩ := id X
  have hG : ∀ w ∈ GW, w.before args s = true := fun w h => hts w (List.mem_cons_of_mem _ h)
  unfold B_find_321 at h
  refine lv_lstore (lv' := [(9, .long s0), (0, .ref (Z 200)), (1, .int l1), (3, .long l3), (5, .long l5), (7, .int l7), (8, .int l8)]) hx hb dX12_find_321 hl (by decide) rfl (fun ls hl => ?_)
  refine lv_iload_n hx hb dX12_find_323 rfl (lv_at hl 2 rfl) ?_
  refine lv_if_ne (tgt := 346) hx hb dX12_find_324 (by decide) (fun c_3 => ?_) (fun c_3 => ?_)
  · have h := im (c_3) h
    refine lv_iload_n hx hb dX12_find_346 rfl (lv_at hl 2 rfl) ?_
    refine lv_iconst (v := 1) hx hb dX12_find_347 (by decide) ?_
    refine lv_icmp_ne (tgt := 369) hx hb dX12_find_348 (by decide) (fun c_4 => ?_) (fun c_4 => ?_)
    · have h := im (c_4) h
      refine lv_iload_n hx hb dX12_find_369 rfl (lv_at hl 2 rfl) ?_
      refine lv_iconst (v := 2) hx hb dX12_find_370 (by decide) ?_
      refine lv_icmp_ne (tgt := 392) hx hb dX12_find_371 (by decide) (fun c_5 => ?_) (fun c_5 => ?_)
      · have h := im (c_5) h
        refine lv_iload_n hx hb dX12_find_392 rfl (lv_at hl 2 rfl) ?_
        refine lv_iconst (v := 3) hx hb dX12_find_393 (by decide) ?_
        refine lv_icmp_ne (tgt := 415) hx hb dX12_find_394 (by decide) (fun c_6 => ?_) (fun c_6 => ?_)
        · have h := im (c_6) h
          refine lv_aload_n hx hb dX12_find_415 rfl (lv_at hl 1 rfl) ?_
          refine rg_35 X hS dX12_find_416 ?_
          refine lv_bipush (v := 24) hx hb dX12_find_419 (by decide) ?_
          refine lv_aload_n hx hb dX12_find_421 rfl (lv_at hl 1 rfl) ?_
          refine rg_55 X hS dX12_find_422 ?_
          refine lv_imul hx hb dX12_find_425 ?_
          refine lv_bipush (v := 8) hx hb dX12_find_426 (by decide) ?_
          refine lv_iadd hx hb dX12_find_428 ?_
          refine lv_iload hx hb dX12_find_429 (lv_at hl 6 rfl) ?_
          refine lv_iadd hx hb dX12_find_431 ?_
          obtain ⟨v_7, e_v_7, i_8, h⟩ := rd_of h
          refine ra_35 X hS i_8 e_v_7 dX12_find_432 ?_
          exact b_find_433 X hE hF hL hR_204 h hS (lv_sub hl [1, 2, 3, 4, 5, 6, 0] rfl)
        · have h := ip (c_6) h
          refine lv_aload_n hx hb dX12_find_397 rfl (lv_at hl 1 rfl) ?_
          refine rg_35 X hS dX12_find_398 ?_
          refine lv_bipush (v := 24) hx hb dX12_find_401 (by decide) ?_
          refine lv_aload_n hx hb dX12_find_403 rfl (lv_at hl 1 rfl) ?_
          refine rg_55 X hS dX12_find_404 ?_
          refine lv_imul hx hb dX12_find_407 ?_
          refine lv_iload hx hb dX12_find_408 (lv_at hl 6 rfl) ?_
          refine lv_iadd hx hb dX12_find_410 ?_
          obtain ⟨v_9, e_v_9, i_10, h⟩ := rd_of h
          refine ra_35 X hS i_10 e_v_9 dX12_find_411 ?_
          refine lv_goto (tgt := 433) hx hb dX12_find_412 (by decide) ?_
          exact b_find_433 X hE hF hL hR_204 h hS (lv_sub hl [1, 2, 3, 4, 5, 6, 0] rfl)
      · have h := ip (c_5) h
        refine lv_aload_n hx hb dX12_find_374 rfl (lv_at hl 1 rfl) ?_
        refine rg_47 X hS dX12_find_375 ?_
        refine lv_bipush (v := 8) hx hb dX12_find_378 (by decide) ?_
        refine lv_aload_n hx hb dX12_find_380 rfl (lv_at hl 1 rfl) ?_
        refine rg_55 X hS dX12_find_381 ?_
        refine lv_imul hx hb dX12_find_384 ?_
        refine lv_iload hx hb dX12_find_385 (lv_at hl 6 rfl) ?_
        refine lv_iadd hx hb dX12_find_387 ?_
        obtain ⟨v_11, e_v_11, i_12, h⟩ := rd_of h
        refine ra_47 X hS i_12 e_v_11 dX12_find_388 ?_
        refine lv_goto (tgt := 433) hx hb dX12_find_389 (by decide) ?_
        exact b_find_433 X hE hF hL hR_204 h hS (lv_sub hl [1, 2, 3, 4, 5, 6, 0] rfl)
    · have h := ip (c_4) h
      refine lv_aload_n hx hb dX12_find_351 rfl (lv_at hl 1 rfl) ?_
      refine rg_41 X hS dX12_find_352 ?_
      refine lv_bipush (v := 24) hx hb dX12_find_355 (by decide) ?_
      refine lv_aload_n hx hb dX12_find_357 rfl (lv_at hl 1 rfl) ?_
      refine rg_55 X hS dX12_find_358 ?_
      refine lv_imul hx hb dX12_find_361 ?_
      refine lv_iload hx hb dX12_find_362 (lv_at hl 6 rfl) ?_
      refine lv_iadd hx hb dX12_find_364 ?_
      obtain ⟨v_13, e_v_13, i_14, h⟩ := rd_of h
      refine ra_41 X hS i_14 e_v_13 dX12_find_365 ?_
      refine lv_goto (tgt := 433) hx hb dX12_find_366 (by decide) ?_
      exact b_find_433 X hE hF hL hR_204 h hS (lv_sub hl [1, 2, 3, 4, 5, 6, 0] rfl)
  · have h := ip (c_3) h
    refine lv_aload_n hx hb dX12_find_327 rfl (lv_at hl 1 rfl) ?_
    refine rg_18 X hS dX12_find_328 ?_
    refine lv_sipush (v := 160) hx hb dX12_find_331 (by decide) ?_
    refine lv_aload_n hx hb dX12_find_334 rfl (lv_at hl 1 rfl) ?_
    refine rg_55 X hS dX12_find_335 ?_
    refine lv_imul hx hb dX12_find_338 ?_
    refine lv_iload hx hb dX12_find_339 (lv_at hl 6 rfl) ?_
    refine lv_iadd hx hb dX12_find_341 ?_
    obtain ⟨v_15, e_v_15, i_16, h⟩ := rd_of h
    refine ra_18 X hS i_16 e_v_15 dX12_find_342 ?_
    refine lv_goto (tgt := 433) hx hb dX12_find_343 (by decide) ?_
    exact b_find_433 X hE hF hL hR_204 h hS (lv_sub hl [1, 2, 3, 4, 5, 6, 0] rfl)
def B_find_204 (N : Nat) (R_204 : Int32 × Int64 × Int64 × Int32 × Int32 × RSt → Option (Int32 × RSt)) (l1 : Int32) (l3 : Int64) (l5 : Int64) (l7 : Int32) (l8 : Int32) (u : RSt) : Option (Int32 × RSt) := if l7 ≤ l8 then (some ((-1), u)) else (if l1 = (0 : Int32) then (rd (u.2.2.2 17) 320 ((160 * (u.1 55)) + l8) fun v_30 => B_find_321 N R_204 l1 l3 l5 l7 l8 v_30 u) else (if l1 = (1 : Int32) then (rd (u.2.2.2 40) 48 ((24 * (u.1 55)) + l8) fun v_28 => B_find_321 N R_204 l1 l3 l5 l7 l8 v_28 u) else (if l1 = (2 : Int32) then (rd (u.2.2.2 46) 16 ((8 * (u.1 55)) + l8) fun v_26 => B_find_321 N R_204 l1 l3 l5 l7 l8 v_26 u) else (if l1 = (3 : Int32) then (rd (u.2.2.2 34) 48 ((24 * (u.1 55)) + l8) fun v_24 => B_find_321 N R_204 l1 l3 l5 l7 l8 v_24 u) else (rd (u.2.2.2 34) 48 (((24 * (u.1 55)) + 8) + l8) fun v_22 => B_find_321 N R_204 l1 l3 l5 l7 l8 v_22 u)))))
set_option maxHeartbeats 4000000 in
theorem b_find_204 {r : Int32} (X : RC p s m args c cX12_find 13 (Cond.code yX12_find cX12_find 13 (some .int)) D kA V A) (hE : REi p l e R s m args below meth c cX12_find D kA Z A Q r w) (hF : 2 ≤ R.frames) (hL : 48 ≤ R.locals) {R_204 : Int32 × Int64 × Int64 × Int32 × Int32 × RSt → Option (Int32 × RSt)} {l1 : Int32} {l3 : Int64} {l5 : Int64} {l7 : Int32} {l8 : Int32} (hR_204 : ∀ (l1 : Int32) (l3 : Int64) (l5 : Int64) (l7 : Int32) (l8 : Int32) (u : RSt), R_204 (l1, l3, l5, l7, l8, u) = some (r, w) → ∀ (H : Heap) (locs : List Loc) (ls : Array Slot), RS D kA Z A s u H locs → lv_has ls 13 [(0, .ref (Z 200)), (1, .int l1), (3, .long l3), (5, .long l5), (7, .int l7), (8, .int l8)] → W p l e R s m args below meth c H locs 0 0 Q (F0 m 204 ls [])) {u : RSt} (h : B_find_204 N R_204 l1 l3 l5 l7 l8 u = some (r, w)) (hS : RS D kA Z A s u H locs) (hl : lv_has ls 13 [(0, .ref (Z 200)), (1, .int l1), (3, .long l3), (5, .long l5), (7, .int l7), (8, .int l8)]) : W p l e R s m args below meth c H locs 0 0 Q (F0 m 204 ls []) := by
  obtain ⟨⟨hx, hb, hml, hown, hts⟩, hK, hEV, hA⟩ := id X
  have hG : ∀ w ∈ GW, w.before args s = true := fun w h => hts w (List.mem_cons_of_mem _ h)
  unfold B_find_204 at h
  refine lv_iload hx hb dX12_find_204 (lv_at hl 5 rfl) ?_
  refine lv_iload hx hb dX12_find_206 (lv_at hl 4 rfl) ?_
  refine lv_icmp_ge (tgt := 459) hx hb dX12_find_208 (by decide) (fun c_17 => ?_) (fun c_17 => ?_)
  · have h := ip (c_17) h
    refine lv_iconst (v := (-1)) hx hb dX12_find_459 (by decide) ?_
    obtain ⟨rfl, rfl⟩ := so h
    exact hE _ _ _ _ hS dX12_find_460
  · have h := im (c_17) h
    refine lv_iload_n hx hb dX12_find_211 rfl (lv_at hl 1 rfl) ?_
    refine lv_if_ne (tgt := 234) hx hb dX12_find_212 (by decide) (fun c_18 => ?_) (fun c_18 => ?_)
    · have h := im (c_18) h
      refine lv_iload_n hx hb dX12_find_234 rfl (lv_at hl 1 rfl) ?_
      refine lv_iconst (v := 1) hx hb dX12_find_235 (by decide) ?_
      refine lv_icmp_ne (tgt := 257) hx hb dX12_find_236 (by decide) (fun c_19 => ?_) (fun c_19 => ?_)
      · have h := im (c_19) h
        refine lv_iload_n hx hb dX12_find_257 rfl (lv_at hl 1 rfl) ?_
        refine lv_iconst (v := 2) hx hb dX12_find_258 (by decide) ?_
        refine lv_icmp_ne (tgt := 280) hx hb dX12_find_259 (by decide) (fun c_20 => ?_) (fun c_20 => ?_)
        · have h := im (c_20) h
          refine lv_iload_n hx hb dX12_find_280 rfl (lv_at hl 1 rfl) ?_
          refine lv_iconst (v := 3) hx hb dX12_find_281 (by decide) ?_
          refine lv_icmp_ne (tgt := 303) hx hb dX12_find_282 (by decide) (fun c_21 => ?_) (fun c_21 => ?_)
          · have h := im (c_21) h
            refine lv_aload_n hx hb dX12_find_303 rfl (lv_at hl 0 rfl) ?_
            refine rg_34 X hS dX12_find_304 ?_
            refine lv_bipush (v := 24) hx hb dX12_find_307 (by decide) ?_
            refine lv_aload_n hx hb dX12_find_309 rfl (lv_at hl 0 rfl) ?_
            refine rg_55 X hS dX12_find_310 ?_
            refine lv_imul hx hb dX12_find_313 ?_
            refine lv_bipush (v := 8) hx hb dX12_find_314 (by decide) ?_
            refine lv_iadd hx hb dX12_find_316 ?_
            refine lv_iload hx hb dX12_find_317 (lv_at hl 5 rfl) ?_
            refine lv_iadd hx hb dX12_find_319 ?_
            obtain ⟨v_22, e_v_22, i_23, h⟩ := rd_of h
            refine ra_34 X hS i_23 e_v_22 dX12_find_320 ?_
            exact b_find_321 X hE hF hL hR_204 h hS (lv_sub hl [0, 1, 2, 3, 4, 5] rfl)
          · have h := ip (c_21) h
            refine lv_aload_n hx hb dX12_find_285 rfl (lv_at hl 0 rfl) ?_
            refine rg_34 X hS dX12_find_286 ?_
            refine lv_bipush (v := 24) hx hb dX12_find_289 (by decide) ?_
            refine lv_aload_n hx hb dX12_find_291 rfl (lv_at hl 0 rfl) ?_
            refine rg_55 X hS dX12_find_292 ?_
            refine lv_imul hx hb dX12_find_295 ?_
            refine lv_iload hx hb dX12_find_296 (lv_at hl 5 rfl) ?_
            refine lv_iadd hx hb dX12_find_298 ?_
            obtain ⟨v_24, e_v_24, i_25, h⟩ := rd_of h
            refine ra_34 X hS i_25 e_v_24 dX12_find_299 ?_
            refine lv_goto (tgt := 321) hx hb dX12_find_300 (by decide) ?_
            exact b_find_321 X hE hF hL hR_204 h hS (lv_sub hl [0, 1, 2, 3, 4, 5] rfl)
        · have h := ip (c_20) h
          refine lv_aload_n hx hb dX12_find_262 rfl (lv_at hl 0 rfl) ?_
          refine rg_46 X hS dX12_find_263 ?_
          refine lv_bipush (v := 8) hx hb dX12_find_266 (by decide) ?_
          refine lv_aload_n hx hb dX12_find_268 rfl (lv_at hl 0 rfl) ?_
          refine rg_55 X hS dX12_find_269 ?_
          refine lv_imul hx hb dX12_find_272 ?_
          refine lv_iload hx hb dX12_find_273 (lv_at hl 5 rfl) ?_
          refine lv_iadd hx hb dX12_find_275 ?_
          obtain ⟨v_26, e_v_26, i_27, h⟩ := rd_of h
          refine ra_46 X hS i_27 e_v_26 dX12_find_276 ?_
          refine lv_goto (tgt := 321) hx hb dX12_find_277 (by decide) ?_
          exact b_find_321 X hE hF hL hR_204 h hS (lv_sub hl [0, 1, 2, 3, 4, 5] rfl)
      · have h := ip (c_19) h
        refine lv_aload_n hx hb dX12_find_239 rfl (lv_at hl 0 rfl) ?_
        refine rg_40 X hS dX12_find_240 ?_
        refine lv_bipush (v := 24) hx hb dX12_find_243 (by decide) ?_
        refine lv_aload_n hx hb dX12_find_245 rfl (lv_at hl 0 rfl) ?_
        refine rg_55 X hS dX12_find_246 ?_
        refine lv_imul hx hb dX12_find_249 ?_
        refine lv_iload hx hb dX12_find_250 (lv_at hl 5 rfl) ?_
        refine lv_iadd hx hb dX12_find_252 ?_
        obtain ⟨v_28, e_v_28, i_29, h⟩ := rd_of h
        refine ra_40 X hS i_29 e_v_28 dX12_find_253 ?_
        refine lv_goto (tgt := 321) hx hb dX12_find_254 (by decide) ?_
        exact b_find_321 X hE hF hL hR_204 h hS (lv_sub hl [0, 1, 2, 3, 4, 5] rfl)
    · have h := ip (c_18) h
      refine lv_aload_n hx hb dX12_find_215 rfl (lv_at hl 0 rfl) ?_
      refine rg_17 X hS dX12_find_216 ?_
      refine lv_sipush (v := 160) hx hb dX12_find_219 (by decide) ?_
      refine lv_aload_n hx hb dX12_find_222 rfl (lv_at hl 0 rfl) ?_
      refine rg_55 X hS dX12_find_223 ?_
      refine lv_imul hx hb dX12_find_226 ?_
      refine lv_iload hx hb dX12_find_227 (lv_at hl 5 rfl) ?_
      refine lv_iadd hx hb dX12_find_229 ?_
      obtain ⟨v_30, e_v_30, i_31, h⟩ := rd_of h
      refine ra_17 X hS i_31 e_v_30 dX12_find_230 ?_
      refine lv_goto (tgt := 321) hx hb dX12_find_231 (by decide) ?_
      exact b_find_321 X hE hF hL hR_204 h hS (lv_sub hl [0, 1, 2, 3, 4, 5] rfl)
def LP_find_204 (N : Nat) : Nat → Int32 × Int64 × Int64 × Int32 × Int32 × RSt → Option (Int32 × RSt) := lp (fun R a => B_find_204 N R a.1 a.2.1 a.2.2.1 a.2.2.2.1 a.2.2.2.2.1 a.2.2.2.2.2)
theorem bl_find_204 {r : Int32} (X : RC p s m args c cX12_find 13 (Cond.code yX12_find cX12_find 13 (some .int)) D kA V A) (hE : REi p l e R s m args below meth c cX12_find D kA Z A Q r w) (hF : 2 ≤ R.frames) (hL : 48 ≤ R.locals)  : ∀ (n : Nat) (l1 : Int32) (l3 : Int64) (l5 : Int64) (l7 : Int32) (l8 : Int32) (u : RSt), LP_find_204 N n (l1, l3, l5, l7, l8, u) = some (r, w) → ∀ (H : Heap) (locs : List Loc) (ls : Array Slot), RS D kA Z A s u H locs → lv_has ls 13 [(0, .ref (Z 200)), (1, .int l1), (3, .long l3), (5, .long l5), (7, .int l7), (8, .int l8)] → W p l e R s m args below meth c H locs 0 0 Q (F0 m 204 ls []) := by
  intro n
  induction n with
  | zero => intro l1 l3 l5 l7 l8 u h; exact nomatch h
  | succ n ih => intro l1 l3 l5 l7 l8 u h H locs ls hS hl; exact b_find_204 (N := N) (R_204 := LP_find_204 N n) X hE hF hL  ih h hS hl
def B_find_199 (N : Nat) (l1 : Int32) (l3 : Int64) (l5 : Int64) (s0 : Int32) (u : RSt) : Option (Int32 × RSt) := LP_find_204 N N (l1, l3, l5, s0, 0, u)
set_option maxHeartbeats 4000000 in
theorem b_find_199 {r : Int32} (X : RC p s m args c cX12_find 13 (Cond.code yX12_find cX12_find 13 (some .int)) D kA V A) (hE : REi p l e R s m args below meth c cX12_find D kA Z A Q r w) (hF : 2 ≤ R.frames) (hL : 48 ≤ R.locals) {l1 : Int32} {l3 : Int64} {l5 : Int64} {s0 : Int32}  {u : RSt} (h : B_find_199 N l1 l3 l5 s0 u = some (r, w)) (hS : RS D kA Z A s u H locs) (hl : lv_has ls 13 [(0, .ref (Z 200)), (1, .int l1), (3, .long l3), (5, .long l5)]) : W p l e R s m args below meth c H locs 0 0 Q (F0 m 199 ls [.int s0]) := by
  obtain ⟨⟨hx, hb, hml, hown, hts⟩, hK, hEV, hA⟩ := id X
  have hG : ∀ w ∈ GW, w.before args s = true := fun w h => hts w (List.mem_cons_of_mem _ h)
  unfold B_find_199 at h
  refine lv_istore (lv' := [(7, .int s0), (0, .ref (Z 200)), (1, .int l1), (3, .long l3), (5, .long l5)]) hx hb dX12_find_199 hl (by decide) rfl (fun ls hl => ?_)
  refine lv_iconst (v := 0) hx hb dX12_find_201 (by decide) ?_
  refine lv_istore (lv' := [(8, .int 0), (7, .int s0), (0, .ref (Z 200)), (1, .int l1), (3, .long l3), (5, .long l5)]) hx hb dX12_find_202 hl (by decide) rfl (fun ls hl => ?_)
  exact bl_find_204 X hE hF hL  _ _ _ _ _ _ _ h _ _ _ hS (lv_sub hl [2, 3, 4, 5, 1, 0] rfl)
def B_find_82 (N : Nat) (l1 : Int32) (l2 : Int32) (u : RSt) : Option (Int32 × RSt) := if l2 = (0 : Int32) then (if (u.1 9) ≤ (0 : Int32) then (some ((-1), u)) else (some (0, u))) else (bn (F_packed N 0 (u.1 1) 0 u) fun r_34 u_33 => bn (F_packed N 0 (u_33.1 1) 6 u_33) fun r_36 u_35 => if l1 = (0 : Int32) then (rd (u_35.2.2.1 19) 2 (u_35.1 55) fun v_49 => B_find_199 N l1 r_34 r_36 v_49 u_35) else (if l1 = (1 : Int32) then (rd (u_35.2.2.1 42) 2 (u_35.1 55) fun v_47 => B_find_199 N l1 r_34 r_36 v_47 u_35) else (if l1 = (2 : Int32) then (rd (u_35.2.2.1 48) 2 (u_35.1 55) fun v_45 => B_find_199 N l1 r_34 r_36 v_45 u_35) else (if l1 = (3 : Int32) then (rd (u_35.2.2.1 36) 2 (u_35.1 55) fun v_43 => B_find_199 N l1 r_34 r_36 v_43 u_35) else (rd (u_35.2.2.1 37) 2 (u_35.1 55) fun v_41 => B_find_199 N l1 r_34 r_36 v_41 u_35)))))
set_option maxHeartbeats 4000000 in
theorem b_find_82 {r : Int32} (X : RC p s m args c cX12_find 13 (Cond.code yX12_find cX12_find 13 (some .int)) D kA V A) (hE : REi p l e R s m args below meth c cX12_find D kA Z A Q r w) (hF : 2 ≤ R.frames) (hL : 48 ≤ R.locals) {l1 : Int32} {l2 : Int32}  {u : RSt} (h : B_find_82 N l1 l2 u = some (r, w)) (hS : RS D kA Z A s u H locs) (hl : lv_has ls 13 [(0, .ref (Z 200)), (1, .int l1), (2, .int l2)]) : W p l e R s m args below meth c H locs 0 0 Q (F0 m 82 ls []) := by
  obtain ⟨⟨hx, hb, hml, hown, hts⟩, hK, hEV, hA⟩ := id X
  have hG : ∀ w ∈ GW, w.before args s = true := fun w h => hts w (List.mem_cons_of_mem _ h)
  unfold B_find_82 at h
  refine lv_iload_n hx hb dX12_find_82 rfl (lv_at hl 2 rfl) ?_
  refine lv_if_ne (tgt := 99) hx hb dX12_find_83 (by decide) (fun c_32 => ?_) (fun c_32 => ?_)
  · have h := im (c_32) h
    refine lv_aload_n hx hb dX12_find_99 rfl (lv_at hl 0 rfl) ?_
    refine lv_iconst (v := 0) hx hb dX12_find_100 (by decide) ?_
    refine lv_aload_n hx hb dX12_find_101 rfl (lv_at hl 0 rfl) ?_
    refine rg_1 X hS dX12_find_102 ?_
    refine lv_iconst (v := 0) hx hb dX12_find_105 (by decide) ?_
    obtain ⟨r_34, u_33, h_u_33, h⟩ := bn_of h
    refine kc_packed X hS h_u_33 (Nat.le_trans (Nat.le_of_ble_eq_true rfl) hF) (Nat.le_trans (Nat.le_of_ble_eq_true rfl) hL) hl.1 (Nat.le_of_ble_eq_true rfl) dX12_find_106 (fun H locs hS => ?_)
    refine lv_lstore_n (lv' := [(3, .long r_34), (0, .ref (Z 200)), (1, .int l1), (2, .int l2)]) hx hb dX12_find_109 rfl hl (by decide) rfl (fun ls hl => ?_)
    refine lv_aload_n hx hb dX12_find_110 rfl (lv_at hl 1 rfl) ?_
    refine lv_iconst (v := 0) hx hb dX12_find_111 (by decide) ?_
    refine lv_aload_n hx hb dX12_find_112 rfl (lv_at hl 1 rfl) ?_
    refine rg_1 X hS dX12_find_113 ?_
    refine lv_bipush (v := 6) hx hb dX12_find_116 (by decide) ?_
    obtain ⟨r_36, u_35, h_u_35, h⟩ := bn_of h
    refine kc_packed X hS h_u_35 (Nat.le_trans (Nat.le_of_ble_eq_true rfl) hF) (Nat.le_trans (Nat.le_of_ble_eq_true rfl) hL) hl.1 (Nat.le_of_ble_eq_true rfl) dX12_find_118 (fun H locs hS => ?_)
    refine lv_lstore (lv' := [(5, .long r_36), (3, .long r_34), (0, .ref (Z 200)), (1, .int l1), (2, .int l2)]) hx hb dX12_find_121 hl (by decide) rfl (fun ls hl => ?_)
    refine lv_iload_n hx hb dX12_find_123 rfl (lv_at hl 3 rfl) ?_
    refine lv_if_ne (tgt := 139) hx hb dX12_find_124 (by decide) (fun c_37 => ?_) (fun c_37 => ?_)
    · have h := im (c_37) h
      refine lv_iload_n hx hb dX12_find_139 rfl (lv_at hl 3 rfl) ?_
      refine lv_iconst (v := 1) hx hb dX12_find_140 (by decide) ?_
      refine lv_icmp_ne (tgt := 156) hx hb dX12_find_141 (by decide) (fun c_38 => ?_) (fun c_38 => ?_)
      · have h := im (c_38) h
        refine lv_iload_n hx hb dX12_find_156 rfl (lv_at hl 3 rfl) ?_
        refine lv_iconst (v := 2) hx hb dX12_find_157 (by decide) ?_
        refine lv_icmp_ne (tgt := 173) hx hb dX12_find_158 (by decide) (fun c_39 => ?_) (fun c_39 => ?_)
        · have h := im (c_39) h
          refine lv_iload_n hx hb dX12_find_173 rfl (lv_at hl 3 rfl) ?_
          refine lv_iconst (v := 3) hx hb dX12_find_174 (by decide) ?_
          refine lv_icmp_ne (tgt := 190) hx hb dX12_find_175 (by decide) (fun c_40 => ?_) (fun c_40 => ?_)
          · have h := im (c_40) h
            refine lv_aload_n hx hb dX12_find_190 rfl (lv_at hl 2 rfl) ?_
            refine rg_37 X hS dX12_find_191 ?_
            refine lv_aload_n hx hb dX12_find_194 rfl (lv_at hl 2 rfl) ?_
            refine rg_55 X hS dX12_find_195 ?_
            obtain ⟨v_41, e_v_41, i_42, h⟩ := rd_of h
            refine ra_37 X hS i_42 e_v_41 dX12_find_198 ?_
            exact b_find_199 X hE hF hL  h hS (lv_sub hl [2, 3, 1, 0] rfl)
          · have h := ip (c_40) h
            refine lv_aload_n hx hb dX12_find_178 rfl (lv_at hl 2 rfl) ?_
            refine rg_36 X hS dX12_find_179 ?_
            refine lv_aload_n hx hb dX12_find_182 rfl (lv_at hl 2 rfl) ?_
            refine rg_55 X hS dX12_find_183 ?_
            obtain ⟨v_43, e_v_43, i_44, h⟩ := rd_of h
            refine ra_36 X hS i_44 e_v_43 dX12_find_186 ?_
            refine lv_goto (tgt := 199) hx hb dX12_find_187 (by decide) ?_
            exact b_find_199 X hE hF hL  h hS (lv_sub hl [2, 3, 1, 0] rfl)
        · have h := ip (c_39) h
          refine lv_aload_n hx hb dX12_find_161 rfl (lv_at hl 2 rfl) ?_
          refine rg_48 X hS dX12_find_162 ?_
          refine lv_aload_n hx hb dX12_find_165 rfl (lv_at hl 2 rfl) ?_
          refine rg_55 X hS dX12_find_166 ?_
          obtain ⟨v_45, e_v_45, i_46, h⟩ := rd_of h
          refine ra_48 X hS i_46 e_v_45 dX12_find_169 ?_
          refine lv_goto (tgt := 199) hx hb dX12_find_170 (by decide) ?_
          exact b_find_199 X hE hF hL  h hS (lv_sub hl [2, 3, 1, 0] rfl)
      · have h := ip (c_38) h
        refine lv_aload_n hx hb dX12_find_144 rfl (lv_at hl 2 rfl) ?_
        refine rg_42 X hS dX12_find_145 ?_
        refine lv_aload_n hx hb dX12_find_148 rfl (lv_at hl 2 rfl) ?_
        refine rg_55 X hS dX12_find_149 ?_
        obtain ⟨v_47, e_v_47, i_48, h⟩ := rd_of h
        refine ra_42 X hS i_48 e_v_47 dX12_find_152 ?_
        refine lv_goto (tgt := 199) hx hb dX12_find_153 (by decide) ?_
        exact b_find_199 X hE hF hL  h hS (lv_sub hl [2, 3, 1, 0] rfl)
    · have h := ip (c_37) h
      refine lv_aload_n hx hb dX12_find_127 rfl (lv_at hl 2 rfl) ?_
      refine rg_19 X hS dX12_find_128 ?_
      refine lv_aload_n hx hb dX12_find_131 rfl (lv_at hl 2 rfl) ?_
      refine rg_55 X hS dX12_find_132 ?_
      obtain ⟨v_49, e_v_49, i_50, h⟩ := rd_of h
      refine ra_19 X hS i_50 e_v_49 dX12_find_135 ?_
      refine lv_goto (tgt := 199) hx hb dX12_find_136 (by decide) ?_
      exact b_find_199 X hE hF hL  h hS (lv_sub hl [2, 3, 1, 0] rfl)
  · have h := ip (c_32) h
    refine lv_aload_n hx hb dX12_find_86 rfl (lv_at hl 0 rfl) ?_
    refine rg_9 X hS dX12_find_87 ?_
    refine lv_if_le (tgt := 97) hx hb dX12_find_90 (by decide) (fun c_51 => ?_) (fun c_51 => ?_)
    · have h := ip (c_51) h
      refine lv_iconst (v := (-1)) hx hb dX12_find_97 (by decide) ?_
      obtain ⟨rfl, rfl⟩ := so h
      exact hE _ _ _ _ hS dX12_find_98
    · have h := im (c_51) h
      refine lv_iconst (v := 0) hx hb dX12_find_93 (by decide) ?_
      refine lv_goto (tgt := 98) hx hb dX12_find_94 (by decide) ?_
      obtain ⟨rfl, rfl⟩ := so h
      exact hE _ _ _ _ hS dX12_find_98
def B_find_49 (N : Nat) (R_49 : Int32 × Int32 × Int32 × RSt → Option (Int32 × RSt)) (l1 : Int32) (l2 : Int32) (l3 : Int32) (u : RSt) : Option (Int32 × RSt) := if (u.1 1) ≤ l3 then (B_find_82 N l1 l2 u) else (if l2 = (0 : Int32) then (B_find_82 N l1 l2 u) else (rd (u.2.2.1 0) 6000 l3 fun v_54 => if v_54 ≤ (0 : Int32) then (B_find_75 N R_49 l1 l3 0 u) else (B_find_75 N R_49 l1 l3 1 u)))
set_option maxHeartbeats 4000000 in
theorem b_find_49 {r : Int32} (X : RC p s m args c cX12_find 13 (Cond.code yX12_find cX12_find 13 (some .int)) D kA V A) (hE : REi p l e R s m args below meth c cX12_find D kA Z A Q r w) (hF : 2 ≤ R.frames) (hL : 48 ≤ R.locals) {R_49 : Int32 × Int32 × Int32 × RSt → Option (Int32 × RSt)} {l1 : Int32} {l2 : Int32} {l3 : Int32} (hR_49 : ∀ (l1 : Int32) (l2 : Int32) (l3 : Int32) (u : RSt), R_49 (l1, l2, l3, u) = some (r, w) → ∀ (H : Heap) (locs : List Loc) (ls : Array Slot), RS D kA Z A s u H locs → lv_has ls 13 [(0, .ref (Z 200)), (1, .int l1), (2, .int l2), (3, .int l3)] → W p l e R s m args below meth c H locs 0 0 Q (F0 m 49 ls [])) {u : RSt} (h : B_find_49 N R_49 l1 l2 l3 u = some (r, w)) (hS : RS D kA Z A s u H locs) (hl : lv_has ls 13 [(0, .ref (Z 200)), (1, .int l1), (2, .int l2), (3, .int l3)]) : W p l e R s m args below meth c H locs 0 0 Q (F0 m 49 ls []) := by
  obtain ⟨⟨hx, hb, hml, hown, hts⟩, hK, hEV, hA⟩ := id X
  have hG : ∀ w ∈ GW, w.before args s = true := fun w h => hts w (List.mem_cons_of_mem _ h)
  unfold B_find_49 at h
  refine lv_iload_n hx hb dX12_find_49 rfl (lv_at hl 3 rfl) ?_
  refine lv_aload_n hx hb dX12_find_50 rfl (lv_at hl 0 rfl) ?_
  refine rg_1 X hS dX12_find_51 ?_
  refine lv_icmp_ge (tgt := 82) hx hb dX12_find_54 (by decide) (fun c_52 => ?_) (fun c_52 => ?_)
  · have h := ip (c_52) h
    exact b_find_82 X hE hF hL  h hS (lv_sub hl [0, 1, 2] rfl)
  · have h := im (c_52) h
    refine lv_iload_n hx hb dX12_find_57 rfl (lv_at hl 2 rfl) ?_
    refine lv_if_eq (tgt := 82) hx hb dX12_find_58 (by decide) (fun c_53 => ?_) (fun c_53 => ?_)
    · have h := ip (c_53) h
      exact b_find_82 X hE hF hL  h hS (lv_sub hl [0, 1, 2] rfl)
    · have h := im (c_53) h
      refine lv_aload_n hx hb dX12_find_61 rfl (lv_at hl 0 rfl) ?_
      refine rg_0 X hS dX12_find_62 ?_
      refine lv_iload_n hx hb dX12_find_65 rfl (lv_at hl 3 rfl) ?_
      obtain ⟨v_54, e_v_54, i_55, h⟩ := rd_of h
      refine ra_0 X hS i_55 e_v_54 dX12_find_66 ?_
      refine lv_if_le (tgt := 74) hx hb dX12_find_67 (by decide) (fun c_56 => ?_) (fun c_56 => ?_)
      · have h := ip (c_56) h
        refine lv_iconst (v := 0) hx hb dX12_find_74 (by decide) ?_
        exact b_find_75 X hE hF hL hR_49 h hS (lv_sub hl [0, 1, 3] rfl)
      · have h := im (c_56) h
        refine lv_iconst (v := 1) hx hb dX12_find_70 (by decide) ?_
        refine lv_goto (tgt := 75) hx hb dX12_find_71 (by decide) ?_
        exact b_find_75 X hE hF hL hR_49 h hS (lv_sub hl [0, 1, 3] rfl)
def LP_find_49 (N : Nat) : Nat → Int32 × Int32 × Int32 × RSt → Option (Int32 × RSt) := lp (fun R a => B_find_49 N R a.1 a.2.1 a.2.2.1 a.2.2.2)
theorem bl_find_49 {r : Int32} (X : RC p s m args c cX12_find 13 (Cond.code yX12_find cX12_find 13 (some .int)) D kA V A) (hE : REi p l e R s m args below meth c cX12_find D kA Z A Q r w) (hF : 2 ≤ R.frames) (hL : 48 ≤ R.locals)  : ∀ (n : Nat) (l1 : Int32) (l2 : Int32) (l3 : Int32) (u : RSt), LP_find_49 N n (l1, l2, l3, u) = some (r, w) → ∀ (H : Heap) (locs : List Loc) (ls : Array Slot), RS D kA Z A s u H locs → lv_has ls 13 [(0, .ref (Z 200)), (1, .int l1), (2, .int l2), (3, .int l3)] → W p l e R s m args below meth c H locs 0 0 Q (F0 m 49 ls []) := by
  intro n
  induction n with
  | zero => intro l1 l2 l3 u h; exact nomatch h
  | succ n ih => intro l1 l2 l3 u h H locs ls hS hl; exact b_find_49 (N := N) (R_49 := LP_find_49 N n) X hE hF hL  ih h hS hl
def B_find_46 (N : Nat) (l1 : Int32) (s0 : Int32) (u : RSt) : Option (Int32 × RSt) := LP_find_49 N N (l1, s0, 0, u)
set_option maxHeartbeats 4000000 in
theorem b_find_46 {r : Int32} (X : RC p s m args c cX12_find 13 (Cond.code yX12_find cX12_find 13 (some .int)) D kA V A) (hE : REi p l e R s m args below meth c cX12_find D kA Z A Q r w) (hF : 2 ≤ R.frames) (hL : 48 ≤ R.locals) {l1 : Int32} {s0 : Int32}  {u : RSt} (h : B_find_46 N l1 s0 u = some (r, w)) (hS : RS D kA Z A s u H locs) (hl : lv_has ls 13 [(0, .ref (Z 200)), (1, .int l1)]) : W p l e R s m args below meth c H locs 0 0 Q (F0 m 46 ls [.int s0]) := by
  obtain ⟨⟨hx, hb, hml, hown, hts⟩, hK, hEV, hA⟩ := id X
  have hG : ∀ w ∈ GW, w.before args s = true := fun w h => hts w (List.mem_cons_of_mem _ h)
  unfold B_find_46 at h
  refine lv_istore_n (lv' := [(2, .int s0), (0, .ref (Z 200)), (1, .int l1)]) hx hb dX12_find_46 rfl hl (by decide) rfl (fun ls hl => ?_)
  refine lv_iconst (v := 0) hx hb dX12_find_47 (by decide) ?_
  refine lv_istore_n (lv' := [(3, .int 0), (2, .int s0), (0, .ref (Z 200)), (1, .int l1)]) hx hb dX12_find_48 rfl hl (by decide) rfl (fun ls hl => ?_)
  exact bl_find_49 X hE hF hL  _ _ _ _ _ h _ _ _ hS (lv_sub hl [2, 3, 1, 0] rfl)
def B_find_45 (N : Nat) (l1 : Int32) (u : RSt) : Option (Int32 × RSt) := B_find_46 N l1 0 u
set_option maxHeartbeats 4000000 in
theorem b_find_45 {r : Int32} (X : RC p s m args c cX12_find 13 (Cond.code yX12_find cX12_find 13 (some .int)) D kA V A) (hE : REi p l e R s m args below meth c cX12_find D kA Z A Q r w) (hF : 2 ≤ R.frames) (hL : 48 ≤ R.locals) {l1 : Int32}  {u : RSt} (h : B_find_45 N l1 u = some (r, w)) (hS : RS D kA Z A s u H locs) (hl : lv_has ls 13 [(0, .ref (Z 200)), (1, .int l1)]) : W p l e R s m args below meth c H locs 0 0 Q (F0 m 45 ls []) := by
  obtain ⟨⟨hx, hb, hml, hown, hts⟩, hK, hEV, hA⟩ := id X
  have hG : ∀ w ∈ GW, w.before args s = true := fun w h => hts w (List.mem_cons_of_mem _ h)
  unfold B_find_45 at h
  refine lv_iconst (v := 0) hx hb dX12_find_45 (by decide) ?_
  exact b_find_46 X hE hF hL  h hS (lv_sub hl [0, 1] rfl)
def B_find_15 (N : Nat) (l1 : Int32) (s1 : Int32) (u : RSt) : Option (Int32 × RSt) := pu (sI u 9 s1) fun u_57 => if (u_57.1 1) ≤ (0 : Int32) then (B_find_45 N l1 u_57) else (if (13 : Int32) ≤ (u_57.1 1) then (B_find_45 N l1 u_57) else (if (u_57.1 9) = (0 : Int32) then (B_find_46 N l1 1 u_57) else (B_find_45 N l1 u_57)))
set_option maxHeartbeats 4000000 in
theorem b_find_15 {r : Int32} (X : RC p s m args c cX12_find 13 (Cond.code yX12_find cX12_find 13 (some .int)) D kA V A) (hE : REi p l e R s m args below meth c cX12_find D kA Z A Q r w) (hF : 2 ≤ R.frames) (hL : 48 ≤ R.locals) {l1 : Int32} {s1 : Int32}  {u : RSt} (h : B_find_15 N l1 s1 u = some (r, w)) (hS : RS D kA Z A s u H locs) (hl : lv_has ls 13 [(0, .ref (Z 200)), (1, .int l1)]) : W p l e R s m args below meth c H locs 0 0 Q (F0 m 15 ls [.int s1, .ref (Z 200)]) := by
  obtain ⟨⟨hx, hb, hml, hown, hts⟩, hK, hEV, hA⟩ := id X
  have hG : ∀ w ∈ GW, w.before args s = true := fun w h => hts w (List.mem_cons_of_mem _ h)
  unfold B_find_15 at h
  obtain ⟨u_57, e_u_57, h⟩ := pu_of h
  refine rp_9 X hS e_u_57 dX12_find_15 (fun H locs hS => ?_)
  refine lv_aload_n hx hb dX12_find_18 rfl (lv_at hl 0 rfl) ?_
  refine rg_1 X hS dX12_find_19 ?_
  refine lv_if_le (tgt := 45) hx hb dX12_find_22 (by decide) (fun c_58 => ?_) (fun c_58 => ?_)
  · have h := ip (c_58) h
    exact b_find_45 X hE hF hL  h hS (lv_sub hl [0, 1] rfl)
  · have h := im (c_58) h
    refine lv_aload_n hx hb dX12_find_25 rfl (lv_at hl 0 rfl) ?_
    refine rg_1 X hS dX12_find_26 ?_
    refine lv_bipush (v := 13) hx hb dX12_find_29 (by decide) ?_
    refine lv_icmp_ge (tgt := 45) hx hb dX12_find_31 (by decide) (fun c_59 => ?_) (fun c_59 => ?_)
    · have h := ip (c_59) h
      exact b_find_45 X hE hF hL  h hS (lv_sub hl [0, 1] rfl)
    · have h := im (c_59) h
      refine lv_aload_n hx hb dX12_find_34 rfl (lv_at hl 0 rfl) ?_
      refine rg_9 X hS dX12_find_35 ?_
      refine lv_if_ne (tgt := 45) hx hb dX12_find_38 (by decide) (fun c_60 => ?_) (fun c_60 => ?_)
      · have h := im (c_60) h
        exact b_find_45 X hE hF hL  h hS (lv_sub hl [0, 1] rfl)
      · have h := ip (c_60) h
        refine lv_iconst (v := 1) hx hb dX12_find_41 (by decide) ?_
        refine lv_goto (tgt := 46) hx hb dX12_find_42 (by decide) ?_
        exact b_find_46 X hE hF hL  h hS (lv_sub hl [0, 1] rfl)
def B_find_0 (N : Nat) (l1 : Int32) (u : RSt) : Option (Int32 × RSt) := if (r_in l1 0 4) = (0 : Int32) then (B_find_15 N l1 1 u) else (B_find_15 N l1 0 u)
set_option maxHeartbeats 4000000 in
theorem b_find_0 {r : Int32} (X : RC p s m args c cX12_find 13 (Cond.code yX12_find cX12_find 13 (some .int)) D kA V A) (hE : REi p l e R s m args below meth c cX12_find D kA Z A Q r w) (hF : 2 ≤ R.frames) (hL : 48 ≤ R.locals) {l1 : Int32}  {u : RSt} (h : B_find_0 N l1 u = some (r, w)) (hS : RS D kA Z A s u H locs) (hl : lv_has ls 13 [(0, .ref (Z 200)), (1, .int l1)]) : W p l e R s m args below meth c H locs 0 0 Q (F0 m 0 ls []) := by
  obtain ⟨⟨hx, hb, hml, hown, hts⟩, hK, hEV, hA⟩ := id X
  have hG : ∀ w ∈ GW, w.before args s = true := fun w h => hts w (List.mem_cons_of_mem _ h)
  unfold B_find_0 at h
  refine lv_aload_n hx hb dX12_find_0 rfl (lv_at hl 0 rfl) ?_
  refine lv_iload_n hx hb dX12_find_1 rfl (lv_at hl 1 rfl) ?_
  refine lv_iconst (v := 0) hx hb dX12_find_2 (by decide) ?_
  refine lv_iconst (v := 4) hx hb dX12_find_3 (by decide) ?_
  refine vp_callSi (W.runS (As := [.int l1, .int 0, .int 4]) (rest := [.ref (Z 200)]) X.1 (c_X12_in l l1 0 4) (va_cwS 3 hts (gw_P gw_2605 gw_2606 gw_16 gwp_X12_in) rfl rfl rfl (by decide +kernel) ⟨Nat.le_trans (Nat.le_of_ble_eq_true rfl) hF, Nat.le_trans (Nat.le_of_ble_eq_true rfl) hL⟩) ⟨fun _ _ _ _ q => q, fun _ _ _ => ⟨rfl, trivial⟩⟩ rfl rfl hl.1 rfl (lv_room (Nat.le_of_ble_eq_true rfl)) dX12_find_4 ⟨Nat.zero_le _, Nat.zero_le _⟩) (fun r_61 q_62 => ?_)
  subst q_62
  refine lv_if_eq (tgt := 14) hx hb dX12_find_7 (by decide) (fun c_63 => ?_) (fun c_63 => ?_)
  · have h := ip (c_63) h
    refine lv_iconst (v := 1) hx hb dX12_find_14 (by decide) ?_
    exact b_find_15 X hE hF hL  h hS (lv_sub hl [0, 1] rfl)
  · have h := im (c_63) h
    refine lv_iconst (v := 0) hx hb dX12_find_10 (by decide) ?_
    refine lv_goto (tgt := 15) hx hb dX12_find_11 (by decide) ?_
    exact b_find_15 X hE hF hL  h hS (lv_sub hl [0, 1] rfl)
def F_find (N : Nat) (l1 : Int32) (u : RSt) : Option (Int32 × RSt) := B_find_0 N l1 u
set_option maxHeartbeats 4000000 in
theorem k_find (l : Launch) (D : va_G) (kA : Nat → ClassId) (V Z : Nat → Nat) (N : Nat) (l1 : Int32) (u : RSt) (sz : Nat) {r : Int32} {w : RSt} (h : F_find N l1 u = some (r, w)) : Met l yX12_find (Cond.code yX12_find cX12_find 13 (some .int) :: GW) { frames := 2, cells := 0, slots := 0, locals := 48 } (rPc D kA V Z [.int l1] u sz) (rQi D kA Z u sz r w) 0 0 (va_A (RW kA Z u) sz) := by
  refine Met.ofW (cc := cX12_find) (maxL := 13) (ret := (some .int)) (by decide) rfl ?_
  intro p e s m args below meth c s₁ Bd hml hv
  obtain ⟨rfl, hsz, hP, hK, hD0, hE⟩ := hv
  have hts := atoms_spec (ws := Cond.code yX12_find cX12_find 13 (some .int) :: GW) Bd.pre
  have hl := lv_entry (.ref (Z 200) :: [.int l1]) (n := 13) (Nat.le_of_ble_eq_true rfl)
  rw [lg_entry_eq]
  generalize (lg_sl (.ref (Z 200) :: [.int l1]) ++ List.replicate (13 - (lg_sl (.ref (Z 200) :: [.int l1])).length) Slot.unset).toArray = ls at hl ⊢
  have hl : lv_has ls 13 [(0, .ref (Z 200)), (1, .int l1)] := hl
  subst hsz
  have X : RC p s m (.ref (Z 200) :: [.int l1]).toArray c cX12_find 13 (Cond.code yX12_find cX12_find 13 (some .int)) D kA V (va_A (RW kA Z u) s.heap.size) := ⟨⟨Bd.exec, Bd.bytes, hml, findClass_of_methodNamed Bd.named, hts⟩, hK, hE, fun q h => Or.inr h⟩
  exact b_find_0 X (rend_i (cy := cX12_find) X Bd.returns Bd.notSynchronized) (Nat.le_refl _) (Nat.le_refl _) h ⟨hP, hD0.self, va_S.rf⟩ (lv_sub hl [0, 1] rfl)
end FiguresRows
