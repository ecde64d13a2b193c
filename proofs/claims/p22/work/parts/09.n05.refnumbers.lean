abbrev cX12_cutTo : ByteArray := prog_14_method_33_code
def yX12_cutTo : MethodName := ⟨RX12, "cutTo", "(IJ)J"⟩
def wsX12_cutTo : List Cond := .code yX12_cutTo cX12_cutTo 3 (some .long) :: ([.constantLong RX12 154 (255), .constantLong RX12 156 (127), .constantLong RX12 158 (256), .constantLong RX12 160 (65535), .constantLong RX12 162 (32767), .constantLong RX12 164 (65536), .constantLong RX12 166 (4294967295), .constantLong RX12 87 (2147483647), .constantLong RX12 168 (4294967296)])
theorem dX12_cutTo_0 : decode cX12_cutTo 0 = .ok (.iload_n 0, 1) := by decide +kernel
theorem dX12_cutTo_1 : decode cX12_cutTo 1 = .ok (.tableswitch 127 0 3 #[31, 61, 91, 97], 31) := by decide +kernel
theorem dX12_cutTo_32 : decode cX12_cutTo 32 = .ok (.lload_n 1, 1) := by decide +kernel
theorem dX12_cutTo_33 : decode cX12_cutTo 33 = .ok (.ldc2_w 154, 3) := by decide +kernel
theorem dX12_cutTo_36 : decode cX12_cutTo 36 = .ok (.land, 1) := by decide +kernel
theorem dX12_cutTo_37 : decode cX12_cutTo 37 = .ok (.ldc2_w 156, 3) := by decide +kernel
theorem dX12_cutTo_40 : decode cX12_cutTo 40 = .ok (.lcmp, 1) := by decide +kernel
theorem dX12_cutTo_41 : decode cX12_cutTo 41 = .ok (.ifCond .le 15, 3) := by decide +kernel
theorem dX12_cutTo_44 : decode cX12_cutTo 44 = .ok (.lload_n 1, 1) := by decide +kernel
theorem dX12_cutTo_45 : decode cX12_cutTo 45 = .ok (.ldc2_w 154, 3) := by decide +kernel
theorem dX12_cutTo_48 : decode cX12_cutTo 48 = .ok (.land, 1) := by decide +kernel
theorem dX12_cutTo_49 : decode cX12_cutTo 49 = .ok (.ldc2_w 158, 3) := by decide +kernel
theorem dX12_cutTo_52 : decode cX12_cutTo 52 = .ok (.lsub, 1) := by decide +kernel
theorem dX12_cutTo_53 : decode cX12_cutTo 53 = .ok (.goto 8, 3) := by decide +kernel
theorem dX12_cutTo_56 : decode cX12_cutTo 56 = .ok (.lload_n 1, 1) := by decide +kernel
theorem dX12_cutTo_57 : decode cX12_cutTo 57 = .ok (.ldc2_w 154, 3) := by decide +kernel
theorem dX12_cutTo_60 : decode cX12_cutTo 60 = .ok (.land, 1) := by decide +kernel
theorem dX12_cutTo_61 : decode cX12_cutTo 61 = .ok (.lreturn, 1) := by decide +kernel
theorem dX12_cutTo_62 : decode cX12_cutTo 62 = .ok (.lload_n 1, 1) := by decide +kernel
theorem dX12_cutTo_63 : decode cX12_cutTo 63 = .ok (.ldc2_w 160, 3) := by decide +kernel
theorem dX12_cutTo_66 : decode cX12_cutTo 66 = .ok (.land, 1) := by decide +kernel
theorem dX12_cutTo_67 : decode cX12_cutTo 67 = .ok (.ldc2_w 162, 3) := by decide +kernel
theorem dX12_cutTo_70 : decode cX12_cutTo 70 = .ok (.lcmp, 1) := by decide +kernel
theorem dX12_cutTo_71 : decode cX12_cutTo 71 = .ok (.ifCond .le 15, 3) := by decide +kernel
theorem dX12_cutTo_74 : decode cX12_cutTo 74 = .ok (.lload_n 1, 1) := by decide +kernel
theorem dX12_cutTo_75 : decode cX12_cutTo 75 = .ok (.ldc2_w 160, 3) := by decide +kernel
theorem dX12_cutTo_78 : decode cX12_cutTo 78 = .ok (.land, 1) := by decide +kernel
theorem dX12_cutTo_79 : decode cX12_cutTo 79 = .ok (.ldc2_w 164, 3) := by decide +kernel
theorem dX12_cutTo_82 : decode cX12_cutTo 82 = .ok (.lsub, 1) := by decide +kernel
theorem dX12_cutTo_83 : decode cX12_cutTo 83 = .ok (.goto 8, 3) := by decide +kernel
theorem dX12_cutTo_86 : decode cX12_cutTo 86 = .ok (.lload_n 1, 1) := by decide +kernel
theorem dX12_cutTo_87 : decode cX12_cutTo 87 = .ok (.ldc2_w 160, 3) := by decide +kernel
theorem dX12_cutTo_90 : decode cX12_cutTo 90 = .ok (.land, 1) := by decide +kernel
theorem dX12_cutTo_91 : decode cX12_cutTo 91 = .ok (.lreturn, 1) := by decide +kernel
theorem dX12_cutTo_92 : decode cX12_cutTo 92 = .ok (.lload_n 1, 1) := by decide +kernel
theorem dX12_cutTo_93 : decode cX12_cutTo 93 = .ok (.ldc2_w 160, 3) := by decide +kernel
theorem dX12_cutTo_96 : decode cX12_cutTo 96 = .ok (.land, 1) := by decide +kernel
theorem dX12_cutTo_97 : decode cX12_cutTo 97 = .ok (.lreturn, 1) := by decide +kernel
theorem dX12_cutTo_98 : decode cX12_cutTo 98 = .ok (.lload_n 1, 1) := by decide +kernel
theorem dX12_cutTo_99 : decode cX12_cutTo 99 = .ok (.ldc2_w 166, 3) := by decide +kernel
theorem dX12_cutTo_102 : decode cX12_cutTo 102 = .ok (.land, 1) := by decide +kernel
theorem dX12_cutTo_103 : decode cX12_cutTo 103 = .ok (.ldc2_w 87, 3) := by decide +kernel
theorem dX12_cutTo_106 : decode cX12_cutTo 106 = .ok (.lcmp, 1) := by decide +kernel
theorem dX12_cutTo_107 : decode cX12_cutTo 107 = .ok (.ifCond .le 15, 3) := by decide +kernel
theorem dX12_cutTo_110 : decode cX12_cutTo 110 = .ok (.lload_n 1, 1) := by decide +kernel
theorem dX12_cutTo_111 : decode cX12_cutTo 111 = .ok (.ldc2_w 166, 3) := by decide +kernel
theorem dX12_cutTo_114 : decode cX12_cutTo 114 = .ok (.land, 1) := by decide +kernel
theorem dX12_cutTo_115 : decode cX12_cutTo 115 = .ok (.ldc2_w 168, 3) := by decide +kernel
theorem dX12_cutTo_118 : decode cX12_cutTo 118 = .ok (.lsub, 1) := by decide +kernel
theorem dX12_cutTo_119 : decode cX12_cutTo 119 = .ok (.goto 8, 3) := by decide +kernel
theorem dX12_cutTo_122 : decode cX12_cutTo 122 = .ok (.lload_n 1, 1) := by decide +kernel
theorem dX12_cutTo_123 : decode cX12_cutTo 123 = .ok (.ldc2_w 166, 3) := by decide +kernel
theorem dX12_cutTo_126 : decode cX12_cutTo 126 = .ok (.land, 1) := by decide +kernel
theorem dX12_cutTo_127 : decode cX12_cutTo 127 = .ok (.lreturn, 1) := by decide +kernel
theorem dX12_cutTo_128 : decode cX12_cutTo 128 = .ok (.lload_n 1, 1) := by decide +kernel
theorem dX12_cutTo_129 : decode cX12_cutTo 129 = .ok (.lreturn, 1) := by decide +kernel
abbrev cX12_worked : ByteArray := prog_14_method_34_code
def yX12_worked : MethodName := ⟨RX12, "worked", "(ZJ)J"⟩
def wsX12_worked : List Cond := .code yX12_worked cX12_worked 3 (some .long) :: ([.methodLink RX12 170 yX12_cutTo, .static yX12_cutTo, .initialized RX12, .code yX12_cutTo cX12_cutTo 3 (some .long), .constantLong RX12 154 (255), .constantLong RX12 156 (127), .constantLong RX12 158 (256), .constantLong RX12 160 (65535), .constantLong RX12 162 (32767), .constantLong RX12 164 (65536), .constantLong RX12 166 (4294967295), .constantLong RX12 87 (2147483647), .constantLong RX12 168 (4294967296)])
theorem dX12_worked_0 : decode cX12_worked 0 = .ok (.iload_n 0, 1) := by decide +kernel
theorem dX12_worked_1 : decode cX12_worked 1 = .ok (.ifCond .eq 7, 3) := by decide +kernel
theorem dX12_worked_4 : decode cX12_worked 4 = .ok (.lload_n 1, 1) := by decide +kernel
theorem dX12_worked_5 : decode cX12_worked 5 = .ok (.goto 8, 3) := by decide +kernel
theorem dX12_worked_8 : decode cX12_worked 8 = .ok (.iconst 3, 1) := by decide +kernel
theorem dX12_worked_9 : decode cX12_worked 9 = .ok (.lload_n 1, 1) := by decide +kernel
theorem dX12_worked_10 : decode cX12_worked 10 = .ok (.invokestatic 170, 3) := by decide +kernel
theorem dX12_worked_13 : decode cX12_worked 13 = .ok (.lreturn, 1) := by decide +kernel
abbrev cX12_canHave : ByteArray := prog_14_method_35_code
def yX12_canHave : MethodName := ⟨RX12, "canHave", "(IJ)Z"⟩
def wsX12_canHave : List Cond := .code yX12_canHave cX12_canHave 3 (some .boolean) :: ([.methodLink RX12 170 yX12_cutTo, .static yX12_cutTo, .initialized RX12, .code yX12_cutTo cX12_cutTo 3 (some .long), .constantLong RX12 154 (255), .constantLong RX12 156 (127), .constantLong RX12 158 (256), .constantLong RX12 160 (65535), .constantLong RX12 162 (32767), .constantLong RX12 164 (65536), .constantLong RX12 166 (4294967295), .constantLong RX12 87 (2147483647), .constantLong RX12 168 (4294967296)])
theorem dX12_canHave_0 : decode cX12_canHave 0 = .ok (.iload_n 0, 1) := by decide +kernel
theorem dX12_canHave_1 : decode cX12_canHave 1 = .ok (.lload_n 1, 1) := by decide +kernel
theorem dX12_canHave_2 : decode cX12_canHave 2 = .ok (.invokestatic 170, 3) := by decide +kernel
theorem dX12_canHave_5 : decode cX12_canHave 5 = .ok (.lload_n 1, 1) := by decide +kernel
theorem dX12_canHave_6 : decode cX12_canHave 6 = .ok (.lcmp, 1) := by decide +kernel
theorem dX12_canHave_7 : decode cX12_canHave 7 = .ok (.ifCond .ne 7, 3) := by decide +kernel
theorem dX12_canHave_10 : decode cX12_canHave 10 = .ok (.iconst 1, 1) := by decide +kernel
theorem dX12_canHave_11 : decode cX12_canHave 11 = .ok (.goto 4, 3) := by decide +kernel
theorem dX12_canHave_14 : decode cX12_canHave 14 = .ok (.iconst 0, 1) := by decide +kernel
theorem dX12_canHave_15 : decode cX12_canHave 15 = .ok (.ireturn, 1) := by decide +kernel
abbrev cX12_lowest : ByteArray := prog_14_method_81_code
def yX12_lowest : MethodName := ⟨RX12, "lowest", "(Z)J"⟩
def wsX12_lowest : List Cond := .code yX12_lowest cX12_lowest 1 (some .long) :: ([.constantLong RX12 541 (-1), .constantLong RX12 166 (4294967295)])
theorem dX12_lowest_0 : decode cX12_lowest 0 = .ok (.iload_n 0, 1) := by decide +kernel
theorem dX12_lowest_1 : decode cX12_lowest 1 = .ok (.ifCond .eq 9, 3) := by decide +kernel
theorem dX12_lowest_4 : decode cX12_lowest 4 = .ok (.ldc2_w 541, 3) := by decide +kernel
theorem dX12_lowest_7 : decode cX12_lowest 7 = .ok (.goto 6, 3) := by decide +kernel
theorem dX12_lowest_10 : decode cX12_lowest 10 = .ok (.ldc2_w 166, 3) := by decide +kernel
theorem dX12_lowest_13 : decode cX12_lowest 13 = .ok (.lreturn, 1) := by decide +kernel
abbrev cX12_in : ByteArray := prog_14_method_94_code
def yX12_in : MethodName := ⟨RX12, "in", "(III)Z"⟩
def wsX12_in : List Cond := .code yX12_in cX12_in 3 (some .boolean) :: ([])
theorem dX12_in_0 : decode cX12_in 0 = .ok (.iload_n 0, 1) := by decide +kernel
theorem dX12_in_1 : decode cX12_in 1 = .ok (.iload_n 1, 1) := by decide +kernel
theorem dX12_in_2 : decode cX12_in 2 = .ok (.if_icmp .lt 12, 3) := by decide +kernel
theorem dX12_in_5 : decode cX12_in 5 = .ok (.iload_n 0, 1) := by decide +kernel
theorem dX12_in_6 : decode cX12_in 6 = .ok (.iload_n 2, 1) := by decide +kernel
theorem dX12_in_7 : decode cX12_in 7 = .ok (.if_icmp .gt 7, 3) := by decide +kernel
theorem dX12_in_10 : decode cX12_in 10 = .ok (.iconst 1, 1) := by decide +kernel
theorem dX12_in_11 : decode cX12_in 11 = .ok (.goto 4, 3) := by decide +kernel
theorem dX12_in_14 : decode cX12_in 14 = .ok (.iconst 0, 1) := by decide +kernel
theorem dX12_in_15 : decode cX12_in 15 = .ok (.ireturn, 1) := by decide +kernel
abbrev cX12_bitsOf : ByteArray := prog_14_method_32_code
def yX12_bitsOf : MethodName := ⟨RX12, "bitsOf", "(I)I"⟩
def wsX12_bitsOf : List Cond := .code yX12_bitsOf cX12_bitsOf 1 (some .int) :: ([])
theorem dX12_bitsOf_0 : decode cX12_bitsOf 0 = .ok (.iload_n 0, 1) := by decide +kernel
theorem dX12_bitsOf_1 : decode cX12_bitsOf 1 = .ok (.ifCond .ne 8, 3) := by decide +kernel
theorem dX12_bitsOf_4 : decode cX12_bitsOf 4 = .ok (.bipush 8, 2) := by decide +kernel
theorem dX12_bitsOf_6 : decode cX12_bitsOf 6 = .ok (.goto 25, 3) := by decide +kernel
theorem dX12_bitsOf_9 : decode cX12_bitsOf 9 = .ok (.iload_n 0, 1) := by decide +kernel
theorem dX12_bitsOf_10 : decode cX12_bitsOf 10 = .ok (.iconst 4, 1) := by decide +kernel
theorem dX12_bitsOf_11 : decode cX12_bitsOf 11 = .ok (.if_icmp .ne 8, 3) := by decide +kernel
theorem dX12_bitsOf_14 : decode cX12_bitsOf 14 = .ok (.bipush 64, 2) := by decide +kernel
theorem dX12_bitsOf_16 : decode cX12_bitsOf 16 = .ok (.goto 15, 3) := by decide +kernel
theorem dX12_bitsOf_19 : decode cX12_bitsOf 19 = .ok (.iload_n 0, 1) := by decide +kernel
theorem dX12_bitsOf_20 : decode cX12_bitsOf 20 = .ok (.iconst 3, 1) := by decide +kernel
theorem dX12_bitsOf_21 : decode cX12_bitsOf 21 = .ok (.if_icmp .ne 8, 3) := by decide +kernel
theorem dX12_bitsOf_24 : decode cX12_bitsOf 24 = .ok (.bipush 32, 2) := by decide +kernel
theorem dX12_bitsOf_26 : decode cX12_bitsOf 26 = .ok (.goto 5, 3) := by decide +kernel
theorem dX12_bitsOf_29 : decode cX12_bitsOf 29 = .ok (.bipush 16, 2) := by decide +kernel
theorem dX12_bitsOf_31 : decode cX12_bitsOf 31 = .ok (.ireturn, 1) := by decide +kernel
abbrev cX12_reckoned : ByteArray := prog_14_method_82_code
def yX12_reckoned : MethodName := ⟨RX12, "reckoned", "(IZJJ)J"⟩
def wsX12_reckoned : List Cond := .code yX12_reckoned cX12_reckoned 7 (some .long) :: ([.constantLong RX12 543 (63), .constantLong RX12 545 (31), .constantLong RX12 541 (-1), .methodLink RX12 225 yX12_worked, .static yX12_worked, .initialized RX12, .code yX12_worked cX12_worked 3 (some .long), .methodLink RX12 170 yX12_cutTo, .static yX12_cutTo, .code yX12_cutTo cX12_cutTo 3 (some .long), .constantLong RX12 154 (255), .constantLong RX12 156 (127), .constantLong RX12 158 (256), .constantLong RX12 160 (65535), .constantLong RX12 162 (32767), .constantLong RX12 164 (65536), .constantLong RX12 166 (4294967295), .constantLong RX12 87 (2147483647), .constantLong RX12 168 (4294967296), .methodLink RX12 547 yX12_lowest, .static yX12_lowest, .code yX12_lowest cX12_lowest 1 (some .long)])
theorem dX12_reckoned_0 : decode cX12_reckoned 0 = .ok (.lload 4, 2) := by decide +kernel
theorem dX12_reckoned_2 : decode cX12_reckoned 2 = .ok (.iload_n 1, 1) := by decide +kernel
theorem dX12_reckoned_3 : decode cX12_reckoned 3 = .ok (.ifCond .eq 9, 3) := by decide +kernel
theorem dX12_reckoned_6 : decode cX12_reckoned 6 = .ok (.ldc2_w 543, 3) := by decide +kernel
theorem dX12_reckoned_9 : decode cX12_reckoned 9 = .ok (.goto 6, 3) := by decide +kernel
theorem dX12_reckoned_12 : decode cX12_reckoned 12 = .ok (.ldc2_w 545, 3) := by decide +kernel
theorem dX12_reckoned_15 : decode cX12_reckoned 15 = .ok (.land, 1) := by decide +kernel
theorem dX12_reckoned_16 : decode cX12_reckoned 16 = .ok (.l2i, 1) := by decide +kernel
theorem dX12_reckoned_17 : decode cX12_reckoned 17 = .ok (.istore 6, 2) := by decide +kernel
theorem dX12_reckoned_19 : decode cX12_reckoned 19 = .ok (.iload_n 0, 1) := by decide +kernel
theorem dX12_reckoned_20 : decode cX12_reckoned 20 = .ok (.tableswitch 369 203 244 #[281, 369, 369, 369, 369, 369, 369, 369, 369, 369, 369, 369, 369, 369, 304, 317, 343, 369, 267, 276, 369, 369, 369, 369, 369, 369, 369, 369, 369, 369, 369, 369, 257, 262, 252, 330, 356, 184, 193, 202, 211, 234], 184) := by decide +kernel
theorem dX12_reckoned_204 : decode cX12_reckoned 204 = .ok (.iload_n 1, 1) := by decide +kernel
theorem dX12_reckoned_205 : decode cX12_reckoned 205 = .ok (.lload_n 2, 1) := by decide +kernel
theorem dX12_reckoned_206 : decode cX12_reckoned 206 = .ok (.lload 4, 2) := by decide +kernel
theorem dX12_reckoned_208 : decode cX12_reckoned 208 = .ok (.ladd, 1) := by decide +kernel
theorem dX12_reckoned_209 : decode cX12_reckoned 209 = .ok (.invokestatic 225, 3) := by decide +kernel
theorem dX12_reckoned_212 : decode cX12_reckoned 212 = .ok (.lreturn, 1) := by decide +kernel
theorem dX12_reckoned_213 : decode cX12_reckoned 213 = .ok (.iload_n 1, 1) := by decide +kernel
theorem dX12_reckoned_214 : decode cX12_reckoned 214 = .ok (.lload_n 2, 1) := by decide +kernel
theorem dX12_reckoned_215 : decode cX12_reckoned 215 = .ok (.lload 4, 2) := by decide +kernel
theorem dX12_reckoned_217 : decode cX12_reckoned 217 = .ok (.lsub, 1) := by decide +kernel
theorem dX12_reckoned_218 : decode cX12_reckoned 218 = .ok (.invokestatic 225, 3) := by decide +kernel
theorem dX12_reckoned_221 : decode cX12_reckoned 221 = .ok (.lreturn, 1) := by decide +kernel
theorem dX12_reckoned_222 : decode cX12_reckoned 222 = .ok (.iload_n 1, 1) := by decide +kernel
theorem dX12_reckoned_223 : decode cX12_reckoned 223 = .ok (.lload_n 2, 1) := by decide +kernel
theorem dX12_reckoned_224 : decode cX12_reckoned 224 = .ok (.lload 4, 2) := by decide +kernel
theorem dX12_reckoned_226 : decode cX12_reckoned 226 = .ok (.lmul, 1) := by decide +kernel
theorem dX12_reckoned_227 : decode cX12_reckoned 227 = .ok (.invokestatic 225, 3) := by decide +kernel
theorem dX12_reckoned_230 : decode cX12_reckoned 230 = .ok (.lreturn, 1) := by decide +kernel
theorem dX12_reckoned_231 : decode cX12_reckoned 231 = .ok (.iload_n 1, 1) := by decide +kernel
theorem dX12_reckoned_232 : decode cX12_reckoned 232 = .ok (.lload 4, 2) := by decide +kernel
theorem dX12_reckoned_234 : decode cX12_reckoned 234 = .ok (.ldc2_w 541, 3) := by decide +kernel
theorem dX12_reckoned_237 : decode cX12_reckoned 237 = .ok (.lcmp, 1) := by decide +kernel
theorem dX12_reckoned_238 : decode cX12_reckoned 238 = .ok (.ifCond .ne 8, 3) := by decide +kernel
theorem dX12_reckoned_241 : decode cX12_reckoned 241 = .ok (.lload_n 2, 1) := by decide +kernel
theorem dX12_reckoned_242 : decode cX12_reckoned 242 = .ok (.lneg, 1) := by decide +kernel
theorem dX12_reckoned_243 : decode cX12_reckoned 243 = .ok (.goto 7, 3) := by decide +kernel
theorem dX12_reckoned_246 : decode cX12_reckoned 246 = .ok (.lload_n 2, 1) := by decide +kernel
theorem dX12_reckoned_247 : decode cX12_reckoned 247 = .ok (.lload 4, 2) := by decide +kernel
theorem dX12_reckoned_249 : decode cX12_reckoned 249 = .ok (.ldiv, 1) := by decide +kernel
theorem dX12_reckoned_250 : decode cX12_reckoned 250 = .ok (.invokestatic 225, 3) := by decide +kernel
theorem dX12_reckoned_253 : decode cX12_reckoned 253 = .ok (.lreturn, 1) := by decide +kernel
theorem dX12_reckoned_254 : decode cX12_reckoned 254 = .ok (.lload 4, 2) := by decide +kernel
theorem dX12_reckoned_256 : decode cX12_reckoned 256 = .ok (.ldc2_w 541, 3) := by decide +kernel
theorem dX12_reckoned_259 : decode cX12_reckoned 259 = .ok (.lcmp, 1) := by decide +kernel
theorem dX12_reckoned_260 : decode cX12_reckoned 260 = .ok (.ifCond .ne 7, 3) := by decide +kernel
theorem dX12_reckoned_263 : decode cX12_reckoned 263 = .ok (.lconst 0, 1) := by decide +kernel
theorem dX12_reckoned_264 : decode cX12_reckoned 264 = .ok (.goto 7, 3) := by decide +kernel
theorem dX12_reckoned_267 : decode cX12_reckoned 267 = .ok (.lload_n 2, 1) := by decide +kernel
theorem dX12_reckoned_268 : decode cX12_reckoned 268 = .ok (.lload 4, 2) := by decide +kernel
theorem dX12_reckoned_270 : decode cX12_reckoned 270 = .ok (.lrem, 1) := by decide +kernel
theorem dX12_reckoned_271 : decode cX12_reckoned 271 = .ok (.lreturn, 1) := by decide +kernel
theorem dX12_reckoned_272 : decode cX12_reckoned 272 = .ok (.lload_n 2, 1) := by decide +kernel
theorem dX12_reckoned_273 : decode cX12_reckoned 273 = .ok (.lload 4, 2) := by decide +kernel
theorem dX12_reckoned_275 : decode cX12_reckoned 275 = .ok (.land, 1) := by decide +kernel
theorem dX12_reckoned_276 : decode cX12_reckoned 276 = .ok (.lreturn, 1) := by decide +kernel
theorem dX12_reckoned_277 : decode cX12_reckoned 277 = .ok (.lload_n 2, 1) := by decide +kernel
theorem dX12_reckoned_278 : decode cX12_reckoned 278 = .ok (.lload 4, 2) := by decide +kernel
theorem dX12_reckoned_280 : decode cX12_reckoned 280 = .ok (.lor, 1) := by decide +kernel
theorem dX12_reckoned_281 : decode cX12_reckoned 281 = .ok (.lreturn, 1) := by decide +kernel
theorem dX12_reckoned_282 : decode cX12_reckoned 282 = .ok (.lload_n 2, 1) := by decide +kernel
theorem dX12_reckoned_283 : decode cX12_reckoned 283 = .ok (.lload 4, 2) := by decide +kernel
theorem dX12_reckoned_285 : decode cX12_reckoned 285 = .ok (.lxor, 1) := by decide +kernel
theorem dX12_reckoned_286 : decode cX12_reckoned 286 = .ok (.lreturn, 1) := by decide +kernel
theorem dX12_reckoned_287 : decode cX12_reckoned 287 = .ok (.iload_n 1, 1) := by decide +kernel
theorem dX12_reckoned_288 : decode cX12_reckoned 288 = .ok (.lload_n 2, 1) := by decide +kernel
theorem dX12_reckoned_289 : decode cX12_reckoned 289 = .ok (.iload 6, 2) := by decide +kernel
theorem dX12_reckoned_291 : decode cX12_reckoned 291 = .ok (.lshl, 1) := by decide +kernel
theorem dX12_reckoned_292 : decode cX12_reckoned 292 = .ok (.invokestatic 225, 3) := by decide +kernel
theorem dX12_reckoned_295 : decode cX12_reckoned 295 = .ok (.lreturn, 1) := by decide +kernel
theorem dX12_reckoned_296 : decode cX12_reckoned 296 = .ok (.lload_n 2, 1) := by decide +kernel
theorem dX12_reckoned_297 : decode cX12_reckoned 297 = .ok (.iload 6, 2) := by decide +kernel
theorem dX12_reckoned_299 : decode cX12_reckoned 299 = .ok (.lshr, 1) := by decide +kernel
theorem dX12_reckoned_300 : decode cX12_reckoned 300 = .ok (.lreturn, 1) := by decide +kernel
theorem dX12_reckoned_301 : decode cX12_reckoned 301 = .ok (.iload_n 1, 1) := by decide +kernel
theorem dX12_reckoned_302 : decode cX12_reckoned 302 = .ok (.iload 6, 2) := by decide +kernel
theorem dX12_reckoned_304 : decode cX12_reckoned 304 = .ok (.ifCond .ne 7, 3) := by decide +kernel
theorem dX12_reckoned_307 : decode cX12_reckoned 307 = .ok (.lload_n 2, 1) := by decide +kernel
theorem dX12_reckoned_308 : decode cX12_reckoned 308 = .ok (.goto 12, 3) := by decide +kernel
theorem dX12_reckoned_311 : decode cX12_reckoned 311 = .ok (.lload_n 2, 1) := by decide +kernel
theorem dX12_reckoned_312 : decode cX12_reckoned 312 = .ok (.iload_n 1, 1) := by decide +kernel
theorem dX12_reckoned_313 : decode cX12_reckoned 313 = .ok (.invokestatic 547, 3) := by decide +kernel
theorem dX12_reckoned_316 : decode cX12_reckoned 316 = .ok (.land, 1) := by decide +kernel
theorem dX12_reckoned_317 : decode cX12_reckoned 317 = .ok (.iload 6, 2) := by decide +kernel
theorem dX12_reckoned_319 : decode cX12_reckoned 319 = .ok (.lushr, 1) := by decide +kernel
theorem dX12_reckoned_320 : decode cX12_reckoned 320 = .ok (.invokestatic 225, 3) := by decide +kernel
theorem dX12_reckoned_323 : decode cX12_reckoned 323 = .ok (.lreturn, 1) := by decide +kernel
theorem dX12_reckoned_324 : decode cX12_reckoned 324 = .ok (.lload_n 2, 1) := by decide +kernel
theorem dX12_reckoned_325 : decode cX12_reckoned 325 = .ok (.lload 4, 2) := by decide +kernel
theorem dX12_reckoned_327 : decode cX12_reckoned 327 = .ok (.lcmp, 1) := by decide +kernel
theorem dX12_reckoned_328 : decode cX12_reckoned 328 = .ok (.ifCond .ne 7, 3) := by decide +kernel
theorem dX12_reckoned_331 : decode cX12_reckoned 331 = .ok (.lconst 1, 1) := by decide +kernel
theorem dX12_reckoned_332 : decode cX12_reckoned 332 = .ok (.goto 4, 3) := by decide +kernel
theorem dX12_reckoned_335 : decode cX12_reckoned 335 = .ok (.lconst 0, 1) := by decide +kernel
theorem dX12_reckoned_336 : decode cX12_reckoned 336 = .ok (.lreturn, 1) := by decide +kernel
theorem dX12_reckoned_337 : decode cX12_reckoned 337 = .ok (.lload_n 2, 1) := by decide +kernel
theorem dX12_reckoned_338 : decode cX12_reckoned 338 = .ok (.lload 4, 2) := by decide +kernel
theorem dX12_reckoned_340 : decode cX12_reckoned 340 = .ok (.lcmp, 1) := by decide +kernel
theorem dX12_reckoned_341 : decode cX12_reckoned 341 = .ok (.ifCond .eq 7, 3) := by decide +kernel
theorem dX12_reckoned_344 : decode cX12_reckoned 344 = .ok (.lconst 1, 1) := by decide +kernel
theorem dX12_reckoned_345 : decode cX12_reckoned 345 = .ok (.goto 4, 3) := by decide +kernel
theorem dX12_reckoned_348 : decode cX12_reckoned 348 = .ok (.lconst 0, 1) := by decide +kernel
theorem dX12_reckoned_349 : decode cX12_reckoned 349 = .ok (.lreturn, 1) := by decide +kernel
theorem dX12_reckoned_350 : decode cX12_reckoned 350 = .ok (.lload_n 2, 1) := by decide +kernel
theorem dX12_reckoned_351 : decode cX12_reckoned 351 = .ok (.lload 4, 2) := by decide +kernel
theorem dX12_reckoned_353 : decode cX12_reckoned 353 = .ok (.lcmp, 1) := by decide +kernel
theorem dX12_reckoned_354 : decode cX12_reckoned 354 = .ok (.ifCond .ge 7, 3) := by decide +kernel
theorem dX12_reckoned_357 : decode cX12_reckoned 357 = .ok (.lconst 1, 1) := by decide +kernel
theorem dX12_reckoned_358 : decode cX12_reckoned 358 = .ok (.goto 4, 3) := by decide +kernel
theorem dX12_reckoned_361 : decode cX12_reckoned 361 = .ok (.lconst 0, 1) := by decide +kernel
theorem dX12_reckoned_362 : decode cX12_reckoned 362 = .ok (.lreturn, 1) := by decide +kernel
theorem dX12_reckoned_363 : decode cX12_reckoned 363 = .ok (.lload_n 2, 1) := by decide +kernel
theorem dX12_reckoned_364 : decode cX12_reckoned 364 = .ok (.lload 4, 2) := by decide +kernel
theorem dX12_reckoned_366 : decode cX12_reckoned 366 = .ok (.lcmp, 1) := by decide +kernel
theorem dX12_reckoned_367 : decode cX12_reckoned 367 = .ok (.ifCond .gt 7, 3) := by decide +kernel
theorem dX12_reckoned_370 : decode cX12_reckoned 370 = .ok (.lconst 1, 1) := by decide +kernel
theorem dX12_reckoned_371 : decode cX12_reckoned 371 = .ok (.goto 4, 3) := by decide +kernel
theorem dX12_reckoned_374 : decode cX12_reckoned 374 = .ok (.lconst 0, 1) := by decide +kernel
theorem dX12_reckoned_375 : decode cX12_reckoned 375 = .ok (.lreturn, 1) := by decide +kernel
theorem dX12_reckoned_376 : decode cX12_reckoned 376 = .ok (.lload_n 2, 1) := by decide +kernel
theorem dX12_reckoned_377 : decode cX12_reckoned 377 = .ok (.lload 4, 2) := by decide +kernel
theorem dX12_reckoned_379 : decode cX12_reckoned 379 = .ok (.lcmp, 1) := by decide +kernel
theorem dX12_reckoned_380 : decode cX12_reckoned 380 = .ok (.ifCond .le 7, 3) := by decide +kernel
theorem dX12_reckoned_383 : decode cX12_reckoned 383 = .ok (.lconst 1, 1) := by decide +kernel
theorem dX12_reckoned_384 : decode cX12_reckoned 384 = .ok (.goto 4, 3) := by decide +kernel
theorem dX12_reckoned_387 : decode cX12_reckoned 387 = .ok (.lconst 0, 1) := by decide +kernel
theorem dX12_reckoned_388 : decode cX12_reckoned 388 = .ok (.lreturn, 1) := by decide +kernel
theorem dX12_reckoned_389 : decode cX12_reckoned 389 = .ok (.lload_n 2, 1) := by decide +kernel
theorem dX12_reckoned_390 : decode cX12_reckoned 390 = .ok (.lload 4, 2) := by decide +kernel
theorem dX12_reckoned_392 : decode cX12_reckoned 392 = .ok (.lcmp, 1) := by decide +kernel
theorem dX12_reckoned_393 : decode cX12_reckoned 393 = .ok (.ifCond .lt 7, 3) := by decide +kernel
theorem dX12_reckoned_396 : decode cX12_reckoned 396 = .ok (.lconst 1, 1) := by decide +kernel
theorem dX12_reckoned_397 : decode cX12_reckoned 397 = .ok (.goto 4, 3) := by decide +kernel
theorem dX12_reckoned_400 : decode cX12_reckoned 400 = .ok (.lconst 0, 1) := by decide +kernel
theorem dX12_reckoned_401 : decode cX12_reckoned 401 = .ok (.lreturn, 1) := by decide +kernel
set_option maxRecDepth 20000 in
theorem ggX12_worked_X12_cutTo : GoodIn wsX12_worked wsX12_cutTo := goodIn_r _ [4, 5, 6, 7, 8, 9, 10, 11, 12, 13] (by decide +kernel) (by decide +kernel)
set_option maxRecDepth 20000 in
theorem gX12_worked_X12_cutTo : GoodIn wsX12_worked (va_wsS RX12 170 yX12_cutTo wsX12_cutTo) := goodIn_app (goodIn_of _ (by decide +kernel)) ggX12_worked_X12_cutTo
set_option maxRecDepth 20000 in
theorem ggX12_canHave_X12_cutTo : GoodIn wsX12_canHave wsX12_cutTo := goodIn_r _ [4, 5, 6, 7, 8, 9, 10, 11, 12, 13] (by decide +kernel) (by decide +kernel)
set_option maxRecDepth 20000 in
theorem gX12_canHave_X12_cutTo : GoodIn wsX12_canHave (va_wsS RX12 170 yX12_cutTo wsX12_cutTo) := goodIn_app (goodIn_of _ (by decide +kernel)) ggX12_canHave_X12_cutTo
set_option maxRecDepth 20000 in
theorem ggX12_reckoned_X12_worked : GoodIn wsX12_reckoned wsX12_worked := goodIn_r _ [7, 8, 9, 6, 10, 11, 12, 13, 14, 15, 16, 17, 18, 19] (by decide +kernel) (by decide +kernel)
set_option maxRecDepth 20000 in
theorem gX12_reckoned_X12_worked : GoodIn wsX12_reckoned (va_wsS RX12 225 yX12_worked wsX12_worked) := goodIn_app (goodIn_of _ (by decide +kernel)) ggX12_reckoned_X12_worked
set_option maxRecDepth 20000 in
theorem ggX12_reckoned_X12_lowest : GoodIn wsX12_reckoned wsX12_lowest := goodIn_r _ [22, 3, 17] (by decide +kernel) (by decide +kernel)
set_option maxRecDepth 20000 in
theorem gX12_reckoned_X12_lowest : GoodIn wsX12_reckoned (va_wsS RX12 547 yX12_lowest wsX12_lowest) := goodIn_app (goodIn_of _ (by decide +kernel)) ggX12_reckoned_X12_lowest

/-! what the reference's numbers are -/
def r_cut (k : Int32) (v : Int64) : Int64 := if k = 0 then (if v &&& 255 ≤ 127 then v &&& 255 else (v &&& 255) - 256) else if k = 1 then (if v &&& 65535 ≤ 32767 then v &&& 65535 else (v &&& 65535) - 65536) else if k = 2 then v &&& 65535 else if k = 3 then (if v &&& 4294967295 ≤ 2147483647 then v &&& 4294967295 else (v &&& 4294967295) - 4294967296) else v
def r_worked (w : Int32) (v : Int64) : Int64 := if w = 0 then r_cut 3 v else v
def r_has (k : Int32) (v : Int64) : Int32 := if r_cut k v = v then 1 else 0
def r_low (w : Int32) : Int64 := if w = 0 then 4294967295 else -1
def r_in (v a b : Int32) : Int32 := if v < a then 0 else if b < v then 0 else 1
def r_bits (k : Int32) : Int32 := if k = 0 then 8 else if k = 4 then 64 else if k = 3 then 32 else 16
def r_by (w : Int32) (b : Int64) : Int32 := if w = 0 then (b &&& 31).toInt32 else (b &&& 63).toInt32
def r_two (t w : Int32) (a b : Int64) : Int64 := if t = 203 then r_worked w (if r_by w b = 0 then a else ((a &&& r_low w).toUInt64 >>> ((r_by w b).toInt64.toUInt64 &&& Int64.toUInt64 63)).toInt64) else if t = 217 then (if a = b then 1 else 0) else if t = 218 then (if a = b then 0 else 1) else if t = 219 then (if b < a then 0 else 1) else if t = 221 then r_worked w (a <<< ((r_by w b).toInt64 &&& 63)) else if t = 222 then a >>> ((r_by w b).toInt64 &&& 63) else if t = 235 then a ||| b else if t = 236 then a ^^^ b else if t = 237 then a &&& b else if t = 238 then (if b ≤ a then 0 else 1) else if t = 239 then (if a ≤ b then 0 else 1) else if t = 240 then r_worked w (a + b) else if t = 241 then r_worked w (a - b) else if t = 242 then r_worked w (a * b) else if t = 243 then r_worked w (if b = -1 then -a else a / b) else if t = 244 then (if b = -1 then 0 else a - a / b * b) else (if a < b then 0 else 1)

set_option maxHeartbeats 4000000 in
set_option maxRecDepth 100000 in
theorem c_X12_cutTo (l : Launch) (k : Int32) (v : Int64) : Met l yX12_cutTo wsX12_cutTo ({ frames := 0, cells := 0, slots := 0, locals := 0 }) (va_Pc [.int k, .long v] (fun _ => True)) (vp_Sl (fun rz => rz = r_cut k v)) 0 0 (fun _ => False) := by
  refine Met.ofW (cc := cX12_cutTo) (maxL := 3) (ret := (some .long)) (by decide) rfl ?_
  intro p e s m args below meth c s₁ Bd hml hv
  obtain ⟨rfl, -⟩ := hv
  have hx := Bd.exec
  have hb := Bd.bytes
  have hr := Bd.returns
  have hts := atoms_spec (ws := wsX12_cutTo) Bd.pre
  have hown : s.vm.findClass RX12 = some m.cls := findClass_of_methodNamed Bd.named
  have hlocks := Bd.notSynchronized
  have hl := lv_entry ([.int k, .long v]) (n := 3) (Nat.le_of_ble_eq_true rfl)
  rw [lg_entry_eq]
  generalize (lg_sl ([.int k, .long v]) ++ List.replicate (3 - (lg_sl ([.int k, .long v])).length) Slot.unset).toArray = ls at hl ⊢
  have hl : lv_has ls 3 [(0, .int k), (1, .long v)] := hl
  refine lv_iload_n hx hb dX12_cutTo_0 rfl (lv_at hl 0 rfl) ?_
  by_cases e_1 : k = 0
  · refine lv_tableIn (off := 31) (tgt := 32) hx hb dX12_cutTo_1 (by rw [e_1]; decide) (by rw [e_1]; decide) (by rw [e_1]; rfl) (by decide) ?_
    refine lv_lload_n hx hb dX12_cutTo_32 rfl (lv_at hl 1 rfl) ?_
    refine lv_ldc2 (v := 255) hx hb hown (hts (.constantLong RX12 154 (255)) (by decide +kernel)) dX12_cutTo_33 ?_
    refine lv_land hx hb dX12_cutTo_36 ?_
    refine lv_ldc2 (v := 127) hx hb hown (hts (.constantLong RX12 156 (127)) (by decide +kernel)) dX12_cutTo_37 ?_
    refine W.lcmp hx hb dX12_cutTo_40 ?_
    refine lv_if_le (tgt := 56) hx hb dX12_cutTo_41 (by decide) (fun c_2 => ?_) (fun c_2 => ?_)
    · have c_2 := (lg_cmp_le _ _).mp c_2
      refine lv_lload_n hx hb dX12_cutTo_56 rfl (lv_at hl 1 rfl) ?_
      refine lv_ldc2 (v := 255) hx hb hown (hts (.constantLong RX12 154 (255)) (by decide +kernel)) dX12_cutTo_57 ?_
      refine lv_land hx hb dX12_cutTo_60 ?_
      exact W.lret (v := v &&& 255) hx hb hr (fun t ht hW => ⟨_, rfl, (by first | rfl | (simp [r_cut, e_1, c_2]; done) | (simp_all [r_cut]; done) | (unfold r_cut; (repeat split) <;> simp_all; done)), ht⟩) (fun _ h => nomatch h) dX12_cutTo_61
    · have c_2 := mt (lg_cmp_le _ _).mpr c_2
      refine lv_lload_n hx hb dX12_cutTo_44 rfl (lv_at hl 1 rfl) ?_
      refine lv_ldc2 (v := 255) hx hb hown (hts (.constantLong RX12 154 (255)) (by decide +kernel)) dX12_cutTo_45 ?_
      refine lv_land hx hb dX12_cutTo_48 ?_
      refine lv_ldc2 (v := 256) hx hb hown (hts (.constantLong RX12 158 (256)) (by decide +kernel)) dX12_cutTo_49 ?_
      refine lv_lsub hx hb dX12_cutTo_52 ?_
      refine lv_goto (tgt := 61) hx hb dX12_cutTo_53 (by decide) ?_
      exact W.lret (v := (v &&& 255) - 256) hx hb hr (fun t ht hW => ⟨_, rfl, (by first | rfl | (simp [r_cut, e_1, c_2]; done) | (simp_all [r_cut]; done) | (unfold r_cut; (repeat split) <;> simp_all; done)), ht⟩) (fun _ h => nomatch h) dX12_cutTo_61
  by_cases e_3 : k = 1
  · refine lv_tableIn (off := 61) (tgt := 62) hx hb dX12_cutTo_1 (by rw [e_3]; decide) (by rw [e_3]; decide) (by rw [e_3]; rfl) (by decide) ?_
    refine lv_lload_n hx hb dX12_cutTo_62 rfl (lv_at hl 1 rfl) ?_
    refine lv_ldc2 (v := 65535) hx hb hown (hts (.constantLong RX12 160 (65535)) (by decide +kernel)) dX12_cutTo_63 ?_
    refine lv_land hx hb dX12_cutTo_66 ?_
    refine lv_ldc2 (v := 32767) hx hb hown (hts (.constantLong RX12 162 (32767)) (by decide +kernel)) dX12_cutTo_67 ?_
    refine W.lcmp hx hb dX12_cutTo_70 ?_
    refine lv_if_le (tgt := 86) hx hb dX12_cutTo_71 (by decide) (fun c_4 => ?_) (fun c_4 => ?_)
    · have c_4 := (lg_cmp_le _ _).mp c_4
      refine lv_lload_n hx hb dX12_cutTo_86 rfl (lv_at hl 1 rfl) ?_
      refine lv_ldc2 (v := 65535) hx hb hown (hts (.constantLong RX12 160 (65535)) (by decide +kernel)) dX12_cutTo_87 ?_
      refine lv_land hx hb dX12_cutTo_90 ?_
      exact W.lret (v := v &&& 65535) hx hb hr (fun t ht hW => ⟨_, rfl, (by first | rfl | (simp [r_cut, e_1, e_3, c_4]; done) | (simp_all [r_cut]; done) | (unfold r_cut; (repeat split) <;> simp_all; done)), ht⟩) (fun _ h => nomatch h) dX12_cutTo_91
    · have c_4 := mt (lg_cmp_le _ _).mpr c_4
      refine lv_lload_n hx hb dX12_cutTo_74 rfl (lv_at hl 1 rfl) ?_
      refine lv_ldc2 (v := 65535) hx hb hown (hts (.constantLong RX12 160 (65535)) (by decide +kernel)) dX12_cutTo_75 ?_
      refine lv_land hx hb dX12_cutTo_78 ?_
      refine lv_ldc2 (v := 65536) hx hb hown (hts (.constantLong RX12 164 (65536)) (by decide +kernel)) dX12_cutTo_79 ?_
      refine lv_lsub hx hb dX12_cutTo_82 ?_
      refine lv_goto (tgt := 91) hx hb dX12_cutTo_83 (by decide) ?_
      exact W.lret (v := (v &&& 65535) - 65536) hx hb hr (fun t ht hW => ⟨_, rfl, (by first | rfl | (simp [r_cut, e_1, e_3, c_4]; done) | (simp_all [r_cut]; done) | (unfold r_cut; (repeat split) <;> simp_all; done)), ht⟩) (fun _ h => nomatch h) dX12_cutTo_91
  by_cases e_5 : k = 2
  · refine lv_tableIn (off := 91) (tgt := 92) hx hb dX12_cutTo_1 (by rw [e_5]; decide) (by rw [e_5]; decide) (by rw [e_5]; rfl) (by decide) ?_
    refine lv_lload_n hx hb dX12_cutTo_92 rfl (lv_at hl 1 rfl) ?_
    refine lv_ldc2 (v := 65535) hx hb hown (hts (.constantLong RX12 160 (65535)) (by decide +kernel)) dX12_cutTo_93 ?_
    refine lv_land hx hb dX12_cutTo_96 ?_
    exact W.lret (v := v &&& 65535) hx hb hr (fun t ht hW => ⟨_, rfl, (by first | rfl | (simp [r_cut, e_1, e_3, e_5]; done) | (simp_all [r_cut]; done) | (unfold r_cut; (repeat split) <;> simp_all; done)), ht⟩) (fun _ h => nomatch h) dX12_cutTo_97
  by_cases e_6 : k = 3
  · refine lv_tableIn (off := 97) (tgt := 98) hx hb dX12_cutTo_1 (by rw [e_6]; decide) (by rw [e_6]; decide) (by rw [e_6]; rfl) (by decide) ?_
    refine lv_lload_n hx hb dX12_cutTo_98 rfl (lv_at hl 1 rfl) ?_
    refine lv_ldc2 (v := 4294967295) hx hb hown (hts (.constantLong RX12 166 (4294967295)) (by decide +kernel)) dX12_cutTo_99 ?_
    refine lv_land hx hb dX12_cutTo_102 ?_
    refine lv_ldc2 (v := 2147483647) hx hb hown (hts (.constantLong RX12 87 (2147483647)) (by decide +kernel)) dX12_cutTo_103 ?_
    refine W.lcmp hx hb dX12_cutTo_106 ?_
    refine lv_if_le (tgt := 122) hx hb dX12_cutTo_107 (by decide) (fun c_7 => ?_) (fun c_7 => ?_)
    · have c_7 := (lg_cmp_le _ _).mp c_7
      refine lv_lload_n hx hb dX12_cutTo_122 rfl (lv_at hl 1 rfl) ?_
      refine lv_ldc2 (v := 4294967295) hx hb hown (hts (.constantLong RX12 166 (4294967295)) (by decide +kernel)) dX12_cutTo_123 ?_
      refine lv_land hx hb dX12_cutTo_126 ?_
      exact W.lret (v := v &&& 4294967295) hx hb hr (fun t ht hW => ⟨_, rfl, (by first | rfl | (simp [r_cut, e_1, e_3, e_5, e_6, c_7]; done) | (simp_all [r_cut]; done) | (unfold r_cut; (repeat split) <;> simp_all; done)), ht⟩) (fun _ h => nomatch h) dX12_cutTo_127
    · have c_7 := mt (lg_cmp_le _ _).mpr c_7
      refine lv_lload_n hx hb dX12_cutTo_110 rfl (lv_at hl 1 rfl) ?_
      refine lv_ldc2 (v := 4294967295) hx hb hown (hts (.constantLong RX12 166 (4294967295)) (by decide +kernel)) dX12_cutTo_111 ?_
      refine lv_land hx hb dX12_cutTo_114 ?_
      refine lv_ldc2 (v := 4294967296) hx hb hown (hts (.constantLong RX12 168 (4294967296)) (by decide +kernel)) dX12_cutTo_115 ?_
      refine lv_lsub hx hb dX12_cutTo_118 ?_
      refine lv_goto (tgt := 127) hx hb dX12_cutTo_119 (by decide) ?_
      exact W.lret (v := (v &&& 4294967295) - 4294967296) hx hb hr (fun t ht hW => ⟨_, rfl, (by first | rfl | (simp [r_cut, e_1, e_3, e_5, e_6, c_7]; done) | (simp_all [r_cut]; done) | (unfold r_cut; (repeat split) <;> simp_all; done)), ht⟩) (fun _ h => nomatch h) dX12_cutTo_127
  refine lv_tableDef (tgt := 128) hx hb dX12_cutTo_1 (by decide) (fun off h1 h2 ho => by
    have hI : (k).toInt = 0 ∨ (k).toInt = 1 ∨ (k).toInt = 2 ∨ (k).toInt = 3 := by omega
    rcases hI with q | q | q | q
    · exact absurd (Int32.toInt_inj.mp (q.trans (by decide))) e_1
    · exact absurd (Int32.toInt_inj.mp (q.trans (by decide))) e_3
    · exact absurd (Int32.toInt_inj.mp (q.trans (by decide))) e_5
    · exact absurd (Int32.toInt_inj.mp (q.trans (by decide))) e_6) (by decide) ?_
  refine lv_lload_n hx hb dX12_cutTo_128 rfl (lv_at hl 1 rfl) ?_
  exact W.lret (v := v) hx hb hr (fun t ht hW => ⟨_, rfl, (by first | rfl | (simp [r_cut, e_1, e_3, e_5, e_6]; done) | (simp_all [r_cut]; done) | (unfold r_cut; (repeat split) <;> simp_all; done)), ht⟩) (fun _ h => nomatch h) dX12_cutTo_129
set_option maxHeartbeats 4000000 in
set_option maxRecDepth 100000 in
theorem c_X12_worked (l : Launch) (w : Int32) (v : Int64) : Met l yX12_worked wsX12_worked ({ frames := 1, cells := 0, slots := 0, locals := 22 }) (va_Pc [.int w, .long v] (fun _ => True)) (vp_Sl (fun rz => rz = r_worked w v)) 0 0 (fun _ => False) := by
  refine Met.ofW (cc := cX12_worked) (maxL := 3) (ret := (some .long)) (by decide) rfl ?_
  intro p e s m args below meth c s₁ Bd hml hv
  obtain ⟨rfl, -⟩ := hv
  have hx := Bd.exec
  have hb := Bd.bytes
  have hr := Bd.returns
  have hts := atoms_spec (ws := wsX12_worked) Bd.pre
  have hown : s.vm.findClass RX12 = some m.cls := findClass_of_methodNamed Bd.named
  have hlocks := Bd.notSynchronized
  have hl := lv_entry ([.int w, .long v]) (n := 3) (Nat.le_of_ble_eq_true rfl)
  rw [lg_entry_eq]
  generalize (lg_sl ([.int w, .long v]) ++ List.replicate (3 - (lg_sl ([.int w, .long v])).length) Slot.unset).toArray = ls at hl ⊢
  have hl : lv_has ls 3 [(0, .int w), (1, .long v)] := hl
  refine lv_iload_n hx hb dX12_worked_0 rfl (lv_at hl 0 rfl) ?_
  refine lv_if_eq (tgt := 8) hx hb dX12_worked_1 (by decide) (fun c_1 => ?_) (fun c_1 => ?_)
  · skip
    refine lv_iconst (v := 3) hx hb dX12_worked_8 (by decide) ?_
    refine lv_lload_n hx hb dX12_worked_9 rfl (lv_at hl 1 rfl) ?_
    refine vp_callSl (W.runS (As := [.int 3, .long v]) (rest := []) ⟨hx, hb, hml, hown, hts⟩ (c_X12_cutTo l 3 v) (va_cwS 2 hts gX12_worked_X12_cutTo rfl rfl rfl (by decide +kernel) ⟨Nat.le_of_ble_eq_true rfl, Nat.le_of_ble_eq_true rfl⟩) ⟨fun _ _ _ _ q => q, fun _ _ _ => ⟨rfl, trivial⟩⟩ rfl rfl hl.1 rfl (lv_room (Nat.le_of_ble_eq_true rfl)) dX12_worked_10 ⟨Nat.le_of_ble_eq_true rfl, Nat.le_of_ble_eq_true rfl⟩) (fun r_2 h_3 => ?_)
    subst h_3
    exact W.lret (v := r_cut 3 v) hx hb hr (fun t ht hW => ⟨_, rfl, (by first | rfl | (simp [r_worked, c_1]; done) | (simp_all [r_worked]; done) | (unfold r_worked; (repeat split) <;> simp_all; done)), ht⟩) (fun _ h => nomatch h) dX12_worked_13
  · skip
    refine lv_lload_n hx hb dX12_worked_4 rfl (lv_at hl 1 rfl) ?_
    refine lv_goto (tgt := 13) hx hb dX12_worked_5 (by decide) ?_
    exact W.lret (v := v) hx hb hr (fun t ht hW => ⟨_, rfl, (by first | rfl | (simp [r_worked, c_1]; done) | (simp_all [r_worked]; done) | (unfold r_worked; (repeat split) <;> simp_all; done)), ht⟩) (fun _ h => nomatch h) dX12_worked_13
set_option maxHeartbeats 4000000 in
set_option maxRecDepth 100000 in
theorem c_X12_canHave (l : Launch) (k : Int32) (v : Int64) : Met l yX12_canHave wsX12_canHave ({ frames := 1, cells := 0, slots := 0, locals := 22 }) (va_Pc [.int k, .long v] (fun _ => True)) (vp_Si (fun rz => rz = r_has k v)) 0 0 (fun _ => False) := by
  refine Met.ofW (cc := cX12_canHave) (maxL := 3) (ret := (some .boolean)) (by decide) rfl ?_
  intro p e s m args below meth c s₁ Bd hml hv
  obtain ⟨rfl, -⟩ := hv
  have hx := Bd.exec
  have hb := Bd.bytes
  have hr := Bd.returns
  have hts := atoms_spec (ws := wsX12_canHave) Bd.pre
  have hown : s.vm.findClass RX12 = some m.cls := findClass_of_methodNamed Bd.named
  have hlocks := Bd.notSynchronized
  have hl := lv_entry ([.int k, .long v]) (n := 3) (Nat.le_of_ble_eq_true rfl)
  rw [lg_entry_eq]
  generalize (lg_sl ([.int k, .long v]) ++ List.replicate (3 - (lg_sl ([.int k, .long v])).length) Slot.unset).toArray = ls at hl ⊢
  have hl : lv_has ls 3 [(0, .int k), (1, .long v)] := hl
  refine lv_iload_n hx hb dX12_canHave_0 rfl (lv_at hl 0 rfl) ?_
  refine lv_lload_n hx hb dX12_canHave_1 rfl (lv_at hl 1 rfl) ?_
  refine vp_callSl (W.runS (As := [.int k, .long v]) (rest := []) ⟨hx, hb, hml, hown, hts⟩ (c_X12_cutTo l k v) (va_cwS 2 hts gX12_canHave_X12_cutTo rfl rfl rfl (by decide +kernel) ⟨Nat.le_of_ble_eq_true rfl, Nat.le_of_ble_eq_true rfl⟩) ⟨fun _ _ _ _ q => q, fun _ _ _ => ⟨rfl, trivial⟩⟩ rfl rfl hl.1 rfl (lv_room (Nat.le_of_ble_eq_true rfl)) dX12_canHave_2 ⟨Nat.le_of_ble_eq_true rfl, Nat.le_of_ble_eq_true rfl⟩) (fun r_1 h_2 => ?_)
  subst h_2
  refine lv_lload_n hx hb dX12_canHave_5 rfl (lv_at hl 1 rfl) ?_
  refine W.lcmp hx hb dX12_canHave_6 ?_
  refine lv_if_ne (tgt := 14) hx hb dX12_canHave_7 (by decide) (fun c_3 => ?_) (fun c_3 => ?_)
  · have c_3 := mt (lg_cmp_eq _ _).mpr c_3
    refine lv_iconst (v := 0) hx hb dX12_canHave_14 (by decide) ?_
    exact W.zret (v := 0) hx hb hr rfl (fun t ht hW => ⟨_, rfl, (by first | rfl | (simp [r_has, c_3]; done) | (simp_all [r_has]; done) | (unfold r_has; (repeat split) <;> simp_all; done)), ht⟩) (fun _ h => nomatch h) dX12_canHave_15
  · have c_3 := (lg_cmp_eq _ _).mp c_3
    refine lv_iconst (v := 1) hx hb dX12_canHave_10 (by decide) ?_
    refine lv_goto (tgt := 15) hx hb dX12_canHave_11 (by decide) ?_
    exact W.zret (v := 1) hx hb hr rfl (fun t ht hW => ⟨_, rfl, (by first | rfl | (simp [r_has, c_3]; done) | (simp_all [r_has]; done) | (unfold r_has; (repeat split) <;> simp_all; done)), ht⟩) (fun _ h => nomatch h) dX12_canHave_15
set_option maxHeartbeats 4000000 in
set_option maxRecDepth 100000 in
theorem c_X12_lowest (l : Launch) (w : Int32) : Met l yX12_lowest wsX12_lowest ({ frames := 0, cells := 0, slots := 0, locals := 0 }) (va_Pc [.int w] (fun _ => True)) (vp_Sl (fun rz => rz = r_low w)) 0 0 (fun _ => False) := by
  refine Met.ofW (cc := cX12_lowest) (maxL := 1) (ret := (some .long)) (by decide) rfl ?_
  intro p e s m args below meth c s₁ Bd hml hv
  obtain ⟨rfl, -⟩ := hv
  have hx := Bd.exec
  have hb := Bd.bytes
  have hr := Bd.returns
  have hts := atoms_spec (ws := wsX12_lowest) Bd.pre
  have hown : s.vm.findClass RX12 = some m.cls := findClass_of_methodNamed Bd.named
  have hlocks := Bd.notSynchronized
  have hl := lv_entry ([.int w]) (n := 1) (Nat.le_of_ble_eq_true rfl)
  rw [lg_entry_eq]
  generalize (lg_sl ([.int w]) ++ List.replicate (1 - (lg_sl ([.int w])).length) Slot.unset).toArray = ls at hl ⊢
  have hl : lv_has ls 1 [(0, .int w)] := hl
  refine lv_iload_n hx hb dX12_lowest_0 rfl (lv_at hl 0 rfl) ?_
  refine lv_if_eq (tgt := 10) hx hb dX12_lowest_1 (by decide) (fun c_1 => ?_) (fun c_1 => ?_)
  · skip
    refine lv_ldc2 (v := 4294967295) hx hb hown (hts (.constantLong RX12 166 (4294967295)) (by decide +kernel)) dX12_lowest_10 ?_
    exact W.lret (v := 4294967295) hx hb hr (fun t ht hW => ⟨_, rfl, (by first | rfl | (simp [r_low, c_1]; done) | (simp_all [r_low]; done) | (unfold r_low; (repeat split) <;> simp_all; done)), ht⟩) (fun _ h => nomatch h) dX12_lowest_13
  · skip
    refine lv_ldc2 (v := -1) hx hb hown (hts (.constantLong RX12 541 (-1)) (by decide +kernel)) dX12_lowest_4 ?_
    refine lv_goto (tgt := 13) hx hb dX12_lowest_7 (by decide) ?_
    exact W.lret (v := (-1)) hx hb hr (fun t ht hW => ⟨_, rfl, (by first | rfl | (simp [r_low, c_1]; done) | (simp_all [r_low]; done) | (unfold r_low; (repeat split) <;> simp_all; done)), ht⟩) (fun _ h => nomatch h) dX12_lowest_13
set_option maxHeartbeats 4000000 in
set_option maxRecDepth 100000 in
theorem c_X12_in (l : Launch) (v : Int32) (a : Int32) (b : Int32) : Met l yX12_in wsX12_in ({ frames := 0, cells := 0, slots := 0, locals := 0 }) (va_Pc [.int v, .int a, .int b] (fun _ => True)) (vp_Si (fun rz => rz = r_in v a b)) 0 0 (fun _ => False) := by
  refine Met.ofW (cc := cX12_in) (maxL := 3) (ret := (some .boolean)) (by decide) rfl ?_
  intro p e s m args below meth c s₁ Bd hml hv
  obtain ⟨rfl, -⟩ := hv
  have hx := Bd.exec
  have hb := Bd.bytes
  have hr := Bd.returns
  have hts := atoms_spec (ws := wsX12_in) Bd.pre
  have hown : s.vm.findClass RX12 = some m.cls := findClass_of_methodNamed Bd.named
  have hlocks := Bd.notSynchronized
  have hl := lv_entry ([.int v, .int a, .int b]) (n := 3) (Nat.le_of_ble_eq_true rfl)
  rw [lg_entry_eq]
  generalize (lg_sl ([.int v, .int a, .int b]) ++ List.replicate (3 - (lg_sl ([.int v, .int a, .int b])).length) Slot.unset).toArray = ls at hl ⊢
  have hl : lv_has ls 3 [(0, .int v), (1, .int a), (2, .int b)] := hl
  refine lv_iload_n hx hb dX12_in_0 rfl (lv_at hl 0 rfl) ?_
  refine lv_iload_n hx hb dX12_in_1 rfl (lv_at hl 1 rfl) ?_
  refine lv_icmp_lt (tgt := 14) hx hb dX12_in_2 (by decide) (fun c_1 => ?_) (fun c_1 => ?_)
  · skip
    refine lv_iconst (v := 0) hx hb dX12_in_14 (by decide) ?_
    exact W.zret (v := 0) hx hb hr rfl (fun t ht hW => ⟨_, rfl, (by first | rfl | (simp [r_in, c_1]; done) | (simp_all [r_in]; done) | (unfold r_in; (repeat split) <;> simp_all; done)), ht⟩) (fun _ h => nomatch h) dX12_in_15
  · skip
    refine lv_iload_n hx hb dX12_in_5 rfl (lv_at hl 0 rfl) ?_
    refine lv_iload_n hx hb dX12_in_6 rfl (lv_at hl 2 rfl) ?_
    refine lv_icmp_gt (tgt := 14) hx hb dX12_in_7 (by decide) (fun c_2 => ?_) (fun c_2 => ?_)
    · skip
      refine lv_iconst (v := 0) hx hb dX12_in_14 (by decide) ?_
      exact W.zret (v := 0) hx hb hr rfl (fun t ht hW => ⟨_, rfl, (by first | rfl | (simp [r_in, c_1, c_2]; done) | (simp_all [r_in]; done) | (unfold r_in; (repeat split) <;> simp_all; done)), ht⟩) (fun _ h => nomatch h) dX12_in_15
    · skip
      refine lv_iconst (v := 1) hx hb dX12_in_10 (by decide) ?_
      refine lv_goto (tgt := 15) hx hb dX12_in_11 (by decide) ?_
      exact W.zret (v := 1) hx hb hr rfl (fun t ht hW => ⟨_, rfl, (by first | rfl | (simp [r_in, c_1, c_2]; done) | (simp_all [r_in]; done) | (unfold r_in; (repeat split) <;> simp_all; done)), ht⟩) (fun _ h => nomatch h) dX12_in_15
set_option maxHeartbeats 4000000 in
set_option maxRecDepth 100000 in
theorem c_X12_bitsOf (l : Launch) (k : Int32) : Met l yX12_bitsOf wsX12_bitsOf ({ frames := 0, cells := 0, slots := 0, locals := 0 }) (va_Pc [.int k] (fun _ => True)) (vp_Si (fun rz => rz = r_bits k)) 0 0 (fun _ => False) := by
  refine Met.ofW (cc := cX12_bitsOf) (maxL := 1) (ret := (some .int)) (by decide) rfl ?_
  intro p e s m args below meth c s₁ Bd hml hv
  obtain ⟨rfl, -⟩ := hv
  have hx := Bd.exec
  have hb := Bd.bytes
  have hr := Bd.returns
  have hts := atoms_spec (ws := wsX12_bitsOf) Bd.pre
  have hown : s.vm.findClass RX12 = some m.cls := findClass_of_methodNamed Bd.named
  have hlocks := Bd.notSynchronized
  have hl := lv_entry ([.int k]) (n := 1) (Nat.le_of_ble_eq_true rfl)
  rw [lg_entry_eq]
  generalize (lg_sl ([.int k]) ++ List.replicate (1 - (lg_sl ([.int k])).length) Slot.unset).toArray = ls at hl ⊢
  have hl : lv_has ls 1 [(0, .int k)] := hl
  refine lv_iload_n hx hb dX12_bitsOf_0 rfl (lv_at hl 0 rfl) ?_
  refine lv_if_ne (tgt := 9) hx hb dX12_bitsOf_1 (by decide) (fun c_1 => ?_) (fun c_1 => ?_)
  · skip
    refine lv_iload_n hx hb dX12_bitsOf_9 rfl (lv_at hl 0 rfl) ?_
    refine lv_iconst (v := 4) hx hb dX12_bitsOf_10 (by decide) ?_
    refine lv_icmp_ne (tgt := 19) hx hb dX12_bitsOf_11 (by decide) (fun c_2 => ?_) (fun c_2 => ?_)
    · skip
      refine lv_iload_n hx hb dX12_bitsOf_19 rfl (lv_at hl 0 rfl) ?_
      refine lv_iconst (v := 3) hx hb dX12_bitsOf_20 (by decide) ?_
      refine lv_icmp_ne (tgt := 29) hx hb dX12_bitsOf_21 (by decide) (fun c_3 => ?_) (fun c_3 => ?_)
      · skip
        refine lv_bipush (v := 16) hx hb dX12_bitsOf_29 (by decide) ?_
        exact W.iret (v := 16) hx hb hr (fun t ht hW => ⟨_, rfl, (by first | rfl | (simp [r_bits, c_1, c_2, c_3]; done) | (simp_all [r_bits]; done) | (unfold r_bits; (repeat split) <;> simp_all; done)), ht⟩) (fun _ h => nomatch h) dX12_bitsOf_31
      · skip
        refine lv_bipush (v := 32) hx hb dX12_bitsOf_24 (by decide) ?_
        refine lv_goto (tgt := 31) hx hb dX12_bitsOf_26 (by decide) ?_
        exact W.iret (v := 32) hx hb hr (fun t ht hW => ⟨_, rfl, (by first | rfl | (simp [r_bits, c_1, c_2, c_3]; done) | (simp_all [r_bits]; done) | (unfold r_bits; (repeat split) <;> simp_all; done)), ht⟩) (fun _ h => nomatch h) dX12_bitsOf_31
    · skip
      refine lv_bipush (v := 64) hx hb dX12_bitsOf_14 (by decide) ?_
      refine lv_goto (tgt := 31) hx hb dX12_bitsOf_16 (by decide) ?_
      exact W.iret (v := 64) hx hb hr (fun t ht hW => ⟨_, rfl, (by first | rfl | (simp [r_bits, c_1, c_2]; done) | (simp_all [r_bits]; done) | (unfold r_bits; (repeat split) <;> simp_all; done)), ht⟩) (fun _ h => nomatch h) dX12_bitsOf_31
  · skip
    refine lv_bipush (v := 8) hx hb dX12_bitsOf_4 (by decide) ?_
    refine lv_goto (tgt := 31) hx hb dX12_bitsOf_6 (by decide) ?_
    exact W.iret (v := 8) hx hb hr (fun t ht hW => ⟨_, rfl, (by first | rfl | (simp [r_bits, c_1]; done) | (simp_all [r_bits]; done) | (unfold r_bits; (repeat split) <;> simp_all; done)), ht⟩) (fun _ h => nomatch h) dX12_bitsOf_31
set_option maxHeartbeats 4000000 in
set_option maxRecDepth 100000 in
theorem c_X12_reckoned (l : Launch) (t w : Int32) (a b : Int64) (hz : ¬ ((t = 243 ∨ t = 244) ∧ b = 0)) : Met l yX12_reckoned wsX12_reckoned ({ frames := 2, cells := 0, slots := 0, locals := 44 }) (va_Pc [.int t, .int w, .long a, .long b] (fun _ => True)) (vp_Sl (fun rz => rz = r_two t w a b)) 0 0 (fun _ => False) := by
  refine Met.ofW (cc := cX12_reckoned) (maxL := 7) (ret := (some .long)) (by decide) rfl ?_
  intro p e s m args below meth c s₁ Bd hml hv
  obtain ⟨rfl, -⟩ := hv
  have hx := Bd.exec
  have hb := Bd.bytes
  have hr := Bd.returns
  have hts := atoms_spec (ws := wsX12_reckoned) Bd.pre
  have hown : s.vm.findClass RX12 = some m.cls := findClass_of_methodNamed Bd.named
  have hlocks := Bd.notSynchronized
  have hl := lv_entry ([.int t, .int w, .long a, .long b]) (n := 7) (Nat.le_of_ble_eq_true rfl)
  rw [lg_entry_eq]
  generalize (lg_sl ([.int t, .int w, .long a, .long b]) ++ List.replicate (7 - (lg_sl ([.int t, .int w, .long a, .long b])).length) Slot.unset).toArray = ls at hl ⊢
  have hl : lv_has ls 7 [(0, .int t), (1, .int w), (2, .long a), (4, .long b)] := hl
  refine lv_lload hx hb dX12_reckoned_0 (lv_at hl 3 rfl) ?_
  refine lv_iload_n hx hb dX12_reckoned_2 rfl (lv_at hl 1 rfl) ?_
  refine lv_if_eq (tgt := 12) hx hb dX12_reckoned_3 (by decide) (fun c_1 => ?_) (fun c_1 => ?_)
  · skip
    refine lv_ldc2 (v := 31) hx hb hown (hts (.constantLong RX12 545 (31)) (by decide +kernel)) dX12_reckoned_12 ?_
    refine lv_land hx hb dX12_reckoned_15 ?_
    refine lv_l2i (v := (b &&& 31).toInt32) hx hb dX12_reckoned_16 rfl ?_
    refine lv_istore (lv' := [(6, .int ((b &&& 31).toInt32)), (0, .int t), (1, .int w), (2, .long a), (4, .long b)]) hx hb dX12_reckoned_17 hl (by decide) rfl (fun ls hl => ?_)
    refine lv_iload_n hx hb dX12_reckoned_19 rfl (lv_at hl 1 rfl) ?_
    by_cases e_2 : t = 203
    · refine lv_tableIn (off := 281) (tgt := 301) hx hb dX12_reckoned_20 (by rw [e_2]; decide) (by rw [e_2]; decide) (by rw [e_2]; rfl) (by decide) ?_
      refine lv_iload_n hx hb dX12_reckoned_301 rfl (lv_at hl 2 rfl) ?_
      refine lv_iload hx hb dX12_reckoned_302 (lv_at hl 0 rfl) ?_
      refine lv_if_ne (tgt := 311) hx hb dX12_reckoned_304 (by decide) (fun c_3 => ?_) (fun c_3 => ?_)
      · skip
        refine lv_lload_n hx hb dX12_reckoned_311 rfl (lv_at hl 3 rfl) ?_
        refine lv_iload_n hx hb dX12_reckoned_312 rfl (lv_at hl 2 rfl) ?_
        refine vp_callSl (W.runS (As := [.int w]) (rest := [.long a, .int w]) ⟨hx, hb, hml, hown, hts⟩ (c_X12_lowest l w) (va_cwS 1 hts gX12_reckoned_X12_lowest rfl rfl rfl (by decide +kernel) ⟨Nat.le_of_ble_eq_true rfl, Nat.le_of_ble_eq_true rfl⟩) ⟨fun _ _ _ _ q => q, fun _ _ _ => ⟨rfl, trivial⟩⟩ rfl rfl hl.1 rfl (lv_room (Nat.le_of_ble_eq_true rfl)) dX12_reckoned_313 ⟨Nat.le_of_ble_eq_true rfl, Nat.le_of_ble_eq_true rfl⟩) (fun r_4 h_5 => ?_)
        subst h_5
        refine lv_land hx hb dX12_reckoned_316 ?_
        refine lv_iload hx hb dX12_reckoned_317 (lv_at hl 0 rfl) ?_
        refine lv_lushr (v := ((a &&& (r_low w)).toUInt64 >>> (((b &&& 31).toInt32).toInt64.toUInt64 &&& Int64.toUInt64 63)).toInt64) hx hb dX12_reckoned_319 rfl ?_
        refine vp_callSl (W.runS (As := [.int w, .long (((a &&& (r_low w)).toUInt64 >>> (((b &&& 31).toInt32).toInt64.toUInt64 &&& Int64.toUInt64 63)).toInt64)]) (rest := []) ⟨hx, hb, hml, hown, hts⟩ (c_X12_worked l w (((a &&& (r_low w)).toUInt64 >>> (((b &&& 31).toInt32).toInt64.toUInt64 &&& Int64.toUInt64 63)).toInt64)) (va_cwS 2 hts gX12_reckoned_X12_worked rfl rfl rfl (by decide +kernel) ⟨Nat.le_of_ble_eq_true rfl, Nat.le_of_ble_eq_true rfl⟩) ⟨fun _ _ _ _ q => q, fun _ _ _ => ⟨rfl, trivial⟩⟩ rfl rfl hl.1 rfl (lv_room (Nat.le_of_ble_eq_true rfl)) dX12_reckoned_320 ⟨Nat.le_of_ble_eq_true rfl, Nat.le_of_ble_eq_true rfl⟩) (fun r_6 h_7 => ?_)
        subst h_7
        exact W.lret (v := r_worked w (((a &&& (r_low w)).toUInt64 >>> (((b &&& 31).toInt32).toInt64.toUInt64 &&& Int64.toUInt64 63)).toInt64)) hx hb hr (fun t ht hW => ⟨_, rfl, (by first | rfl | (simp [r_two, r_by, c_1, e_2, c_3]; done) | (simp_all [r_two, r_by]; done) | (unfold r_two; (repeat split) <;> simp_all; done)), ht⟩) (fun _ h => nomatch h) dX12_reckoned_323
      · skip
        refine lv_lload_n hx hb dX12_reckoned_307 rfl (lv_at hl 3 rfl) ?_
        refine lv_goto (tgt := 320) hx hb dX12_reckoned_308 (by decide) ?_
        refine vp_callSl (W.runS (As := [.int w, .long a]) (rest := []) ⟨hx, hb, hml, hown, hts⟩ (c_X12_worked l w a) (va_cwS 2 hts gX12_reckoned_X12_worked rfl rfl rfl (by decide +kernel) ⟨Nat.le_of_ble_eq_true rfl, Nat.le_of_ble_eq_true rfl⟩) ⟨fun _ _ _ _ q => q, fun _ _ _ => ⟨rfl, trivial⟩⟩ rfl rfl hl.1 rfl (lv_room (Nat.le_of_ble_eq_true rfl)) dX12_reckoned_320 ⟨Nat.le_of_ble_eq_true rfl, Nat.le_of_ble_eq_true rfl⟩) (fun r_8 h_9 => ?_)
        subst h_9
        exact W.lret (v := r_worked w a) hx hb hr (fun t ht hW => ⟨_, rfl, (by first | rfl | (simp [r_two, r_by, c_1, e_2, c_3]; done) | (simp_all [r_two, r_by]; done) | (unfold r_two; (repeat split) <;> simp_all; done)), ht⟩) (fun _ h => nomatch h) dX12_reckoned_323
    by_cases e_10 : t = 217
    · refine lv_tableIn (off := 304) (tgt := 324) hx hb dX12_reckoned_20 (by rw [e_10]; decide) (by rw [e_10]; decide) (by rw [e_10]; rfl) (by decide) ?_
      refine lv_lload_n hx hb dX12_reckoned_324 rfl (lv_at hl 3 rfl) ?_
      refine lv_lload hx hb dX12_reckoned_325 (lv_at hl 4 rfl) ?_
      refine W.lcmp hx hb dX12_reckoned_327 ?_
      refine lv_if_ne (tgt := 335) hx hb dX12_reckoned_328 (by decide) (fun c_11 => ?_) (fun c_11 => ?_)
      · have c_11 := mt (lg_cmp_eq _ _).mpr c_11
        refine lv_lconst (v := 0) hx hb dX12_reckoned_335 (by decide) ?_
        exact W.lret (v := 0) hx hb hr (fun t ht hW => ⟨_, rfl, (by first | rfl | (simp [r_two, r_by, c_1, e_2, e_10, c_11]; done) | (simp_all [r_two, r_by]; done) | (unfold r_two; (repeat split) <;> simp_all; done)), ht⟩) (fun _ h => nomatch h) dX12_reckoned_336
      · have c_11 := (lg_cmp_eq _ _).mp c_11
        refine lv_lconst (v := 1) hx hb dX12_reckoned_331 (by decide) ?_
        refine lv_goto (tgt := 336) hx hb dX12_reckoned_332 (by decide) ?_
        exact W.lret (v := 1) hx hb hr (fun t ht hW => ⟨_, rfl, (by first | rfl | (simp [r_two, r_by, c_1, e_2, e_10, c_11]; done) | (simp_all [r_two, r_by]; done) | (unfold r_two; (repeat split) <;> simp_all; done)), ht⟩) (fun _ h => nomatch h) dX12_reckoned_336
    by_cases e_12 : t = 218
    · refine lv_tableIn (off := 317) (tgt := 337) hx hb dX12_reckoned_20 (by rw [e_12]; decide) (by rw [e_12]; decide) (by rw [e_12]; rfl) (by decide) ?_
      refine lv_lload_n hx hb dX12_reckoned_337 rfl (lv_at hl 3 rfl) ?_
      refine lv_lload hx hb dX12_reckoned_338 (lv_at hl 4 rfl) ?_
      refine W.lcmp hx hb dX12_reckoned_340 ?_
      refine lv_if_eq (tgt := 348) hx hb dX12_reckoned_341 (by decide) (fun c_13 => ?_) (fun c_13 => ?_)
      · have c_13 := (lg_cmp_eq _ _).mp c_13
        refine lv_lconst (v := 0) hx hb dX12_reckoned_348 (by decide) ?_
        exact W.lret (v := 0) hx hb hr (fun t ht hW => ⟨_, rfl, (by first | rfl | (simp [r_two, r_by, c_1, e_2, e_10, e_12, c_13]; done) | (simp_all [r_two, r_by]; done) | (unfold r_two; (repeat split) <;> simp_all; done)), ht⟩) (fun _ h => nomatch h) dX12_reckoned_349
      · have c_13 := mt (lg_cmp_eq _ _).mpr c_13
        refine lv_lconst (v := 1) hx hb dX12_reckoned_344 (by decide) ?_
        refine lv_goto (tgt := 349) hx hb dX12_reckoned_345 (by decide) ?_
        exact W.lret (v := 1) hx hb hr (fun t ht hW => ⟨_, rfl, (by first | rfl | (simp [r_two, r_by, c_1, e_2, e_10, e_12, c_13]; done) | (simp_all [r_two, r_by]; done) | (unfold r_two; (repeat split) <;> simp_all; done)), ht⟩) (fun _ h => nomatch h) dX12_reckoned_349
    by_cases e_14 : t = 219
    · refine lv_tableIn (off := 343) (tgt := 363) hx hb dX12_reckoned_20 (by rw [e_14]; decide) (by rw [e_14]; decide) (by rw [e_14]; rfl) (by decide) ?_
      refine lv_lload_n hx hb dX12_reckoned_363 rfl (lv_at hl 3 rfl) ?_
      refine lv_lload hx hb dX12_reckoned_364 (lv_at hl 4 rfl) ?_
      refine W.lcmp hx hb dX12_reckoned_366 ?_
      refine lv_if_gt (tgt := 374) hx hb dX12_reckoned_367 (by decide) (fun c_15 => ?_) (fun c_15 => ?_)
      · have c_15 := (lg_cmp_gt _ _).mp c_15
        refine lv_lconst (v := 0) hx hb dX12_reckoned_374 (by decide) ?_
        exact W.lret (v := 0) hx hb hr (fun t ht hW => ⟨_, rfl, (by first | rfl | (simp [r_two, r_by, c_1, e_2, e_10, e_12, e_14, c_15]; done) | (simp_all [r_two, r_by]; done) | (unfold r_two; (repeat split) <;> simp_all; done)), ht⟩) (fun _ h => nomatch h) dX12_reckoned_375
      · have c_15 := mt (lg_cmp_gt _ _).mpr c_15
        refine lv_lconst (v := 1) hx hb dX12_reckoned_370 (by decide) ?_
        refine lv_goto (tgt := 375) hx hb dX12_reckoned_371 (by decide) ?_
        exact W.lret (v := 1) hx hb hr (fun t ht hW => ⟨_, rfl, (by first | rfl | (simp [r_two, r_by, c_1, e_2, e_10, e_12, e_14, c_15]; done) | (simp_all [r_two, r_by]; done) | (unfold r_two; (repeat split) <;> simp_all; done)), ht⟩) (fun _ h => nomatch h) dX12_reckoned_375
    by_cases e_16 : t = 221
    · refine lv_tableIn (off := 267) (tgt := 287) hx hb dX12_reckoned_20 (by rw [e_16]; decide) (by rw [e_16]; decide) (by rw [e_16]; rfl) (by decide) ?_
      refine lv_iload_n hx hb dX12_reckoned_287 rfl (lv_at hl 2 rfl) ?_
      refine lv_lload_n hx hb dX12_reckoned_288 rfl (lv_at hl 3 rfl) ?_
      refine lv_iload hx hb dX12_reckoned_289 (lv_at hl 0 rfl) ?_
      refine lv_lshl (v := a <<< (((b &&& 31).toInt32).toInt64 &&& 63)) hx hb dX12_reckoned_291 rfl ?_
      refine vp_callSl (W.runS (As := [.int w, .long (a <<< (((b &&& 31).toInt32).toInt64 &&& 63))]) (rest := []) ⟨hx, hb, hml, hown, hts⟩ (c_X12_worked l w (a <<< (((b &&& 31).toInt32).toInt64 &&& 63))) (va_cwS 2 hts gX12_reckoned_X12_worked rfl rfl rfl (by decide +kernel) ⟨Nat.le_of_ble_eq_true rfl, Nat.le_of_ble_eq_true rfl⟩) ⟨fun _ _ _ _ q => q, fun _ _ _ => ⟨rfl, trivial⟩⟩ rfl rfl hl.1 rfl (lv_room (Nat.le_of_ble_eq_true rfl)) dX12_reckoned_292 ⟨Nat.le_of_ble_eq_true rfl, Nat.le_of_ble_eq_true rfl⟩) (fun r_17 h_18 => ?_)
      subst h_18
      exact W.lret (v := r_worked w (a <<< (((b &&& 31).toInt32).toInt64 &&& 63))) hx hb hr (fun t ht hW => ⟨_, rfl, (by first | rfl | (simp [r_two, r_by, c_1, e_2, e_10, e_12, e_14, e_16]; done) | (simp_all [r_two, r_by]; done) | (unfold r_two; (repeat split) <;> simp_all; done)), ht⟩) (fun _ h => nomatch h) dX12_reckoned_295
    by_cases e_19 : t = 222
    · refine lv_tableIn (off := 276) (tgt := 296) hx hb dX12_reckoned_20 (by rw [e_19]; decide) (by rw [e_19]; decide) (by rw [e_19]; rfl) (by decide) ?_
      refine lv_lload_n hx hb dX12_reckoned_296 rfl (lv_at hl 3 rfl) ?_
      refine lv_iload hx hb dX12_reckoned_297 (lv_at hl 0 rfl) ?_
      refine lv_lshr (v := a >>> (((b &&& 31).toInt32).toInt64 &&& 63)) hx hb dX12_reckoned_299 rfl ?_
      exact W.lret (v := a >>> (((b &&& 31).toInt32).toInt64 &&& 63)) hx hb hr (fun t ht hW => ⟨_, rfl, (by first | rfl | (simp [r_two, r_by, c_1, e_2, e_10, e_12, e_14, e_16, e_19]; done) | (simp_all [r_two, r_by]; done) | (unfold r_two; (repeat split) <;> simp_all; done)), ht⟩) (fun _ h => nomatch h) dX12_reckoned_300
    by_cases e_20 : t = 235
    · refine lv_tableIn (off := 257) (tgt := 277) hx hb dX12_reckoned_20 (by rw [e_20]; decide) (by rw [e_20]; decide) (by rw [e_20]; rfl) (by decide) ?_
      refine lv_lload_n hx hb dX12_reckoned_277 rfl (lv_at hl 3 rfl) ?_
      refine lv_lload hx hb dX12_reckoned_278 (lv_at hl 4 rfl) ?_
      refine lv_lor hx hb dX12_reckoned_280 ?_
      exact W.lret (v := a ||| b) hx hb hr (fun t ht hW => ⟨_, rfl, (by first | rfl | (simp [r_two, r_by, c_1, e_2, e_10, e_12, e_14, e_16, e_19, e_20]; done) | (simp_all [r_two, r_by]; done) | (unfold r_two; (repeat split) <;> simp_all; done)), ht⟩) (fun _ h => nomatch h) dX12_reckoned_281
    by_cases e_21 : t = 236
    · refine lv_tableIn (off := 262) (tgt := 282) hx hb dX12_reckoned_20 (by rw [e_21]; decide) (by rw [e_21]; decide) (by rw [e_21]; rfl) (by decide) ?_
      refine lv_lload_n hx hb dX12_reckoned_282 rfl (lv_at hl 3 rfl) ?_
      refine lv_lload hx hb dX12_reckoned_283 (lv_at hl 4 rfl) ?_
      refine lv_lxor hx hb dX12_reckoned_285 ?_
      exact W.lret (v := a ^^^ b) hx hb hr (fun t ht hW => ⟨_, rfl, (by first | rfl | (simp [r_two, r_by, c_1, e_2, e_10, e_12, e_14, e_16, e_19, e_20, e_21]; done) | (simp_all [r_two, r_by]; done) | (unfold r_two; (repeat split) <;> simp_all; done)), ht⟩) (fun _ h => nomatch h) dX12_reckoned_286
    by_cases e_22 : t = 237
    · refine lv_tableIn (off := 252) (tgt := 272) hx hb dX12_reckoned_20 (by rw [e_22]; decide) (by rw [e_22]; decide) (by rw [e_22]; rfl) (by decide) ?_
      refine lv_lload_n hx hb dX12_reckoned_272 rfl (lv_at hl 3 rfl) ?_
      refine lv_lload hx hb dX12_reckoned_273 (lv_at hl 4 rfl) ?_
      refine lv_land hx hb dX12_reckoned_275 ?_
      exact W.lret (v := a &&& b) hx hb hr (fun t ht hW => ⟨_, rfl, (by first | rfl | (simp [r_two, r_by, c_1, e_2, e_10, e_12, e_14, e_16, e_19, e_20, e_21, e_22]; done) | (simp_all [r_two, r_by]; done) | (unfold r_two; (repeat split) <;> simp_all; done)), ht⟩) (fun _ h => nomatch h) dX12_reckoned_276
    by_cases e_23 : t = 238
    · refine lv_tableIn (off := 330) (tgt := 350) hx hb dX12_reckoned_20 (by rw [e_23]; decide) (by rw [e_23]; decide) (by rw [e_23]; rfl) (by decide) ?_
      refine lv_lload_n hx hb dX12_reckoned_350 rfl (lv_at hl 3 rfl) ?_
      refine lv_lload hx hb dX12_reckoned_351 (lv_at hl 4 rfl) ?_
      refine W.lcmp hx hb dX12_reckoned_353 ?_
      refine lv_if_ge (tgt := 361) hx hb dX12_reckoned_354 (by decide) (fun c_24 => ?_) (fun c_24 => ?_)
      · have c_24 := (lg_cmp_ge _ _).mp c_24
        refine lv_lconst (v := 0) hx hb dX12_reckoned_361 (by decide) ?_
        exact W.lret (v := 0) hx hb hr (fun t ht hW => ⟨_, rfl, (by first | rfl | (simp [r_two, r_by, c_1, e_2, e_10, e_12, e_14, e_16, e_19, e_20, e_21, e_22, e_23, c_24]; done) | (simp_all [r_two, r_by]; done) | (unfold r_two; (repeat split) <;> simp_all; done)), ht⟩) (fun _ h => nomatch h) dX12_reckoned_362
      · have c_24 := mt (lg_cmp_ge _ _).mpr c_24
        refine lv_lconst (v := 1) hx hb dX12_reckoned_357 (by decide) ?_
        refine lv_goto (tgt := 362) hx hb dX12_reckoned_358 (by decide) ?_
        exact W.lret (v := 1) hx hb hr (fun t ht hW => ⟨_, rfl, (by first | rfl | (simp [r_two, r_by, c_1, e_2, e_10, e_12, e_14, e_16, e_19, e_20, e_21, e_22, e_23, c_24]; done) | (simp_all [r_two, r_by]; done) | (unfold r_two; (repeat split) <;> simp_all; done)), ht⟩) (fun _ h => nomatch h) dX12_reckoned_362
    by_cases e_25 : t = 239
    · refine lv_tableIn (off := 356) (tgt := 376) hx hb dX12_reckoned_20 (by rw [e_25]; decide) (by rw [e_25]; decide) (by rw [e_25]; rfl) (by decide) ?_
      refine lv_lload_n hx hb dX12_reckoned_376 rfl (lv_at hl 3 rfl) ?_
      refine lv_lload hx hb dX12_reckoned_377 (lv_at hl 4 rfl) ?_
      refine W.lcmp hx hb dX12_reckoned_379 ?_
      refine lv_if_le (tgt := 387) hx hb dX12_reckoned_380 (by decide) (fun c_26 => ?_) (fun c_26 => ?_)
      · have c_26 := (lg_cmp_le _ _).mp c_26
        refine lv_lconst (v := 0) hx hb dX12_reckoned_387 (by decide) ?_
        exact W.lret (v := 0) hx hb hr (fun t ht hW => ⟨_, rfl, (by first | rfl | (simp [r_two, r_by, c_1, e_2, e_10, e_12, e_14, e_16, e_19, e_20, e_21, e_22, e_23, e_25, c_26]; done) | (simp_all [r_two, r_by]; done) | (unfold r_two; (repeat split) <;> simp_all; done)), ht⟩) (fun _ h => nomatch h) dX12_reckoned_388
      · have c_26 := mt (lg_cmp_le _ _).mpr c_26
        refine lv_lconst (v := 1) hx hb dX12_reckoned_383 (by decide) ?_
        refine lv_goto (tgt := 388) hx hb dX12_reckoned_384 (by decide) ?_
        exact W.lret (v := 1) hx hb hr (fun t ht hW => ⟨_, rfl, (by first | rfl | (simp [r_two, r_by, c_1, e_2, e_10, e_12, e_14, e_16, e_19, e_20, e_21, e_22, e_23, e_25, c_26]; done) | (simp_all [r_two, r_by]; done) | (unfold r_two; (repeat split) <;> simp_all; done)), ht⟩) (fun _ h => nomatch h) dX12_reckoned_388
    by_cases e_27 : t = 240
    · refine lv_tableIn (off := 184) (tgt := 204) hx hb dX12_reckoned_20 (by rw [e_27]; decide) (by rw [e_27]; decide) (by rw [e_27]; rfl) (by decide) ?_
      refine lv_iload_n hx hb dX12_reckoned_204 rfl (lv_at hl 2 rfl) ?_
      refine lv_lload_n hx hb dX12_reckoned_205 rfl (lv_at hl 3 rfl) ?_
      refine lv_lload hx hb dX12_reckoned_206 (lv_at hl 4 rfl) ?_
      refine lv_ladd hx hb dX12_reckoned_208 ?_
      refine vp_callSl (W.runS (As := [.int w, .long (a + b)]) (rest := []) ⟨hx, hb, hml, hown, hts⟩ (c_X12_worked l w (a + b)) (va_cwS 2 hts gX12_reckoned_X12_worked rfl rfl rfl (by decide +kernel) ⟨Nat.le_of_ble_eq_true rfl, Nat.le_of_ble_eq_true rfl⟩) ⟨fun _ _ _ _ q => q, fun _ _ _ => ⟨rfl, trivial⟩⟩ rfl rfl hl.1 rfl (lv_room (Nat.le_of_ble_eq_true rfl)) dX12_reckoned_209 ⟨Nat.le_of_ble_eq_true rfl, Nat.le_of_ble_eq_true rfl⟩) (fun r_28 h_29 => ?_)
      subst h_29
      exact W.lret (v := r_worked w (a + b)) hx hb hr (fun t ht hW => ⟨_, rfl, (by first | rfl | (simp [r_two, r_by, c_1, e_2, e_10, e_12, e_14, e_16, e_19, e_20, e_21, e_22, e_23, e_25, e_27]; done) | (simp_all [r_two, r_by]; done) | (unfold r_two; (repeat split) <;> simp_all; done)), ht⟩) (fun _ h => nomatch h) dX12_reckoned_212
    by_cases e_30 : t = 241
    · refine lv_tableIn (off := 193) (tgt := 213) hx hb dX12_reckoned_20 (by rw [e_30]; decide) (by rw [e_30]; decide) (by rw [e_30]; rfl) (by decide) ?_
      refine lv_iload_n hx hb dX12_reckoned_213 rfl (lv_at hl 2 rfl) ?_
      refine lv_lload_n hx hb dX12_reckoned_214 rfl (lv_at hl 3 rfl) ?_
      refine lv_lload hx hb dX12_reckoned_215 (lv_at hl 4 rfl) ?_
      refine lv_lsub hx hb dX12_reckoned_217 ?_
      refine vp_callSl (W.runS (As := [.int w, .long (a - b)]) (rest := []) ⟨hx, hb, hml, hown, hts⟩ (c_X12_worked l w (a - b)) (va_cwS 2 hts gX12_reckoned_X12_worked rfl rfl rfl (by decide +kernel) ⟨Nat.le_of_ble_eq_true rfl, Nat.le_of_ble_eq_true rfl⟩) ⟨fun _ _ _ _ q => q, fun _ _ _ => ⟨rfl, trivial⟩⟩ rfl rfl hl.1 rfl (lv_room (Nat.le_of_ble_eq_true rfl)) dX12_reckoned_218 ⟨Nat.le_of_ble_eq_true rfl, Nat.le_of_ble_eq_true rfl⟩) (fun r_31 h_32 => ?_)
      subst h_32
      exact W.lret (v := r_worked w (a - b)) hx hb hr (fun t ht hW => ⟨_, rfl, (by first | rfl | (simp [r_two, r_by, c_1, e_2, e_10, e_12, e_14, e_16, e_19, e_20, e_21, e_22, e_23, e_25, e_27, e_30]; done) | (simp_all [r_two, r_by]; done) | (unfold r_two; (repeat split) <;> simp_all; done)), ht⟩) (fun _ h => nomatch h) dX12_reckoned_221
    by_cases e_33 : t = 242
    · refine lv_tableIn (off := 202) (tgt := 222) hx hb dX12_reckoned_20 (by rw [e_33]; decide) (by rw [e_33]; decide) (by rw [e_33]; rfl) (by decide) ?_
      refine lv_iload_n hx hb dX12_reckoned_222 rfl (lv_at hl 2 rfl) ?_
      refine lv_lload_n hx hb dX12_reckoned_223 rfl (lv_at hl 3 rfl) ?_
      refine lv_lload hx hb dX12_reckoned_224 (lv_at hl 4 rfl) ?_
      refine lv_lmul hx hb dX12_reckoned_226 ?_
      refine vp_callSl (W.runS (As := [.int w, .long (a * b)]) (rest := []) ⟨hx, hb, hml, hown, hts⟩ (c_X12_worked l w (a * b)) (va_cwS 2 hts gX12_reckoned_X12_worked rfl rfl rfl (by decide +kernel) ⟨Nat.le_of_ble_eq_true rfl, Nat.le_of_ble_eq_true rfl⟩) ⟨fun _ _ _ _ q => q, fun _ _ _ => ⟨rfl, trivial⟩⟩ rfl rfl hl.1 rfl (lv_room (Nat.le_of_ble_eq_true rfl)) dX12_reckoned_227 ⟨Nat.le_of_ble_eq_true rfl, Nat.le_of_ble_eq_true rfl⟩) (fun r_34 h_35 => ?_)
      subst h_35
      exact W.lret (v := r_worked w (a * b)) hx hb hr (fun t ht hW => ⟨_, rfl, (by first | rfl | (simp [r_two, r_by, c_1, e_2, e_10, e_12, e_14, e_16, e_19, e_20, e_21, e_22, e_23, e_25, e_27, e_30, e_33]; done) | (simp_all [r_two, r_by]; done) | (unfold r_two; (repeat split) <;> simp_all; done)), ht⟩) (fun _ h => nomatch h) dX12_reckoned_230
    by_cases e_36 : t = 243
    · refine lv_tableIn (off := 211) (tgt := 231) hx hb dX12_reckoned_20 (by rw [e_36]; decide) (by rw [e_36]; decide) (by rw [e_36]; rfl) (by decide) ?_
      refine lv_iload_n hx hb dX12_reckoned_231 rfl (lv_at hl 2 rfl) ?_
      refine lv_lload hx hb dX12_reckoned_232 (lv_at hl 4 rfl) ?_
      refine lv_ldc2 (v := -1) hx hb hown (hts (.constantLong RX12 541 (-1)) (by decide +kernel)) dX12_reckoned_234 ?_
      refine W.lcmp hx hb dX12_reckoned_237 ?_
      refine lv_if_ne (tgt := 246) hx hb dX12_reckoned_238 (by decide) (fun c_37 => ?_) (fun c_37 => ?_)
      · have c_37 := mt (lg_cmp_eq _ _).mpr c_37
        refine lv_lload_n hx hb dX12_reckoned_246 rfl (lv_at hl 3 rfl) ?_
        refine lv_lload hx hb dX12_reckoned_247 (lv_at hl 4 rfl) ?_
        refine lv_ldiv hx hb dX12_reckoned_249 (fun q => hz ⟨by simp_all, q⟩) ?_
        refine vp_callSl (W.runS (As := [.int w, .long (a / b)]) (rest := []) ⟨hx, hb, hml, hown, hts⟩ (c_X12_worked l w (a / b)) (va_cwS 2 hts gX12_reckoned_X12_worked rfl rfl rfl (by decide +kernel) ⟨Nat.le_of_ble_eq_true rfl, Nat.le_of_ble_eq_true rfl⟩) ⟨fun _ _ _ _ q => q, fun _ _ _ => ⟨rfl, trivial⟩⟩ rfl rfl hl.1 rfl (lv_room (Nat.le_of_ble_eq_true rfl)) dX12_reckoned_250 ⟨Nat.le_of_ble_eq_true rfl, Nat.le_of_ble_eq_true rfl⟩) (fun r_38 h_39 => ?_)
        subst h_39
        exact W.lret (v := r_worked w (a / b)) hx hb hr (fun t ht hW => ⟨_, rfl, (by first | rfl | (simp [r_two, r_by, c_1, e_2, e_10, e_12, e_14, e_16, e_19, e_20, e_21, e_22, e_23, e_25, e_27, e_30, e_33, e_36, c_37]; done) | (simp_all [r_two, r_by]; done) | (unfold r_two; (repeat split) <;> simp_all; done)), ht⟩) (fun _ h => nomatch h) dX12_reckoned_253
      · have c_37 := (lg_cmp_eq _ _).mp c_37
        refine lv_lload_n hx hb dX12_reckoned_241 rfl (lv_at hl 3 rfl) ?_
        refine lv_lneg hx hb dX12_reckoned_242 ?_
        refine lv_goto (tgt := 250) hx hb dX12_reckoned_243 (by decide) ?_
        refine vp_callSl (W.runS (As := [.int w, .long (-a)]) (rest := []) ⟨hx, hb, hml, hown, hts⟩ (c_X12_worked l w (-a)) (va_cwS 2 hts gX12_reckoned_X12_worked rfl rfl rfl (by decide +kernel) ⟨Nat.le_of_ble_eq_true rfl, Nat.le_of_ble_eq_true rfl⟩) ⟨fun _ _ _ _ q => q, fun _ _ _ => ⟨rfl, trivial⟩⟩ rfl rfl hl.1 rfl (lv_room (Nat.le_of_ble_eq_true rfl)) dX12_reckoned_250 ⟨Nat.le_of_ble_eq_true rfl, Nat.le_of_ble_eq_true rfl⟩) (fun r_40 h_41 => ?_)
        subst h_41
        exact W.lret (v := r_worked w (-a)) hx hb hr (fun t ht hW => ⟨_, rfl, (by first | rfl | (simp [r_two, r_by, c_1, e_2, e_10, e_12, e_14, e_16, e_19, e_20, e_21, e_22, e_23, e_25, e_27, e_30, e_33, e_36, c_37]; done) | (simp_all [r_two, r_by]; done) | (unfold r_two; (repeat split) <;> simp_all; done)), ht⟩) (fun _ h => nomatch h) dX12_reckoned_253
    by_cases e_42 : t = 244
    · refine lv_tableIn (off := 234) (tgt := 254) hx hb dX12_reckoned_20 (by rw [e_42]; decide) (by rw [e_42]; decide) (by rw [e_42]; rfl) (by decide) ?_
      refine lv_lload hx hb dX12_reckoned_254 (lv_at hl 4 rfl) ?_
      refine lv_ldc2 (v := -1) hx hb hown (hts (.constantLong RX12 541 (-1)) (by decide +kernel)) dX12_reckoned_256 ?_
      refine W.lcmp hx hb dX12_reckoned_259 ?_
      refine lv_if_ne (tgt := 267) hx hb dX12_reckoned_260 (by decide) (fun c_43 => ?_) (fun c_43 => ?_)
      · have c_43 := mt (lg_cmp_eq _ _).mpr c_43
        refine lv_lload_n hx hb dX12_reckoned_267 rfl (lv_at hl 3 rfl) ?_
        refine lv_lload hx hb dX12_reckoned_268 (lv_at hl 4 rfl) ?_
        refine lv_lrem hx hb dX12_reckoned_270 (fun q => hz ⟨by simp_all, q⟩) ?_
        exact W.lret (v := a - a / b * b) hx hb hr (fun t ht hW => ⟨_, rfl, (by first | rfl | (simp [r_two, r_by, c_1, e_2, e_10, e_12, e_14, e_16, e_19, e_20, e_21, e_22, e_23, e_25, e_27, e_30, e_33, e_36, e_42, c_43]; done) | (simp_all [r_two, r_by]; done) | (unfold r_two; (repeat split) <;> simp_all; done)), ht⟩) (fun _ h => nomatch h) dX12_reckoned_271
      · have c_43 := (lg_cmp_eq _ _).mp c_43
        refine lv_lconst (v := 0) hx hb dX12_reckoned_263 (by decide) ?_
        refine lv_goto (tgt := 271) hx hb dX12_reckoned_264 (by decide) ?_
        exact W.lret (v := 0) hx hb hr (fun t ht hW => ⟨_, rfl, (by first | rfl | (simp [r_two, r_by, c_1, e_2, e_10, e_12, e_14, e_16, e_19, e_20, e_21, e_22, e_23, e_25, e_27, e_30, e_33, e_36, e_42, c_43]; done) | (simp_all [r_two, r_by]; done) | (unfold r_two; (repeat split) <;> simp_all; done)), ht⟩) (fun _ h => nomatch h) dX12_reckoned_271
    refine lv_tableDef (tgt := 389) hx hb dX12_reckoned_20 (by decide) (fun off h1 h2 ho => by
      have hI : (t).toInt = 203 ∨ (t).toInt = 204 ∨ (t).toInt = 205 ∨ (t).toInt = 206 ∨ (t).toInt = 207 ∨ (t).toInt = 208 ∨ (t).toInt = 209 ∨ (t).toInt = 210 ∨ (t).toInt = 211 ∨ (t).toInt = 212 ∨ (t).toInt = 213 ∨ (t).toInt = 214 ∨ (t).toInt = 215 ∨ (t).toInt = 216 ∨ (t).toInt = 217 ∨ (t).toInt = 218 ∨ (t).toInt = 219 ∨ (t).toInt = 220 ∨ (t).toInt = 221 ∨ (t).toInt = 222 ∨ (t).toInt = 223 ∨ (t).toInt = 224 ∨ (t).toInt = 225 ∨ (t).toInt = 226 ∨ (t).toInt = 227 ∨ (t).toInt = 228 ∨ (t).toInt = 229 ∨ (t).toInt = 230 ∨ (t).toInt = 231 ∨ (t).toInt = 232 ∨ (t).toInt = 233 ∨ (t).toInt = 234 ∨ (t).toInt = 235 ∨ (t).toInt = 236 ∨ (t).toInt = 237 ∨ (t).toInt = 238 ∨ (t).toInt = 239 ∨ (t).toInt = 240 ∨ (t).toInt = 241 ∨ (t).toInt = 242 ∨ (t).toInt = 243 ∨ (t).toInt = 244 := by omega
      rcases hI with q | q | q | q | q | q | q | q | q | q | q | q | q | q | q | q | q | q | q | q | q | q | q | q | q | q | q | q | q | q | q | q | q | q | q | q | q | q | q | q | q | q
      · exact absurd (Int32.toInt_inj.mp (q.trans (by decide))) e_2
      · rw [q] at ho; simpa using ho
      · rw [q] at ho; simpa using ho
      · rw [q] at ho; simpa using ho
      · rw [q] at ho; simpa using ho
      · rw [q] at ho; simpa using ho
      · rw [q] at ho; simpa using ho
      · rw [q] at ho; simpa using ho
      · rw [q] at ho; simpa using ho
      · rw [q] at ho; simpa using ho
      · rw [q] at ho; simpa using ho
      · rw [q] at ho; simpa using ho
      · rw [q] at ho; simpa using ho
      · rw [q] at ho; simpa using ho
      · exact absurd (Int32.toInt_inj.mp (q.trans (by decide))) e_10
      · exact absurd (Int32.toInt_inj.mp (q.trans (by decide))) e_12
      · exact absurd (Int32.toInt_inj.mp (q.trans (by decide))) e_14
      · rw [q] at ho; simpa using ho
      · exact absurd (Int32.toInt_inj.mp (q.trans (by decide))) e_16
      · exact absurd (Int32.toInt_inj.mp (q.trans (by decide))) e_19
      · rw [q] at ho; simpa using ho
      · rw [q] at ho; simpa using ho
      · rw [q] at ho; simpa using ho
      · rw [q] at ho; simpa using ho
      · rw [q] at ho; simpa using ho
      · rw [q] at ho; simpa using ho
      · rw [q] at ho; simpa using ho
      · rw [q] at ho; simpa using ho
      · rw [q] at ho; simpa using ho
      · rw [q] at ho; simpa using ho
      · rw [q] at ho; simpa using ho
      · rw [q] at ho; simpa using ho
      · exact absurd (Int32.toInt_inj.mp (q.trans (by decide))) e_20
      · exact absurd (Int32.toInt_inj.mp (q.trans (by decide))) e_21
      · exact absurd (Int32.toInt_inj.mp (q.trans (by decide))) e_22
      · exact absurd (Int32.toInt_inj.mp (q.trans (by decide))) e_23
      · exact absurd (Int32.toInt_inj.mp (q.trans (by decide))) e_25
      · exact absurd (Int32.toInt_inj.mp (q.trans (by decide))) e_27
      · exact absurd (Int32.toInt_inj.mp (q.trans (by decide))) e_30
      · exact absurd (Int32.toInt_inj.mp (q.trans (by decide))) e_33
      · exact absurd (Int32.toInt_inj.mp (q.trans (by decide))) e_36
      · exact absurd (Int32.toInt_inj.mp (q.trans (by decide))) e_42) (by decide) ?_
    refine lv_lload_n hx hb dX12_reckoned_389 rfl (lv_at hl 3 rfl) ?_
    refine lv_lload hx hb dX12_reckoned_390 (lv_at hl 4 rfl) ?_
    refine W.lcmp hx hb dX12_reckoned_392 ?_
    refine lv_if_lt (tgt := 400) hx hb dX12_reckoned_393 (by decide) (fun c_44 => ?_) (fun c_44 => ?_)
    · have c_44 := (lg_cmp_lt _ _).mp c_44
      refine lv_lconst (v := 0) hx hb dX12_reckoned_400 (by decide) ?_
      exact W.lret (v := 0) hx hb hr (fun t ht hW => ⟨_, rfl, (by first | rfl | (simp [r_two, r_by, c_1, e_2, e_10, e_12, e_14, e_16, e_19, e_20, e_21, e_22, e_23, e_25, e_27, e_30, e_33, e_36, e_42, c_44]; done) | (simp_all [r_two, r_by]; done) | (unfold r_two; (repeat split) <;> simp_all; done)), ht⟩) (fun _ h => nomatch h) dX12_reckoned_401
    · have c_44 := mt (lg_cmp_lt _ _).mpr c_44
      refine lv_lconst (v := 1) hx hb dX12_reckoned_396 (by decide) ?_
      refine lv_goto (tgt := 401) hx hb dX12_reckoned_397 (by decide) ?_
      exact W.lret (v := 1) hx hb hr (fun t ht hW => ⟨_, rfl, (by first | rfl | (simp [r_two, r_by, c_1, e_2, e_10, e_12, e_14, e_16, e_19, e_20, e_21, e_22, e_23, e_25, e_27, e_30, e_33, e_36, e_42, c_44]; done) | (simp_all [r_two, r_by]; done) | (unfold r_two; (repeat split) <;> simp_all; done)), ht⟩) (fun _ h => nomatch h) dX12_reckoned_401
  · skip
    refine lv_ldc2 (v := 63) hx hb hown (hts (.constantLong RX12 543 (63)) (by decide +kernel)) dX12_reckoned_6 ?_
    refine lv_goto (tgt := 15) hx hb dX12_reckoned_9 (by decide) ?_
    refine lv_land hx hb dX12_reckoned_15 ?_
    refine lv_l2i (v := (b &&& 63).toInt32) hx hb dX12_reckoned_16 rfl ?_
    refine lv_istore (lv' := [(6, .int ((b &&& 63).toInt32)), (0, .int t), (1, .int w), (2, .long a), (4, .long b)]) hx hb dX12_reckoned_17 hl (by decide) rfl (fun ls hl => ?_)
    refine lv_iload_n hx hb dX12_reckoned_19 rfl (lv_at hl 1 rfl) ?_
    by_cases e_45 : t = 203
    · refine lv_tableIn (off := 281) (tgt := 301) hx hb dX12_reckoned_20 (by rw [e_45]; decide) (by rw [e_45]; decide) (by rw [e_45]; rfl) (by decide) ?_
      refine lv_iload_n hx hb dX12_reckoned_301 rfl (lv_at hl 2 rfl) ?_
      refine lv_iload hx hb dX12_reckoned_302 (lv_at hl 0 rfl) ?_
      refine lv_if_ne (tgt := 311) hx hb dX12_reckoned_304 (by decide) (fun c_46 => ?_) (fun c_46 => ?_)
      · skip
        refine lv_lload_n hx hb dX12_reckoned_311 rfl (lv_at hl 3 rfl) ?_
        refine lv_iload_n hx hb dX12_reckoned_312 rfl (lv_at hl 2 rfl) ?_
        refine vp_callSl (W.runS (As := [.int w]) (rest := [.long a, .int w]) ⟨hx, hb, hml, hown, hts⟩ (c_X12_lowest l w) (va_cwS 1 hts gX12_reckoned_X12_lowest rfl rfl rfl (by decide +kernel) ⟨Nat.le_of_ble_eq_true rfl, Nat.le_of_ble_eq_true rfl⟩) ⟨fun _ _ _ _ q => q, fun _ _ _ => ⟨rfl, trivial⟩⟩ rfl rfl hl.1 rfl (lv_room (Nat.le_of_ble_eq_true rfl)) dX12_reckoned_313 ⟨Nat.le_of_ble_eq_true rfl, Nat.le_of_ble_eq_true rfl⟩) (fun r_47 h_48 => ?_)
        subst h_48
        refine lv_land hx hb dX12_reckoned_316 ?_
        refine lv_iload hx hb dX12_reckoned_317 (lv_at hl 0 rfl) ?_
        refine lv_lushr (v := ((a &&& (r_low w)).toUInt64 >>> (((b &&& 63).toInt32).toInt64.toUInt64 &&& Int64.toUInt64 63)).toInt64) hx hb dX12_reckoned_319 rfl ?_
        refine vp_callSl (W.runS (As := [.int w, .long (((a &&& (r_low w)).toUInt64 >>> (((b &&& 63).toInt32).toInt64.toUInt64 &&& Int64.toUInt64 63)).toInt64)]) (rest := []) ⟨hx, hb, hml, hown, hts⟩ (c_X12_worked l w (((a &&& (r_low w)).toUInt64 >>> (((b &&& 63).toInt32).toInt64.toUInt64 &&& Int64.toUInt64 63)).toInt64)) (va_cwS 2 hts gX12_reckoned_X12_worked rfl rfl rfl (by decide +kernel) ⟨Nat.le_of_ble_eq_true rfl, Nat.le_of_ble_eq_true rfl⟩) ⟨fun _ _ _ _ q => q, fun _ _ _ => ⟨rfl, trivial⟩⟩ rfl rfl hl.1 rfl (lv_room (Nat.le_of_ble_eq_true rfl)) dX12_reckoned_320 ⟨Nat.le_of_ble_eq_true rfl, Nat.le_of_ble_eq_true rfl⟩) (fun r_49 h_50 => ?_)
        subst h_50
        exact W.lret (v := r_worked w (((a &&& (r_low w)).toUInt64 >>> (((b &&& 63).toInt32).toInt64.toUInt64 &&& Int64.toUInt64 63)).toInt64)) hx hb hr (fun t ht hW => ⟨_, rfl, (by first | rfl | (simp [r_two, r_by, c_1, e_45, c_46]; done) | (simp_all [r_two, r_by]; done) | (unfold r_two; (repeat split) <;> simp_all; done)), ht⟩) (fun _ h => nomatch h) dX12_reckoned_323
      · skip
        refine lv_lload_n hx hb dX12_reckoned_307 rfl (lv_at hl 3 rfl) ?_
        refine lv_goto (tgt := 320) hx hb dX12_reckoned_308 (by decide) ?_
        refine vp_callSl (W.runS (As := [.int w, .long a]) (rest := []) ⟨hx, hb, hml, hown, hts⟩ (c_X12_worked l w a) (va_cwS 2 hts gX12_reckoned_X12_worked rfl rfl rfl (by decide +kernel) ⟨Nat.le_of_ble_eq_true rfl, Nat.le_of_ble_eq_true rfl⟩) ⟨fun _ _ _ _ q => q, fun _ _ _ => ⟨rfl, trivial⟩⟩ rfl rfl hl.1 rfl (lv_room (Nat.le_of_ble_eq_true rfl)) dX12_reckoned_320 ⟨Nat.le_of_ble_eq_true rfl, Nat.le_of_ble_eq_true rfl⟩) (fun r_51 h_52 => ?_)
        subst h_52
        exact W.lret (v := r_worked w a) hx hb hr (fun t ht hW => ⟨_, rfl, (by first | rfl | (simp [r_two, r_by, c_1, e_45, c_46]; done) | (simp_all [r_two, r_by]; done) | (unfold r_two; (repeat split) <;> simp_all; done)), ht⟩) (fun _ h => nomatch h) dX12_reckoned_323
    by_cases e_53 : t = 217
    · refine lv_tableIn (off := 304) (tgt := 324) hx hb dX12_reckoned_20 (by rw [e_53]; decide) (by rw [e_53]; decide) (by rw [e_53]; rfl) (by decide) ?_
      refine lv_lload_n hx hb dX12_reckoned_324 rfl (lv_at hl 3 rfl) ?_
      refine lv_lload hx hb dX12_reckoned_325 (lv_at hl 4 rfl) ?_
      refine W.lcmp hx hb dX12_reckoned_327 ?_
      refine lv_if_ne (tgt := 335) hx hb dX12_reckoned_328 (by decide) (fun c_54 => ?_) (fun c_54 => ?_)
      · have c_54 := mt (lg_cmp_eq _ _).mpr c_54
        refine lv_lconst (v := 0) hx hb dX12_reckoned_335 (by decide) ?_
        exact W.lret (v := 0) hx hb hr (fun t ht hW => ⟨_, rfl, (by first | rfl | (simp [r_two, r_by, c_1, e_45, e_53, c_54]; done) | (simp_all [r_two, r_by]; done) | (unfold r_two; (repeat split) <;> simp_all; done)), ht⟩) (fun _ h => nomatch h) dX12_reckoned_336
      · have c_54 := (lg_cmp_eq _ _).mp c_54
        refine lv_lconst (v := 1) hx hb dX12_reckoned_331 (by decide) ?_
        refine lv_goto (tgt := 336) hx hb dX12_reckoned_332 (by decide) ?_
        exact W.lret (v := 1) hx hb hr (fun t ht hW => ⟨_, rfl, (by first | rfl | (simp [r_two, r_by, c_1, e_45, e_53, c_54]; done) | (simp_all [r_two, r_by]; done) | (unfold r_two; (repeat split) <;> simp_all; done)), ht⟩) (fun _ h => nomatch h) dX12_reckoned_336
    by_cases e_55 : t = 218
    · refine lv_tableIn (off := 317) (tgt := 337) hx hb dX12_reckoned_20 (by rw [e_55]; decide) (by rw [e_55]; decide) (by rw [e_55]; rfl) (by decide) ?_
      refine lv_lload_n hx hb dX12_reckoned_337 rfl (lv_at hl 3 rfl) ?_
      refine lv_lload hx hb dX12_reckoned_338 (lv_at hl 4 rfl) ?_
      refine W.lcmp hx hb dX12_reckoned_340 ?_
      refine lv_if_eq (tgt := 348) hx hb dX12_reckoned_341 (by decide) (fun c_56 => ?_) (fun c_56 => ?_)
      · have c_56 := (lg_cmp_eq _ _).mp c_56
        refine lv_lconst (v := 0) hx hb dX12_reckoned_348 (by decide) ?_
        exact W.lret (v := 0) hx hb hr (fun t ht hW => ⟨_, rfl, (by first | rfl | (simp [r_two, r_by, c_1, e_45, e_53, e_55, c_56]; done) | (simp_all [r_two, r_by]; done) | (unfold r_two; (repeat split) <;> simp_all; done)), ht⟩) (fun _ h => nomatch h) dX12_reckoned_349
      · have c_56 := mt (lg_cmp_eq _ _).mpr c_56
        refine lv_lconst (v := 1) hx hb dX12_reckoned_344 (by decide) ?_
        refine lv_goto (tgt := 349) hx hb dX12_reckoned_345 (by decide) ?_
        exact W.lret (v := 1) hx hb hr (fun t ht hW => ⟨_, rfl, (by first | rfl | (simp [r_two, r_by, c_1, e_45, e_53, e_55, c_56]; done) | (simp_all [r_two, r_by]; done) | (unfold r_two; (repeat split) <;> simp_all; done)), ht⟩) (fun _ h => nomatch h) dX12_reckoned_349
    by_cases e_57 : t = 219
    · refine lv_tableIn (off := 343) (tgt := 363) hx hb dX12_reckoned_20 (by rw [e_57]; decide) (by rw [e_57]; decide) (by rw [e_57]; rfl) (by decide) ?_
      refine lv_lload_n hx hb dX12_reckoned_363 rfl (lv_at hl 3 rfl) ?_
      refine lv_lload hx hb dX12_reckoned_364 (lv_at hl 4 rfl) ?_
      refine W.lcmp hx hb dX12_reckoned_366 ?_
      refine lv_if_gt (tgt := 374) hx hb dX12_reckoned_367 (by decide) (fun c_58 => ?_) (fun c_58 => ?_)
      · have c_58 := (lg_cmp_gt _ _).mp c_58
        refine lv_lconst (v := 0) hx hb dX12_reckoned_374 (by decide) ?_
        exact W.lret (v := 0) hx hb hr (fun t ht hW => ⟨_, rfl, (by first | rfl | (simp [r_two, r_by, c_1, e_45, e_53, e_55, e_57, c_58]; done) | (simp_all [r_two, r_by]; done) | (unfold r_two; (repeat split) <;> simp_all; done)), ht⟩) (fun _ h => nomatch h) dX12_reckoned_375
      · have c_58 := mt (lg_cmp_gt _ _).mpr c_58
        refine lv_lconst (v := 1) hx hb dX12_reckoned_370 (by decide) ?_
        refine lv_goto (tgt := 375) hx hb dX12_reckoned_371 (by decide) ?_
        exact W.lret (v := 1) hx hb hr (fun t ht hW => ⟨_, rfl, (by first | rfl | (simp [r_two, r_by, c_1, e_45, e_53, e_55, e_57, c_58]; done) | (simp_all [r_two, r_by]; done) | (unfold r_two; (repeat split) <;> simp_all; done)), ht⟩) (fun _ h => nomatch h) dX12_reckoned_375
    by_cases e_59 : t = 221
    · refine lv_tableIn (off := 267) (tgt := 287) hx hb dX12_reckoned_20 (by rw [e_59]; decide) (by rw [e_59]; decide) (by rw [e_59]; rfl) (by decide) ?_
      refine lv_iload_n hx hb dX12_reckoned_287 rfl (lv_at hl 2 rfl) ?_
      refine lv_lload_n hx hb dX12_reckoned_288 rfl (lv_at hl 3 rfl) ?_
      refine lv_iload hx hb dX12_reckoned_289 (lv_at hl 0 rfl) ?_
      refine lv_lshl (v := a <<< (((b &&& 63).toInt32).toInt64 &&& 63)) hx hb dX12_reckoned_291 rfl ?_
      refine vp_callSl (W.runS (As := [.int w, .long (a <<< (((b &&& 63).toInt32).toInt64 &&& 63))]) (rest := []) ⟨hx, hb, hml, hown, hts⟩ (c_X12_worked l w (a <<< (((b &&& 63).toInt32).toInt64 &&& 63))) (va_cwS 2 hts gX12_reckoned_X12_worked rfl rfl rfl (by decide +kernel) ⟨Nat.le_of_ble_eq_true rfl, Nat.le_of_ble_eq_true rfl⟩) ⟨fun _ _ _ _ q => q, fun _ _ _ => ⟨rfl, trivial⟩⟩ rfl rfl hl.1 rfl (lv_room (Nat.le_of_ble_eq_true rfl)) dX12_reckoned_292 ⟨Nat.le_of_ble_eq_true rfl, Nat.le_of_ble_eq_true rfl⟩) (fun r_60 h_61 => ?_)
      subst h_61
      exact W.lret (v := r_worked w (a <<< (((b &&& 63).toInt32).toInt64 &&& 63))) hx hb hr (fun t ht hW => ⟨_, rfl, (by first | rfl | (simp [r_two, r_by, c_1, e_45, e_53, e_55, e_57, e_59]; done) | (simp_all [r_two, r_by]; done) | (unfold r_two; (repeat split) <;> simp_all; done)), ht⟩) (fun _ h => nomatch h) dX12_reckoned_295
    by_cases e_62 : t = 222
    · refine lv_tableIn (off := 276) (tgt := 296) hx hb dX12_reckoned_20 (by rw [e_62]; decide) (by rw [e_62]; decide) (by rw [e_62]; rfl) (by decide) ?_
      refine lv_lload_n hx hb dX12_reckoned_296 rfl (lv_at hl 3 rfl) ?_
      refine lv_iload hx hb dX12_reckoned_297 (lv_at hl 0 rfl) ?_
      refine lv_lshr (v := a >>> (((b &&& 63).toInt32).toInt64 &&& 63)) hx hb dX12_reckoned_299 rfl ?_
      exact W.lret (v := a >>> (((b &&& 63).toInt32).toInt64 &&& 63)) hx hb hr (fun t ht hW => ⟨_, rfl, (by first | rfl | (simp [r_two, r_by, c_1, e_45, e_53, e_55, e_57, e_59, e_62]; done) | (simp_all [r_two, r_by]; done) | (unfold r_two; (repeat split) <;> simp_all; done)), ht⟩) (fun _ h => nomatch h) dX12_reckoned_300
    by_cases e_63 : t = 235
    · refine lv_tableIn (off := 257) (tgt := 277) hx hb dX12_reckoned_20 (by rw [e_63]; decide) (by rw [e_63]; decide) (by rw [e_63]; rfl) (by decide) ?_
      refine lv_lload_n hx hb dX12_reckoned_277 rfl (lv_at hl 3 rfl) ?_
      refine lv_lload hx hb dX12_reckoned_278 (lv_at hl 4 rfl) ?_
      refine lv_lor hx hb dX12_reckoned_280 ?_
      exact W.lret (v := a ||| b) hx hb hr (fun t ht hW => ⟨_, rfl, (by first | rfl | (simp [r_two, r_by, c_1, e_45, e_53, e_55, e_57, e_59, e_62, e_63]; done) | (simp_all [r_two, r_by]; done) | (unfold r_two; (repeat split) <;> simp_all; done)), ht⟩) (fun _ h => nomatch h) dX12_reckoned_281
    by_cases e_64 : t = 236
    · refine lv_tableIn (off := 262) (tgt := 282) hx hb dX12_reckoned_20 (by rw [e_64]; decide) (by rw [e_64]; decide) (by rw [e_64]; rfl) (by decide) ?_
      refine lv_lload_n hx hb dX12_reckoned_282 rfl (lv_at hl 3 rfl) ?_
      refine lv_lload hx hb dX12_reckoned_283 (lv_at hl 4 rfl) ?_
      refine lv_lxor hx hb dX12_reckoned_285 ?_
      exact W.lret (v := a ^^^ b) hx hb hr (fun t ht hW => ⟨_, rfl, (by first | rfl | (simp [r_two, r_by, c_1, e_45, e_53, e_55, e_57, e_59, e_62, e_63, e_64]; done) | (simp_all [r_two, r_by]; done) | (unfold r_two; (repeat split) <;> simp_all; done)), ht⟩) (fun _ h => nomatch h) dX12_reckoned_286
    by_cases e_65 : t = 237
    · refine lv_tableIn (off := 252) (tgt := 272) hx hb dX12_reckoned_20 (by rw [e_65]; decide) (by rw [e_65]; decide) (by rw [e_65]; rfl) (by decide) ?_
      refine lv_lload_n hx hb dX12_reckoned_272 rfl (lv_at hl 3 rfl) ?_
      refine lv_lload hx hb dX12_reckoned_273 (lv_at hl 4 rfl) ?_
      refine lv_land hx hb dX12_reckoned_275 ?_
      exact W.lret (v := a &&& b) hx hb hr (fun t ht hW => ⟨_, rfl, (by first | rfl | (simp [r_two, r_by, c_1, e_45, e_53, e_55, e_57, e_59, e_62, e_63, e_64, e_65]; done) | (simp_all [r_two, r_by]; done) | (unfold r_two; (repeat split) <;> simp_all; done)), ht⟩) (fun _ h => nomatch h) dX12_reckoned_276
    by_cases e_66 : t = 238
    · refine lv_tableIn (off := 330) (tgt := 350) hx hb dX12_reckoned_20 (by rw [e_66]; decide) (by rw [e_66]; decide) (by rw [e_66]; rfl) (by decide) ?_
      refine lv_lload_n hx hb dX12_reckoned_350 rfl (lv_at hl 3 rfl) ?_
      refine lv_lload hx hb dX12_reckoned_351 (lv_at hl 4 rfl) ?_
      refine W.lcmp hx hb dX12_reckoned_353 ?_
      refine lv_if_ge (tgt := 361) hx hb dX12_reckoned_354 (by decide) (fun c_67 => ?_) (fun c_67 => ?_)
      · have c_67 := (lg_cmp_ge _ _).mp c_67
        refine lv_lconst (v := 0) hx hb dX12_reckoned_361 (by decide) ?_
        exact W.lret (v := 0) hx hb hr (fun t ht hW => ⟨_, rfl, (by first | rfl | (simp [r_two, r_by, c_1, e_45, e_53, e_55, e_57, e_59, e_62, e_63, e_64, e_65, e_66, c_67]; done) | (simp_all [r_two, r_by]; done) | (unfold r_two; (repeat split) <;> simp_all; done)), ht⟩) (fun _ h => nomatch h) dX12_reckoned_362
      · have c_67 := mt (lg_cmp_ge _ _).mpr c_67
        refine lv_lconst (v := 1) hx hb dX12_reckoned_357 (by decide) ?_
        refine lv_goto (tgt := 362) hx hb dX12_reckoned_358 (by decide) ?_
        exact W.lret (v := 1) hx hb hr (fun t ht hW => ⟨_, rfl, (by first | rfl | (simp [r_two, r_by, c_1, e_45, e_53, e_55, e_57, e_59, e_62, e_63, e_64, e_65, e_66, c_67]; done) | (simp_all [r_two, r_by]; done) | (unfold r_two; (repeat split) <;> simp_all; done)), ht⟩) (fun _ h => nomatch h) dX12_reckoned_362
    by_cases e_68 : t = 239
    · refine lv_tableIn (off := 356) (tgt := 376) hx hb dX12_reckoned_20 (by rw [e_68]; decide) (by rw [e_68]; decide) (by rw [e_68]; rfl) (by decide) ?_
      refine lv_lload_n hx hb dX12_reckoned_376 rfl (lv_at hl 3 rfl) ?_
      refine lv_lload hx hb dX12_reckoned_377 (lv_at hl 4 rfl) ?_
      refine W.lcmp hx hb dX12_reckoned_379 ?_
      refine lv_if_le (tgt := 387) hx hb dX12_reckoned_380 (by decide) (fun c_69 => ?_) (fun c_69 => ?_)
      · have c_69 := (lg_cmp_le _ _).mp c_69
        refine lv_lconst (v := 0) hx hb dX12_reckoned_387 (by decide) ?_
        exact W.lret (v := 0) hx hb hr (fun t ht hW => ⟨_, rfl, (by first | rfl | (simp [r_two, r_by, c_1, e_45, e_53, e_55, e_57, e_59, e_62, e_63, e_64, e_65, e_66, e_68, c_69]; done) | (simp_all [r_two, r_by]; done) | (unfold r_two; (repeat split) <;> simp_all; done)), ht⟩) (fun _ h => nomatch h) dX12_reckoned_388
      · have c_69 := mt (lg_cmp_le _ _).mpr c_69
        refine lv_lconst (v := 1) hx hb dX12_reckoned_383 (by decide) ?_
        refine lv_goto (tgt := 388) hx hb dX12_reckoned_384 (by decide) ?_
        exact W.lret (v := 1) hx hb hr (fun t ht hW => ⟨_, rfl, (by first | rfl | (simp [r_two, r_by, c_1, e_45, e_53, e_55, e_57, e_59, e_62, e_63, e_64, e_65, e_66, e_68, c_69]; done) | (simp_all [r_two, r_by]; done) | (unfold r_two; (repeat split) <;> simp_all; done)), ht⟩) (fun _ h => nomatch h) dX12_reckoned_388
    by_cases e_70 : t = 240
    · refine lv_tableIn (off := 184) (tgt := 204) hx hb dX12_reckoned_20 (by rw [e_70]; decide) (by rw [e_70]; decide) (by rw [e_70]; rfl) (by decide) ?_
      refine lv_iload_n hx hb dX12_reckoned_204 rfl (lv_at hl 2 rfl) ?_
      refine lv_lload_n hx hb dX12_reckoned_205 rfl (lv_at hl 3 rfl) ?_
      refine lv_lload hx hb dX12_reckoned_206 (lv_at hl 4 rfl) ?_
      refine lv_ladd hx hb dX12_reckoned_208 ?_
      refine vp_callSl (W.runS (As := [.int w, .long (a + b)]) (rest := []) ⟨hx, hb, hml, hown, hts⟩ (c_X12_worked l w (a + b)) (va_cwS 2 hts gX12_reckoned_X12_worked rfl rfl rfl (by decide +kernel) ⟨Nat.le_of_ble_eq_true rfl, Nat.le_of_ble_eq_true rfl⟩) ⟨fun _ _ _ _ q => q, fun _ _ _ => ⟨rfl, trivial⟩⟩ rfl rfl hl.1 rfl (lv_room (Nat.le_of_ble_eq_true rfl)) dX12_reckoned_209 ⟨Nat.le_of_ble_eq_true rfl, Nat.le_of_ble_eq_true rfl⟩) (fun r_71 h_72 => ?_)
      subst h_72
      exact W.lret (v := r_worked w (a + b)) hx hb hr (fun t ht hW => ⟨_, rfl, (by first | rfl | (simp [r_two, r_by, c_1, e_45, e_53, e_55, e_57, e_59, e_62, e_63, e_64, e_65, e_66, e_68, e_70]; done) | (simp_all [r_two, r_by]; done) | (unfold r_two; (repeat split) <;> simp_all; done)), ht⟩) (fun _ h => nomatch h) dX12_reckoned_212
    by_cases e_73 : t = 241
    · refine lv_tableIn (off := 193) (tgt := 213) hx hb dX12_reckoned_20 (by rw [e_73]; decide) (by rw [e_73]; decide) (by rw [e_73]; rfl) (by decide) ?_
      refine lv_iload_n hx hb dX12_reckoned_213 rfl (lv_at hl 2 rfl) ?_
      refine lv_lload_n hx hb dX12_reckoned_214 rfl (lv_at hl 3 rfl) ?_
      refine lv_lload hx hb dX12_reckoned_215 (lv_at hl 4 rfl) ?_
      refine lv_lsub hx hb dX12_reckoned_217 ?_
      refine vp_callSl (W.runS (As := [.int w, .long (a - b)]) (rest := []) ⟨hx, hb, hml, hown, hts⟩ (c_X12_worked l w (a - b)) (va_cwS 2 hts gX12_reckoned_X12_worked rfl rfl rfl (by decide +kernel) ⟨Nat.le_of_ble_eq_true rfl, Nat.le_of_ble_eq_true rfl⟩) ⟨fun _ _ _ _ q => q, fun _ _ _ => ⟨rfl, trivial⟩⟩ rfl rfl hl.1 rfl (lv_room (Nat.le_of_ble_eq_true rfl)) dX12_reckoned_218 ⟨Nat.le_of_ble_eq_true rfl, Nat.le_of_ble_eq_true rfl⟩) (fun r_74 h_75 => ?_)
      subst h_75
      exact W.lret (v := r_worked w (a - b)) hx hb hr (fun t ht hW => ⟨_, rfl, (by first | rfl | (simp [r_two, r_by, c_1, e_45, e_53, e_55, e_57, e_59, e_62, e_63, e_64, e_65, e_66, e_68, e_70, e_73]; done) | (simp_all [r_two, r_by]; done) | (unfold r_two; (repeat split) <;> simp_all; done)), ht⟩) (fun _ h => nomatch h) dX12_reckoned_221
    by_cases e_76 : t = 242
    · refine lv_tableIn (off := 202) (tgt := 222) hx hb dX12_reckoned_20 (by rw [e_76]; decide) (by rw [e_76]; decide) (by rw [e_76]; rfl) (by decide) ?_
      refine lv_iload_n hx hb dX12_reckoned_222 rfl (lv_at hl 2 rfl) ?_
      refine lv_lload_n hx hb dX12_reckoned_223 rfl (lv_at hl 3 rfl) ?_
      refine lv_lload hx hb dX12_reckoned_224 (lv_at hl 4 rfl) ?_
      refine lv_lmul hx hb dX12_reckoned_226 ?_
      refine vp_callSl (W.runS (As := [.int w, .long (a * b)]) (rest := []) ⟨hx, hb, hml, hown, hts⟩ (c_X12_worked l w (a * b)) (va_cwS 2 hts gX12_reckoned_X12_worked rfl rfl rfl (by decide +kernel) ⟨Nat.le_of_ble_eq_true rfl, Nat.le_of_ble_eq_true rfl⟩) ⟨fun _ _ _ _ q => q, fun _ _ _ => ⟨rfl, trivial⟩⟩ rfl rfl hl.1 rfl (lv_room (Nat.le_of_ble_eq_true rfl)) dX12_reckoned_227 ⟨Nat.le_of_ble_eq_true rfl, Nat.le_of_ble_eq_true rfl⟩) (fun r_77 h_78 => ?_)
      subst h_78
      exact W.lret (v := r_worked w (a * b)) hx hb hr (fun t ht hW => ⟨_, rfl, (by first | rfl | (simp [r_two, r_by, c_1, e_45, e_53, e_55, e_57, e_59, e_62, e_63, e_64, e_65, e_66, e_68, e_70, e_73, e_76]; done) | (simp_all [r_two, r_by]; done) | (unfold r_two; (repeat split) <;> simp_all; done)), ht⟩) (fun _ h => nomatch h) dX12_reckoned_230
    by_cases e_79 : t = 243
    · refine lv_tableIn (off := 211) (tgt := 231) hx hb dX12_reckoned_20 (by rw [e_79]; decide) (by rw [e_79]; decide) (by rw [e_79]; rfl) (by decide) ?_
      refine lv_iload_n hx hb dX12_reckoned_231 rfl (lv_at hl 2 rfl) ?_
      refine lv_lload hx hb dX12_reckoned_232 (lv_at hl 4 rfl) ?_
      refine lv_ldc2 (v := -1) hx hb hown (hts (.constantLong RX12 541 (-1)) (by decide +kernel)) dX12_reckoned_234 ?_
      refine W.lcmp hx hb dX12_reckoned_237 ?_
      refine lv_if_ne (tgt := 246) hx hb dX12_reckoned_238 (by decide) (fun c_80 => ?_) (fun c_80 => ?_)
      · have c_80 := mt (lg_cmp_eq _ _).mpr c_80
        refine lv_lload_n hx hb dX12_reckoned_246 rfl (lv_at hl 3 rfl) ?_
        refine lv_lload hx hb dX12_reckoned_247 (lv_at hl 4 rfl) ?_
        refine lv_ldiv hx hb dX12_reckoned_249 (fun q => hz ⟨by simp_all, q⟩) ?_
        refine vp_callSl (W.runS (As := [.int w, .long (a / b)]) (rest := []) ⟨hx, hb, hml, hown, hts⟩ (c_X12_worked l w (a / b)) (va_cwS 2 hts gX12_reckoned_X12_worked rfl rfl rfl (by decide +kernel) ⟨Nat.le_of_ble_eq_true rfl, Nat.le_of_ble_eq_true rfl⟩) ⟨fun _ _ _ _ q => q, fun _ _ _ => ⟨rfl, trivial⟩⟩ rfl rfl hl.1 rfl (lv_room (Nat.le_of_ble_eq_true rfl)) dX12_reckoned_250 ⟨Nat.le_of_ble_eq_true rfl, Nat.le_of_ble_eq_true rfl⟩) (fun r_81 h_82 => ?_)
        subst h_82
        exact W.lret (v := r_worked w (a / b)) hx hb hr (fun t ht hW => ⟨_, rfl, (by first | rfl | (simp [r_two, r_by, c_1, e_45, e_53, e_55, e_57, e_59, e_62, e_63, e_64, e_65, e_66, e_68, e_70, e_73, e_76, e_79, c_80]; done) | (simp_all [r_two, r_by]; done) | (unfold r_two; (repeat split) <;> simp_all; done)), ht⟩) (fun _ h => nomatch h) dX12_reckoned_253
      · have c_80 := (lg_cmp_eq _ _).mp c_80
        refine lv_lload_n hx hb dX12_reckoned_241 rfl (lv_at hl 3 rfl) ?_
        refine lv_lneg hx hb dX12_reckoned_242 ?_
        refine lv_goto (tgt := 250) hx hb dX12_reckoned_243 (by decide) ?_
        refine vp_callSl (W.runS (As := [.int w, .long (-a)]) (rest := []) ⟨hx, hb, hml, hown, hts⟩ (c_X12_worked l w (-a)) (va_cwS 2 hts gX12_reckoned_X12_worked rfl rfl rfl (by decide +kernel) ⟨Nat.le_of_ble_eq_true rfl, Nat.le_of_ble_eq_true rfl⟩) ⟨fun _ _ _ _ q => q, fun _ _ _ => ⟨rfl, trivial⟩⟩ rfl rfl hl.1 rfl (lv_room (Nat.le_of_ble_eq_true rfl)) dX12_reckoned_250 ⟨Nat.le_of_ble_eq_true rfl, Nat.le_of_ble_eq_true rfl⟩) (fun r_83 h_84 => ?_)
        subst h_84
        exact W.lret (v := r_worked w (-a)) hx hb hr (fun t ht hW => ⟨_, rfl, (by first | rfl | (simp [r_two, r_by, c_1, e_45, e_53, e_55, e_57, e_59, e_62, e_63, e_64, e_65, e_66, e_68, e_70, e_73, e_76, e_79, c_80]; done) | (simp_all [r_two, r_by]; done) | (unfold r_two; (repeat split) <;> simp_all; done)), ht⟩) (fun _ h => nomatch h) dX12_reckoned_253
    by_cases e_85 : t = 244
    · refine lv_tableIn (off := 234) (tgt := 254) hx hb dX12_reckoned_20 (by rw [e_85]; decide) (by rw [e_85]; decide) (by rw [e_85]; rfl) (by decide) ?_
      refine lv_lload hx hb dX12_reckoned_254 (lv_at hl 4 rfl) ?_
      refine lv_ldc2 (v := -1) hx hb hown (hts (.constantLong RX12 541 (-1)) (by decide +kernel)) dX12_reckoned_256 ?_
      refine W.lcmp hx hb dX12_reckoned_259 ?_
      refine lv_if_ne (tgt := 267) hx hb dX12_reckoned_260 (by decide) (fun c_86 => ?_) (fun c_86 => ?_)
      · have c_86 := mt (lg_cmp_eq _ _).mpr c_86
        refine lv_lload_n hx hb dX12_reckoned_267 rfl (lv_at hl 3 rfl) ?_
        refine lv_lload hx hb dX12_reckoned_268 (lv_at hl 4 rfl) ?_
        refine lv_lrem hx hb dX12_reckoned_270 (fun q => hz ⟨by simp_all, q⟩) ?_
        exact W.lret (v := a - a / b * b) hx hb hr (fun t ht hW => ⟨_, rfl, (by first | rfl | (simp [r_two, r_by, c_1, e_45, e_53, e_55, e_57, e_59, e_62, e_63, e_64, e_65, e_66, e_68, e_70, e_73, e_76, e_79, e_85, c_86]; done) | (simp_all [r_two, r_by]; done) | (unfold r_two; (repeat split) <;> simp_all; done)), ht⟩) (fun _ h => nomatch h) dX12_reckoned_271
      · have c_86 := (lg_cmp_eq _ _).mp c_86
        refine lv_lconst (v := 0) hx hb dX12_reckoned_263 (by decide) ?_
        refine lv_goto (tgt := 271) hx hb dX12_reckoned_264 (by decide) ?_
        exact W.lret (v := 0) hx hb hr (fun t ht hW => ⟨_, rfl, (by first | rfl | (simp [r_two, r_by, c_1, e_45, e_53, e_55, e_57, e_59, e_62, e_63, e_64, e_65, e_66, e_68, e_70, e_73, e_76, e_79, e_85, c_86]; done) | (simp_all [r_two, r_by]; done) | (unfold r_two; (repeat split) <;> simp_all; done)), ht⟩) (fun _ h => nomatch h) dX12_reckoned_271
    refine lv_tableDef (tgt := 389) hx hb dX12_reckoned_20 (by decide) (fun off h1 h2 ho => by
      have hI : (t).toInt = 203 ∨ (t).toInt = 204 ∨ (t).toInt = 205 ∨ (t).toInt = 206 ∨ (t).toInt = 207 ∨ (t).toInt = 208 ∨ (t).toInt = 209 ∨ (t).toInt = 210 ∨ (t).toInt = 211 ∨ (t).toInt = 212 ∨ (t).toInt = 213 ∨ (t).toInt = 214 ∨ (t).toInt = 215 ∨ (t).toInt = 216 ∨ (t).toInt = 217 ∨ (t).toInt = 218 ∨ (t).toInt = 219 ∨ (t).toInt = 220 ∨ (t).toInt = 221 ∨ (t).toInt = 222 ∨ (t).toInt = 223 ∨ (t).toInt = 224 ∨ (t).toInt = 225 ∨ (t).toInt = 226 ∨ (t).toInt = 227 ∨ (t).toInt = 228 ∨ (t).toInt = 229 ∨ (t).toInt = 230 ∨ (t).toInt = 231 ∨ (t).toInt = 232 ∨ (t).toInt = 233 ∨ (t).toInt = 234 ∨ (t).toInt = 235 ∨ (t).toInt = 236 ∨ (t).toInt = 237 ∨ (t).toInt = 238 ∨ (t).toInt = 239 ∨ (t).toInt = 240 ∨ (t).toInt = 241 ∨ (t).toInt = 242 ∨ (t).toInt = 243 ∨ (t).toInt = 244 := by omega
      rcases hI with q | q | q | q | q | q | q | q | q | q | q | q | q | q | q | q | q | q | q | q | q | q | q | q | q | q | q | q | q | q | q | q | q | q | q | q | q | q | q | q | q | q
      · exact absurd (Int32.toInt_inj.mp (q.trans (by decide))) e_45
      · rw [q] at ho; simpa using ho
      · rw [q] at ho; simpa using ho
      · rw [q] at ho; simpa using ho
      · rw [q] at ho; simpa using ho
      · rw [q] at ho; simpa using ho
      · rw [q] at ho; simpa using ho
      · rw [q] at ho; simpa using ho
      · rw [q] at ho; simpa using ho
      · rw [q] at ho; simpa using ho
      · rw [q] at ho; simpa using ho
      · rw [q] at ho; simpa using ho
      · rw [q] at ho; simpa using ho
      · rw [q] at ho; simpa using ho
      · exact absurd (Int32.toInt_inj.mp (q.trans (by decide))) e_53
      · exact absurd (Int32.toInt_inj.mp (q.trans (by decide))) e_55
      · exact absurd (Int32.toInt_inj.mp (q.trans (by decide))) e_57
      · rw [q] at ho; simpa using ho
      · exact absurd (Int32.toInt_inj.mp (q.trans (by decide))) e_59
      · exact absurd (Int32.toInt_inj.mp (q.trans (by decide))) e_62
      · rw [q] at ho; simpa using ho
      · rw [q] at ho; simpa using ho
      · rw [q] at ho; simpa using ho
      · rw [q] at ho; simpa using ho
      · rw [q] at ho; simpa using ho
      · rw [q] at ho; simpa using ho
      · rw [q] at ho; simpa using ho
      · rw [q] at ho; simpa using ho
      · rw [q] at ho; simpa using ho
      · rw [q] at ho; simpa using ho
      · rw [q] at ho; simpa using ho
      · rw [q] at ho; simpa using ho
      · exact absurd (Int32.toInt_inj.mp (q.trans (by decide))) e_63
      · exact absurd (Int32.toInt_inj.mp (q.trans (by decide))) e_64
      · exact absurd (Int32.toInt_inj.mp (q.trans (by decide))) e_65
      · exact absurd (Int32.toInt_inj.mp (q.trans (by decide))) e_66
      · exact absurd (Int32.toInt_inj.mp (q.trans (by decide))) e_68
      · exact absurd (Int32.toInt_inj.mp (q.trans (by decide))) e_70
      · exact absurd (Int32.toInt_inj.mp (q.trans (by decide))) e_73
      · exact absurd (Int32.toInt_inj.mp (q.trans (by decide))) e_76
      · exact absurd (Int32.toInt_inj.mp (q.trans (by decide))) e_79
      · exact absurd (Int32.toInt_inj.mp (q.trans (by decide))) e_85) (by decide) ?_
    refine lv_lload_n hx hb dX12_reckoned_389 rfl (lv_at hl 3 rfl) ?_
    refine lv_lload hx hb dX12_reckoned_390 (lv_at hl 4 rfl) ?_
    refine W.lcmp hx hb dX12_reckoned_392 ?_
    refine lv_if_lt (tgt := 400) hx hb dX12_reckoned_393 (by decide) (fun c_87 => ?_) (fun c_87 => ?_)
    · have c_87 := (lg_cmp_lt _ _).mp c_87
      refine lv_lconst (v := 0) hx hb dX12_reckoned_400 (by decide) ?_
      exact W.lret (v := 0) hx hb hr (fun t ht hW => ⟨_, rfl, (by first | rfl | (simp [r_two, r_by, c_1, e_45, e_53, e_55, e_57, e_59, e_62, e_63, e_64, e_65, e_66, e_68, e_70, e_73, e_76, e_79, e_85, c_87]; done) | (simp_all [r_two, r_by]; done) | (unfold r_two; (repeat split) <;> simp_all; done)), ht⟩) (fun _ h => nomatch h) dX12_reckoned_401
    · have c_87 := mt (lg_cmp_lt _ _).mpr c_87
      refine lv_lconst (v := 1) hx hb dX12_reckoned_396 (by decide) ?_
      refine lv_goto (tgt := 401) hx hb dX12_reckoned_397 (by decide) ?_
      exact W.lret (v := 1) hx hb hr (fun t ht hW => ⟨_, rfl, (by first | rfl | (simp [r_two, r_by, c_1, e_45, e_53, e_55, e_57, e_59, e_62, e_63, e_64, e_65, e_66, e_68, e_70, e_73, e_76, e_79, e_85, c_87]; done) | (simp_all [r_two, r_by]; done) | (unfold r_two; (repeat split) <;> simp_all; done)), ht⟩) (fun _ h => nomatch h) dX12_reckoned_401
