def RJ6 : String := "java/lang/Integer"
abbrev cJ6_bitCount_0f7a4 : ByteArray := prog_21_method_49_code
def yJ6_bitCount_0f7a4 : MethodName := ⟨RJ6, "bitCount", "(I)I"⟩
def wsJ6_bitCount_0f7a4 : List Cond := .code yJ6_bitCount_0f7a4 cJ6_bitCount_0f7a4 1 (some .int) :: ([.constant RJ6 265 (1431655765), .constant RJ6 266 (858993459), .constant RJ6 267 (252645135)])
theorem dJ6_bitCount_0f7a4_0 : decode cJ6_bitCount_0f7a4 0 = .ok (.iload_n 0, 1) := by decide +kernel
theorem dJ6_bitCount_0f7a4_1 : decode cJ6_bitCount_0f7a4 1 = .ok (.iload_n 0, 1) := by decide +kernel
theorem dJ6_bitCount_0f7a4_2 : decode cJ6_bitCount_0f7a4 2 = .ok (.iconst 1, 1) := by decide +kernel
theorem dJ6_bitCount_0f7a4_3 : decode cJ6_bitCount_0f7a4 3 = .ok (.iushr, 1) := by decide +kernel
theorem dJ6_bitCount_0f7a4_4 : decode cJ6_bitCount_0f7a4 4 = .ok (.ldc_w 265, 3) := by decide +kernel
theorem dJ6_bitCount_0f7a4_7 : decode cJ6_bitCount_0f7a4 7 = .ok (.iand, 1) := by decide +kernel
theorem dJ6_bitCount_0f7a4_8 : decode cJ6_bitCount_0f7a4 8 = .ok (.isub, 1) := by decide +kernel
theorem dJ6_bitCount_0f7a4_9 : decode cJ6_bitCount_0f7a4 9 = .ok (.istore_n 0, 1) := by decide +kernel
theorem dJ6_bitCount_0f7a4_10 : decode cJ6_bitCount_0f7a4 10 = .ok (.iload_n 0, 1) := by decide +kernel
theorem dJ6_bitCount_0f7a4_11 : decode cJ6_bitCount_0f7a4 11 = .ok (.ldc_w 266, 3) := by decide +kernel
theorem dJ6_bitCount_0f7a4_14 : decode cJ6_bitCount_0f7a4 14 = .ok (.iand, 1) := by decide +kernel
theorem dJ6_bitCount_0f7a4_15 : decode cJ6_bitCount_0f7a4 15 = .ok (.iload_n 0, 1) := by decide +kernel
theorem dJ6_bitCount_0f7a4_16 : decode cJ6_bitCount_0f7a4 16 = .ok (.iconst 2, 1) := by decide +kernel
theorem dJ6_bitCount_0f7a4_17 : decode cJ6_bitCount_0f7a4 17 = .ok (.iushr, 1) := by decide +kernel
theorem dJ6_bitCount_0f7a4_18 : decode cJ6_bitCount_0f7a4 18 = .ok (.ldc_w 266, 3) := by decide +kernel
theorem dJ6_bitCount_0f7a4_21 : decode cJ6_bitCount_0f7a4 21 = .ok (.iand, 1) := by decide +kernel
theorem dJ6_bitCount_0f7a4_22 : decode cJ6_bitCount_0f7a4 22 = .ok (.iadd, 1) := by decide +kernel
theorem dJ6_bitCount_0f7a4_23 : decode cJ6_bitCount_0f7a4 23 = .ok (.istore_n 0, 1) := by decide +kernel
theorem dJ6_bitCount_0f7a4_24 : decode cJ6_bitCount_0f7a4 24 = .ok (.iload_n 0, 1) := by decide +kernel
theorem dJ6_bitCount_0f7a4_25 : decode cJ6_bitCount_0f7a4 25 = .ok (.iload_n 0, 1) := by decide +kernel
theorem dJ6_bitCount_0f7a4_26 : decode cJ6_bitCount_0f7a4 26 = .ok (.iconst 4, 1) := by decide +kernel
theorem dJ6_bitCount_0f7a4_27 : decode cJ6_bitCount_0f7a4 27 = .ok (.iushr, 1) := by decide +kernel
theorem dJ6_bitCount_0f7a4_28 : decode cJ6_bitCount_0f7a4 28 = .ok (.iadd, 1) := by decide +kernel
theorem dJ6_bitCount_0f7a4_29 : decode cJ6_bitCount_0f7a4 29 = .ok (.ldc_w 267, 3) := by decide +kernel
theorem dJ6_bitCount_0f7a4_32 : decode cJ6_bitCount_0f7a4 32 = .ok (.iand, 1) := by decide +kernel
theorem dJ6_bitCount_0f7a4_33 : decode cJ6_bitCount_0f7a4 33 = .ok (.istore_n 0, 1) := by decide +kernel
theorem dJ6_bitCount_0f7a4_34 : decode cJ6_bitCount_0f7a4 34 = .ok (.iload_n 0, 1) := by decide +kernel
theorem dJ6_bitCount_0f7a4_35 : decode cJ6_bitCount_0f7a4 35 = .ok (.iload_n 0, 1) := by decide +kernel
theorem dJ6_bitCount_0f7a4_36 : decode cJ6_bitCount_0f7a4 36 = .ok (.bipush 8, 2) := by decide +kernel
theorem dJ6_bitCount_0f7a4_38 : decode cJ6_bitCount_0f7a4 38 = .ok (.iushr, 1) := by decide +kernel
theorem dJ6_bitCount_0f7a4_39 : decode cJ6_bitCount_0f7a4 39 = .ok (.iadd, 1) := by decide +kernel
theorem dJ6_bitCount_0f7a4_40 : decode cJ6_bitCount_0f7a4 40 = .ok (.istore_n 0, 1) := by decide +kernel
theorem dJ6_bitCount_0f7a4_41 : decode cJ6_bitCount_0f7a4 41 = .ok (.iload_n 0, 1) := by decide +kernel
theorem dJ6_bitCount_0f7a4_42 : decode cJ6_bitCount_0f7a4 42 = .ok (.iload_n 0, 1) := by decide +kernel
theorem dJ6_bitCount_0f7a4_43 : decode cJ6_bitCount_0f7a4 43 = .ok (.bipush 16, 2) := by decide +kernel
theorem dJ6_bitCount_0f7a4_45 : decode cJ6_bitCount_0f7a4 45 = .ok (.iushr, 1) := by decide +kernel
theorem dJ6_bitCount_0f7a4_46 : decode cJ6_bitCount_0f7a4 46 = .ok (.iadd, 1) := by decide +kernel
theorem dJ6_bitCount_0f7a4_47 : decode cJ6_bitCount_0f7a4 47 = .ok (.istore_n 0, 1) := by decide +kernel
theorem dJ6_bitCount_0f7a4_48 : decode cJ6_bitCount_0f7a4 48 = .ok (.iload_n 0, 1) := by decide +kernel
theorem dJ6_bitCount_0f7a4_49 : decode cJ6_bitCount_0f7a4 49 = .ok (.bipush 63, 2) := by decide +kernel
theorem dJ6_bitCount_0f7a4_51 : decode cJ6_bitCount_0f7a4 51 = .ok (.iand, 1) := by decide +kernel
theorem dJ6_bitCount_0f7a4_52 : decode cJ6_bitCount_0f7a4 52 = .ok (.ireturn, 1) := by decide +kernel
def RJ13 : String := "java/lang/Long"
abbrev cJ13_bitCount_95d88 : ByteArray := prog_22_method_50_code
def yJ13_bitCount_95d88 : MethodName := ⟨RJ13, "bitCount", "(J)I"⟩
def wsJ13_bitCount_95d88 : List Cond := .code yJ13_bitCount_95d88 cJ13_bitCount_95d88 2 (some .int) :: ([.constantLong RJ13 314 (6148914691236517205), .constantLong RJ13 316 (3689348814741910323), .constantLong RJ13 318 (1085102592571150095)])
theorem dJ13_bitCount_95d88_0 : decode cJ13_bitCount_95d88 0 = .ok (.lload_n 0, 1) := by decide +kernel
theorem dJ13_bitCount_95d88_1 : decode cJ13_bitCount_95d88 1 = .ok (.lload_n 0, 1) := by decide +kernel
theorem dJ13_bitCount_95d88_2 : decode cJ13_bitCount_95d88 2 = .ok (.iconst 1, 1) := by decide +kernel
theorem dJ13_bitCount_95d88_3 : decode cJ13_bitCount_95d88 3 = .ok (.lushr, 1) := by decide +kernel
theorem dJ13_bitCount_95d88_4 : decode cJ13_bitCount_95d88 4 = .ok (.ldc2_w 314, 3) := by decide +kernel
theorem dJ13_bitCount_95d88_7 : decode cJ13_bitCount_95d88 7 = .ok (.land, 1) := by decide +kernel
theorem dJ13_bitCount_95d88_8 : decode cJ13_bitCount_95d88 8 = .ok (.lsub, 1) := by decide +kernel
theorem dJ13_bitCount_95d88_9 : decode cJ13_bitCount_95d88 9 = .ok (.lstore_n 0, 1) := by decide +kernel
theorem dJ13_bitCount_95d88_10 : decode cJ13_bitCount_95d88 10 = .ok (.lload_n 0, 1) := by decide +kernel
theorem dJ13_bitCount_95d88_11 : decode cJ13_bitCount_95d88 11 = .ok (.ldc2_w 316, 3) := by decide +kernel
theorem dJ13_bitCount_95d88_14 : decode cJ13_bitCount_95d88 14 = .ok (.land, 1) := by decide +kernel
theorem dJ13_bitCount_95d88_15 : decode cJ13_bitCount_95d88 15 = .ok (.lload_n 0, 1) := by decide +kernel
theorem dJ13_bitCount_95d88_16 : decode cJ13_bitCount_95d88 16 = .ok (.iconst 2, 1) := by decide +kernel
theorem dJ13_bitCount_95d88_17 : decode cJ13_bitCount_95d88 17 = .ok (.lushr, 1) := by decide +kernel
theorem dJ13_bitCount_95d88_18 : decode cJ13_bitCount_95d88 18 = .ok (.ldc2_w 316, 3) := by decide +kernel
theorem dJ13_bitCount_95d88_21 : decode cJ13_bitCount_95d88 21 = .ok (.land, 1) := by decide +kernel
theorem dJ13_bitCount_95d88_22 : decode cJ13_bitCount_95d88 22 = .ok (.ladd, 1) := by decide +kernel
theorem dJ13_bitCount_95d88_23 : decode cJ13_bitCount_95d88 23 = .ok (.lstore_n 0, 1) := by decide +kernel
theorem dJ13_bitCount_95d88_24 : decode cJ13_bitCount_95d88 24 = .ok (.lload_n 0, 1) := by decide +kernel
theorem dJ13_bitCount_95d88_25 : decode cJ13_bitCount_95d88 25 = .ok (.lload_n 0, 1) := by decide +kernel
theorem dJ13_bitCount_95d88_26 : decode cJ13_bitCount_95d88 26 = .ok (.iconst 4, 1) := by decide +kernel
theorem dJ13_bitCount_95d88_27 : decode cJ13_bitCount_95d88 27 = .ok (.lushr, 1) := by decide +kernel
theorem dJ13_bitCount_95d88_28 : decode cJ13_bitCount_95d88 28 = .ok (.ladd, 1) := by decide +kernel
theorem dJ13_bitCount_95d88_29 : decode cJ13_bitCount_95d88 29 = .ok (.ldc2_w 318, 3) := by decide +kernel
theorem dJ13_bitCount_95d88_32 : decode cJ13_bitCount_95d88 32 = .ok (.land, 1) := by decide +kernel
theorem dJ13_bitCount_95d88_33 : decode cJ13_bitCount_95d88 33 = .ok (.lstore_n 0, 1) := by decide +kernel
theorem dJ13_bitCount_95d88_34 : decode cJ13_bitCount_95d88 34 = .ok (.lload_n 0, 1) := by decide +kernel
theorem dJ13_bitCount_95d88_35 : decode cJ13_bitCount_95d88 35 = .ok (.lload_n 0, 1) := by decide +kernel
theorem dJ13_bitCount_95d88_36 : decode cJ13_bitCount_95d88 36 = .ok (.bipush 8, 2) := by decide +kernel
theorem dJ13_bitCount_95d88_38 : decode cJ13_bitCount_95d88 38 = .ok (.lushr, 1) := by decide +kernel
theorem dJ13_bitCount_95d88_39 : decode cJ13_bitCount_95d88 39 = .ok (.ladd, 1) := by decide +kernel
theorem dJ13_bitCount_95d88_40 : decode cJ13_bitCount_95d88 40 = .ok (.lstore_n 0, 1) := by decide +kernel
theorem dJ13_bitCount_95d88_41 : decode cJ13_bitCount_95d88 41 = .ok (.lload_n 0, 1) := by decide +kernel
theorem dJ13_bitCount_95d88_42 : decode cJ13_bitCount_95d88 42 = .ok (.lload_n 0, 1) := by decide +kernel
theorem dJ13_bitCount_95d88_43 : decode cJ13_bitCount_95d88 43 = .ok (.bipush 16, 2) := by decide +kernel
theorem dJ13_bitCount_95d88_45 : decode cJ13_bitCount_95d88 45 = .ok (.lushr, 1) := by decide +kernel
theorem dJ13_bitCount_95d88_46 : decode cJ13_bitCount_95d88 46 = .ok (.ladd, 1) := by decide +kernel
theorem dJ13_bitCount_95d88_47 : decode cJ13_bitCount_95d88 47 = .ok (.lstore_n 0, 1) := by decide +kernel
theorem dJ13_bitCount_95d88_48 : decode cJ13_bitCount_95d88 48 = .ok (.lload_n 0, 1) := by decide +kernel
theorem dJ13_bitCount_95d88_49 : decode cJ13_bitCount_95d88 49 = .ok (.lload_n 0, 1) := by decide +kernel
theorem dJ13_bitCount_95d88_50 : decode cJ13_bitCount_95d88 50 = .ok (.bipush 32, 2) := by decide +kernel
theorem dJ13_bitCount_95d88_52 : decode cJ13_bitCount_95d88 52 = .ok (.lushr, 1) := by decide +kernel
theorem dJ13_bitCount_95d88_53 : decode cJ13_bitCount_95d88 53 = .ok (.ladd, 1) := by decide +kernel
theorem dJ13_bitCount_95d88_54 : decode cJ13_bitCount_95d88 54 = .ok (.lstore_n 0, 1) := by decide +kernel
theorem dJ13_bitCount_95d88_55 : decode cJ13_bitCount_95d88 55 = .ok (.lload_n 0, 1) := by decide +kernel
theorem dJ13_bitCount_95d88_56 : decode cJ13_bitCount_95d88 56 = .ok (.l2i, 1) := by decide +kernel
theorem dJ13_bitCount_95d88_57 : decode cJ13_bitCount_95d88 57 = .ok (.bipush 127, 2) := by decide +kernel
theorem dJ13_bitCount_95d88_59 : decode cJ13_bitCount_95d88 59 = .ok (.iand, 1) := by decide +kernel
theorem dJ13_bitCount_95d88_60 : decode cJ13_bitCount_95d88 60 = .ok (.ireturn, 1) := by decide +kernel
abbrev cX5_applySingle : ByteArray := prog_7_method_14_code
def yX5_applySingle : MethodName := ⟨RX5, "applySingle", "(IZJ)J"⟩
def wsX5_applySingle : List Cond := .code yX5_applySingle cX5_applySingle 6 (some .long) :: ([.constantLong RX5 51 (-1), .methodLink RX5 37 yJ13_bitCount_95d88, .static yJ13_bitCount_95d88, .initialized RJ13, .code yJ13_bitCount_95d88 cJ13_bitCount_95d88 2 (some .int), .constantLong RJ13 314 (6148914691236517205), .constantLong RJ13 316 (3689348814741910323), .constantLong RJ13 318 (1085102592571150095), .methodLink RX5 43 yJ6_bitCount_0f7a4, .static yJ6_bitCount_0f7a4, .initialized RJ6, .code yJ6_bitCount_0f7a4 cJ6_bitCount_0f7a4 1 (some .int), .constant RJ6 265 (1431655765), .constant RJ6 266 (858993459), .constant RJ6 267 (252645135), .methodLink RX5 48 yX5_lead, .static yX5_lead, .initialized RX5, .code yX5_lead cX5_lead 4 (some .long), .methodLink RX5 53 yX5_reverse, .static yX5_reverse, .code yX5_reverse cX5_reverse 6 (some .long)])
theorem dX5_applySingle_0 : decode cX5_applySingle 0 = .ok (.iload_n 0, 1) := by decide +kernel
theorem dX5_applySingle_1 : decode cX5_applySingle 1 = .ok (.tableswitch 136 10 16 #[43, 136, 60, 83, 103, 110, 120], 43) := by decide +kernel
theorem dX5_applySingle_44 : decode cX5_applySingle 44 = .ok (.lload_n 2, 1) := by decide +kernel
theorem dX5_applySingle_45 : decode cX5_applySingle 45 = .ok (.lconst 0, 1) := by decide +kernel
theorem dX5_applySingle_46 : decode cX5_applySingle 46 = .ok (.lcmp, 1) := by decide +kernel
theorem dX5_applySingle_47 : decode cX5_applySingle 47 = .ok (.ifCond .ge 8, 3) := by decide +kernel
theorem dX5_applySingle_50 : decode cX5_applySingle 50 = .ok (.lload_n 2, 1) := by decide +kernel
theorem dX5_applySingle_51 : decode cX5_applySingle 51 = .ok (.lneg, 1) := by decide +kernel
theorem dX5_applySingle_52 : decode cX5_applySingle 52 = .ok (.goto 4, 3) := by decide +kernel
theorem dX5_applySingle_55 : decode cX5_applySingle 55 = .ok (.lload_n 2, 1) := by decide +kernel
theorem dX5_applySingle_56 : decode cX5_applySingle 56 = .ok (.lstore 4, 2) := by decide +kernel
theorem dX5_applySingle_58 : decode cX5_applySingle 58 = .ok (.goto 96, 3) := by decide +kernel
theorem dX5_applySingle_61 : decode cX5_applySingle 61 = .ok (.iload_n 1, 1) := by decide +kernel
theorem dX5_applySingle_62 : decode cX5_applySingle 62 = .ok (.ifCond .eq 11, 3) := by decide +kernel
theorem dX5_applySingle_65 : decode cX5_applySingle 65 = .ok (.lload_n 2, 1) := by decide +kernel
theorem dX5_applySingle_66 : decode cX5_applySingle 66 = .ok (.invokestatic 37, 3) := by decide +kernel
theorem dX5_applySingle_69 : decode cX5_applySingle 69 = .ok (.i2l, 1) := by decide +kernel
theorem dX5_applySingle_70 : decode cX5_applySingle 70 = .ok (.goto 9, 3) := by decide +kernel
theorem dX5_applySingle_73 : decode cX5_applySingle 73 = .ok (.lload_n 2, 1) := by decide +kernel
theorem dX5_applySingle_74 : decode cX5_applySingle 74 = .ok (.l2i, 1) := by decide +kernel
theorem dX5_applySingle_75 : decode cX5_applySingle 75 = .ok (.invokestatic 43, 3) := by decide +kernel
theorem dX5_applySingle_78 : decode cX5_applySingle 78 = .ok (.i2l, 1) := by decide +kernel
theorem dX5_applySingle_79 : decode cX5_applySingle 79 = .ok (.lstore 4, 2) := by decide +kernel
theorem dX5_applySingle_81 : decode cX5_applySingle 81 = .ok (.goto 73, 3) := by decide +kernel
theorem dX5_applySingle_84 : decode cX5_applySingle 84 = .ok (.iload_n 1, 1) := by decide +kernel
theorem dX5_applySingle_85 : decode cX5_applySingle 85 = .ok (.ifCond .eq 8, 3) := by decide +kernel
theorem dX5_applySingle_88 : decode cX5_applySingle 88 = .ok (.bipush 64, 2) := by decide +kernel
theorem dX5_applySingle_90 : decode cX5_applySingle 90 = .ok (.goto 5, 3) := by decide +kernel
theorem dX5_applySingle_93 : decode cX5_applySingle 93 = .ok (.bipush 32, 2) := by decide +kernel
theorem dX5_applySingle_95 : decode cX5_applySingle 95 = .ok (.lload_n 2, 1) := by decide +kernel
theorem dX5_applySingle_96 : decode cX5_applySingle 96 = .ok (.invokestatic 48, 3) := by decide +kernel
theorem dX5_applySingle_99 : decode cX5_applySingle 99 = .ok (.lstore 4, 2) := by decide +kernel
theorem dX5_applySingle_101 : decode cX5_applySingle 101 = .ok (.goto 53, 3) := by decide +kernel
theorem dX5_applySingle_104 : decode cX5_applySingle 104 = .ok (.lload_n 2, 1) := by decide +kernel
theorem dX5_applySingle_105 : decode cX5_applySingle 105 = .ok (.lneg, 1) := by decide +kernel
theorem dX5_applySingle_106 : decode cX5_applySingle 106 = .ok (.lstore 4, 2) := by decide +kernel
theorem dX5_applySingle_108 : decode cX5_applySingle 108 = .ok (.goto 46, 3) := by decide +kernel
theorem dX5_applySingle_111 : decode cX5_applySingle 111 = .ok (.lload_n 2, 1) := by decide +kernel
theorem dX5_applySingle_112 : decode cX5_applySingle 112 = .ok (.ldc2_w 51, 3) := by decide +kernel
theorem dX5_applySingle_115 : decode cX5_applySingle 115 = .ok (.lxor, 1) := by decide +kernel
theorem dX5_applySingle_116 : decode cX5_applySingle 116 = .ok (.lstore 4, 2) := by decide +kernel
theorem dX5_applySingle_118 : decode cX5_applySingle 118 = .ok (.goto 36, 3) := by decide +kernel
theorem dX5_applySingle_121 : decode cX5_applySingle 121 = .ok (.lload_n 2, 1) := by decide +kernel
theorem dX5_applySingle_122 : decode cX5_applySingle 122 = .ok (.lconst 0, 1) := by decide +kernel
theorem dX5_applySingle_123 : decode cX5_applySingle 123 = .ok (.lcmp, 1) := by decide +kernel
theorem dX5_applySingle_124 : decode cX5_applySingle 124 = .ok (.ifCond .ne 7, 3) := by decide +kernel
theorem dX5_applySingle_127 : decode cX5_applySingle 127 = .ok (.lconst 1, 1) := by decide +kernel
theorem dX5_applySingle_128 : decode cX5_applySingle 128 = .ok (.goto 4, 3) := by decide +kernel
theorem dX5_applySingle_131 : decode cX5_applySingle 131 = .ok (.lconst 0, 1) := by decide +kernel
theorem dX5_applySingle_132 : decode cX5_applySingle 132 = .ok (.lstore 4, 2) := by decide +kernel
theorem dX5_applySingle_134 : decode cX5_applySingle 134 = .ok (.goto 20, 3) := by decide +kernel
theorem dX5_applySingle_137 : decode cX5_applySingle 137 = .ok (.iload_n 1, 1) := by decide +kernel
theorem dX5_applySingle_138 : decode cX5_applySingle 138 = .ok (.ifCond .eq 8, 3) := by decide +kernel
theorem dX5_applySingle_141 : decode cX5_applySingle 141 = .ok (.bipush 64, 2) := by decide +kernel
theorem dX5_applySingle_143 : decode cX5_applySingle 143 = .ok (.goto 5, 3) := by decide +kernel
theorem dX5_applySingle_146 : decode cX5_applySingle 146 = .ok (.bipush 32, 2) := by decide +kernel
theorem dX5_applySingle_148 : decode cX5_applySingle 148 = .ok (.lload_n 2, 1) := by decide +kernel
theorem dX5_applySingle_149 : decode cX5_applySingle 149 = .ok (.invokestatic 53, 3) := by decide +kernel
theorem dX5_applySingle_152 : decode cX5_applySingle 152 = .ok (.lstore 4, 2) := by decide +kernel
theorem dX5_applySingle_154 : decode cX5_applySingle 154 = .ok (.iload_n 1, 1) := by decide +kernel
theorem dX5_applySingle_155 : decode cX5_applySingle 155 = .ok (.ifCond .eq 8, 3) := by decide +kernel
theorem dX5_applySingle_158 : decode cX5_applySingle 158 = .ok (.lload 4, 2) := by decide +kernel
theorem dX5_applySingle_160 : decode cX5_applySingle 160 = .ok (.goto 7, 3) := by decide +kernel
theorem dX5_applySingle_163 : decode cX5_applySingle 163 = .ok (.lload 4, 2) := by decide +kernel
theorem dX5_applySingle_165 : decode cX5_applySingle 165 = .ok (.l2i, 1) := by decide +kernel
theorem dX5_applySingle_166 : decode cX5_applySingle 166 = .ok (.i2l, 1) := by decide +kernel
theorem dX5_applySingle_167 : decode cX5_applySingle 167 = .ok (.lreturn, 1) := by decide +kernel
abbrev cX5_apply : ByteArray := prog_7_method_13_code
def yX5_apply : MethodName := ⟨RX5, "apply", "(IZJJ)J"⟩
def wsX5_apply_r1 : List Cond := [Cond.methodLink RX5 25 yX5_turnWide, Cond.static yX5_turnWide, Cond.initialized RX5, Cond.code yX5_turnWide cX5_turnWide 3 (some .long), Cond.methodLink RX5 29 yX5_turn, Cond.static yX5_turn, Cond.code yX5_turn cX5_turn 2 (some .int), Cond.methodLink RX5 33 yX5_applySingle, Cond.static yX5_applySingle, Cond.code yX5_applySingle cX5_applySingle 6 (some .long), Cond.constantLong RX5 51 (-1), Cond.methodLink RX5 37 yJ13_bitCount_95d88, Cond.static yJ13_bitCount_95d88, Cond.initialized RJ13, Cond.code yJ13_bitCount_95d88 cJ13_bitCount_95d88 2 (some .int), Cond.constantLong RJ13 314 (6148914691236517205), Cond.constantLong RJ13 316 (3689348814741910323), Cond.constantLong RJ13 318 (1085102592571150095), Cond.methodLink RX5 43 yJ6_bitCount_0f7a4, Cond.static yJ6_bitCount_0f7a4, Cond.initialized RJ6, Cond.code yJ6_bitCount_0f7a4 cJ6_bitCount_0f7a4 1 (some .int), Cond.constant RJ6 265 (1431655765), Cond.constant RJ6 266 (858993459)]
def wsX5_apply_r2 : List Cond := [Cond.constant RJ6 267 (252645135), Cond.methodLink RX5 48 yX5_lead, Cond.static yX5_lead, Cond.code yX5_lead cX5_lead 4 (some .long), Cond.methodLink RX5 53 yX5_reverse, Cond.static yX5_reverse, Cond.code yX5_reverse cX5_reverse 6 (some .long)]
def wsX5_apply : List Cond := .code yX5_apply cX5_apply 6 (some .long) :: ((wsX5_apply_r1 ++ wsX5_apply_r2))
theorem dX5_apply_0 : decode cX5_apply 0 = .ok (.iload_n 0, 1) := by decide +kernel
theorem dX5_apply_1 : decode cX5_apply 1 = .ok (.tableswitch 211 0 9 #[55, 68, 81, 94, 107, 120, 133, 147, 161, 185], 55) := by decide +kernel
theorem dX5_apply_56 : decode cX5_apply 56 = .ok (.lload_n 2, 1) := by decide +kernel
theorem dX5_apply_57 : decode cX5_apply 57 = .ok (.lload 4, 2) := by decide +kernel
theorem dX5_apply_59 : decode cX5_apply 59 = .ok (.lcmp, 1) := by decide +kernel
theorem dX5_apply_60 : decode cX5_apply 60 = .ok (.ifCond .ne 7, 3) := by decide +kernel
theorem dX5_apply_63 : decode cX5_apply 63 = .ok (.lconst 1, 1) := by decide +kernel
theorem dX5_apply_64 : decode cX5_apply 64 = .ok (.goto 4, 3) := by decide +kernel
theorem dX5_apply_67 : decode cX5_apply 67 = .ok (.lconst 0, 1) := by decide +kernel
theorem dX5_apply_68 : decode cX5_apply 68 = .ok (.lreturn, 1) := by decide +kernel
theorem dX5_apply_69 : decode cX5_apply 69 = .ok (.lload_n 2, 1) := by decide +kernel
theorem dX5_apply_70 : decode cX5_apply 70 = .ok (.lload 4, 2) := by decide +kernel
theorem dX5_apply_72 : decode cX5_apply 72 = .ok (.lcmp, 1) := by decide +kernel
theorem dX5_apply_73 : decode cX5_apply 73 = .ok (.ifCond .eq 7, 3) := by decide +kernel
theorem dX5_apply_76 : decode cX5_apply 76 = .ok (.lconst 1, 1) := by decide +kernel
theorem dX5_apply_77 : decode cX5_apply 77 = .ok (.goto 4, 3) := by decide +kernel
theorem dX5_apply_80 : decode cX5_apply 80 = .ok (.lconst 0, 1) := by decide +kernel
theorem dX5_apply_81 : decode cX5_apply 81 = .ok (.lreturn, 1) := by decide +kernel
theorem dX5_apply_82 : decode cX5_apply 82 = .ok (.lload_n 2, 1) := by decide +kernel
theorem dX5_apply_83 : decode cX5_apply 83 = .ok (.lload 4, 2) := by decide +kernel
theorem dX5_apply_85 : decode cX5_apply 85 = .ok (.lcmp, 1) := by decide +kernel
theorem dX5_apply_86 : decode cX5_apply 86 = .ok (.ifCond .ge 7, 3) := by decide +kernel
theorem dX5_apply_89 : decode cX5_apply 89 = .ok (.lconst 1, 1) := by decide +kernel
theorem dX5_apply_90 : decode cX5_apply 90 = .ok (.goto 4, 3) := by decide +kernel
theorem dX5_apply_93 : decode cX5_apply 93 = .ok (.lconst 0, 1) := by decide +kernel
theorem dX5_apply_94 : decode cX5_apply 94 = .ok (.lreturn, 1) := by decide +kernel
theorem dX5_apply_95 : decode cX5_apply 95 = .ok (.lload_n 2, 1) := by decide +kernel
theorem dX5_apply_96 : decode cX5_apply 96 = .ok (.lload 4, 2) := by decide +kernel
theorem dX5_apply_98 : decode cX5_apply 98 = .ok (.lcmp, 1) := by decide +kernel
theorem dX5_apply_99 : decode cX5_apply 99 = .ok (.ifCond .gt 7, 3) := by decide +kernel
theorem dX5_apply_102 : decode cX5_apply 102 = .ok (.lconst 1, 1) := by decide +kernel
theorem dX5_apply_103 : decode cX5_apply 103 = .ok (.goto 4, 3) := by decide +kernel
theorem dX5_apply_106 : decode cX5_apply 106 = .ok (.lconst 0, 1) := by decide +kernel
theorem dX5_apply_107 : decode cX5_apply 107 = .ok (.lreturn, 1) := by decide +kernel
theorem dX5_apply_108 : decode cX5_apply 108 = .ok (.lload_n 2, 1) := by decide +kernel
theorem dX5_apply_109 : decode cX5_apply 109 = .ok (.lload 4, 2) := by decide +kernel
theorem dX5_apply_111 : decode cX5_apply 111 = .ok (.lcmp, 1) := by decide +kernel
theorem dX5_apply_112 : decode cX5_apply 112 = .ok (.ifCond .le 7, 3) := by decide +kernel
theorem dX5_apply_115 : decode cX5_apply 115 = .ok (.lconst 1, 1) := by decide +kernel
theorem dX5_apply_116 : decode cX5_apply 116 = .ok (.goto 4, 3) := by decide +kernel
theorem dX5_apply_119 : decode cX5_apply 119 = .ok (.lconst 0, 1) := by decide +kernel
theorem dX5_apply_120 : decode cX5_apply 120 = .ok (.lreturn, 1) := by decide +kernel
theorem dX5_apply_121 : decode cX5_apply 121 = .ok (.lload_n 2, 1) := by decide +kernel
theorem dX5_apply_122 : decode cX5_apply 122 = .ok (.lload 4, 2) := by decide +kernel
theorem dX5_apply_124 : decode cX5_apply 124 = .ok (.lcmp, 1) := by decide +kernel
theorem dX5_apply_125 : decode cX5_apply 125 = .ok (.ifCond .lt 7, 3) := by decide +kernel
theorem dX5_apply_128 : decode cX5_apply 128 = .ok (.lconst 1, 1) := by decide +kernel
theorem dX5_apply_129 : decode cX5_apply 129 = .ok (.goto 4, 3) := by decide +kernel
theorem dX5_apply_132 : decode cX5_apply 132 = .ok (.lconst 0, 1) := by decide +kernel
theorem dX5_apply_133 : decode cX5_apply 133 = .ok (.lreturn, 1) := by decide +kernel
theorem dX5_apply_134 : decode cX5_apply 134 = .ok (.lload_n 2, 1) := by decide +kernel
theorem dX5_apply_135 : decode cX5_apply 135 = .ok (.lload 4, 2) := by decide +kernel
theorem dX5_apply_137 : decode cX5_apply 137 = .ok (.lcmp, 1) := by decide +kernel
theorem dX5_apply_138 : decode cX5_apply 138 = .ok (.ifCond .gt 7, 3) := by decide +kernel
theorem dX5_apply_141 : decode cX5_apply 141 = .ok (.lload_n 2, 1) := by decide +kernel
theorem dX5_apply_142 : decode cX5_apply 142 = .ok (.goto 5, 3) := by decide +kernel
theorem dX5_apply_145 : decode cX5_apply 145 = .ok (.lload 4, 2) := by decide +kernel
theorem dX5_apply_147 : decode cX5_apply 147 = .ok (.lreturn, 1) := by decide +kernel
theorem dX5_apply_148 : decode cX5_apply 148 = .ok (.lload_n 2, 1) := by decide +kernel
theorem dX5_apply_149 : decode cX5_apply 149 = .ok (.lload 4, 2) := by decide +kernel
theorem dX5_apply_151 : decode cX5_apply 151 = .ok (.lcmp, 1) := by decide +kernel
theorem dX5_apply_152 : decode cX5_apply 152 = .ok (.ifCond .lt 7, 3) := by decide +kernel
theorem dX5_apply_155 : decode cX5_apply 155 = .ok (.lload_n 2, 1) := by decide +kernel
theorem dX5_apply_156 : decode cX5_apply 156 = .ok (.goto 5, 3) := by decide +kernel
theorem dX5_apply_159 : decode cX5_apply 159 = .ok (.lload 4, 2) := by decide +kernel
theorem dX5_apply_161 : decode cX5_apply 161 = .ok (.lreturn, 1) := by decide +kernel
theorem dX5_apply_162 : decode cX5_apply 162 = .ok (.iload_n 1, 1) := by decide +kernel
theorem dX5_apply_163 : decode cX5_apply 163 = .ok (.ifCond .eq 13, 3) := by decide +kernel
theorem dX5_apply_166 : decode cX5_apply 166 = .ok (.lload_n 2, 1) := by decide +kernel
theorem dX5_apply_167 : decode cX5_apply 167 = .ok (.lload 4, 2) := by decide +kernel
theorem dX5_apply_169 : decode cX5_apply 169 = .ok (.l2i, 1) := by decide +kernel
theorem dX5_apply_170 : decode cX5_apply 170 = .ok (.invokestatic 25, 3) := by decide +kernel
theorem dX5_apply_173 : decode cX5_apply 173 = .ok (.goto 12, 3) := by decide +kernel
theorem dX5_apply_176 : decode cX5_apply 176 = .ok (.lload_n 2, 1) := by decide +kernel
theorem dX5_apply_177 : decode cX5_apply 177 = .ok (.l2i, 1) := by decide +kernel
theorem dX5_apply_178 : decode cX5_apply 178 = .ok (.lload 4, 2) := by decide +kernel
theorem dX5_apply_180 : decode cX5_apply 180 = .ok (.l2i, 1) := by decide +kernel
theorem dX5_apply_181 : decode cX5_apply 181 = .ok (.invokestatic 29, 3) := by decide +kernel
theorem dX5_apply_184 : decode cX5_apply 184 = .ok (.i2l, 1) := by decide +kernel
theorem dX5_apply_185 : decode cX5_apply 185 = .ok (.lreturn, 1) := by decide +kernel
theorem dX5_apply_186 : decode cX5_apply 186 = .ok (.iload_n 1, 1) := by decide +kernel
theorem dX5_apply_187 : decode cX5_apply 187 = .ok (.ifCond .eq 14, 3) := by decide +kernel
theorem dX5_apply_190 : decode cX5_apply 190 = .ok (.lload_n 2, 1) := by decide +kernel
theorem dX5_apply_191 : decode cX5_apply 191 = .ok (.lload 4, 2) := by decide +kernel
theorem dX5_apply_193 : decode cX5_apply 193 = .ok (.l2i, 1) := by decide +kernel
theorem dX5_apply_194 : decode cX5_apply 194 = .ok (.ineg, 1) := by decide +kernel
theorem dX5_apply_195 : decode cX5_apply 195 = .ok (.invokestatic 25, 3) := by decide +kernel
theorem dX5_apply_198 : decode cX5_apply 198 = .ok (.goto 13, 3) := by decide +kernel
theorem dX5_apply_201 : decode cX5_apply 201 = .ok (.lload_n 2, 1) := by decide +kernel
theorem dX5_apply_202 : decode cX5_apply 202 = .ok (.l2i, 1) := by decide +kernel
theorem dX5_apply_203 : decode cX5_apply 203 = .ok (.lload 4, 2) := by decide +kernel
theorem dX5_apply_205 : decode cX5_apply 205 = .ok (.l2i, 1) := by decide +kernel
theorem dX5_apply_206 : decode cX5_apply 206 = .ok (.ineg, 1) := by decide +kernel
theorem dX5_apply_207 : decode cX5_apply 207 = .ok (.invokestatic 29, 3) := by decide +kernel
theorem dX5_apply_210 : decode cX5_apply 210 = .ok (.i2l, 1) := by decide +kernel
theorem dX5_apply_211 : decode cX5_apply 211 = .ok (.lreturn, 1) := by decide +kernel
theorem dX5_apply_212 : decode cX5_apply 212 = .ok (.iload_n 0, 1) := by decide +kernel
theorem dX5_apply_213 : decode cX5_apply 213 = .ok (.iload_n 1, 1) := by decide +kernel
theorem dX5_apply_214 : decode cX5_apply 214 = .ok (.lload_n 2, 1) := by decide +kernel
theorem dX5_apply_215 : decode cX5_apply 215 = .ok (.invokestatic 33, 3) := by decide +kernel
theorem dX5_apply_218 : decode cX5_apply 218 = .ok (.lreturn, 1) := by decide +kernel
set_option maxRecDepth 20000 in
theorem ggX5_applySingle_J13_bitCount_95d88 : GoodIn wsX5_applySingle wsJ13_bitCount_95d88 := goodIn_r _ [5, 6, 7, 8] (by decide +kernel) (by decide +kernel)
set_option maxRecDepth 20000 in
theorem gX5_applySingle_J13_bitCount_95d88 : GoodIn wsX5_applySingle (va_wsS RX5 37 yJ13_bitCount_95d88 wsJ13_bitCount_95d88) := goodIn_app (goodIn_of _ (by decide +kernel)) ggX5_applySingle_J13_bitCount_95d88
set_option maxRecDepth 20000 in
theorem ggX5_applySingle_J6_bitCount_0f7a4 : GoodIn wsX5_applySingle wsJ6_bitCount_0f7a4 := goodIn_r _ [12, 13, 14, 15] (by decide +kernel) (by decide +kernel)
set_option maxRecDepth 20000 in
theorem gX5_applySingle_J6_bitCount_0f7a4 : GoodIn wsX5_applySingle (va_wsS RX5 43 yJ6_bitCount_0f7a4 wsJ6_bitCount_0f7a4) := goodIn_app (goodIn_of _ (by decide +kernel)) ggX5_applySingle_J6_bitCount_0f7a4
set_option maxRecDepth 20000 in
theorem ggX5_applySingle_X5_lead : GoodIn wsX5_applySingle wsX5_lead := goodIn_r _ [19] (by decide +kernel) (by decide +kernel)
set_option maxRecDepth 20000 in
theorem gX5_applySingle_X5_lead : GoodIn wsX5_applySingle (va_wsS RX5 48 yX5_lead wsX5_lead) := goodIn_app (goodIn_of _ (by decide +kernel)) ggX5_applySingle_X5_lead
set_option maxRecDepth 20000 in
theorem ggX5_applySingle_X5_reverse : GoodIn wsX5_applySingle wsX5_reverse := goodIn_r _ [22] (by decide +kernel) (by decide +kernel)
set_option maxRecDepth 20000 in
theorem gX5_applySingle_X5_reverse : GoodIn wsX5_applySingle (va_wsS RX5 53 yX5_reverse wsX5_reverse) := goodIn_app (goodIn_of _ (by decide +kernel)) ggX5_applySingle_X5_reverse
set_option maxRecDepth 20000 in
theorem ggX5_apply_X5_turnWide : GoodIn wsX5_apply wsX5_turnWide := goodIn_r _ [4] (by decide +kernel) (by decide +kernel)
set_option maxRecDepth 20000 in
theorem gX5_apply_X5_turnWide : GoodIn wsX5_apply (va_wsS RX5 25 yX5_turnWide wsX5_turnWide) := goodIn_app (goodIn_of _ (by decide +kernel)) ggX5_apply_X5_turnWide
set_option maxRecDepth 20000 in
theorem ggX5_apply_X5_turn : GoodIn wsX5_apply wsX5_turn := goodIn_r _ [7] (by decide +kernel) (by decide +kernel)
set_option maxRecDepth 20000 in
theorem gX5_apply_X5_turn : GoodIn wsX5_apply (va_wsS RX5 29 yX5_turn wsX5_turn) := goodIn_app (goodIn_of _ (by decide +kernel)) ggX5_apply_X5_turn
set_option maxRecDepth 20000 in
theorem ggX5_apply_X5_applySingle : GoodIn wsX5_apply wsX5_applySingle := goodIn_r _ [10, 11, 12, 13, 14, 15, 16, 17, 18, 19, 20, 21, 22, 23, 24, 25, 26, 27, 3, 28, 29, 30, 31] (by decide +kernel) (by decide +kernel)
set_option maxRecDepth 20000 in
theorem gX5_apply_X5_applySingle : GoodIn wsX5_apply (va_wsS RX5 33 yX5_applySingle wsX5_applySingle) := goodIn_app (goodIn_of _ (by decide +kernel)) ggX5_apply_X5_applySingle
def n_ones32 (x : Int32) : Int32 := (((((((x - (((x.toUInt32 >>> ((1 : Int32).toUInt32 &&& Int32.toUInt32 31)).toInt32) &&& 1431655765)) &&& 858993459) + ((((x - (((x.toUInt32 >>> ((1 : Int32).toUInt32 &&& Int32.toUInt32 31)).toInt32) &&& 1431655765)).toUInt32 >>> ((2 : Int32).toUInt32 &&& Int32.toUInt32 31)).toInt32) &&& 858993459)) + (((((x - (((x.toUInt32 >>> ((1 : Int32).toUInt32 &&& Int32.toUInt32 31)).toInt32) &&& 1431655765)) &&& 858993459) + ((((x - (((x.toUInt32 >>> ((1 : Int32).toUInt32 &&& Int32.toUInt32 31)).toInt32) &&& 1431655765)).toUInt32 >>> ((2 : Int32).toUInt32 &&& Int32.toUInt32 31)).toInt32) &&& 858993459)).toUInt32 >>> ((4 : Int32).toUInt32 &&& Int32.toUInt32 31)).toInt32)) &&& 252645135) + (((((((x - (((x.toUInt32 >>> ((1 : Int32).toUInt32 &&& Int32.toUInt32 31)).toInt32) &&& 1431655765)) &&& 858993459) + ((((x - (((x.toUInt32 >>> ((1 : Int32).toUInt32 &&& Int32.toUInt32 31)).toInt32) &&& 1431655765)).toUInt32 >>> ((2 : Int32).toUInt32 &&& Int32.toUInt32 31)).toInt32) &&& 858993459)) + (((((x - (((x.toUInt32 >>> ((1 : Int32).toUInt32 &&& Int32.toUInt32 31)).toInt32) &&& 1431655765)) &&& 858993459) + ((((x - (((x.toUInt32 >>> ((1 : Int32).toUInt32 &&& Int32.toUInt32 31)).toInt32) &&& 1431655765)).toUInt32 >>> ((2 : Int32).toUInt32 &&& Int32.toUInt32 31)).toInt32) &&& 858993459)).toUInt32 >>> ((4 : Int32).toUInt32 &&& Int32.toUInt32 31)).toInt32)) &&& 252645135).toUInt32 >>> ((8 : Int32).toUInt32 &&& Int32.toUInt32 31)).toInt32)) + ((((((((x - (((x.toUInt32 >>> ((1 : Int32).toUInt32 &&& Int32.toUInt32 31)).toInt32) &&& 1431655765)) &&& 858993459) + ((((x - (((x.toUInt32 >>> ((1 : Int32).toUInt32 &&& Int32.toUInt32 31)).toInt32) &&& 1431655765)).toUInt32 >>> ((2 : Int32).toUInt32 &&& Int32.toUInt32 31)).toInt32) &&& 858993459)) + (((((x - (((x.toUInt32 >>> ((1 : Int32).toUInt32 &&& Int32.toUInt32 31)).toInt32) &&& 1431655765)) &&& 858993459) + ((((x - (((x.toUInt32 >>> ((1 : Int32).toUInt32 &&& Int32.toUInt32 31)).toInt32) &&& 1431655765)).toUInt32 >>> ((2 : Int32).toUInt32 &&& Int32.toUInt32 31)).toInt32) &&& 858993459)).toUInt32 >>> ((4 : Int32).toUInt32 &&& Int32.toUInt32 31)).toInt32)) &&& 252645135) + (((((((x - (((x.toUInt32 >>> ((1 : Int32).toUInt32 &&& Int32.toUInt32 31)).toInt32) &&& 1431655765)) &&& 858993459) + ((((x - (((x.toUInt32 >>> ((1 : Int32).toUInt32 &&& Int32.toUInt32 31)).toInt32) &&& 1431655765)).toUInt32 >>> ((2 : Int32).toUInt32 &&& Int32.toUInt32 31)).toInt32) &&& 858993459)) + (((((x - (((x.toUInt32 >>> ((1 : Int32).toUInt32 &&& Int32.toUInt32 31)).toInt32) &&& 1431655765)) &&& 858993459) + ((((x - (((x.toUInt32 >>> ((1 : Int32).toUInt32 &&& Int32.toUInt32 31)).toInt32) &&& 1431655765)).toUInt32 >>> ((2 : Int32).toUInt32 &&& Int32.toUInt32 31)).toInt32) &&& 858993459)).toUInt32 >>> ((4 : Int32).toUInt32 &&& Int32.toUInt32 31)).toInt32)) &&& 252645135).toUInt32 >>> ((8 : Int32).toUInt32 &&& Int32.toUInt32 31)).toInt32)).toUInt32 >>> ((16 : Int32).toUInt32 &&& Int32.toUInt32 31)).toInt32)) &&& 63
def n_ones64 (x : Int64) : Int32 := (((((((((x - (((x.toUInt64 >>> ((1 : Int32).toInt64.toUInt64 &&& Int64.toUInt64 63)).toInt64) &&& 6148914691236517205)) &&& 3689348814741910323) + ((((x - (((x.toUInt64 >>> ((1 : Int32).toInt64.toUInt64 &&& Int64.toUInt64 63)).toInt64) &&& 6148914691236517205)).toUInt64 >>> ((2 : Int32).toInt64.toUInt64 &&& Int64.toUInt64 63)).toInt64) &&& 3689348814741910323)) + (((((x - (((x.toUInt64 >>> ((1 : Int32).toInt64.toUInt64 &&& Int64.toUInt64 63)).toInt64) &&& 6148914691236517205)) &&& 3689348814741910323) + ((((x - (((x.toUInt64 >>> ((1 : Int32).toInt64.toUInt64 &&& Int64.toUInt64 63)).toInt64) &&& 6148914691236517205)).toUInt64 >>> ((2 : Int32).toInt64.toUInt64 &&& Int64.toUInt64 63)).toInt64) &&& 3689348814741910323)).toUInt64 >>> ((4 : Int32).toInt64.toUInt64 &&& Int64.toUInt64 63)).toInt64)) &&& 1085102592571150095) + (((((((x - (((x.toUInt64 >>> ((1 : Int32).toInt64.toUInt64 &&& Int64.toUInt64 63)).toInt64) &&& 6148914691236517205)) &&& 3689348814741910323) + ((((x - (((x.toUInt64 >>> ((1 : Int32).toInt64.toUInt64 &&& Int64.toUInt64 63)).toInt64) &&& 6148914691236517205)).toUInt64 >>> ((2 : Int32).toInt64.toUInt64 &&& Int64.toUInt64 63)).toInt64) &&& 3689348814741910323)) + (((((x - (((x.toUInt64 >>> ((1 : Int32).toInt64.toUInt64 &&& Int64.toUInt64 63)).toInt64) &&& 6148914691236517205)) &&& 3689348814741910323) + ((((x - (((x.toUInt64 >>> ((1 : Int32).toInt64.toUInt64 &&& Int64.toUInt64 63)).toInt64) &&& 6148914691236517205)).toUInt64 >>> ((2 : Int32).toInt64.toUInt64 &&& Int64.toUInt64 63)).toInt64) &&& 3689348814741910323)).toUInt64 >>> ((4 : Int32).toInt64.toUInt64 &&& Int64.toUInt64 63)).toInt64)) &&& 1085102592571150095).toUInt64 >>> ((8 : Int32).toInt64.toUInt64 &&& Int64.toUInt64 63)).toInt64)) + ((((((((x - (((x.toUInt64 >>> ((1 : Int32).toInt64.toUInt64 &&& Int64.toUInt64 63)).toInt64) &&& 6148914691236517205)) &&& 3689348814741910323) + ((((x - (((x.toUInt64 >>> ((1 : Int32).toInt64.toUInt64 &&& Int64.toUInt64 63)).toInt64) &&& 6148914691236517205)).toUInt64 >>> ((2 : Int32).toInt64.toUInt64 &&& Int64.toUInt64 63)).toInt64) &&& 3689348814741910323)) + (((((x - (((x.toUInt64 >>> ((1 : Int32).toInt64.toUInt64 &&& Int64.toUInt64 63)).toInt64) &&& 6148914691236517205)) &&& 3689348814741910323) + ((((x - (((x.toUInt64 >>> ((1 : Int32).toInt64.toUInt64 &&& Int64.toUInt64 63)).toInt64) &&& 6148914691236517205)).toUInt64 >>> ((2 : Int32).toInt64.toUInt64 &&& Int64.toUInt64 63)).toInt64) &&& 3689348814741910323)).toUInt64 >>> ((4 : Int32).toInt64.toUInt64 &&& Int64.toUInt64 63)).toInt64)) &&& 1085102592571150095) + (((((((x - (((x.toUInt64 >>> ((1 : Int32).toInt64.toUInt64 &&& Int64.toUInt64 63)).toInt64) &&& 6148914691236517205)) &&& 3689348814741910323) + ((((x - (((x.toUInt64 >>> ((1 : Int32).toInt64.toUInt64 &&& Int64.toUInt64 63)).toInt64) &&& 6148914691236517205)).toUInt64 >>> ((2 : Int32).toInt64.toUInt64 &&& Int64.toUInt64 63)).toInt64) &&& 3689348814741910323)) + (((((x - (((x.toUInt64 >>> ((1 : Int32).toInt64.toUInt64 &&& Int64.toUInt64 63)).toInt64) &&& 6148914691236517205)) &&& 3689348814741910323) + ((((x - (((x.toUInt64 >>> ((1 : Int32).toInt64.toUInt64 &&& Int64.toUInt64 63)).toInt64) &&& 6148914691236517205)).toUInt64 >>> ((2 : Int32).toInt64.toUInt64 &&& Int64.toUInt64 63)).toInt64) &&& 3689348814741910323)).toUInt64 >>> ((4 : Int32).toInt64.toUInt64 &&& Int64.toUInt64 63)).toInt64)) &&& 1085102592571150095).toUInt64 >>> ((8 : Int32).toInt64.toUInt64 &&& Int64.toUInt64 63)).toInt64)).toUInt64 >>> ((16 : Int32).toInt64.toUInt64 &&& Int64.toUInt64 63)).toInt64)) + (((((((((x - (((x.toUInt64 >>> ((1 : Int32).toInt64.toUInt64 &&& Int64.toUInt64 63)).toInt64) &&& 6148914691236517205)) &&& 3689348814741910323) + ((((x - (((x.toUInt64 >>> ((1 : Int32).toInt64.toUInt64 &&& Int64.toUInt64 63)).toInt64) &&& 6148914691236517205)).toUInt64 >>> ((2 : Int32).toInt64.toUInt64 &&& Int64.toUInt64 63)).toInt64) &&& 3689348814741910323)) + (((((x - (((x.toUInt64 >>> ((1 : Int32).toInt64.toUInt64 &&& Int64.toUInt64 63)).toInt64) &&& 6148914691236517205)) &&& 3689348814741910323) + ((((x - (((x.toUInt64 >>> ((1 : Int32).toInt64.toUInt64 &&& Int64.toUInt64 63)).toInt64) &&& 6148914691236517205)).toUInt64 >>> ((2 : Int32).toInt64.toUInt64 &&& Int64.toUInt64 63)).toInt64) &&& 3689348814741910323)).toUInt64 >>> ((4 : Int32).toInt64.toUInt64 &&& Int64.toUInt64 63)).toInt64)) &&& 1085102592571150095) + (((((((x - (((x.toUInt64 >>> ((1 : Int32).toInt64.toUInt64 &&& Int64.toUInt64 63)).toInt64) &&& 6148914691236517205)) &&& 3689348814741910323) + ((((x - (((x.toUInt64 >>> ((1 : Int32).toInt64.toUInt64 &&& Int64.toUInt64 63)).toInt64) &&& 6148914691236517205)).toUInt64 >>> ((2 : Int32).toInt64.toUInt64 &&& Int64.toUInt64 63)).toInt64) &&& 3689348814741910323)) + (((((x - (((x.toUInt64 >>> ((1 : Int32).toInt64.toUInt64 &&& Int64.toUInt64 63)).toInt64) &&& 6148914691236517205)) &&& 3689348814741910323) + ((((x - (((x.toUInt64 >>> ((1 : Int32).toInt64.toUInt64 &&& Int64.toUInt64 63)).toInt64) &&& 6148914691236517205)).toUInt64 >>> ((2 : Int32).toInt64.toUInt64 &&& Int64.toUInt64 63)).toInt64) &&& 3689348814741910323)).toUInt64 >>> ((4 : Int32).toInt64.toUInt64 &&& Int64.toUInt64 63)).toInt64)) &&& 1085102592571150095).toUInt64 >>> ((8 : Int32).toInt64.toUInt64 &&& Int64.toUInt64 63)).toInt64)) + ((((((((x - (((x.toUInt64 >>> ((1 : Int32).toInt64.toUInt64 &&& Int64.toUInt64 63)).toInt64) &&& 6148914691236517205)) &&& 3689348814741910323) + ((((x - (((x.toUInt64 >>> ((1 : Int32).toInt64.toUInt64 &&& Int64.toUInt64 63)).toInt64) &&& 6148914691236517205)).toUInt64 >>> ((2 : Int32).toInt64.toUInt64 &&& Int64.toUInt64 63)).toInt64) &&& 3689348814741910323)) + (((((x - (((x.toUInt64 >>> ((1 : Int32).toInt64.toUInt64 &&& Int64.toUInt64 63)).toInt64) &&& 6148914691236517205)) &&& 3689348814741910323) + ((((x - (((x.toUInt64 >>> ((1 : Int32).toInt64.toUInt64 &&& Int64.toUInt64 63)).toInt64) &&& 6148914691236517205)).toUInt64 >>> ((2 : Int32).toInt64.toUInt64 &&& Int64.toUInt64 63)).toInt64) &&& 3689348814741910323)).toUInt64 >>> ((4 : Int32).toInt64.toUInt64 &&& Int64.toUInt64 63)).toInt64)) &&& 1085102592571150095) + (((((((x - (((x.toUInt64 >>> ((1 : Int32).toInt64.toUInt64 &&& Int64.toUInt64 63)).toInt64) &&& 6148914691236517205)) &&& 3689348814741910323) + ((((x - (((x.toUInt64 >>> ((1 : Int32).toInt64.toUInt64 &&& Int64.toUInt64 63)).toInt64) &&& 6148914691236517205)).toUInt64 >>> ((2 : Int32).toInt64.toUInt64 &&& Int64.toUInt64 63)).toInt64) &&& 3689348814741910323)) + (((((x - (((x.toUInt64 >>> ((1 : Int32).toInt64.toUInt64 &&& Int64.toUInt64 63)).toInt64) &&& 6148914691236517205)) &&& 3689348814741910323) + ((((x - (((x.toUInt64 >>> ((1 : Int32).toInt64.toUInt64 &&& Int64.toUInt64 63)).toInt64) &&& 6148914691236517205)).toUInt64 >>> ((2 : Int32).toInt64.toUInt64 &&& Int64.toUInt64 63)).toInt64) &&& 3689348814741910323)).toUInt64 >>> ((4 : Int32).toInt64.toUInt64 &&& Int64.toUInt64 63)).toInt64)) &&& 1085102592571150095).toUInt64 >>> ((8 : Int32).toInt64.toUInt64 &&& Int64.toUInt64 63)).toInt64)).toUInt64 >>> ((16 : Int32).toInt64.toUInt64 &&& Int64.toUInt64 63)).toInt64)).toUInt64 >>> ((32 : Int32).toInt64.toUInt64 &&& Int64.toUInt64 63)).toInt64)).toInt32) &&& 127

/-! one number, two numbers: what apply and applySingle answer -/
def n_one (o w : Int32) (a : Int64) : Int64 := if o = 10 then (if 0 ≤ a then a else -a) else if o = 12 then (if w = 0 then (n_ones32 a.toInt32).toInt64 else (n_ones64 a).toInt64) else if o = 13 then (if w = 0 then (nI (n_ld a 32 32 0)).toInt64 else (nI (n_ld a 64 64 0)).toInt64) else if o = 14 then -a else if o = 15 then a ^^^ (-1) else if o = 16 then (if a = 0 then 1 else 0) else (if w = 0 then n_rv a 32 else n_rv a 64)
def n_single (o w : Int32) (a : Int64) : Int64 := if w = 0 then (n_one o w a).toInt32.toInt64 else n_one o w a
def n_apply (o w : Int32) (a b : Int64) : Int64 := if o = 0 then (if a = b then 1 else 0) else if o = 1 then (if a = b then 0 else 1) else if o = 2 then (if b ≤ a then 0 else 1) else if o = 3 then (if b < a then 0 else 1) else if o = 4 then (if a ≤ b then 0 else 1) else if o = 5 then (if a < b then 0 else 1) else if o = 6 then (if b < a then b else a) else if o = 7 then (if a < b then b else a) else if o = 8 then (if w = 0 then (n_turn a.toInt32 b.toInt32).toInt64 else n_turnW a b.toInt32) else if o = 9 then (if w = 0 then (n_turn a.toInt32 (-b.toInt32)).toInt64 else n_turnW a (-b.toInt32)) else n_single o w a

set_option maxHeartbeats 4000000 in
set_option maxRecDepth 100000 in
theorem c_J6_bitCount_0f7a4 (l : Launch) (x : Int32) : Met l yJ6_bitCount_0f7a4 wsJ6_bitCount_0f7a4 ({ frames := 0, cells := 0, slots := 0, locals := 0 }) (va_Pc [.int x] (fun _ => True)) (vp_Si (fun rz => rz = n_ones32 x)) 0 0 (fun _ => False) := by
  refine Met.ofW (cc := cJ6_bitCount_0f7a4) (maxL := 1) (ret := (some .int)) (by decide) rfl ?_
  intro p e s m args below meth c s₁ Bd hml hv
  obtain ⟨rfl, -⟩ := hv
  have hx := Bd.exec
  have hb := Bd.bytes
  have hr := Bd.returns
  have hts := atoms_spec (ws := wsJ6_bitCount_0f7a4) Bd.pre
  have hown : s.vm.findClass RJ6 = some m.cls := findClass_of_methodNamed Bd.named
  have hlocks := Bd.notSynchronized
  have hl := lv_entry ([.int x]) (n := 1) (Nat.le_of_ble_eq_true rfl)
  rw [lg_entry_eq]
  generalize (lg_sl ([.int x]) ++ List.replicate (1 - (lg_sl ([.int x])).length) Slot.unset).toArray = ls at hl ⊢
  have hl : lv_has ls 1 [(0, .int x)] := hl
  refine lv_iload_n hx hb dJ6_bitCount_0f7a4_0 rfl (lv_at hl 0 rfl) ?_
  refine lv_iload_n hx hb dJ6_bitCount_0f7a4_1 rfl (lv_at hl 0 rfl) ?_
  refine lv_iconst (v := 1) hx hb dJ6_bitCount_0f7a4_2 (by decide) ?_
  refine lv_iushr (v := (x.toUInt32 >>> ((1 : Int32).toUInt32 &&& Int32.toUInt32 31)).toInt32) hx hb dJ6_bitCount_0f7a4_3 rfl ?_
  refine lv_ldcw (v := 1431655765) hx hb hown (hts (.constant RJ6 265 (1431655765)) (by decide +kernel)) dJ6_bitCount_0f7a4_4 ?_
  refine lv_iand hx hb dJ6_bitCount_0f7a4_7 ?_
  refine lv_isub hx hb dJ6_bitCount_0f7a4_8 ?_
  refine lv_istore_n (lv' := [(0, .int (x - (((x.toUInt32 >>> ((1 : Int32).toUInt32 &&& Int32.toUInt32 31)).toInt32) &&& 1431655765)))]) hx hb dJ6_bitCount_0f7a4_9 rfl hl (by decide) rfl (fun ls hl => ?_)
  refine lv_iload_n hx hb dJ6_bitCount_0f7a4_10 rfl (lv_at hl 0 rfl) ?_
  refine lv_ldcw (v := 858993459) hx hb hown (hts (.constant RJ6 266 (858993459)) (by decide +kernel)) dJ6_bitCount_0f7a4_11 ?_
  refine lv_iand hx hb dJ6_bitCount_0f7a4_14 ?_
  refine lv_iload_n hx hb dJ6_bitCount_0f7a4_15 rfl (lv_at hl 0 rfl) ?_
  refine lv_iconst (v := 2) hx hb dJ6_bitCount_0f7a4_16 (by decide) ?_
  refine lv_iushr (v := ((x - (((x.toUInt32 >>> ((1 : Int32).toUInt32 &&& Int32.toUInt32 31)).toInt32) &&& 1431655765)).toUInt32 >>> ((2 : Int32).toUInt32 &&& Int32.toUInt32 31)).toInt32) hx hb dJ6_bitCount_0f7a4_17 rfl ?_
  refine lv_ldcw (v := 858993459) hx hb hown (hts (.constant RJ6 266 (858993459)) (by decide +kernel)) dJ6_bitCount_0f7a4_18 ?_
  refine lv_iand hx hb dJ6_bitCount_0f7a4_21 ?_
  refine lv_iadd hx hb dJ6_bitCount_0f7a4_22 ?_
  refine lv_istore_n (lv' := [(0, .int (((x - (((x.toUInt32 >>> ((1 : Int32).toUInt32 &&& Int32.toUInt32 31)).toInt32) &&& 1431655765)) &&& 858993459) + ((((x - (((x.toUInt32 >>> ((1 : Int32).toUInt32 &&& Int32.toUInt32 31)).toInt32) &&& 1431655765)).toUInt32 >>> ((2 : Int32).toUInt32 &&& Int32.toUInt32 31)).toInt32) &&& 858993459)))]) hx hb dJ6_bitCount_0f7a4_23 rfl hl (by decide) rfl (fun ls hl => ?_)
  refine lv_iload_n hx hb dJ6_bitCount_0f7a4_24 rfl (lv_at hl 0 rfl) ?_
  refine lv_iload_n hx hb dJ6_bitCount_0f7a4_25 rfl (lv_at hl 0 rfl) ?_
  refine lv_iconst (v := 4) hx hb dJ6_bitCount_0f7a4_26 (by decide) ?_
  refine lv_iushr (v := ((((x - (((x.toUInt32 >>> ((1 : Int32).toUInt32 &&& Int32.toUInt32 31)).toInt32) &&& 1431655765)) &&& 858993459) + ((((x - (((x.toUInt32 >>> ((1 : Int32).toUInt32 &&& Int32.toUInt32 31)).toInt32) &&& 1431655765)).toUInt32 >>> ((2 : Int32).toUInt32 &&& Int32.toUInt32 31)).toInt32) &&& 858993459)).toUInt32 >>> ((4 : Int32).toUInt32 &&& Int32.toUInt32 31)).toInt32) hx hb dJ6_bitCount_0f7a4_27 rfl ?_
  refine lv_iadd hx hb dJ6_bitCount_0f7a4_28 ?_
  refine lv_ldcw (v := 252645135) hx hb hown (hts (.constant RJ6 267 (252645135)) (by decide +kernel)) dJ6_bitCount_0f7a4_29 ?_
  refine lv_iand hx hb dJ6_bitCount_0f7a4_32 ?_
  refine lv_istore_n (lv' := [(0, .int (((((x - (((x.toUInt32 >>> ((1 : Int32).toUInt32 &&& Int32.toUInt32 31)).toInt32) &&& 1431655765)) &&& 858993459) + ((((x - (((x.toUInt32 >>> ((1 : Int32).toUInt32 &&& Int32.toUInt32 31)).toInt32) &&& 1431655765)).toUInt32 >>> ((2 : Int32).toUInt32 &&& Int32.toUInt32 31)).toInt32) &&& 858993459)) + (((((x - (((x.toUInt32 >>> ((1 : Int32).toUInt32 &&& Int32.toUInt32 31)).toInt32) &&& 1431655765)) &&& 858993459) + ((((x - (((x.toUInt32 >>> ((1 : Int32).toUInt32 &&& Int32.toUInt32 31)).toInt32) &&& 1431655765)).toUInt32 >>> ((2 : Int32).toUInt32 &&& Int32.toUInt32 31)).toInt32) &&& 858993459)).toUInt32 >>> ((4 : Int32).toUInt32 &&& Int32.toUInt32 31)).toInt32)) &&& 252645135))]) hx hb dJ6_bitCount_0f7a4_33 rfl hl (by decide) rfl (fun ls hl => ?_)
  refine lv_iload_n hx hb dJ6_bitCount_0f7a4_34 rfl (lv_at hl 0 rfl) ?_
  refine lv_iload_n hx hb dJ6_bitCount_0f7a4_35 rfl (lv_at hl 0 rfl) ?_
  refine lv_bipush (v := 8) hx hb dJ6_bitCount_0f7a4_36 (by decide) ?_
  refine lv_iushr (v := ((((((x - (((x.toUInt32 >>> ((1 : Int32).toUInt32 &&& Int32.toUInt32 31)).toInt32) &&& 1431655765)) &&& 858993459) + ((((x - (((x.toUInt32 >>> ((1 : Int32).toUInt32 &&& Int32.toUInt32 31)).toInt32) &&& 1431655765)).toUInt32 >>> ((2 : Int32).toUInt32 &&& Int32.toUInt32 31)).toInt32) &&& 858993459)) + (((((x - (((x.toUInt32 >>> ((1 : Int32).toUInt32 &&& Int32.toUInt32 31)).toInt32) &&& 1431655765)) &&& 858993459) + ((((x - (((x.toUInt32 >>> ((1 : Int32).toUInt32 &&& Int32.toUInt32 31)).toInt32) &&& 1431655765)).toUInt32 >>> ((2 : Int32).toUInt32 &&& Int32.toUInt32 31)).toInt32) &&& 858993459)).toUInt32 >>> ((4 : Int32).toUInt32 &&& Int32.toUInt32 31)).toInt32)) &&& 252645135).toUInt32 >>> ((8 : Int32).toUInt32 &&& Int32.toUInt32 31)).toInt32) hx hb dJ6_bitCount_0f7a4_38 rfl ?_
  refine lv_iadd hx hb dJ6_bitCount_0f7a4_39 ?_
  refine lv_istore_n (lv' := [(0, .int ((((((x - (((x.toUInt32 >>> ((1 : Int32).toUInt32 &&& Int32.toUInt32 31)).toInt32) &&& 1431655765)) &&& 858993459) + ((((x - (((x.toUInt32 >>> ((1 : Int32).toUInt32 &&& Int32.toUInt32 31)).toInt32) &&& 1431655765)).toUInt32 >>> ((2 : Int32).toUInt32 &&& Int32.toUInt32 31)).toInt32) &&& 858993459)) + (((((x - (((x.toUInt32 >>> ((1 : Int32).toUInt32 &&& Int32.toUInt32 31)).toInt32) &&& 1431655765)) &&& 858993459) + ((((x - (((x.toUInt32 >>> ((1 : Int32).toUInt32 &&& Int32.toUInt32 31)).toInt32) &&& 1431655765)).toUInt32 >>> ((2 : Int32).toUInt32 &&& Int32.toUInt32 31)).toInt32) &&& 858993459)).toUInt32 >>> ((4 : Int32).toUInt32 &&& Int32.toUInt32 31)).toInt32)) &&& 252645135) + (((((((x - (((x.toUInt32 >>> ((1 : Int32).toUInt32 &&& Int32.toUInt32 31)).toInt32) &&& 1431655765)) &&& 858993459) + ((((x - (((x.toUInt32 >>> ((1 : Int32).toUInt32 &&& Int32.toUInt32 31)).toInt32) &&& 1431655765)).toUInt32 >>> ((2 : Int32).toUInt32 &&& Int32.toUInt32 31)).toInt32) &&& 858993459)) + (((((x - (((x.toUInt32 >>> ((1 : Int32).toUInt32 &&& Int32.toUInt32 31)).toInt32) &&& 1431655765)) &&& 858993459) + ((((x - (((x.toUInt32 >>> ((1 : Int32).toUInt32 &&& Int32.toUInt32 31)).toInt32) &&& 1431655765)).toUInt32 >>> ((2 : Int32).toUInt32 &&& Int32.toUInt32 31)).toInt32) &&& 858993459)).toUInt32 >>> ((4 : Int32).toUInt32 &&& Int32.toUInt32 31)).toInt32)) &&& 252645135).toUInt32 >>> ((8 : Int32).toUInt32 &&& Int32.toUInt32 31)).toInt32)))]) hx hb dJ6_bitCount_0f7a4_40 rfl hl (by decide) rfl (fun ls hl => ?_)
  refine lv_iload_n hx hb dJ6_bitCount_0f7a4_41 rfl (lv_at hl 0 rfl) ?_
  refine lv_iload_n hx hb dJ6_bitCount_0f7a4_42 rfl (lv_at hl 0 rfl) ?_
  refine lv_bipush (v := 16) hx hb dJ6_bitCount_0f7a4_43 (by decide) ?_
  refine lv_iushr (v := (((((((x - (((x.toUInt32 >>> ((1 : Int32).toUInt32 &&& Int32.toUInt32 31)).toInt32) &&& 1431655765)) &&& 858993459) + ((((x - (((x.toUInt32 >>> ((1 : Int32).toUInt32 &&& Int32.toUInt32 31)).toInt32) &&& 1431655765)).toUInt32 >>> ((2 : Int32).toUInt32 &&& Int32.toUInt32 31)).toInt32) &&& 858993459)) + (((((x - (((x.toUInt32 >>> ((1 : Int32).toUInt32 &&& Int32.toUInt32 31)).toInt32) &&& 1431655765)) &&& 858993459) + ((((x - (((x.toUInt32 >>> ((1 : Int32).toUInt32 &&& Int32.toUInt32 31)).toInt32) &&& 1431655765)).toUInt32 >>> ((2 : Int32).toUInt32 &&& Int32.toUInt32 31)).toInt32) &&& 858993459)).toUInt32 >>> ((4 : Int32).toUInt32 &&& Int32.toUInt32 31)).toInt32)) &&& 252645135) + (((((((x - (((x.toUInt32 >>> ((1 : Int32).toUInt32 &&& Int32.toUInt32 31)).toInt32) &&& 1431655765)) &&& 858993459) + ((((x - (((x.toUInt32 >>> ((1 : Int32).toUInt32 &&& Int32.toUInt32 31)).toInt32) &&& 1431655765)).toUInt32 >>> ((2 : Int32).toUInt32 &&& Int32.toUInt32 31)).toInt32) &&& 858993459)) + (((((x - (((x.toUInt32 >>> ((1 : Int32).toUInt32 &&& Int32.toUInt32 31)).toInt32) &&& 1431655765)) &&& 858993459) + ((((x - (((x.toUInt32 >>> ((1 : Int32).toUInt32 &&& Int32.toUInt32 31)).toInt32) &&& 1431655765)).toUInt32 >>> ((2 : Int32).toUInt32 &&& Int32.toUInt32 31)).toInt32) &&& 858993459)).toUInt32 >>> ((4 : Int32).toUInt32 &&& Int32.toUInt32 31)).toInt32)) &&& 252645135).toUInt32 >>> ((8 : Int32).toUInt32 &&& Int32.toUInt32 31)).toInt32)).toUInt32 >>> ((16 : Int32).toUInt32 &&& Int32.toUInt32 31)).toInt32) hx hb dJ6_bitCount_0f7a4_45 rfl ?_
  refine lv_iadd hx hb dJ6_bitCount_0f7a4_46 ?_
  refine lv_istore_n (lv' := [(0, .int (((((((x - (((x.toUInt32 >>> ((1 : Int32).toUInt32 &&& Int32.toUInt32 31)).toInt32) &&& 1431655765)) &&& 858993459) + ((((x - (((x.toUInt32 >>> ((1 : Int32).toUInt32 &&& Int32.toUInt32 31)).toInt32) &&& 1431655765)).toUInt32 >>> ((2 : Int32).toUInt32 &&& Int32.toUInt32 31)).toInt32) &&& 858993459)) + (((((x - (((x.toUInt32 >>> ((1 : Int32).toUInt32 &&& Int32.toUInt32 31)).toInt32) &&& 1431655765)) &&& 858993459) + ((((x - (((x.toUInt32 >>> ((1 : Int32).toUInt32 &&& Int32.toUInt32 31)).toInt32) &&& 1431655765)).toUInt32 >>> ((2 : Int32).toUInt32 &&& Int32.toUInt32 31)).toInt32) &&& 858993459)).toUInt32 >>> ((4 : Int32).toUInt32 &&& Int32.toUInt32 31)).toInt32)) &&& 252645135) + (((((((x - (((x.toUInt32 >>> ((1 : Int32).toUInt32 &&& Int32.toUInt32 31)).toInt32) &&& 1431655765)) &&& 858993459) + ((((x - (((x.toUInt32 >>> ((1 : Int32).toUInt32 &&& Int32.toUInt32 31)).toInt32) &&& 1431655765)).toUInt32 >>> ((2 : Int32).toUInt32 &&& Int32.toUInt32 31)).toInt32) &&& 858993459)) + (((((x - (((x.toUInt32 >>> ((1 : Int32).toUInt32 &&& Int32.toUInt32 31)).toInt32) &&& 1431655765)) &&& 858993459) + ((((x - (((x.toUInt32 >>> ((1 : Int32).toUInt32 &&& Int32.toUInt32 31)).toInt32) &&& 1431655765)).toUInt32 >>> ((2 : Int32).toUInt32 &&& Int32.toUInt32 31)).toInt32) &&& 858993459)).toUInt32 >>> ((4 : Int32).toUInt32 &&& Int32.toUInt32 31)).toInt32)) &&& 252645135).toUInt32 >>> ((8 : Int32).toUInt32 &&& Int32.toUInt32 31)).toInt32)) + ((((((((x - (((x.toUInt32 >>> ((1 : Int32).toUInt32 &&& Int32.toUInt32 31)).toInt32) &&& 1431655765)) &&& 858993459) + ((((x - (((x.toUInt32 >>> ((1 : Int32).toUInt32 &&& Int32.toUInt32 31)).toInt32) &&& 1431655765)).toUInt32 >>> ((2 : Int32).toUInt32 &&& Int32.toUInt32 31)).toInt32) &&& 858993459)) + (((((x - (((x.toUInt32 >>> ((1 : Int32).toUInt32 &&& Int32.toUInt32 31)).toInt32) &&& 1431655765)) &&& 858993459) + ((((x - (((x.toUInt32 >>> ((1 : Int32).toUInt32 &&& Int32.toUInt32 31)).toInt32) &&& 1431655765)).toUInt32 >>> ((2 : Int32).toUInt32 &&& Int32.toUInt32 31)).toInt32) &&& 858993459)).toUInt32 >>> ((4 : Int32).toUInt32 &&& Int32.toUInt32 31)).toInt32)) &&& 252645135) + (((((((x - (((x.toUInt32 >>> ((1 : Int32).toUInt32 &&& Int32.toUInt32 31)).toInt32) &&& 1431655765)) &&& 858993459) + ((((x - (((x.toUInt32 >>> ((1 : Int32).toUInt32 &&& Int32.toUInt32 31)).toInt32) &&& 1431655765)).toUInt32 >>> ((2 : Int32).toUInt32 &&& Int32.toUInt32 31)).toInt32) &&& 858993459)) + (((((x - (((x.toUInt32 >>> ((1 : Int32).toUInt32 &&& Int32.toUInt32 31)).toInt32) &&& 1431655765)) &&& 858993459) + ((((x - (((x.toUInt32 >>> ((1 : Int32).toUInt32 &&& Int32.toUInt32 31)).toInt32) &&& 1431655765)).toUInt32 >>> ((2 : Int32).toUInt32 &&& Int32.toUInt32 31)).toInt32) &&& 858993459)).toUInt32 >>> ((4 : Int32).toUInt32 &&& Int32.toUInt32 31)).toInt32)) &&& 252645135).toUInt32 >>> ((8 : Int32).toUInt32 &&& Int32.toUInt32 31)).toInt32)).toUInt32 >>> ((16 : Int32).toUInt32 &&& Int32.toUInt32 31)).toInt32)))]) hx hb dJ6_bitCount_0f7a4_47 rfl hl (by decide) rfl (fun ls hl => ?_)
  refine lv_iload_n hx hb dJ6_bitCount_0f7a4_48 rfl (lv_at hl 0 rfl) ?_
  refine lv_bipush (v := 63) hx hb dJ6_bitCount_0f7a4_49 (by decide) ?_
  refine lv_iand hx hb dJ6_bitCount_0f7a4_51 ?_
  exact W.iret (v := (((((((x - (((x.toUInt32 >>> ((1 : Int32).toUInt32 &&& Int32.toUInt32 31)).toInt32) &&& 1431655765)) &&& 858993459) + ((((x - (((x.toUInt32 >>> ((1 : Int32).toUInt32 &&& Int32.toUInt32 31)).toInt32) &&& 1431655765)).toUInt32 >>> ((2 : Int32).toUInt32 &&& Int32.toUInt32 31)).toInt32) &&& 858993459)) + (((((x - (((x.toUInt32 >>> ((1 : Int32).toUInt32 &&& Int32.toUInt32 31)).toInt32) &&& 1431655765)) &&& 858993459) + ((((x - (((x.toUInt32 >>> ((1 : Int32).toUInt32 &&& Int32.toUInt32 31)).toInt32) &&& 1431655765)).toUInt32 >>> ((2 : Int32).toUInt32 &&& Int32.toUInt32 31)).toInt32) &&& 858993459)).toUInt32 >>> ((4 : Int32).toUInt32 &&& Int32.toUInt32 31)).toInt32)) &&& 252645135) + (((((((x - (((x.toUInt32 >>> ((1 : Int32).toUInt32 &&& Int32.toUInt32 31)).toInt32) &&& 1431655765)) &&& 858993459) + ((((x - (((x.toUInt32 >>> ((1 : Int32).toUInt32 &&& Int32.toUInt32 31)).toInt32) &&& 1431655765)).toUInt32 >>> ((2 : Int32).toUInt32 &&& Int32.toUInt32 31)).toInt32) &&& 858993459)) + (((((x - (((x.toUInt32 >>> ((1 : Int32).toUInt32 &&& Int32.toUInt32 31)).toInt32) &&& 1431655765)) &&& 858993459) + ((((x - (((x.toUInt32 >>> ((1 : Int32).toUInt32 &&& Int32.toUInt32 31)).toInt32) &&& 1431655765)).toUInt32 >>> ((2 : Int32).toUInt32 &&& Int32.toUInt32 31)).toInt32) &&& 858993459)).toUInt32 >>> ((4 : Int32).toUInt32 &&& Int32.toUInt32 31)).toInt32)) &&& 252645135).toUInt32 >>> ((8 : Int32).toUInt32 &&& Int32.toUInt32 31)).toInt32)) + ((((((((x - (((x.toUInt32 >>> ((1 : Int32).toUInt32 &&& Int32.toUInt32 31)).toInt32) &&& 1431655765)) &&& 858993459) + ((((x - (((x.toUInt32 >>> ((1 : Int32).toUInt32 &&& Int32.toUInt32 31)).toInt32) &&& 1431655765)).toUInt32 >>> ((2 : Int32).toUInt32 &&& Int32.toUInt32 31)).toInt32) &&& 858993459)) + (((((x - (((x.toUInt32 >>> ((1 : Int32).toUInt32 &&& Int32.toUInt32 31)).toInt32) &&& 1431655765)) &&& 858993459) + ((((x - (((x.toUInt32 >>> ((1 : Int32).toUInt32 &&& Int32.toUInt32 31)).toInt32) &&& 1431655765)).toUInt32 >>> ((2 : Int32).toUInt32 &&& Int32.toUInt32 31)).toInt32) &&& 858993459)).toUInt32 >>> ((4 : Int32).toUInt32 &&& Int32.toUInt32 31)).toInt32)) &&& 252645135) + (((((((x - (((x.toUInt32 >>> ((1 : Int32).toUInt32 &&& Int32.toUInt32 31)).toInt32) &&& 1431655765)) &&& 858993459) + ((((x - (((x.toUInt32 >>> ((1 : Int32).toUInt32 &&& Int32.toUInt32 31)).toInt32) &&& 1431655765)).toUInt32 >>> ((2 : Int32).toUInt32 &&& Int32.toUInt32 31)).toInt32) &&& 858993459)) + (((((x - (((x.toUInt32 >>> ((1 : Int32).toUInt32 &&& Int32.toUInt32 31)).toInt32) &&& 1431655765)) &&& 858993459) + ((((x - (((x.toUInt32 >>> ((1 : Int32).toUInt32 &&& Int32.toUInt32 31)).toInt32) &&& 1431655765)).toUInt32 >>> ((2 : Int32).toUInt32 &&& Int32.toUInt32 31)).toInt32) &&& 858993459)).toUInt32 >>> ((4 : Int32).toUInt32 &&& Int32.toUInt32 31)).toInt32)) &&& 252645135).toUInt32 >>> ((8 : Int32).toUInt32 &&& Int32.toUInt32 31)).toInt32)).toUInt32 >>> ((16 : Int32).toUInt32 &&& Int32.toUInt32 31)).toInt32)) &&& 63) hx hb hr (fun t ht hW => ⟨_, rfl, rfl, ht⟩) (fun _ h => nomatch h) dJ6_bitCount_0f7a4_52
set_option maxHeartbeats 4000000 in
set_option maxRecDepth 100000 in
theorem c_J13_bitCount_95d88 (l : Launch) (x : Int64) : Met l yJ13_bitCount_95d88 wsJ13_bitCount_95d88 ({ frames := 0, cells := 0, slots := 0, locals := 0 }) (va_Pc [.long x] (fun _ => True)) (vp_Si (fun rz => rz = n_ones64 x)) 0 0 (fun _ => False) := by
  refine Met.ofW (cc := cJ13_bitCount_95d88) (maxL := 2) (ret := (some .int)) (by decide) rfl ?_
  intro p e s m args below meth c s₁ Bd hml hv
  obtain ⟨rfl, -⟩ := hv
  have hx := Bd.exec
  have hb := Bd.bytes
  have hr := Bd.returns
  have hts := atoms_spec (ws := wsJ13_bitCount_95d88) Bd.pre
  have hown : s.vm.findClass RJ13 = some m.cls := findClass_of_methodNamed Bd.named
  have hlocks := Bd.notSynchronized
  have hl := lv_entry ([.long x]) (n := 2) (Nat.le_of_ble_eq_true rfl)
  rw [lg_entry_eq]
  generalize (lg_sl ([.long x]) ++ List.replicate (2 - (lg_sl ([.long x])).length) Slot.unset).toArray = ls at hl ⊢
  have hl : lv_has ls 2 [(0, .long x)] := hl
  refine lv_lload_n hx hb dJ13_bitCount_95d88_0 rfl (lv_at hl 0 rfl) ?_
  refine lv_lload_n hx hb dJ13_bitCount_95d88_1 rfl (lv_at hl 0 rfl) ?_
  refine lv_iconst (v := 1) hx hb dJ13_bitCount_95d88_2 (by decide) ?_
  refine lv_lushr (v := (x.toUInt64 >>> ((1 : Int32).toInt64.toUInt64 &&& Int64.toUInt64 63)).toInt64) hx hb dJ13_bitCount_95d88_3 rfl ?_
  refine lv_ldc2 (v := 6148914691236517205) hx hb hown (hts (.constantLong RJ13 314 (6148914691236517205)) (by decide +kernel)) dJ13_bitCount_95d88_4 ?_
  refine lv_land hx hb dJ13_bitCount_95d88_7 ?_
  refine lv_lsub hx hb dJ13_bitCount_95d88_8 ?_
  refine lv_lstore_n (lv' := [(0, .long (x - (((x.toUInt64 >>> ((1 : Int32).toInt64.toUInt64 &&& Int64.toUInt64 63)).toInt64) &&& 6148914691236517205)))]) hx hb dJ13_bitCount_95d88_9 rfl hl (by decide) rfl (fun ls hl => ?_)
  refine lv_lload_n hx hb dJ13_bitCount_95d88_10 rfl (lv_at hl 0 rfl) ?_
  refine lv_ldc2 (v := 3689348814741910323) hx hb hown (hts (.constantLong RJ13 316 (3689348814741910323)) (by decide +kernel)) dJ13_bitCount_95d88_11 ?_
  refine lv_land hx hb dJ13_bitCount_95d88_14 ?_
  refine lv_lload_n hx hb dJ13_bitCount_95d88_15 rfl (lv_at hl 0 rfl) ?_
  refine lv_iconst (v := 2) hx hb dJ13_bitCount_95d88_16 (by decide) ?_
  refine lv_lushr (v := ((x - (((x.toUInt64 >>> ((1 : Int32).toInt64.toUInt64 &&& Int64.toUInt64 63)).toInt64) &&& 6148914691236517205)).toUInt64 >>> ((2 : Int32).toInt64.toUInt64 &&& Int64.toUInt64 63)).toInt64) hx hb dJ13_bitCount_95d88_17 rfl ?_
  refine lv_ldc2 (v := 3689348814741910323) hx hb hown (hts (.constantLong RJ13 316 (3689348814741910323)) (by decide +kernel)) dJ13_bitCount_95d88_18 ?_
  refine lv_land hx hb dJ13_bitCount_95d88_21 ?_
  refine lv_ladd hx hb dJ13_bitCount_95d88_22 ?_
  refine lv_lstore_n (lv' := [(0, .long (((x - (((x.toUInt64 >>> ((1 : Int32).toInt64.toUInt64 &&& Int64.toUInt64 63)).toInt64) &&& 6148914691236517205)) &&& 3689348814741910323) + ((((x - (((x.toUInt64 >>> ((1 : Int32).toInt64.toUInt64 &&& Int64.toUInt64 63)).toInt64) &&& 6148914691236517205)).toUInt64 >>> ((2 : Int32).toInt64.toUInt64 &&& Int64.toUInt64 63)).toInt64) &&& 3689348814741910323)))]) hx hb dJ13_bitCount_95d88_23 rfl hl (by decide) rfl (fun ls hl => ?_)
  refine lv_lload_n hx hb dJ13_bitCount_95d88_24 rfl (lv_at hl 0 rfl) ?_
  refine lv_lload_n hx hb dJ13_bitCount_95d88_25 rfl (lv_at hl 0 rfl) ?_
  refine lv_iconst (v := 4) hx hb dJ13_bitCount_95d88_26 (by decide) ?_
  refine lv_lushr (v := ((((x - (((x.toUInt64 >>> ((1 : Int32).toInt64.toUInt64 &&& Int64.toUInt64 63)).toInt64) &&& 6148914691236517205)) &&& 3689348814741910323) + ((((x - (((x.toUInt64 >>> ((1 : Int32).toInt64.toUInt64 &&& Int64.toUInt64 63)).toInt64) &&& 6148914691236517205)).toUInt64 >>> ((2 : Int32).toInt64.toUInt64 &&& Int64.toUInt64 63)).toInt64) &&& 3689348814741910323)).toUInt64 >>> ((4 : Int32).toInt64.toUInt64 &&& Int64.toUInt64 63)).toInt64) hx hb dJ13_bitCount_95d88_27 rfl ?_
  refine lv_ladd hx hb dJ13_bitCount_95d88_28 ?_
  refine lv_ldc2 (v := 1085102592571150095) hx hb hown (hts (.constantLong RJ13 318 (1085102592571150095)) (by decide +kernel)) dJ13_bitCount_95d88_29 ?_
  refine lv_land hx hb dJ13_bitCount_95d88_32 ?_
  refine lv_lstore_n (lv' := [(0, .long (((((x - (((x.toUInt64 >>> ((1 : Int32).toInt64.toUInt64 &&& Int64.toUInt64 63)).toInt64) &&& 6148914691236517205)) &&& 3689348814741910323) + ((((x - (((x.toUInt64 >>> ((1 : Int32).toInt64.toUInt64 &&& Int64.toUInt64 63)).toInt64) &&& 6148914691236517205)).toUInt64 >>> ((2 : Int32).toInt64.toUInt64 &&& Int64.toUInt64 63)).toInt64) &&& 3689348814741910323)) + (((((x - (((x.toUInt64 >>> ((1 : Int32).toInt64.toUInt64 &&& Int64.toUInt64 63)).toInt64) &&& 6148914691236517205)) &&& 3689348814741910323) + ((((x - (((x.toUInt64 >>> ((1 : Int32).toInt64.toUInt64 &&& Int64.toUInt64 63)).toInt64) &&& 6148914691236517205)).toUInt64 >>> ((2 : Int32).toInt64.toUInt64 &&& Int64.toUInt64 63)).toInt64) &&& 3689348814741910323)).toUInt64 >>> ((4 : Int32).toInt64.toUInt64 &&& Int64.toUInt64 63)).toInt64)) &&& 1085102592571150095))]) hx hb dJ13_bitCount_95d88_33 rfl hl (by decide) rfl (fun ls hl => ?_)
  refine lv_lload_n hx hb dJ13_bitCount_95d88_34 rfl (lv_at hl 0 rfl) ?_
  refine lv_lload_n hx hb dJ13_bitCount_95d88_35 rfl (lv_at hl 0 rfl) ?_
  refine lv_bipush (v := 8) hx hb dJ13_bitCount_95d88_36 (by decide) ?_
  refine lv_lushr (v := ((((((x - (((x.toUInt64 >>> ((1 : Int32).toInt64.toUInt64 &&& Int64.toUInt64 63)).toInt64) &&& 6148914691236517205)) &&& 3689348814741910323) + ((((x - (((x.toUInt64 >>> ((1 : Int32).toInt64.toUInt64 &&& Int64.toUInt64 63)).toInt64) &&& 6148914691236517205)).toUInt64 >>> ((2 : Int32).toInt64.toUInt64 &&& Int64.toUInt64 63)).toInt64) &&& 3689348814741910323)) + (((((x - (((x.toUInt64 >>> ((1 : Int32).toInt64.toUInt64 &&& Int64.toUInt64 63)).toInt64) &&& 6148914691236517205)) &&& 3689348814741910323) + ((((x - (((x.toUInt64 >>> ((1 : Int32).toInt64.toUInt64 &&& Int64.toUInt64 63)).toInt64) &&& 6148914691236517205)).toUInt64 >>> ((2 : Int32).toInt64.toUInt64 &&& Int64.toUInt64 63)).toInt64) &&& 3689348814741910323)).toUInt64 >>> ((4 : Int32).toInt64.toUInt64 &&& Int64.toUInt64 63)).toInt64)) &&& 1085102592571150095).toUInt64 >>> ((8 : Int32).toInt64.toUInt64 &&& Int64.toUInt64 63)).toInt64) hx hb dJ13_bitCount_95d88_38 rfl ?_
  refine lv_ladd hx hb dJ13_bitCount_95d88_39 ?_
  refine lv_lstore_n (lv' := [(0, .long ((((((x - (((x.toUInt64 >>> ((1 : Int32).toInt64.toUInt64 &&& Int64.toUInt64 63)).toInt64) &&& 6148914691236517205)) &&& 3689348814741910323) + ((((x - (((x.toUInt64 >>> ((1 : Int32).toInt64.toUInt64 &&& Int64.toUInt64 63)).toInt64) &&& 6148914691236517205)).toUInt64 >>> ((2 : Int32).toInt64.toUInt64 &&& Int64.toUInt64 63)).toInt64) &&& 3689348814741910323)) + (((((x - (((x.toUInt64 >>> ((1 : Int32).toInt64.toUInt64 &&& Int64.toUInt64 63)).toInt64) &&& 6148914691236517205)) &&& 3689348814741910323) + ((((x - (((x.toUInt64 >>> ((1 : Int32).toInt64.toUInt64 &&& Int64.toUInt64 63)).toInt64) &&& 6148914691236517205)).toUInt64 >>> ((2 : Int32).toInt64.toUInt64 &&& Int64.toUInt64 63)).toInt64) &&& 3689348814741910323)).toUInt64 >>> ((4 : Int32).toInt64.toUInt64 &&& Int64.toUInt64 63)).toInt64)) &&& 1085102592571150095) + (((((((x - (((x.toUInt64 >>> ((1 : Int32).toInt64.toUInt64 &&& Int64.toUInt64 63)).toInt64) &&& 6148914691236517205)) &&& 3689348814741910323) + ((((x - (((x.toUInt64 >>> ((1 : Int32).toInt64.toUInt64 &&& Int64.toUInt64 63)).toInt64) &&& 6148914691236517205)).toUInt64 >>> ((2 : Int32).toInt64.toUInt64 &&& Int64.toUInt64 63)).toInt64) &&& 3689348814741910323)) + (((((x - (((x.toUInt64 >>> ((1 : Int32).toInt64.toUInt64 &&& Int64.toUInt64 63)).toInt64) &&& 6148914691236517205)) &&& 3689348814741910323) + ((((x - (((x.toUInt64 >>> ((1 : Int32).toInt64.toUInt64 &&& Int64.toUInt64 63)).toInt64) &&& 6148914691236517205)).toUInt64 >>> ((2 : Int32).toInt64.toUInt64 &&& Int64.toUInt64 63)).toInt64) &&& 3689348814741910323)).toUInt64 >>> ((4 : Int32).toInt64.toUInt64 &&& Int64.toUInt64 63)).toInt64)) &&& 1085102592571150095).toUInt64 >>> ((8 : Int32).toInt64.toUInt64 &&& Int64.toUInt64 63)).toInt64)))]) hx hb dJ13_bitCount_95d88_40 rfl hl (by decide) rfl (fun ls hl => ?_)
  refine lv_lload_n hx hb dJ13_bitCount_95d88_41 rfl (lv_at hl 0 rfl) ?_
  refine lv_lload_n hx hb dJ13_bitCount_95d88_42 rfl (lv_at hl 0 rfl) ?_
  refine lv_bipush (v := 16) hx hb dJ13_bitCount_95d88_43 (by decide) ?_
  refine lv_lushr (v := (((((((x - (((x.toUInt64 >>> ((1 : Int32).toInt64.toUInt64 &&& Int64.toUInt64 63)).toInt64) &&& 6148914691236517205)) &&& 3689348814741910323) + ((((x - (((x.toUInt64 >>> ((1 : Int32).toInt64.toUInt64 &&& Int64.toUInt64 63)).toInt64) &&& 6148914691236517205)).toUInt64 >>> ((2 : Int32).toInt64.toUInt64 &&& Int64.toUInt64 63)).toInt64) &&& 3689348814741910323)) + (((((x - (((x.toUInt64 >>> ((1 : Int32).toInt64.toUInt64 &&& Int64.toUInt64 63)).toInt64) &&& 6148914691236517205)) &&& 3689348814741910323) + ((((x - (((x.toUInt64 >>> ((1 : Int32).toInt64.toUInt64 &&& Int64.toUInt64 63)).toInt64) &&& 6148914691236517205)).toUInt64 >>> ((2 : Int32).toInt64.toUInt64 &&& Int64.toUInt64 63)).toInt64) &&& 3689348814741910323)).toUInt64 >>> ((4 : Int32).toInt64.toUInt64 &&& Int64.toUInt64 63)).toInt64)) &&& 1085102592571150095) + (((((((x - (((x.toUInt64 >>> ((1 : Int32).toInt64.toUInt64 &&& Int64.toUInt64 63)).toInt64) &&& 6148914691236517205)) &&& 3689348814741910323) + ((((x - (((x.toUInt64 >>> ((1 : Int32).toInt64.toUInt64 &&& Int64.toUInt64 63)).toInt64) &&& 6148914691236517205)).toUInt64 >>> ((2 : Int32).toInt64.toUInt64 &&& Int64.toUInt64 63)).toInt64) &&& 3689348814741910323)) + (((((x - (((x.toUInt64 >>> ((1 : Int32).toInt64.toUInt64 &&& Int64.toUInt64 63)).toInt64) &&& 6148914691236517205)) &&& 3689348814741910323) + ((((x - (((x.toUInt64 >>> ((1 : Int32).toInt64.toUInt64 &&& Int64.toUInt64 63)).toInt64) &&& 6148914691236517205)).toUInt64 >>> ((2 : Int32).toInt64.toUInt64 &&& Int64.toUInt64 63)).toInt64) &&& 3689348814741910323)).toUInt64 >>> ((4 : Int32).toInt64.toUInt64 &&& Int64.toUInt64 63)).toInt64)) &&& 1085102592571150095).toUInt64 >>> ((8 : Int32).toInt64.toUInt64 &&& Int64.toUInt64 63)).toInt64)).toUInt64 >>> ((16 : Int32).toInt64.toUInt64 &&& Int64.toUInt64 63)).toInt64) hx hb dJ13_bitCount_95d88_45 rfl ?_
  refine lv_ladd hx hb dJ13_bitCount_95d88_46 ?_
  refine lv_lstore_n (lv' := [(0, .long (((((((x - (((x.toUInt64 >>> ((1 : Int32).toInt64.toUInt64 &&& Int64.toUInt64 63)).toInt64) &&& 6148914691236517205)) &&& 3689348814741910323) + ((((x - (((x.toUInt64 >>> ((1 : Int32).toInt64.toUInt64 &&& Int64.toUInt64 63)).toInt64) &&& 6148914691236517205)).toUInt64 >>> ((2 : Int32).toInt64.toUInt64 &&& Int64.toUInt64 63)).toInt64) &&& 3689348814741910323)) + (((((x - (((x.toUInt64 >>> ((1 : Int32).toInt64.toUInt64 &&& Int64.toUInt64 63)).toInt64) &&& 6148914691236517205)) &&& 3689348814741910323) + ((((x - (((x.toUInt64 >>> ((1 : Int32).toInt64.toUInt64 &&& Int64.toUInt64 63)).toInt64) &&& 6148914691236517205)).toUInt64 >>> ((2 : Int32).toInt64.toUInt64 &&& Int64.toUInt64 63)).toInt64) &&& 3689348814741910323)).toUInt64 >>> ((4 : Int32).toInt64.toUInt64 &&& Int64.toUInt64 63)).toInt64)) &&& 1085102592571150095) + (((((((x - (((x.toUInt64 >>> ((1 : Int32).toInt64.toUInt64 &&& Int64.toUInt64 63)).toInt64) &&& 6148914691236517205)) &&& 3689348814741910323) + ((((x - (((x.toUInt64 >>> ((1 : Int32).toInt64.toUInt64 &&& Int64.toUInt64 63)).toInt64) &&& 6148914691236517205)).toUInt64 >>> ((2 : Int32).toInt64.toUInt64 &&& Int64.toUInt64 63)).toInt64) &&& 3689348814741910323)) + (((((x - (((x.toUInt64 >>> ((1 : Int32).toInt64.toUInt64 &&& Int64.toUInt64 63)).toInt64) &&& 6148914691236517205)) &&& 3689348814741910323) + ((((x - (((x.toUInt64 >>> ((1 : Int32).toInt64.toUInt64 &&& Int64.toUInt64 63)).toInt64) &&& 6148914691236517205)).toUInt64 >>> ((2 : Int32).toInt64.toUInt64 &&& Int64.toUInt64 63)).toInt64) &&& 3689348814741910323)).toUInt64 >>> ((4 : Int32).toInt64.toUInt64 &&& Int64.toUInt64 63)).toInt64)) &&& 1085102592571150095).toUInt64 >>> ((8 : Int32).toInt64.toUInt64 &&& Int64.toUInt64 63)).toInt64)) + ((((((((x - (((x.toUInt64 >>> ((1 : Int32).toInt64.toUInt64 &&& Int64.toUInt64 63)).toInt64) &&& 6148914691236517205)) &&& 3689348814741910323) + ((((x - (((x.toUInt64 >>> ((1 : Int32).toInt64.toUInt64 &&& Int64.toUInt64 63)).toInt64) &&& 6148914691236517205)).toUInt64 >>> ((2 : Int32).toInt64.toUInt64 &&& Int64.toUInt64 63)).toInt64) &&& 3689348814741910323)) + (((((x - (((x.toUInt64 >>> ((1 : Int32).toInt64.toUInt64 &&& Int64.toUInt64 63)).toInt64) &&& 6148914691236517205)) &&& 3689348814741910323) + ((((x - (((x.toUInt64 >>> ((1 : Int32).toInt64.toUInt64 &&& Int64.toUInt64 63)).toInt64) &&& 6148914691236517205)).toUInt64 >>> ((2 : Int32).toInt64.toUInt64 &&& Int64.toUInt64 63)).toInt64) &&& 3689348814741910323)).toUInt64 >>> ((4 : Int32).toInt64.toUInt64 &&& Int64.toUInt64 63)).toInt64)) &&& 1085102592571150095) + (((((((x - (((x.toUInt64 >>> ((1 : Int32).toInt64.toUInt64 &&& Int64.toUInt64 63)).toInt64) &&& 6148914691236517205)) &&& 3689348814741910323) + ((((x - (((x.toUInt64 >>> ((1 : Int32).toInt64.toUInt64 &&& Int64.toUInt64 63)).toInt64) &&& 6148914691236517205)).toUInt64 >>> ((2 : Int32).toInt64.toUInt64 &&& Int64.toUInt64 63)).toInt64) &&& 3689348814741910323)) + (((((x - (((x.toUInt64 >>> ((1 : Int32).toInt64.toUInt64 &&& Int64.toUInt64 63)).toInt64) &&& 6148914691236517205)) &&& 3689348814741910323) + ((((x - (((x.toUInt64 >>> ((1 : Int32).toInt64.toUInt64 &&& Int64.toUInt64 63)).toInt64) &&& 6148914691236517205)).toUInt64 >>> ((2 : Int32).toInt64.toUInt64 &&& Int64.toUInt64 63)).toInt64) &&& 3689348814741910323)).toUInt64 >>> ((4 : Int32).toInt64.toUInt64 &&& Int64.toUInt64 63)).toInt64)) &&& 1085102592571150095).toUInt64 >>> ((8 : Int32).toInt64.toUInt64 &&& Int64.toUInt64 63)).toInt64)).toUInt64 >>> ((16 : Int32).toInt64.toUInt64 &&& Int64.toUInt64 63)).toInt64)))]) hx hb dJ13_bitCount_95d88_47 rfl hl (by decide) rfl (fun ls hl => ?_)
  refine lv_lload_n hx hb dJ13_bitCount_95d88_48 rfl (lv_at hl 0 rfl) ?_
  refine lv_lload_n hx hb dJ13_bitCount_95d88_49 rfl (lv_at hl 0 rfl) ?_
  refine lv_bipush (v := 32) hx hb dJ13_bitCount_95d88_50 (by decide) ?_
  refine lv_lushr (v := ((((((((x - (((x.toUInt64 >>> ((1 : Int32).toInt64.toUInt64 &&& Int64.toUInt64 63)).toInt64) &&& 6148914691236517205)) &&& 3689348814741910323) + ((((x - (((x.toUInt64 >>> ((1 : Int32).toInt64.toUInt64 &&& Int64.toUInt64 63)).toInt64) &&& 6148914691236517205)).toUInt64 >>> ((2 : Int32).toInt64.toUInt64 &&& Int64.toUInt64 63)).toInt64) &&& 3689348814741910323)) + (((((x - (((x.toUInt64 >>> ((1 : Int32).toInt64.toUInt64 &&& Int64.toUInt64 63)).toInt64) &&& 6148914691236517205)) &&& 3689348814741910323) + ((((x - (((x.toUInt64 >>> ((1 : Int32).toInt64.toUInt64 &&& Int64.toUInt64 63)).toInt64) &&& 6148914691236517205)).toUInt64 >>> ((2 : Int32).toInt64.toUInt64 &&& Int64.toUInt64 63)).toInt64) &&& 3689348814741910323)).toUInt64 >>> ((4 : Int32).toInt64.toUInt64 &&& Int64.toUInt64 63)).toInt64)) &&& 1085102592571150095) + (((((((x - (((x.toUInt64 >>> ((1 : Int32).toInt64.toUInt64 &&& Int64.toUInt64 63)).toInt64) &&& 6148914691236517205)) &&& 3689348814741910323) + ((((x - (((x.toUInt64 >>> ((1 : Int32).toInt64.toUInt64 &&& Int64.toUInt64 63)).toInt64) &&& 6148914691236517205)).toUInt64 >>> ((2 : Int32).toInt64.toUInt64 &&& Int64.toUInt64 63)).toInt64) &&& 3689348814741910323)) + (((((x - (((x.toUInt64 >>> ((1 : Int32).toInt64.toUInt64 &&& Int64.toUInt64 63)).toInt64) &&& 6148914691236517205)) &&& 3689348814741910323) + ((((x - (((x.toUInt64 >>> ((1 : Int32).toInt64.toUInt64 &&& Int64.toUInt64 63)).toInt64) &&& 6148914691236517205)).toUInt64 >>> ((2 : Int32).toInt64.toUInt64 &&& Int64.toUInt64 63)).toInt64) &&& 3689348814741910323)).toUInt64 >>> ((4 : Int32).toInt64.toUInt64 &&& Int64.toUInt64 63)).toInt64)) &&& 1085102592571150095).toUInt64 >>> ((8 : Int32).toInt64.toUInt64 &&& Int64.toUInt64 63)).toInt64)) + ((((((((x - (((x.toUInt64 >>> ((1 : Int32).toInt64.toUInt64 &&& Int64.toUInt64 63)).toInt64) &&& 6148914691236517205)) &&& 3689348814741910323) + ((((x - (((x.toUInt64 >>> ((1 : Int32).toInt64.toUInt64 &&& Int64.toUInt64 63)).toInt64) &&& 6148914691236517205)).toUInt64 >>> ((2 : Int32).toInt64.toUInt64 &&& Int64.toUInt64 63)).toInt64) &&& 3689348814741910323)) + (((((x - (((x.toUInt64 >>> ((1 : Int32).toInt64.toUInt64 &&& Int64.toUInt64 63)).toInt64) &&& 6148914691236517205)) &&& 3689348814741910323) + ((((x - (((x.toUInt64 >>> ((1 : Int32).toInt64.toUInt64 &&& Int64.toUInt64 63)).toInt64) &&& 6148914691236517205)).toUInt64 >>> ((2 : Int32).toInt64.toUInt64 &&& Int64.toUInt64 63)).toInt64) &&& 3689348814741910323)).toUInt64 >>> ((4 : Int32).toInt64.toUInt64 &&& Int64.toUInt64 63)).toInt64)) &&& 1085102592571150095) + (((((((x - (((x.toUInt64 >>> ((1 : Int32).toInt64.toUInt64 &&& Int64.toUInt64 63)).toInt64) &&& 6148914691236517205)) &&& 3689348814741910323) + ((((x - (((x.toUInt64 >>> ((1 : Int32).toInt64.toUInt64 &&& Int64.toUInt64 63)).toInt64) &&& 6148914691236517205)).toUInt64 >>> ((2 : Int32).toInt64.toUInt64 &&& Int64.toUInt64 63)).toInt64) &&& 3689348814741910323)) + (((((x - (((x.toUInt64 >>> ((1 : Int32).toInt64.toUInt64 &&& Int64.toUInt64 63)).toInt64) &&& 6148914691236517205)) &&& 3689348814741910323) + ((((x - (((x.toUInt64 >>> ((1 : Int32).toInt64.toUInt64 &&& Int64.toUInt64 63)).toInt64) &&& 6148914691236517205)).toUInt64 >>> ((2 : Int32).toInt64.toUInt64 &&& Int64.toUInt64 63)).toInt64) &&& 3689348814741910323)).toUInt64 >>> ((4 : Int32).toInt64.toUInt64 &&& Int64.toUInt64 63)).toInt64)) &&& 1085102592571150095).toUInt64 >>> ((8 : Int32).toInt64.toUInt64 &&& Int64.toUInt64 63)).toInt64)).toUInt64 >>> ((16 : Int32).toInt64.toUInt64 &&& Int64.toUInt64 63)).toInt64)).toUInt64 >>> ((32 : Int32).toInt64.toUInt64 &&& Int64.toUInt64 63)).toInt64) hx hb dJ13_bitCount_95d88_52 rfl ?_
  refine lv_ladd hx hb dJ13_bitCount_95d88_53 ?_
  refine lv_lstore_n (lv' := [(0, .long ((((((((x - (((x.toUInt64 >>> ((1 : Int32).toInt64.toUInt64 &&& Int64.toUInt64 63)).toInt64) &&& 6148914691236517205)) &&& 3689348814741910323) + ((((x - (((x.toUInt64 >>> ((1 : Int32).toInt64.toUInt64 &&& Int64.toUInt64 63)).toInt64) &&& 6148914691236517205)).toUInt64 >>> ((2 : Int32).toInt64.toUInt64 &&& Int64.toUInt64 63)).toInt64) &&& 3689348814741910323)) + (((((x - (((x.toUInt64 >>> ((1 : Int32).toInt64.toUInt64 &&& Int64.toUInt64 63)).toInt64) &&& 6148914691236517205)) &&& 3689348814741910323) + ((((x - (((x.toUInt64 >>> ((1 : Int32).toInt64.toUInt64 &&& Int64.toUInt64 63)).toInt64) &&& 6148914691236517205)).toUInt64 >>> ((2 : Int32).toInt64.toUInt64 &&& Int64.toUInt64 63)).toInt64) &&& 3689348814741910323)).toUInt64 >>> ((4 : Int32).toInt64.toUInt64 &&& Int64.toUInt64 63)).toInt64)) &&& 1085102592571150095) + (((((((x - (((x.toUInt64 >>> ((1 : Int32).toInt64.toUInt64 &&& Int64.toUInt64 63)).toInt64) &&& 6148914691236517205)) &&& 3689348814741910323) + ((((x - (((x.toUInt64 >>> ((1 : Int32).toInt64.toUInt64 &&& Int64.toUInt64 63)).toInt64) &&& 6148914691236517205)).toUInt64 >>> ((2 : Int32).toInt64.toUInt64 &&& Int64.toUInt64 63)).toInt64) &&& 3689348814741910323)) + (((((x - (((x.toUInt64 >>> ((1 : Int32).toInt64.toUInt64 &&& Int64.toUInt64 63)).toInt64) &&& 6148914691236517205)) &&& 3689348814741910323) + ((((x - (((x.toUInt64 >>> ((1 : Int32).toInt64.toUInt64 &&& Int64.toUInt64 63)).toInt64) &&& 6148914691236517205)).toUInt64 >>> ((2 : Int32).toInt64.toUInt64 &&& Int64.toUInt64 63)).toInt64) &&& 3689348814741910323)).toUInt64 >>> ((4 : Int32).toInt64.toUInt64 &&& Int64.toUInt64 63)).toInt64)) &&& 1085102592571150095).toUInt64 >>> ((8 : Int32).toInt64.toUInt64 &&& Int64.toUInt64 63)).toInt64)) + ((((((((x - (((x.toUInt64 >>> ((1 : Int32).toInt64.toUInt64 &&& Int64.toUInt64 63)).toInt64) &&& 6148914691236517205)) &&& 3689348814741910323) + ((((x - (((x.toUInt64 >>> ((1 : Int32).toInt64.toUInt64 &&& Int64.toUInt64 63)).toInt64) &&& 6148914691236517205)).toUInt64 >>> ((2 : Int32).toInt64.toUInt64 &&& Int64.toUInt64 63)).toInt64) &&& 3689348814741910323)) + (((((x - (((x.toUInt64 >>> ((1 : Int32).toInt64.toUInt64 &&& Int64.toUInt64 63)).toInt64) &&& 6148914691236517205)) &&& 3689348814741910323) + ((((x - (((x.toUInt64 >>> ((1 : Int32).toInt64.toUInt64 &&& Int64.toUInt64 63)).toInt64) &&& 6148914691236517205)).toUInt64 >>> ((2 : Int32).toInt64.toUInt64 &&& Int64.toUInt64 63)).toInt64) &&& 3689348814741910323)).toUInt64 >>> ((4 : Int32).toInt64.toUInt64 &&& Int64.toUInt64 63)).toInt64)) &&& 1085102592571150095) + (((((((x - (((x.toUInt64 >>> ((1 : Int32).toInt64.toUInt64 &&& Int64.toUInt64 63)).toInt64) &&& 6148914691236517205)) &&& 3689348814741910323) + ((((x - (((x.toUInt64 >>> ((1 : Int32).toInt64.toUInt64 &&& Int64.toUInt64 63)).toInt64) &&& 6148914691236517205)).toUInt64 >>> ((2 : Int32).toInt64.toUInt64 &&& Int64.toUInt64 63)).toInt64) &&& 3689348814741910323)) + (((((x - (((x.toUInt64 >>> ((1 : Int32).toInt64.toUInt64 &&& Int64.toUInt64 63)).toInt64) &&& 6148914691236517205)) &&& 3689348814741910323) + ((((x - (((x.toUInt64 >>> ((1 : Int32).toInt64.toUInt64 &&& Int64.toUInt64 63)).toInt64) &&& 6148914691236517205)).toUInt64 >>> ((2 : Int32).toInt64.toUInt64 &&& Int64.toUInt64 63)).toInt64) &&& 3689348814741910323)).toUInt64 >>> ((4 : Int32).toInt64.toUInt64 &&& Int64.toUInt64 63)).toInt64)) &&& 1085102592571150095).toUInt64 >>> ((8 : Int32).toInt64.toUInt64 &&& Int64.toUInt64 63)).toInt64)).toUInt64 >>> ((16 : Int32).toInt64.toUInt64 &&& Int64.toUInt64 63)).toInt64)) + (((((((((x - (((x.toUInt64 >>> ((1 : Int32).toInt64.toUInt64 &&& Int64.toUInt64 63)).toInt64) &&& 6148914691236517205)) &&& 3689348814741910323) + ((((x - (((x.toUInt64 >>> ((1 : Int32).toInt64.toUInt64 &&& Int64.toUInt64 63)).toInt64) &&& 6148914691236517205)).toUInt64 >>> ((2 : Int32).toInt64.toUInt64 &&& Int64.toUInt64 63)).toInt64) &&& 3689348814741910323)) + (((((x - (((x.toUInt64 >>> ((1 : Int32).toInt64.toUInt64 &&& Int64.toUInt64 63)).toInt64) &&& 6148914691236517205)) &&& 3689348814741910323) + ((((x - (((x.toUInt64 >>> ((1 : Int32).toInt64.toUInt64 &&& Int64.toUInt64 63)).toInt64) &&& 6148914691236517205)).toUInt64 >>> ((2 : Int32).toInt64.toUInt64 &&& Int64.toUInt64 63)).toInt64) &&& 3689348814741910323)).toUInt64 >>> ((4 : Int32).toInt64.toUInt64 &&& Int64.toUInt64 63)).toInt64)) &&& 1085102592571150095) + (((((((x - (((x.toUInt64 >>> ((1 : Int32).toInt64.toUInt64 &&& Int64.toUInt64 63)).toInt64) &&& 6148914691236517205)) &&& 3689348814741910323) + ((((x - (((x.toUInt64 >>> ((1 : Int32).toInt64.toUInt64 &&& Int64.toUInt64 63)).toInt64) &&& 6148914691236517205)).toUInt64 >>> ((2 : Int32).toInt64.toUInt64 &&& Int64.toUInt64 63)).toInt64) &&& 3689348814741910323)) + (((((x - (((x.toUInt64 >>> ((1 : Int32).toInt64.toUInt64 &&& Int64.toUInt64 63)).toInt64) &&& 6148914691236517205)) &&& 3689348814741910323) + ((((x - (((x.toUInt64 >>> ((1 : Int32).toInt64.toUInt64 &&& Int64.toUInt64 63)).toInt64) &&& 6148914691236517205)).toUInt64 >>> ((2 : Int32).toInt64.toUInt64 &&& Int64.toUInt64 63)).toInt64) &&& 3689348814741910323)).toUInt64 >>> ((4 : Int32).toInt64.toUInt64 &&& Int64.toUInt64 63)).toInt64)) &&& 1085102592571150095).toUInt64 >>> ((8 : Int32).toInt64.toUInt64 &&& Int64.toUInt64 63)).toInt64)) + ((((((((x - (((x.toUInt64 >>> ((1 : Int32).toInt64.toUInt64 &&& Int64.toUInt64 63)).toInt64) &&& 6148914691236517205)) &&& 3689348814741910323) + ((((x - (((x.toUInt64 >>> ((1 : Int32).toInt64.toUInt64 &&& Int64.toUInt64 63)).toInt64) &&& 6148914691236517205)).toUInt64 >>> ((2 : Int32).toInt64.toUInt64 &&& Int64.toUInt64 63)).toInt64) &&& 3689348814741910323)) + (((((x - (((x.toUInt64 >>> ((1 : Int32).toInt64.toUInt64 &&& Int64.toUInt64 63)).toInt64) &&& 6148914691236517205)) &&& 3689348814741910323) + ((((x - (((x.toUInt64 >>> ((1 : Int32).toInt64.toUInt64 &&& Int64.toUInt64 63)).toInt64) &&& 6148914691236517205)).toUInt64 >>> ((2 : Int32).toInt64.toUInt64 &&& Int64.toUInt64 63)).toInt64) &&& 3689348814741910323)).toUInt64 >>> ((4 : Int32).toInt64.toUInt64 &&& Int64.toUInt64 63)).toInt64)) &&& 1085102592571150095) + (((((((x - (((x.toUInt64 >>> ((1 : Int32).toInt64.toUInt64 &&& Int64.toUInt64 63)).toInt64) &&& 6148914691236517205)) &&& 3689348814741910323) + ((((x - (((x.toUInt64 >>> ((1 : Int32).toInt64.toUInt64 &&& Int64.toUInt64 63)).toInt64) &&& 6148914691236517205)).toUInt64 >>> ((2 : Int32).toInt64.toUInt64 &&& Int64.toUInt64 63)).toInt64) &&& 3689348814741910323)) + (((((x - (((x.toUInt64 >>> ((1 : Int32).toInt64.toUInt64 &&& Int64.toUInt64 63)).toInt64) &&& 6148914691236517205)) &&& 3689348814741910323) + ((((x - (((x.toUInt64 >>> ((1 : Int32).toInt64.toUInt64 &&& Int64.toUInt64 63)).toInt64) &&& 6148914691236517205)).toUInt64 >>> ((2 : Int32).toInt64.toUInt64 &&& Int64.toUInt64 63)).toInt64) &&& 3689348814741910323)).toUInt64 >>> ((4 : Int32).toInt64.toUInt64 &&& Int64.toUInt64 63)).toInt64)) &&& 1085102592571150095).toUInt64 >>> ((8 : Int32).toInt64.toUInt64 &&& Int64.toUInt64 63)).toInt64)).toUInt64 >>> ((16 : Int32).toInt64.toUInt64 &&& Int64.toUInt64 63)).toInt64)).toUInt64 >>> ((32 : Int32).toInt64.toUInt64 &&& Int64.toUInt64 63)).toInt64)))]) hx hb dJ13_bitCount_95d88_54 rfl hl (by decide) rfl (fun ls hl => ?_)
  refine lv_lload_n hx hb dJ13_bitCount_95d88_55 rfl (lv_at hl 0 rfl) ?_
  refine lv_l2i (v := ((((((((x - (((x.toUInt64 >>> ((1 : Int32).toInt64.toUInt64 &&& Int64.toUInt64 63)).toInt64) &&& 6148914691236517205)) &&& 3689348814741910323) + ((((x - (((x.toUInt64 >>> ((1 : Int32).toInt64.toUInt64 &&& Int64.toUInt64 63)).toInt64) &&& 6148914691236517205)).toUInt64 >>> ((2 : Int32).toInt64.toUInt64 &&& Int64.toUInt64 63)).toInt64) &&& 3689348814741910323)) + (((((x - (((x.toUInt64 >>> ((1 : Int32).toInt64.toUInt64 &&& Int64.toUInt64 63)).toInt64) &&& 6148914691236517205)) &&& 3689348814741910323) + ((((x - (((x.toUInt64 >>> ((1 : Int32).toInt64.toUInt64 &&& Int64.toUInt64 63)).toInt64) &&& 6148914691236517205)).toUInt64 >>> ((2 : Int32).toInt64.toUInt64 &&& Int64.toUInt64 63)).toInt64) &&& 3689348814741910323)).toUInt64 >>> ((4 : Int32).toInt64.toUInt64 &&& Int64.toUInt64 63)).toInt64)) &&& 1085102592571150095) + (((((((x - (((x.toUInt64 >>> ((1 : Int32).toInt64.toUInt64 &&& Int64.toUInt64 63)).toInt64) &&& 6148914691236517205)) &&& 3689348814741910323) + ((((x - (((x.toUInt64 >>> ((1 : Int32).toInt64.toUInt64 &&& Int64.toUInt64 63)).toInt64) &&& 6148914691236517205)).toUInt64 >>> ((2 : Int32).toInt64.toUInt64 &&& Int64.toUInt64 63)).toInt64) &&& 3689348814741910323)) + (((((x - (((x.toUInt64 >>> ((1 : Int32).toInt64.toUInt64 &&& Int64.toUInt64 63)).toInt64) &&& 6148914691236517205)) &&& 3689348814741910323) + ((((x - (((x.toUInt64 >>> ((1 : Int32).toInt64.toUInt64 &&& Int64.toUInt64 63)).toInt64) &&& 6148914691236517205)).toUInt64 >>> ((2 : Int32).toInt64.toUInt64 &&& Int64.toUInt64 63)).toInt64) &&& 3689348814741910323)).toUInt64 >>> ((4 : Int32).toInt64.toUInt64 &&& Int64.toUInt64 63)).toInt64)) &&& 1085102592571150095).toUInt64 >>> ((8 : Int32).toInt64.toUInt64 &&& Int64.toUInt64 63)).toInt64)) + ((((((((x - (((x.toUInt64 >>> ((1 : Int32).toInt64.toUInt64 &&& Int64.toUInt64 63)).toInt64) &&& 6148914691236517205)) &&& 3689348814741910323) + ((((x - (((x.toUInt64 >>> ((1 : Int32).toInt64.toUInt64 &&& Int64.toUInt64 63)).toInt64) &&& 6148914691236517205)).toUInt64 >>> ((2 : Int32).toInt64.toUInt64 &&& Int64.toUInt64 63)).toInt64) &&& 3689348814741910323)) + (((((x - (((x.toUInt64 >>> ((1 : Int32).toInt64.toUInt64 &&& Int64.toUInt64 63)).toInt64) &&& 6148914691236517205)) &&& 3689348814741910323) + ((((x - (((x.toUInt64 >>> ((1 : Int32).toInt64.toUInt64 &&& Int64.toUInt64 63)).toInt64) &&& 6148914691236517205)).toUInt64 >>> ((2 : Int32).toInt64.toUInt64 &&& Int64.toUInt64 63)).toInt64) &&& 3689348814741910323)).toUInt64 >>> ((4 : Int32).toInt64.toUInt64 &&& Int64.toUInt64 63)).toInt64)) &&& 1085102592571150095) + (((((((x - (((x.toUInt64 >>> ((1 : Int32).toInt64.toUInt64 &&& Int64.toUInt64 63)).toInt64) &&& 6148914691236517205)) &&& 3689348814741910323) + ((((x - (((x.toUInt64 >>> ((1 : Int32).toInt64.toUInt64 &&& Int64.toUInt64 63)).toInt64) &&& 6148914691236517205)).toUInt64 >>> ((2 : Int32).toInt64.toUInt64 &&& Int64.toUInt64 63)).toInt64) &&& 3689348814741910323)) + (((((x - (((x.toUInt64 >>> ((1 : Int32).toInt64.toUInt64 &&& Int64.toUInt64 63)).toInt64) &&& 6148914691236517205)) &&& 3689348814741910323) + ((((x - (((x.toUInt64 >>> ((1 : Int32).toInt64.toUInt64 &&& Int64.toUInt64 63)).toInt64) &&& 6148914691236517205)).toUInt64 >>> ((2 : Int32).toInt64.toUInt64 &&& Int64.toUInt64 63)).toInt64) &&& 3689348814741910323)).toUInt64 >>> ((4 : Int32).toInt64.toUInt64 &&& Int64.toUInt64 63)).toInt64)) &&& 1085102592571150095).toUInt64 >>> ((8 : Int32).toInt64.toUInt64 &&& Int64.toUInt64 63)).toInt64)).toUInt64 >>> ((16 : Int32).toInt64.toUInt64 &&& Int64.toUInt64 63)).toInt64)) + (((((((((x - (((x.toUInt64 >>> ((1 : Int32).toInt64.toUInt64 &&& Int64.toUInt64 63)).toInt64) &&& 6148914691236517205)) &&& 3689348814741910323) + ((((x - (((x.toUInt64 >>> ((1 : Int32).toInt64.toUInt64 &&& Int64.toUInt64 63)).toInt64) &&& 6148914691236517205)).toUInt64 >>> ((2 : Int32).toInt64.toUInt64 &&& Int64.toUInt64 63)).toInt64) &&& 3689348814741910323)) + (((((x - (((x.toUInt64 >>> ((1 : Int32).toInt64.toUInt64 &&& Int64.toUInt64 63)).toInt64) &&& 6148914691236517205)) &&& 3689348814741910323) + ((((x - (((x.toUInt64 >>> ((1 : Int32).toInt64.toUInt64 &&& Int64.toUInt64 63)).toInt64) &&& 6148914691236517205)).toUInt64 >>> ((2 : Int32).toInt64.toUInt64 &&& Int64.toUInt64 63)).toInt64) &&& 3689348814741910323)).toUInt64 >>> ((4 : Int32).toInt64.toUInt64 &&& Int64.toUInt64 63)).toInt64)) &&& 1085102592571150095) + (((((((x - (((x.toUInt64 >>> ((1 : Int32).toInt64.toUInt64 &&& Int64.toUInt64 63)).toInt64) &&& 6148914691236517205)) &&& 3689348814741910323) + ((((x - (((x.toUInt64 >>> ((1 : Int32).toInt64.toUInt64 &&& Int64.toUInt64 63)).toInt64) &&& 6148914691236517205)).toUInt64 >>> ((2 : Int32).toInt64.toUInt64 &&& Int64.toUInt64 63)).toInt64) &&& 3689348814741910323)) + (((((x - (((x.toUInt64 >>> ((1 : Int32).toInt64.toUInt64 &&& Int64.toUInt64 63)).toInt64) &&& 6148914691236517205)) &&& 3689348814741910323) + ((((x - (((x.toUInt64 >>> ((1 : Int32).toInt64.toUInt64 &&& Int64.toUInt64 63)).toInt64) &&& 6148914691236517205)).toUInt64 >>> ((2 : Int32).toInt64.toUInt64 &&& Int64.toUInt64 63)).toInt64) &&& 3689348814741910323)).toUInt64 >>> ((4 : Int32).toInt64.toUInt64 &&& Int64.toUInt64 63)).toInt64)) &&& 1085102592571150095).toUInt64 >>> ((8 : Int32).toInt64.toUInt64 &&& Int64.toUInt64 63)).toInt64)) + ((((((((x - (((x.toUInt64 >>> ((1 : Int32).toInt64.toUInt64 &&& Int64.toUInt64 63)).toInt64) &&& 6148914691236517205)) &&& 3689348814741910323) + ((((x - (((x.toUInt64 >>> ((1 : Int32).toInt64.toUInt64 &&& Int64.toUInt64 63)).toInt64) &&& 6148914691236517205)).toUInt64 >>> ((2 : Int32).toInt64.toUInt64 &&& Int64.toUInt64 63)).toInt64) &&& 3689348814741910323)) + (((((x - (((x.toUInt64 >>> ((1 : Int32).toInt64.toUInt64 &&& Int64.toUInt64 63)).toInt64) &&& 6148914691236517205)) &&& 3689348814741910323) + ((((x - (((x.toUInt64 >>> ((1 : Int32).toInt64.toUInt64 &&& Int64.toUInt64 63)).toInt64) &&& 6148914691236517205)).toUInt64 >>> ((2 : Int32).toInt64.toUInt64 &&& Int64.toUInt64 63)).toInt64) &&& 3689348814741910323)).toUInt64 >>> ((4 : Int32).toInt64.toUInt64 &&& Int64.toUInt64 63)).toInt64)) &&& 1085102592571150095) + (((((((x - (((x.toUInt64 >>> ((1 : Int32).toInt64.toUInt64 &&& Int64.toUInt64 63)).toInt64) &&& 6148914691236517205)) &&& 3689348814741910323) + ((((x - (((x.toUInt64 >>> ((1 : Int32).toInt64.toUInt64 &&& Int64.toUInt64 63)).toInt64) &&& 6148914691236517205)).toUInt64 >>> ((2 : Int32).toInt64.toUInt64 &&& Int64.toUInt64 63)).toInt64) &&& 3689348814741910323)) + (((((x - (((x.toUInt64 >>> ((1 : Int32).toInt64.toUInt64 &&& Int64.toUInt64 63)).toInt64) &&& 6148914691236517205)) &&& 3689348814741910323) + ((((x - (((x.toUInt64 >>> ((1 : Int32).toInt64.toUInt64 &&& Int64.toUInt64 63)).toInt64) &&& 6148914691236517205)).toUInt64 >>> ((2 : Int32).toInt64.toUInt64 &&& Int64.toUInt64 63)).toInt64) &&& 3689348814741910323)).toUInt64 >>> ((4 : Int32).toInt64.toUInt64 &&& Int64.toUInt64 63)).toInt64)) &&& 1085102592571150095).toUInt64 >>> ((8 : Int32).toInt64.toUInt64 &&& Int64.toUInt64 63)).toInt64)).toUInt64 >>> ((16 : Int32).toInt64.toUInt64 &&& Int64.toUInt64 63)).toInt64)).toUInt64 >>> ((32 : Int32).toInt64.toUInt64 &&& Int64.toUInt64 63)).toInt64)).toInt32) hx hb dJ13_bitCount_95d88_56 rfl ?_
  refine lv_bipush (v := 127) hx hb dJ13_bitCount_95d88_57 (by decide) ?_
  refine lv_iand hx hb dJ13_bitCount_95d88_59 ?_
  exact W.iret (v := (((((((((x - (((x.toUInt64 >>> ((1 : Int32).toInt64.toUInt64 &&& Int64.toUInt64 63)).toInt64) &&& 6148914691236517205)) &&& 3689348814741910323) + ((((x - (((x.toUInt64 >>> ((1 : Int32).toInt64.toUInt64 &&& Int64.toUInt64 63)).toInt64) &&& 6148914691236517205)).toUInt64 >>> ((2 : Int32).toInt64.toUInt64 &&& Int64.toUInt64 63)).toInt64) &&& 3689348814741910323)) + (((((x - (((x.toUInt64 >>> ((1 : Int32).toInt64.toUInt64 &&& Int64.toUInt64 63)).toInt64) &&& 6148914691236517205)) &&& 3689348814741910323) + ((((x - (((x.toUInt64 >>> ((1 : Int32).toInt64.toUInt64 &&& Int64.toUInt64 63)).toInt64) &&& 6148914691236517205)).toUInt64 >>> ((2 : Int32).toInt64.toUInt64 &&& Int64.toUInt64 63)).toInt64) &&& 3689348814741910323)).toUInt64 >>> ((4 : Int32).toInt64.toUInt64 &&& Int64.toUInt64 63)).toInt64)) &&& 1085102592571150095) + (((((((x - (((x.toUInt64 >>> ((1 : Int32).toInt64.toUInt64 &&& Int64.toUInt64 63)).toInt64) &&& 6148914691236517205)) &&& 3689348814741910323) + ((((x - (((x.toUInt64 >>> ((1 : Int32).toInt64.toUInt64 &&& Int64.toUInt64 63)).toInt64) &&& 6148914691236517205)).toUInt64 >>> ((2 : Int32).toInt64.toUInt64 &&& Int64.toUInt64 63)).toInt64) &&& 3689348814741910323)) + (((((x - (((x.toUInt64 >>> ((1 : Int32).toInt64.toUInt64 &&& Int64.toUInt64 63)).toInt64) &&& 6148914691236517205)) &&& 3689348814741910323) + ((((x - (((x.toUInt64 >>> ((1 : Int32).toInt64.toUInt64 &&& Int64.toUInt64 63)).toInt64) &&& 6148914691236517205)).toUInt64 >>> ((2 : Int32).toInt64.toUInt64 &&& Int64.toUInt64 63)).toInt64) &&& 3689348814741910323)).toUInt64 >>> ((4 : Int32).toInt64.toUInt64 &&& Int64.toUInt64 63)).toInt64)) &&& 1085102592571150095).toUInt64 >>> ((8 : Int32).toInt64.toUInt64 &&& Int64.toUInt64 63)).toInt64)) + ((((((((x - (((x.toUInt64 >>> ((1 : Int32).toInt64.toUInt64 &&& Int64.toUInt64 63)).toInt64) &&& 6148914691236517205)) &&& 3689348814741910323) + ((((x - (((x.toUInt64 >>> ((1 : Int32).toInt64.toUInt64 &&& Int64.toUInt64 63)).toInt64) &&& 6148914691236517205)).toUInt64 >>> ((2 : Int32).toInt64.toUInt64 &&& Int64.toUInt64 63)).toInt64) &&& 3689348814741910323)) + (((((x - (((x.toUInt64 >>> ((1 : Int32).toInt64.toUInt64 &&& Int64.toUInt64 63)).toInt64) &&& 6148914691236517205)) &&& 3689348814741910323) + ((((x - (((x.toUInt64 >>> ((1 : Int32).toInt64.toUInt64 &&& Int64.toUInt64 63)).toInt64) &&& 6148914691236517205)).toUInt64 >>> ((2 : Int32).toInt64.toUInt64 &&& Int64.toUInt64 63)).toInt64) &&& 3689348814741910323)).toUInt64 >>> ((4 : Int32).toInt64.toUInt64 &&& Int64.toUInt64 63)).toInt64)) &&& 1085102592571150095) + (((((((x - (((x.toUInt64 >>> ((1 : Int32).toInt64.toUInt64 &&& Int64.toUInt64 63)).toInt64) &&& 6148914691236517205)) &&& 3689348814741910323) + ((((x - (((x.toUInt64 >>> ((1 : Int32).toInt64.toUInt64 &&& Int64.toUInt64 63)).toInt64) &&& 6148914691236517205)).toUInt64 >>> ((2 : Int32).toInt64.toUInt64 &&& Int64.toUInt64 63)).toInt64) &&& 3689348814741910323)) + (((((x - (((x.toUInt64 >>> ((1 : Int32).toInt64.toUInt64 &&& Int64.toUInt64 63)).toInt64) &&& 6148914691236517205)) &&& 3689348814741910323) + ((((x - (((x.toUInt64 >>> ((1 : Int32).toInt64.toUInt64 &&& Int64.toUInt64 63)).toInt64) &&& 6148914691236517205)).toUInt64 >>> ((2 : Int32).toInt64.toUInt64 &&& Int64.toUInt64 63)).toInt64) &&& 3689348814741910323)).toUInt64 >>> ((4 : Int32).toInt64.toUInt64 &&& Int64.toUInt64 63)).toInt64)) &&& 1085102592571150095).toUInt64 >>> ((8 : Int32).toInt64.toUInt64 &&& Int64.toUInt64 63)).toInt64)).toUInt64 >>> ((16 : Int32).toInt64.toUInt64 &&& Int64.toUInt64 63)).toInt64)) + (((((((((x - (((x.toUInt64 >>> ((1 : Int32).toInt64.toUInt64 &&& Int64.toUInt64 63)).toInt64) &&& 6148914691236517205)) &&& 3689348814741910323) + ((((x - (((x.toUInt64 >>> ((1 : Int32).toInt64.toUInt64 &&& Int64.toUInt64 63)).toInt64) &&& 6148914691236517205)).toUInt64 >>> ((2 : Int32).toInt64.toUInt64 &&& Int64.toUInt64 63)).toInt64) &&& 3689348814741910323)) + (((((x - (((x.toUInt64 >>> ((1 : Int32).toInt64.toUInt64 &&& Int64.toUInt64 63)).toInt64) &&& 6148914691236517205)) &&& 3689348814741910323) + ((((x - (((x.toUInt64 >>> ((1 : Int32).toInt64.toUInt64 &&& Int64.toUInt64 63)).toInt64) &&& 6148914691236517205)).toUInt64 >>> ((2 : Int32).toInt64.toUInt64 &&& Int64.toUInt64 63)).toInt64) &&& 3689348814741910323)).toUInt64 >>> ((4 : Int32).toInt64.toUInt64 &&& Int64.toUInt64 63)).toInt64)) &&& 1085102592571150095) + (((((((x - (((x.toUInt64 >>> ((1 : Int32).toInt64.toUInt64 &&& Int64.toUInt64 63)).toInt64) &&& 6148914691236517205)) &&& 3689348814741910323) + ((((x - (((x.toUInt64 >>> ((1 : Int32).toInt64.toUInt64 &&& Int64.toUInt64 63)).toInt64) &&& 6148914691236517205)).toUInt64 >>> ((2 : Int32).toInt64.toUInt64 &&& Int64.toUInt64 63)).toInt64) &&& 3689348814741910323)) + (((((x - (((x.toUInt64 >>> ((1 : Int32).toInt64.toUInt64 &&& Int64.toUInt64 63)).toInt64) &&& 6148914691236517205)) &&& 3689348814741910323) + ((((x - (((x.toUInt64 >>> ((1 : Int32).toInt64.toUInt64 &&& Int64.toUInt64 63)).toInt64) &&& 6148914691236517205)).toUInt64 >>> ((2 : Int32).toInt64.toUInt64 &&& Int64.toUInt64 63)).toInt64) &&& 3689348814741910323)).toUInt64 >>> ((4 : Int32).toInt64.toUInt64 &&& Int64.toUInt64 63)).toInt64)) &&& 1085102592571150095).toUInt64 >>> ((8 : Int32).toInt64.toUInt64 &&& Int64.toUInt64 63)).toInt64)) + ((((((((x - (((x.toUInt64 >>> ((1 : Int32).toInt64.toUInt64 &&& Int64.toUInt64 63)).toInt64) &&& 6148914691236517205)) &&& 3689348814741910323) + ((((x - (((x.toUInt64 >>> ((1 : Int32).toInt64.toUInt64 &&& Int64.toUInt64 63)).toInt64) &&& 6148914691236517205)).toUInt64 >>> ((2 : Int32).toInt64.toUInt64 &&& Int64.toUInt64 63)).toInt64) &&& 3689348814741910323)) + (((((x - (((x.toUInt64 >>> ((1 : Int32).toInt64.toUInt64 &&& Int64.toUInt64 63)).toInt64) &&& 6148914691236517205)) &&& 3689348814741910323) + ((((x - (((x.toUInt64 >>> ((1 : Int32).toInt64.toUInt64 &&& Int64.toUInt64 63)).toInt64) &&& 6148914691236517205)).toUInt64 >>> ((2 : Int32).toInt64.toUInt64 &&& Int64.toUInt64 63)).toInt64) &&& 3689348814741910323)).toUInt64 >>> ((4 : Int32).toInt64.toUInt64 &&& Int64.toUInt64 63)).toInt64)) &&& 1085102592571150095) + (((((((x - (((x.toUInt64 >>> ((1 : Int32).toInt64.toUInt64 &&& Int64.toUInt64 63)).toInt64) &&& 6148914691236517205)) &&& 3689348814741910323) + ((((x - (((x.toUInt64 >>> ((1 : Int32).toInt64.toUInt64 &&& Int64.toUInt64 63)).toInt64) &&& 6148914691236517205)).toUInt64 >>> ((2 : Int32).toInt64.toUInt64 &&& Int64.toUInt64 63)).toInt64) &&& 3689348814741910323)) + (((((x - (((x.toUInt64 >>> ((1 : Int32).toInt64.toUInt64 &&& Int64.toUInt64 63)).toInt64) &&& 6148914691236517205)) &&& 3689348814741910323) + ((((x - (((x.toUInt64 >>> ((1 : Int32).toInt64.toUInt64 &&& Int64.toUInt64 63)).toInt64) &&& 6148914691236517205)).toUInt64 >>> ((2 : Int32).toInt64.toUInt64 &&& Int64.toUInt64 63)).toInt64) &&& 3689348814741910323)).toUInt64 >>> ((4 : Int32).toInt64.toUInt64 &&& Int64.toUInt64 63)).toInt64)) &&& 1085102592571150095).toUInt64 >>> ((8 : Int32).toInt64.toUInt64 &&& Int64.toUInt64 63)).toInt64)).toUInt64 >>> ((16 : Int32).toInt64.toUInt64 &&& Int64.toUInt64 63)).toInt64)).toUInt64 >>> ((32 : Int32).toInt64.toUInt64 &&& Int64.toUInt64 63)).toInt64)).toInt32) &&& 127) hx hb hr (fun t ht hW => ⟨_, rfl, rfl, ht⟩) (fun _ h => nomatch h) dJ13_bitCount_95d88_60
set_option maxHeartbeats 4000000 in
set_option maxRecDepth 100000 in
theorem c_X5_applySingle (l : Launch) (o : Int32) (w : Int32) (a : Int64) : Met l yX5_applySingle wsX5_applySingle ({ frames := 1, cells := 0, slots := 0, locals := 25 }) (va_Pc [.int o, .int w, .long a] (fun _ => True)) (vp_Sl (fun rz => rz = n_single o w a)) 0 0 (fun _ => False) := by
  refine Met.ofW (cc := cX5_applySingle) (maxL := 6) (ret := (some .long)) (by decide) rfl ?_
  intro p e s m args below meth c s₁ Bd hml hv
  obtain ⟨rfl, -⟩ := hv
  have hx := Bd.exec
  have hb := Bd.bytes
  have hr := Bd.returns
  have hts := atoms_spec (ws := wsX5_applySingle) Bd.pre
  have hown : s.vm.findClass RX5 = some m.cls := findClass_of_methodNamed Bd.named
  have hlocks := Bd.notSynchronized
  have hl := lv_entry ([.int o, .int w, .long a]) (n := 6) (Nat.le_of_ble_eq_true rfl)
  rw [lg_entry_eq]
  generalize (lg_sl ([.int o, .int w, .long a]) ++ List.replicate (6 - (lg_sl ([.int o, .int w, .long a])).length) Slot.unset).toArray = ls at hl ⊢
  have hl : lv_has ls 6 [(0, .int o), (1, .int w), (2, .long a)] := hl
  refine lv_iload_n hx hb dX5_applySingle_0 rfl (lv_at hl 0 rfl) ?_
  by_cases e_1 : o = 10
  · refine lv_tableIn (off := 43) (tgt := 44) hx hb dX5_applySingle_1 (by rw [e_1]; decide) (by rw [e_1]; decide) (by rw [e_1]; rfl) (by decide) ?_
    refine lv_lload_n hx hb dX5_applySingle_44 rfl (lv_at hl 2 rfl) ?_
    refine lv_lconst (v := 0) hx hb dX5_applySingle_45 (by decide) ?_
    refine W.lcmp hx hb dX5_applySingle_46 ?_
    refine lv_if_ge (tgt := 55) hx hb dX5_applySingle_47 (by decide) (fun c_2 => ?_) (fun c_2 => ?_)
    · have c_2 := (lg_cmp_ge _ _).mp c_2
      refine lv_lload_n hx hb dX5_applySingle_55 rfl (lv_at hl 2 rfl) ?_
      refine lv_lstore (lv' := [(4, .long a), (0, .int o), (1, .int w), (2, .long a)]) hx hb dX5_applySingle_56 hl (by decide) rfl (fun ls hl => ?_)
      refine lv_goto (tgt := 154) hx hb dX5_applySingle_58 (by decide) ?_
      refine lv_iload_n hx hb dX5_applySingle_154 rfl (lv_at hl 2 rfl) ?_
      refine lv_if_eq (tgt := 163) hx hb dX5_applySingle_155 (by decide) (fun c_3 => ?_) (fun c_3 => ?_)
      · skip
        refine lv_lload hx hb dX5_applySingle_163 (lv_at hl 0 rfl) ?_
        refine lv_l2i (v := a.toInt32) hx hb dX5_applySingle_165 rfl ?_
        refine lv_i2l (v := a.toInt32.toInt64) hx hb dX5_applySingle_166 rfl ?_
        exact W.lret (v := a.toInt32.toInt64) hx hb hr (fun t ht hW => ⟨_, rfl, (by first | rfl | (simp [n_single, n_one, lg_cmp_eq, lg_cmp_lt, lg_cmp_le, lg_cmp_gt, lg_cmp_ge, e_1, c_2, c_3]; done) | (simp_all [n_single, n_one, lg_cmp_eq, lg_cmp_lt, lg_cmp_le, lg_cmp_gt, lg_cmp_ge]; done) | (unfold n_single; (repeat split) <;> simp_all; done)), ht⟩) (fun _ h => nomatch h) dX5_applySingle_167
      · skip
        refine lv_lload hx hb dX5_applySingle_158 (lv_at hl 0 rfl) ?_
        refine lv_goto (tgt := 167) hx hb dX5_applySingle_160 (by decide) ?_
        exact W.lret (v := a) hx hb hr (fun t ht hW => ⟨_, rfl, (by first | rfl | (simp [n_single, n_one, lg_cmp_eq, lg_cmp_lt, lg_cmp_le, lg_cmp_gt, lg_cmp_ge, e_1, c_2, c_3]; done) | (simp_all [n_single, n_one, lg_cmp_eq, lg_cmp_lt, lg_cmp_le, lg_cmp_gt, lg_cmp_ge]; done) | (unfold n_single; (repeat split) <;> simp_all; done)), ht⟩) (fun _ h => nomatch h) dX5_applySingle_167
    · have c_2 := mt (lg_cmp_ge _ _).mpr c_2
      refine lv_lload_n hx hb dX5_applySingle_50 rfl (lv_at hl 2 rfl) ?_
      refine lv_lneg hx hb dX5_applySingle_51 ?_
      refine lv_goto (tgt := 56) hx hb dX5_applySingle_52 (by decide) ?_
      refine lv_lstore (lv' := [(4, .long (-a)), (0, .int o), (1, .int w), (2, .long a)]) hx hb dX5_applySingle_56 hl (by decide) rfl (fun ls hl => ?_)
      refine lv_goto (tgt := 154) hx hb dX5_applySingle_58 (by decide) ?_
      refine lv_iload_n hx hb dX5_applySingle_154 rfl (lv_at hl 2 rfl) ?_
      refine lv_if_eq (tgt := 163) hx hb dX5_applySingle_155 (by decide) (fun c_4 => ?_) (fun c_4 => ?_)
      · skip
        refine lv_lload hx hb dX5_applySingle_163 (lv_at hl 0 rfl) ?_
        refine lv_l2i (v := (-a).toInt32) hx hb dX5_applySingle_165 rfl ?_
        refine lv_i2l (v := ((-a).toInt32).toInt64) hx hb dX5_applySingle_166 rfl ?_
        exact W.lret (v := ((-a).toInt32).toInt64) hx hb hr (fun t ht hW => ⟨_, rfl, (by first | rfl | (simp [n_single, n_one, lg_cmp_eq, lg_cmp_lt, lg_cmp_le, lg_cmp_gt, lg_cmp_ge, e_1, c_2, c_4]; done) | (simp_all [n_single, n_one, lg_cmp_eq, lg_cmp_lt, lg_cmp_le, lg_cmp_gt, lg_cmp_ge]; done) | (unfold n_single; (repeat split) <;> simp_all; done)), ht⟩) (fun _ h => nomatch h) dX5_applySingle_167
      · skip
        refine lv_lload hx hb dX5_applySingle_158 (lv_at hl 0 rfl) ?_
        refine lv_goto (tgt := 167) hx hb dX5_applySingle_160 (by decide) ?_
        exact W.lret (v := -a) hx hb hr (fun t ht hW => ⟨_, rfl, (by first | rfl | (simp [n_single, n_one, lg_cmp_eq, lg_cmp_lt, lg_cmp_le, lg_cmp_gt, lg_cmp_ge, e_1, c_2, c_4]; done) | (simp_all [n_single, n_one, lg_cmp_eq, lg_cmp_lt, lg_cmp_le, lg_cmp_gt, lg_cmp_ge]; done) | (unfold n_single; (repeat split) <;> simp_all; done)), ht⟩) (fun _ h => nomatch h) dX5_applySingle_167
  by_cases e_5 : o = 12
  · refine lv_tableIn (off := 60) (tgt := 61) hx hb dX5_applySingle_1 (by rw [e_5]; decide) (by rw [e_5]; decide) (by rw [e_5]; rfl) (by decide) ?_
    refine lv_iload_n hx hb dX5_applySingle_61 rfl (lv_at hl 1 rfl) ?_
    refine lv_if_eq (tgt := 73) hx hb dX5_applySingle_62 (by decide) (fun c_6 => ?_) (fun c_6 => ?_)
    · skip
      refine lv_lload_n hx hb dX5_applySingle_73 rfl (lv_at hl 2 rfl) ?_
      refine lv_l2i (v := a.toInt32) hx hb dX5_applySingle_74 rfl ?_
      refine vp_callSi (W.runS (As := [.int a.toInt32]) (rest := []) ⟨hx, hb, hml, hown, hts⟩ (c_J6_bitCount_0f7a4 l a.toInt32) (va_cwS 1 hts gX5_applySingle_J6_bitCount_0f7a4 rfl rfl rfl (by decide +kernel) ⟨Nat.le_of_ble_eq_true rfl, Nat.le_of_ble_eq_true rfl⟩) ⟨fun _ _ _ _ q => q, fun _ _ _ => ⟨rfl, trivial⟩⟩ rfl rfl hl.1 rfl (lv_room (Nat.le_of_ble_eq_true rfl)) dX5_applySingle_75 ⟨Nat.le_of_ble_eq_true rfl, Nat.le_of_ble_eq_true rfl⟩) (fun r_7 h_8 => ?_)
      subst h_8
      refine lv_i2l (v := (n_ones32 a.toInt32).toInt64) hx hb dX5_applySingle_78 rfl ?_
      refine lv_lstore (lv' := [(4, .long ((n_ones32 a.toInt32).toInt64)), (0, .int o), (1, .int w), (2, .long a)]) hx hb dX5_applySingle_79 hl (by decide) rfl (fun ls hl => ?_)
      refine lv_goto (tgt := 154) hx hb dX5_applySingle_81 (by decide) ?_
      refine lv_iload_n hx hb dX5_applySingle_154 rfl (lv_at hl 2 rfl) ?_
      refine lv_if_eq (tgt := 163) hx hb dX5_applySingle_155 (by decide) (fun c_9 => ?_) (fun c_9 => ?_)
      · skip
        refine lv_lload hx hb dX5_applySingle_163 (lv_at hl 0 rfl) ?_
        refine lv_l2i (v := ((n_ones32 a.toInt32).toInt64).toInt32) hx hb dX5_applySingle_165 rfl ?_
        refine lv_i2l (v := (((n_ones32 a.toInt32).toInt64).toInt32).toInt64) hx hb dX5_applySingle_166 rfl ?_
        exact W.lret (v := (((n_ones32 a.toInt32).toInt64).toInt32).toInt64) hx hb hr (fun t ht hW => ⟨_, rfl, (by first | rfl | (simp [n_single, n_one, lg_cmp_eq, lg_cmp_lt, lg_cmp_le, lg_cmp_gt, lg_cmp_ge, e_1, e_5, c_6, c_9]; done) | (simp_all [n_single, n_one, lg_cmp_eq, lg_cmp_lt, lg_cmp_le, lg_cmp_gt, lg_cmp_ge]; done) | (unfold n_single; (repeat split) <;> simp_all; done)), ht⟩) (fun _ h => nomatch h) dX5_applySingle_167
      · exact absurd c_6 c_9
    · skip
      refine lv_lload_n hx hb dX5_applySingle_65 rfl (lv_at hl 2 rfl) ?_
      refine vp_callSi (W.runS (As := [.long a]) (rest := []) ⟨hx, hb, hml, hown, hts⟩ (c_J13_bitCount_95d88 l a) (va_cwS 1 hts gX5_applySingle_J13_bitCount_95d88 rfl rfl rfl (by decide +kernel) ⟨Nat.le_of_ble_eq_true rfl, Nat.le_of_ble_eq_true rfl⟩) ⟨fun _ _ _ _ q => q, fun _ _ _ => ⟨rfl, trivial⟩⟩ rfl rfl hl.1 rfl (lv_room (Nat.le_of_ble_eq_true rfl)) dX5_applySingle_66 ⟨Nat.le_of_ble_eq_true rfl, Nat.le_of_ble_eq_true rfl⟩) (fun r_10 h_11 => ?_)
      subst h_11
      refine lv_i2l (v := (n_ones64 a).toInt64) hx hb dX5_applySingle_69 rfl ?_
      refine lv_goto (tgt := 79) hx hb dX5_applySingle_70 (by decide) ?_
      refine lv_lstore (lv' := [(4, .long ((n_ones64 a).toInt64)), (0, .int o), (1, .int w), (2, .long a)]) hx hb dX5_applySingle_79 hl (by decide) rfl (fun ls hl => ?_)
      refine lv_goto (tgt := 154) hx hb dX5_applySingle_81 (by decide) ?_
      refine lv_iload_n hx hb dX5_applySingle_154 rfl (lv_at hl 2 rfl) ?_
      refine lv_if_eq (tgt := 163) hx hb dX5_applySingle_155 (by decide) (fun c_12 => ?_) (fun c_12 => ?_)
      · exact absurd c_12 c_6
      · skip
        refine lv_lload hx hb dX5_applySingle_158 (lv_at hl 0 rfl) ?_
        refine lv_goto (tgt := 167) hx hb dX5_applySingle_160 (by decide) ?_
        exact W.lret (v := (n_ones64 a).toInt64) hx hb hr (fun t ht hW => ⟨_, rfl, (by first | rfl | (simp [n_single, n_one, lg_cmp_eq, lg_cmp_lt, lg_cmp_le, lg_cmp_gt, lg_cmp_ge, e_1, e_5, c_6, c_12]; done) | (simp_all [n_single, n_one, lg_cmp_eq, lg_cmp_lt, lg_cmp_le, lg_cmp_gt, lg_cmp_ge]; done) | (unfold n_single; (repeat split) <;> simp_all; done)), ht⟩) (fun _ h => nomatch h) dX5_applySingle_167
  by_cases e_13 : o = 13
  · refine lv_tableIn (off := 83) (tgt := 84) hx hb dX5_applySingle_1 (by rw [e_13]; decide) (by rw [e_13]; decide) (by rw [e_13]; rfl) (by decide) ?_
    refine lv_iload_n hx hb dX5_applySingle_84 rfl (lv_at hl 1 rfl) ?_
    refine lv_if_eq (tgt := 93) hx hb dX5_applySingle_85 (by decide) (fun c_14 => ?_) (fun c_14 => ?_)
    · skip
      refine lv_bipush (v := 32) hx hb dX5_applySingle_93 (by decide) ?_
      refine lv_lload_n hx hb dX5_applySingle_95 rfl (lv_at hl 2 rfl) ?_
      refine vp_callSl (W.runS (As := [.int 32, .long a]) (rest := []) ⟨hx, hb, hml, hown, hts⟩ (c_X5_lead l 32 (by omega) a) (va_cwS 2 hts gX5_applySingle_X5_lead rfl rfl rfl (by decide +kernel) ⟨Nat.le_of_ble_eq_true rfl, Nat.le_of_ble_eq_true rfl⟩) ⟨fun _ _ _ _ q => q, fun _ _ _ => ⟨rfl, trivial⟩⟩ rfl rfl hl.1 rfl (lv_room (Nat.le_of_ble_eq_true rfl)) dX5_applySingle_96 ⟨Nat.le_of_ble_eq_true rfl, Nat.le_of_ble_eq_true rfl⟩) (fun r_15 h_16 => ?_)
      subst h_16
      refine lv_lstore (lv' := [(4, .long ((nI (n_ld a 32 32 0)).toInt64)), (0, .int o), (1, .int w), (2, .long a)]) hx hb dX5_applySingle_99 hl (by decide) rfl (fun ls hl => ?_)
      refine lv_goto (tgt := 154) hx hb dX5_applySingle_101 (by decide) ?_
      refine lv_iload_n hx hb dX5_applySingle_154 rfl (lv_at hl 2 rfl) ?_
      refine lv_if_eq (tgt := 163) hx hb dX5_applySingle_155 (by decide) (fun c_17 => ?_) (fun c_17 => ?_)
      · skip
        refine lv_lload hx hb dX5_applySingle_163 (lv_at hl 0 rfl) ?_
        refine lv_l2i (v := ((nI (n_ld a 32 32 0)).toInt64).toInt32) hx hb dX5_applySingle_165 rfl ?_
        refine lv_i2l (v := (((nI (n_ld a 32 32 0)).toInt64).toInt32).toInt64) hx hb dX5_applySingle_166 rfl ?_
        exact W.lret (v := (((nI (n_ld a 32 32 0)).toInt64).toInt32).toInt64) hx hb hr (fun t ht hW => ⟨_, rfl, (by first | rfl | (simp [n_single, n_one, lg_cmp_eq, lg_cmp_lt, lg_cmp_le, lg_cmp_gt, lg_cmp_ge, e_1, e_5, e_13, c_14, c_17]; done) | (simp_all [n_single, n_one, lg_cmp_eq, lg_cmp_lt, lg_cmp_le, lg_cmp_gt, lg_cmp_ge]; done) | (unfold n_single; (repeat split) <;> simp_all; done)), ht⟩) (fun _ h => nomatch h) dX5_applySingle_167
      · exact absurd c_14 c_17
    · skip
      refine lv_bipush (v := 64) hx hb dX5_applySingle_88 (by decide) ?_
      refine lv_goto (tgt := 95) hx hb dX5_applySingle_90 (by decide) ?_
      refine lv_lload_n hx hb dX5_applySingle_95 rfl (lv_at hl 2 rfl) ?_
      refine vp_callSl (W.runS (As := [.int 64, .long a]) (rest := []) ⟨hx, hb, hml, hown, hts⟩ (c_X5_lead l 64 (by omega) a) (va_cwS 2 hts gX5_applySingle_X5_lead rfl rfl rfl (by decide +kernel) ⟨Nat.le_of_ble_eq_true rfl, Nat.le_of_ble_eq_true rfl⟩) ⟨fun _ _ _ _ q => q, fun _ _ _ => ⟨rfl, trivial⟩⟩ rfl rfl hl.1 rfl (lv_room (Nat.le_of_ble_eq_true rfl)) dX5_applySingle_96 ⟨Nat.le_of_ble_eq_true rfl, Nat.le_of_ble_eq_true rfl⟩) (fun r_18 h_19 => ?_)
      subst h_19
      refine lv_lstore (lv' := [(4, .long ((nI (n_ld a 64 64 0)).toInt64)), (0, .int o), (1, .int w), (2, .long a)]) hx hb dX5_applySingle_99 hl (by decide) rfl (fun ls hl => ?_)
      refine lv_goto (tgt := 154) hx hb dX5_applySingle_101 (by decide) ?_
      refine lv_iload_n hx hb dX5_applySingle_154 rfl (lv_at hl 2 rfl) ?_
      refine lv_if_eq (tgt := 163) hx hb dX5_applySingle_155 (by decide) (fun c_20 => ?_) (fun c_20 => ?_)
      · exact absurd c_20 c_14
      · skip
        refine lv_lload hx hb dX5_applySingle_158 (lv_at hl 0 rfl) ?_
        refine lv_goto (tgt := 167) hx hb dX5_applySingle_160 (by decide) ?_
        exact W.lret (v := (nI (n_ld a 64 64 0)).toInt64) hx hb hr (fun t ht hW => ⟨_, rfl, (by first | rfl | (simp [n_single, n_one, lg_cmp_eq, lg_cmp_lt, lg_cmp_le, lg_cmp_gt, lg_cmp_ge, e_1, e_5, e_13, c_14, c_20]; done) | (simp_all [n_single, n_one, lg_cmp_eq, lg_cmp_lt, lg_cmp_le, lg_cmp_gt, lg_cmp_ge]; done) | (unfold n_single; (repeat split) <;> simp_all; done)), ht⟩) (fun _ h => nomatch h) dX5_applySingle_167
  by_cases e_21 : o = 14
  · refine lv_tableIn (off := 103) (tgt := 104) hx hb dX5_applySingle_1 (by rw [e_21]; decide) (by rw [e_21]; decide) (by rw [e_21]; rfl) (by decide) ?_
    refine lv_lload_n hx hb dX5_applySingle_104 rfl (lv_at hl 2 rfl) ?_
    refine lv_lneg hx hb dX5_applySingle_105 ?_
    refine lv_lstore (lv' := [(4, .long (-a)), (0, .int o), (1, .int w), (2, .long a)]) hx hb dX5_applySingle_106 hl (by decide) rfl (fun ls hl => ?_)
    refine lv_goto (tgt := 154) hx hb dX5_applySingle_108 (by decide) ?_
    refine lv_iload_n hx hb dX5_applySingle_154 rfl (lv_at hl 2 rfl) ?_
    refine lv_if_eq (tgt := 163) hx hb dX5_applySingle_155 (by decide) (fun c_22 => ?_) (fun c_22 => ?_)
    · skip
      refine lv_lload hx hb dX5_applySingle_163 (lv_at hl 0 rfl) ?_
      refine lv_l2i (v := (-a).toInt32) hx hb dX5_applySingle_165 rfl ?_
      refine lv_i2l (v := ((-a).toInt32).toInt64) hx hb dX5_applySingle_166 rfl ?_
      exact W.lret (v := ((-a).toInt32).toInt64) hx hb hr (fun t ht hW => ⟨_, rfl, (by first | rfl | (simp [n_single, n_one, lg_cmp_eq, lg_cmp_lt, lg_cmp_le, lg_cmp_gt, lg_cmp_ge, e_1, e_5, e_13, e_21, c_22]; done) | (simp_all [n_single, n_one, lg_cmp_eq, lg_cmp_lt, lg_cmp_le, lg_cmp_gt, lg_cmp_ge]; done) | (unfold n_single; (repeat split) <;> simp_all; done)), ht⟩) (fun _ h => nomatch h) dX5_applySingle_167
    · skip
      refine lv_lload hx hb dX5_applySingle_158 (lv_at hl 0 rfl) ?_
      refine lv_goto (tgt := 167) hx hb dX5_applySingle_160 (by decide) ?_
      exact W.lret (v := -a) hx hb hr (fun t ht hW => ⟨_, rfl, (by first | rfl | (simp [n_single, n_one, lg_cmp_eq, lg_cmp_lt, lg_cmp_le, lg_cmp_gt, lg_cmp_ge, e_1, e_5, e_13, e_21, c_22]; done) | (simp_all [n_single, n_one, lg_cmp_eq, lg_cmp_lt, lg_cmp_le, lg_cmp_gt, lg_cmp_ge]; done) | (unfold n_single; (repeat split) <;> simp_all; done)), ht⟩) (fun _ h => nomatch h) dX5_applySingle_167
  by_cases e_23 : o = 15
  · refine lv_tableIn (off := 110) (tgt := 111) hx hb dX5_applySingle_1 (by rw [e_23]; decide) (by rw [e_23]; decide) (by rw [e_23]; rfl) (by decide) ?_
    refine lv_lload_n hx hb dX5_applySingle_111 rfl (lv_at hl 2 rfl) ?_
    refine lv_ldc2 (v := -1) hx hb hown (hts (.constantLong RX5 51 (-1)) (by decide +kernel)) dX5_applySingle_112 ?_
    refine lv_lxor hx hb dX5_applySingle_115 ?_
    refine lv_lstore (lv' := [(4, .long (a ^^^ (-1))), (0, .int o), (1, .int w), (2, .long a)]) hx hb dX5_applySingle_116 hl (by decide) rfl (fun ls hl => ?_)
    refine lv_goto (tgt := 154) hx hb dX5_applySingle_118 (by decide) ?_
    refine lv_iload_n hx hb dX5_applySingle_154 rfl (lv_at hl 2 rfl) ?_
    refine lv_if_eq (tgt := 163) hx hb dX5_applySingle_155 (by decide) (fun c_24 => ?_) (fun c_24 => ?_)
    · skip
      refine lv_lload hx hb dX5_applySingle_163 (lv_at hl 0 rfl) ?_
      refine lv_l2i (v := (a ^^^ (-1)).toInt32) hx hb dX5_applySingle_165 rfl ?_
      refine lv_i2l (v := ((a ^^^ (-1)).toInt32).toInt64) hx hb dX5_applySingle_166 rfl ?_
      exact W.lret (v := ((a ^^^ (-1)).toInt32).toInt64) hx hb hr (fun t ht hW => ⟨_, rfl, (by first | rfl | (simp [n_single, n_one, lg_cmp_eq, lg_cmp_lt, lg_cmp_le, lg_cmp_gt, lg_cmp_ge, e_1, e_5, e_13, e_21, e_23, c_24]; done) | (simp_all [n_single, n_one, lg_cmp_eq, lg_cmp_lt, lg_cmp_le, lg_cmp_gt, lg_cmp_ge]; done) | (unfold n_single; (repeat split) <;> simp_all; done)), ht⟩) (fun _ h => nomatch h) dX5_applySingle_167
    · skip
      refine lv_lload hx hb dX5_applySingle_158 (lv_at hl 0 rfl) ?_
      refine lv_goto (tgt := 167) hx hb dX5_applySingle_160 (by decide) ?_
      exact W.lret (v := a ^^^ (-1)) hx hb hr (fun t ht hW => ⟨_, rfl, (by first | rfl | (simp [n_single, n_one, lg_cmp_eq, lg_cmp_lt, lg_cmp_le, lg_cmp_gt, lg_cmp_ge, e_1, e_5, e_13, e_21, e_23, c_24]; done) | (simp_all [n_single, n_one, lg_cmp_eq, lg_cmp_lt, lg_cmp_le, lg_cmp_gt, lg_cmp_ge]; done) | (unfold n_single; (repeat split) <;> simp_all; done)), ht⟩) (fun _ h => nomatch h) dX5_applySingle_167
  by_cases e_25 : o = 16
  · refine lv_tableIn (off := 120) (tgt := 121) hx hb dX5_applySingle_1 (by rw [e_25]; decide) (by rw [e_25]; decide) (by rw [e_25]; rfl) (by decide) ?_
    refine lv_lload_n hx hb dX5_applySingle_121 rfl (lv_at hl 2 rfl) ?_
    refine lv_lconst (v := 0) hx hb dX5_applySingle_122 (by decide) ?_
    refine W.lcmp hx hb dX5_applySingle_123 ?_
    refine lv_if_ne (tgt := 131) hx hb dX5_applySingle_124 (by decide) (fun c_26 => ?_) (fun c_26 => ?_)
    · have c_26 := mt (lg_cmp_eq _ _).mpr c_26
      refine lv_lconst (v := 0) hx hb dX5_applySingle_131 (by decide) ?_
      refine lv_lstore (lv' := [(4, .long 0), (0, .int o), (1, .int w), (2, .long a)]) hx hb dX5_applySingle_132 hl (by decide) rfl (fun ls hl => ?_)
      refine lv_goto (tgt := 154) hx hb dX5_applySingle_134 (by decide) ?_
      refine lv_iload_n hx hb dX5_applySingle_154 rfl (lv_at hl 2 rfl) ?_
      refine lv_if_eq (tgt := 163) hx hb dX5_applySingle_155 (by decide) (fun c_27 => ?_) (fun c_27 => ?_)
      · skip
        refine lv_lload hx hb dX5_applySingle_163 (lv_at hl 0 rfl) ?_
        refine lv_l2i (v := (0 : Int64).toInt32) hx hb dX5_applySingle_165 rfl ?_
        refine lv_i2l (v := ((0 : Int64).toInt32).toInt64) hx hb dX5_applySingle_166 rfl ?_
        exact W.lret (v := ((0 : Int64).toInt32).toInt64) hx hb hr (fun t ht hW => ⟨_, rfl, (by first | rfl | (simp [n_single, n_one, lg_cmp_eq, lg_cmp_lt, lg_cmp_le, lg_cmp_gt, lg_cmp_ge, e_1, e_5, e_13, e_21, e_23, e_25, c_26, c_27]; done) | (simp_all [n_single, n_one, lg_cmp_eq, lg_cmp_lt, lg_cmp_le, lg_cmp_gt, lg_cmp_ge]; done) | (unfold n_single; (repeat split) <;> simp_all; done)), ht⟩) (fun _ h => nomatch h) dX5_applySingle_167
      · skip
        refine lv_lload hx hb dX5_applySingle_158 (lv_at hl 0 rfl) ?_
        refine lv_goto (tgt := 167) hx hb dX5_applySingle_160 (by decide) ?_
        exact W.lret (v := 0) hx hb hr (fun t ht hW => ⟨_, rfl, (by first | rfl | (simp [n_single, n_one, lg_cmp_eq, lg_cmp_lt, lg_cmp_le, lg_cmp_gt, lg_cmp_ge, e_1, e_5, e_13, e_21, e_23, e_25, c_26, c_27]; done) | (simp_all [n_single, n_one, lg_cmp_eq, lg_cmp_lt, lg_cmp_le, lg_cmp_gt, lg_cmp_ge]; done) | (unfold n_single; (repeat split) <;> simp_all; done)), ht⟩) (fun _ h => nomatch h) dX5_applySingle_167
    · have c_26 := (lg_cmp_eq _ _).mp c_26
      refine lv_lconst (v := 1) hx hb dX5_applySingle_127 (by decide) ?_
      refine lv_goto (tgt := 132) hx hb dX5_applySingle_128 (by decide) ?_
      refine lv_lstore (lv' := [(4, .long 1), (0, .int o), (1, .int w), (2, .long a)]) hx hb dX5_applySingle_132 hl (by decide) rfl (fun ls hl => ?_)
      refine lv_goto (tgt := 154) hx hb dX5_applySingle_134 (by decide) ?_
      refine lv_iload_n hx hb dX5_applySingle_154 rfl (lv_at hl 2 rfl) ?_
      refine lv_if_eq (tgt := 163) hx hb dX5_applySingle_155 (by decide) (fun c_28 => ?_) (fun c_28 => ?_)
      · skip
        refine lv_lload hx hb dX5_applySingle_163 (lv_at hl 0 rfl) ?_
        refine lv_l2i (v := (1 : Int64).toInt32) hx hb dX5_applySingle_165 rfl ?_
        refine lv_i2l (v := ((1 : Int64).toInt32).toInt64) hx hb dX5_applySingle_166 rfl ?_
        exact W.lret (v := ((1 : Int64).toInt32).toInt64) hx hb hr (fun t ht hW => ⟨_, rfl, (by first | rfl | (simp [n_single, n_one, lg_cmp_eq, lg_cmp_lt, lg_cmp_le, lg_cmp_gt, lg_cmp_ge, e_1, e_5, e_13, e_21, e_23, e_25, c_26, c_28]; done) | (simp_all [n_single, n_one, lg_cmp_eq, lg_cmp_lt, lg_cmp_le, lg_cmp_gt, lg_cmp_ge]; done) | (unfold n_single; (repeat split) <;> simp_all; done)), ht⟩) (fun _ h => nomatch h) dX5_applySingle_167
      · skip
        refine lv_lload hx hb dX5_applySingle_158 (lv_at hl 0 rfl) ?_
        refine lv_goto (tgt := 167) hx hb dX5_applySingle_160 (by decide) ?_
        exact W.lret (v := 1) hx hb hr (fun t ht hW => ⟨_, rfl, (by first | rfl | (simp [n_single, n_one, lg_cmp_eq, lg_cmp_lt, lg_cmp_le, lg_cmp_gt, lg_cmp_ge, e_1, e_5, e_13, e_21, e_23, e_25, c_26, c_28]; done) | (simp_all [n_single, n_one, lg_cmp_eq, lg_cmp_lt, lg_cmp_le, lg_cmp_gt, lg_cmp_ge]; done) | (unfold n_single; (repeat split) <;> simp_all; done)), ht⟩) (fun _ h => nomatch h) dX5_applySingle_167
  refine lv_tableDef (tgt := 137) hx hb dX5_applySingle_1 (by decide) (fun off h1 h2 ho => by
    have hI : (o).toInt = 10 ∨ (o).toInt = 11 ∨ (o).toInt = 12 ∨ (o).toInt = 13 ∨ (o).toInt = 14 ∨ (o).toInt = 15 ∨ (o).toInt = 16 := by omega
    rcases hI with q | q | q | q | q | q | q
    · exact absurd (Int32.toInt_inj.mp (q.trans (by decide))) e_1
    · rw [q] at ho; simpa using ho
    · exact absurd (Int32.toInt_inj.mp (q.trans (by decide))) e_5
    · exact absurd (Int32.toInt_inj.mp (q.trans (by decide))) e_13
    · exact absurd (Int32.toInt_inj.mp (q.trans (by decide))) e_21
    · exact absurd (Int32.toInt_inj.mp (q.trans (by decide))) e_23
    · exact absurd (Int32.toInt_inj.mp (q.trans (by decide))) e_25) (by decide) ?_
  refine lv_iload_n hx hb dX5_applySingle_137 rfl (lv_at hl 1 rfl) ?_
  refine lv_if_eq (tgt := 146) hx hb dX5_applySingle_138 (by decide) (fun c_29 => ?_) (fun c_29 => ?_)
  · skip
    refine lv_bipush (v := 32) hx hb dX5_applySingle_146 (by decide) ?_
    refine lv_lload_n hx hb dX5_applySingle_148 rfl (lv_at hl 2 rfl) ?_
    refine vp_callSl (W.runS (As := [.int 32, .long a]) (rest := []) ⟨hx, hb, hml, hown, hts⟩ (c_X5_reverse l 32 (by omega) a) (va_cwS 2 hts gX5_applySingle_X5_reverse rfl rfl rfl (by decide +kernel) ⟨Nat.le_of_ble_eq_true rfl, Nat.le_of_ble_eq_true rfl⟩) ⟨fun _ _ _ _ q => q, fun _ _ _ => ⟨rfl, trivial⟩⟩ rfl rfl hl.1 rfl (lv_room (Nat.le_of_ble_eq_true rfl)) dX5_applySingle_149 ⟨Nat.le_of_ble_eq_true rfl, Nat.le_of_ble_eq_true rfl⟩) (fun r_30 h_31 => ?_)
    subst h_31
    refine lv_lstore (lv' := [(4, .long (n_rv a 32)), (0, .int o), (1, .int w), (2, .long a)]) hx hb dX5_applySingle_152 hl (by decide) rfl (fun ls hl => ?_)
    refine lv_iload_n hx hb dX5_applySingle_154 rfl (lv_at hl 2 rfl) ?_
    refine lv_if_eq (tgt := 163) hx hb dX5_applySingle_155 (by decide) (fun c_32 => ?_) (fun c_32 => ?_)
    · skip
      refine lv_lload hx hb dX5_applySingle_163 (lv_at hl 0 rfl) ?_
      refine lv_l2i (v := (n_rv a 32).toInt32) hx hb dX5_applySingle_165 rfl ?_
      refine lv_i2l (v := ((n_rv a 32).toInt32).toInt64) hx hb dX5_applySingle_166 rfl ?_
      exact W.lret (v := ((n_rv a 32).toInt32).toInt64) hx hb hr (fun t ht hW => ⟨_, rfl, (by first | rfl | (simp [n_single, n_one, lg_cmp_eq, lg_cmp_lt, lg_cmp_le, lg_cmp_gt, lg_cmp_ge, e_1, e_5, e_13, e_21, e_23, e_25, c_29, c_32]; done) | (simp_all [n_single, n_one, lg_cmp_eq, lg_cmp_lt, lg_cmp_le, lg_cmp_gt, lg_cmp_ge]; done) | (unfold n_single; (repeat split) <;> simp_all; done)), ht⟩) (fun _ h => nomatch h) dX5_applySingle_167
    · exact absurd c_29 c_32
  · skip
    refine lv_bipush (v := 64) hx hb dX5_applySingle_141 (by decide) ?_
    refine lv_goto (tgt := 148) hx hb dX5_applySingle_143 (by decide) ?_
    refine lv_lload_n hx hb dX5_applySingle_148 rfl (lv_at hl 2 rfl) ?_
    refine vp_callSl (W.runS (As := [.int 64, .long a]) (rest := []) ⟨hx, hb, hml, hown, hts⟩ (c_X5_reverse l 64 (by omega) a) (va_cwS 2 hts gX5_applySingle_X5_reverse rfl rfl rfl (by decide +kernel) ⟨Nat.le_of_ble_eq_true rfl, Nat.le_of_ble_eq_true rfl⟩) ⟨fun _ _ _ _ q => q, fun _ _ _ => ⟨rfl, trivial⟩⟩ rfl rfl hl.1 rfl (lv_room (Nat.le_of_ble_eq_true rfl)) dX5_applySingle_149 ⟨Nat.le_of_ble_eq_true rfl, Nat.le_of_ble_eq_true rfl⟩) (fun r_33 h_34 => ?_)
    subst h_34
    refine lv_lstore (lv' := [(4, .long (n_rv a 64)), (0, .int o), (1, .int w), (2, .long a)]) hx hb dX5_applySingle_152 hl (by decide) rfl (fun ls hl => ?_)
    refine lv_iload_n hx hb dX5_applySingle_154 rfl (lv_at hl 2 rfl) ?_
    refine lv_if_eq (tgt := 163) hx hb dX5_applySingle_155 (by decide) (fun c_35 => ?_) (fun c_35 => ?_)
    · exact absurd c_35 c_29
    · skip
      refine lv_lload hx hb dX5_applySingle_158 (lv_at hl 0 rfl) ?_
      refine lv_goto (tgt := 167) hx hb dX5_applySingle_160 (by decide) ?_
      exact W.lret (v := n_rv a 64) hx hb hr (fun t ht hW => ⟨_, rfl, (by first | rfl | (simp [n_single, n_one, lg_cmp_eq, lg_cmp_lt, lg_cmp_le, lg_cmp_gt, lg_cmp_ge, e_1, e_5, e_13, e_21, e_23, e_25, c_29, c_35]; done) | (simp_all [n_single, n_one, lg_cmp_eq, lg_cmp_lt, lg_cmp_le, lg_cmp_gt, lg_cmp_ge]; done) | (unfold n_single; (repeat split) <;> simp_all; done)), ht⟩) (fun _ h => nomatch h) dX5_applySingle_167
set_option maxHeartbeats 4000000 in
set_option maxRecDepth 100000 in
theorem c_X5_apply (l : Launch) (o : Int32) (w : Int32) (a : Int64) (b : Int64) : Met l yX5_apply wsX5_apply ({ frames := 2, cells := 0, slots := 0, locals := 50 }) (va_Pc [.int o, .int w, .long a, .long b] (fun _ => True)) (vp_Sl (fun rz => rz = n_apply o w a b)) 0 0 (fun _ => False) := by
  refine Met.ofW (cc := cX5_apply) (maxL := 6) (ret := (some .long)) (by decide) rfl ?_
  intro p e s m args below meth c s₁ Bd hml hv
  obtain ⟨rfl, -⟩ := hv
  have hx := Bd.exec
  have hb := Bd.bytes
  have hr := Bd.returns
  have hts := atoms_spec (ws := wsX5_apply) Bd.pre
  have hown : s.vm.findClass RX5 = some m.cls := findClass_of_methodNamed Bd.named
  have hlocks := Bd.notSynchronized
  have hl := lv_entry ([.int o, .int w, .long a, .long b]) (n := 6) (Nat.le_of_ble_eq_true rfl)
  rw [lg_entry_eq]
  generalize (lg_sl ([.int o, .int w, .long a, .long b]) ++ List.replicate (6 - (lg_sl ([.int o, .int w, .long a, .long b])).length) Slot.unset).toArray = ls at hl ⊢
  have hl : lv_has ls 6 [(0, .int o), (1, .int w), (2, .long a), (4, .long b)] := hl
  refine lv_iload_n hx hb dX5_apply_0 rfl (lv_at hl 0 rfl) ?_
  by_cases e_1 : o = 0
  · refine lv_tableIn (off := 55) (tgt := 56) hx hb dX5_apply_1 (by rw [e_1]; decide) (by rw [e_1]; decide) (by rw [e_1]; rfl) (by decide) ?_
    refine lv_lload_n hx hb dX5_apply_56 rfl (lv_at hl 2 rfl) ?_
    refine lv_lload hx hb dX5_apply_57 (lv_at hl 3 rfl) ?_
    refine W.lcmp hx hb dX5_apply_59 ?_
    refine lv_if_ne (tgt := 67) hx hb dX5_apply_60 (by decide) (fun c_2 => ?_) (fun c_2 => ?_)
    · have c_2 := mt (lg_cmp_eq _ _).mpr c_2
      refine lv_lconst (v := 0) hx hb dX5_apply_67 (by decide) ?_
      exact W.lret (v := 0) hx hb hr (fun t ht hW => ⟨_, rfl, (by first | rfl | (simp [n_apply, lg_cmp_eq, lg_cmp_lt, lg_cmp_le, lg_cmp_gt, lg_cmp_ge, e_1, c_2]; done) | (simp_all [n_apply, lg_cmp_eq, lg_cmp_lt, lg_cmp_le, lg_cmp_gt, lg_cmp_ge]; done) | (unfold n_apply; (repeat split) <;> simp_all; done)), ht⟩) (fun _ h => nomatch h) dX5_apply_68
    · have c_2 := (lg_cmp_eq _ _).mp c_2
      refine lv_lconst (v := 1) hx hb dX5_apply_63 (by decide) ?_
      refine lv_goto (tgt := 68) hx hb dX5_apply_64 (by decide) ?_
      exact W.lret (v := 1) hx hb hr (fun t ht hW => ⟨_, rfl, (by first | rfl | (simp [n_apply, lg_cmp_eq, lg_cmp_lt, lg_cmp_le, lg_cmp_gt, lg_cmp_ge, e_1, c_2]; done) | (simp_all [n_apply, lg_cmp_eq, lg_cmp_lt, lg_cmp_le, lg_cmp_gt, lg_cmp_ge]; done) | (unfold n_apply; (repeat split) <;> simp_all; done)), ht⟩) (fun _ h => nomatch h) dX5_apply_68
  by_cases e_3 : o = 1
  · refine lv_tableIn (off := 68) (tgt := 69) hx hb dX5_apply_1 (by rw [e_3]; decide) (by rw [e_3]; decide) (by rw [e_3]; rfl) (by decide) ?_
    refine lv_lload_n hx hb dX5_apply_69 rfl (lv_at hl 2 rfl) ?_
    refine lv_lload hx hb dX5_apply_70 (lv_at hl 3 rfl) ?_
    refine W.lcmp hx hb dX5_apply_72 ?_
    refine lv_if_eq (tgt := 80) hx hb dX5_apply_73 (by decide) (fun c_4 => ?_) (fun c_4 => ?_)
    · have c_4 := (lg_cmp_eq _ _).mp c_4
      refine lv_lconst (v := 0) hx hb dX5_apply_80 (by decide) ?_
      exact W.lret (v := 0) hx hb hr (fun t ht hW => ⟨_, rfl, (by first | rfl | (simp [n_apply, lg_cmp_eq, lg_cmp_lt, lg_cmp_le, lg_cmp_gt, lg_cmp_ge, e_1, e_3, c_4]; done) | (simp_all [n_apply, lg_cmp_eq, lg_cmp_lt, lg_cmp_le, lg_cmp_gt, lg_cmp_ge]; done) | (unfold n_apply; (repeat split) <;> simp_all; done)), ht⟩) (fun _ h => nomatch h) dX5_apply_81
    · have c_4 := mt (lg_cmp_eq _ _).mpr c_4
      refine lv_lconst (v := 1) hx hb dX5_apply_76 (by decide) ?_
      refine lv_goto (tgt := 81) hx hb dX5_apply_77 (by decide) ?_
      exact W.lret (v := 1) hx hb hr (fun t ht hW => ⟨_, rfl, (by first | rfl | (simp [n_apply, lg_cmp_eq, lg_cmp_lt, lg_cmp_le, lg_cmp_gt, lg_cmp_ge, e_1, e_3, c_4]; done) | (simp_all [n_apply, lg_cmp_eq, lg_cmp_lt, lg_cmp_le, lg_cmp_gt, lg_cmp_ge]; done) | (unfold n_apply; (repeat split) <;> simp_all; done)), ht⟩) (fun _ h => nomatch h) dX5_apply_81
  by_cases e_5 : o = 2
  · refine lv_tableIn (off := 81) (tgt := 82) hx hb dX5_apply_1 (by rw [e_5]; decide) (by rw [e_5]; decide) (by rw [e_5]; rfl) (by decide) ?_
    refine lv_lload_n hx hb dX5_apply_82 rfl (lv_at hl 2 rfl) ?_
    refine lv_lload hx hb dX5_apply_83 (lv_at hl 3 rfl) ?_
    refine W.lcmp hx hb dX5_apply_85 ?_
    refine lv_if_ge (tgt := 93) hx hb dX5_apply_86 (by decide) (fun c_6 => ?_) (fun c_6 => ?_)
    · have c_6 := (lg_cmp_ge _ _).mp c_6
      refine lv_lconst (v := 0) hx hb dX5_apply_93 (by decide) ?_
      exact W.lret (v := 0) hx hb hr (fun t ht hW => ⟨_, rfl, (by first | rfl | (simp [n_apply, lg_cmp_eq, lg_cmp_lt, lg_cmp_le, lg_cmp_gt, lg_cmp_ge, e_1, e_3, e_5, c_6]; done) | (simp_all [n_apply, lg_cmp_eq, lg_cmp_lt, lg_cmp_le, lg_cmp_gt, lg_cmp_ge]; done) | (unfold n_apply; (repeat split) <;> simp_all; done)), ht⟩) (fun _ h => nomatch h) dX5_apply_94
    · have c_6 := mt (lg_cmp_ge _ _).mpr c_6
      refine lv_lconst (v := 1) hx hb dX5_apply_89 (by decide) ?_
      refine lv_goto (tgt := 94) hx hb dX5_apply_90 (by decide) ?_
      exact W.lret (v := 1) hx hb hr (fun t ht hW => ⟨_, rfl, (by first | rfl | (simp [n_apply, lg_cmp_eq, lg_cmp_lt, lg_cmp_le, lg_cmp_gt, lg_cmp_ge, e_1, e_3, e_5, c_6]; done) | (simp_all [n_apply, lg_cmp_eq, lg_cmp_lt, lg_cmp_le, lg_cmp_gt, lg_cmp_ge]; done) | (unfold n_apply; (repeat split) <;> simp_all; done)), ht⟩) (fun _ h => nomatch h) dX5_apply_94
  by_cases e_7 : o = 3
  · refine lv_tableIn (off := 94) (tgt := 95) hx hb dX5_apply_1 (by rw [e_7]; decide) (by rw [e_7]; decide) (by rw [e_7]; rfl) (by decide) ?_
    refine lv_lload_n hx hb dX5_apply_95 rfl (lv_at hl 2 rfl) ?_
    refine lv_lload hx hb dX5_apply_96 (lv_at hl 3 rfl) ?_
    refine W.lcmp hx hb dX5_apply_98 ?_
    refine lv_if_gt (tgt := 106) hx hb dX5_apply_99 (by decide) (fun c_8 => ?_) (fun c_8 => ?_)
    · have c_8 := (lg_cmp_gt _ _).mp c_8
      refine lv_lconst (v := 0) hx hb dX5_apply_106 (by decide) ?_
      exact W.lret (v := 0) hx hb hr (fun t ht hW => ⟨_, rfl, (by first | rfl | (simp [n_apply, lg_cmp_eq, lg_cmp_lt, lg_cmp_le, lg_cmp_gt, lg_cmp_ge, e_1, e_3, e_5, e_7, c_8]; done) | (simp_all [n_apply, lg_cmp_eq, lg_cmp_lt, lg_cmp_le, lg_cmp_gt, lg_cmp_ge]; done) | (unfold n_apply; (repeat split) <;> simp_all; done)), ht⟩) (fun _ h => nomatch h) dX5_apply_107
    · have c_8 := mt (lg_cmp_gt _ _).mpr c_8
      refine lv_lconst (v := 1) hx hb dX5_apply_102 (by decide) ?_
      refine lv_goto (tgt := 107) hx hb dX5_apply_103 (by decide) ?_
      exact W.lret (v := 1) hx hb hr (fun t ht hW => ⟨_, rfl, (by first | rfl | (simp [n_apply, lg_cmp_eq, lg_cmp_lt, lg_cmp_le, lg_cmp_gt, lg_cmp_ge, e_1, e_3, e_5, e_7, c_8]; done) | (simp_all [n_apply, lg_cmp_eq, lg_cmp_lt, lg_cmp_le, lg_cmp_gt, lg_cmp_ge]; done) | (unfold n_apply; (repeat split) <;> simp_all; done)), ht⟩) (fun _ h => nomatch h) dX5_apply_107
  by_cases e_9 : o = 4
  · refine lv_tableIn (off := 107) (tgt := 108) hx hb dX5_apply_1 (by rw [e_9]; decide) (by rw [e_9]; decide) (by rw [e_9]; rfl) (by decide) ?_
    refine lv_lload_n hx hb dX5_apply_108 rfl (lv_at hl 2 rfl) ?_
    refine lv_lload hx hb dX5_apply_109 (lv_at hl 3 rfl) ?_
    refine W.lcmp hx hb dX5_apply_111 ?_
    refine lv_if_le (tgt := 119) hx hb dX5_apply_112 (by decide) (fun c_10 => ?_) (fun c_10 => ?_)
    · have c_10 := (lg_cmp_le _ _).mp c_10
      refine lv_lconst (v := 0) hx hb dX5_apply_119 (by decide) ?_
      exact W.lret (v := 0) hx hb hr (fun t ht hW => ⟨_, rfl, (by first | rfl | (simp [n_apply, lg_cmp_eq, lg_cmp_lt, lg_cmp_le, lg_cmp_gt, lg_cmp_ge, e_1, e_3, e_5, e_7, e_9, c_10]; done) | (simp_all [n_apply, lg_cmp_eq, lg_cmp_lt, lg_cmp_le, lg_cmp_gt, lg_cmp_ge]; done) | (unfold n_apply; (repeat split) <;> simp_all; done)), ht⟩) (fun _ h => nomatch h) dX5_apply_120
    · have c_10 := mt (lg_cmp_le _ _).mpr c_10
      refine lv_lconst (v := 1) hx hb dX5_apply_115 (by decide) ?_
      refine lv_goto (tgt := 120) hx hb dX5_apply_116 (by decide) ?_
      exact W.lret (v := 1) hx hb hr (fun t ht hW => ⟨_, rfl, (by first | rfl | (simp [n_apply, lg_cmp_eq, lg_cmp_lt, lg_cmp_le, lg_cmp_gt, lg_cmp_ge, e_1, e_3, e_5, e_7, e_9, c_10]; done) | (simp_all [n_apply, lg_cmp_eq, lg_cmp_lt, lg_cmp_le, lg_cmp_gt, lg_cmp_ge]; done) | (unfold n_apply; (repeat split) <;> simp_all; done)), ht⟩) (fun _ h => nomatch h) dX5_apply_120
  by_cases e_11 : o = 5
  · refine lv_tableIn (off := 120) (tgt := 121) hx hb dX5_apply_1 (by rw [e_11]; decide) (by rw [e_11]; decide) (by rw [e_11]; rfl) (by decide) ?_
    refine lv_lload_n hx hb dX5_apply_121 rfl (lv_at hl 2 rfl) ?_
    refine lv_lload hx hb dX5_apply_122 (lv_at hl 3 rfl) ?_
    refine W.lcmp hx hb dX5_apply_124 ?_
    refine lv_if_lt (tgt := 132) hx hb dX5_apply_125 (by decide) (fun c_12 => ?_) (fun c_12 => ?_)
    · have c_12 := (lg_cmp_lt _ _).mp c_12
      refine lv_lconst (v := 0) hx hb dX5_apply_132 (by decide) ?_
      exact W.lret (v := 0) hx hb hr (fun t ht hW => ⟨_, rfl, (by first | rfl | (simp [n_apply, lg_cmp_eq, lg_cmp_lt, lg_cmp_le, lg_cmp_gt, lg_cmp_ge, e_1, e_3, e_5, e_7, e_9, e_11, c_12]; done) | (simp_all [n_apply, lg_cmp_eq, lg_cmp_lt, lg_cmp_le, lg_cmp_gt, lg_cmp_ge]; done) | (unfold n_apply; (repeat split) <;> simp_all; done)), ht⟩) (fun _ h => nomatch h) dX5_apply_133
    · have c_12 := mt (lg_cmp_lt _ _).mpr c_12
      refine lv_lconst (v := 1) hx hb dX5_apply_128 (by decide) ?_
      refine lv_goto (tgt := 133) hx hb dX5_apply_129 (by decide) ?_
      exact W.lret (v := 1) hx hb hr (fun t ht hW => ⟨_, rfl, (by first | rfl | (simp [n_apply, lg_cmp_eq, lg_cmp_lt, lg_cmp_le, lg_cmp_gt, lg_cmp_ge, e_1, e_3, e_5, e_7, e_9, e_11, c_12]; done) | (simp_all [n_apply, lg_cmp_eq, lg_cmp_lt, lg_cmp_le, lg_cmp_gt, lg_cmp_ge]; done) | (unfold n_apply; (repeat split) <;> simp_all; done)), ht⟩) (fun _ h => nomatch h) dX5_apply_133
  by_cases e_13 : o = 6
  · refine lv_tableIn (off := 133) (tgt := 134) hx hb dX5_apply_1 (by rw [e_13]; decide) (by rw [e_13]; decide) (by rw [e_13]; rfl) (by decide) ?_
    refine lv_lload_n hx hb dX5_apply_134 rfl (lv_at hl 2 rfl) ?_
    refine lv_lload hx hb dX5_apply_135 (lv_at hl 3 rfl) ?_
    refine W.lcmp hx hb dX5_apply_137 ?_
    refine lv_if_gt (tgt := 145) hx hb dX5_apply_138 (by decide) (fun c_14 => ?_) (fun c_14 => ?_)
    · have c_14 := (lg_cmp_gt _ _).mp c_14
      refine lv_lload hx hb dX5_apply_145 (lv_at hl 3 rfl) ?_
      exact W.lret (v := b) hx hb hr (fun t ht hW => ⟨_, rfl, (by first | rfl | (simp [n_apply, lg_cmp_eq, lg_cmp_lt, lg_cmp_le, lg_cmp_gt, lg_cmp_ge, e_1, e_3, e_5, e_7, e_9, e_11, e_13, c_14]; done) | (simp_all [n_apply, lg_cmp_eq, lg_cmp_lt, lg_cmp_le, lg_cmp_gt, lg_cmp_ge]; done) | (unfold n_apply; (repeat split) <;> simp_all; done)), ht⟩) (fun _ h => nomatch h) dX5_apply_147
    · have c_14 := mt (lg_cmp_gt _ _).mpr c_14
      refine lv_lload_n hx hb dX5_apply_141 rfl (lv_at hl 2 rfl) ?_
      refine lv_goto (tgt := 147) hx hb dX5_apply_142 (by decide) ?_
      exact W.lret (v := a) hx hb hr (fun t ht hW => ⟨_, rfl, (by first | rfl | (simp [n_apply, lg_cmp_eq, lg_cmp_lt, lg_cmp_le, lg_cmp_gt, lg_cmp_ge, e_1, e_3, e_5, e_7, e_9, e_11, e_13, c_14]; done) | (simp_all [n_apply, lg_cmp_eq, lg_cmp_lt, lg_cmp_le, lg_cmp_gt, lg_cmp_ge]; done) | (unfold n_apply; (repeat split) <;> simp_all; done)), ht⟩) (fun _ h => nomatch h) dX5_apply_147
  by_cases e_15 : o = 7
  · refine lv_tableIn (off := 147) (tgt := 148) hx hb dX5_apply_1 (by rw [e_15]; decide) (by rw [e_15]; decide) (by rw [e_15]; rfl) (by decide) ?_
    refine lv_lload_n hx hb dX5_apply_148 rfl (lv_at hl 2 rfl) ?_
    refine lv_lload hx hb dX5_apply_149 (lv_at hl 3 rfl) ?_
    refine W.lcmp hx hb dX5_apply_151 ?_
    refine lv_if_lt (tgt := 159) hx hb dX5_apply_152 (by decide) (fun c_16 => ?_) (fun c_16 => ?_)
    · have c_16 := (lg_cmp_lt _ _).mp c_16
      refine lv_lload hx hb dX5_apply_159 (lv_at hl 3 rfl) ?_
      exact W.lret (v := b) hx hb hr (fun t ht hW => ⟨_, rfl, (by first | rfl | (simp [n_apply, lg_cmp_eq, lg_cmp_lt, lg_cmp_le, lg_cmp_gt, lg_cmp_ge, e_1, e_3, e_5, e_7, e_9, e_11, e_13, e_15, c_16]; done) | (simp_all [n_apply, lg_cmp_eq, lg_cmp_lt, lg_cmp_le, lg_cmp_gt, lg_cmp_ge]; done) | (unfold n_apply; (repeat split) <;> simp_all; done)), ht⟩) (fun _ h => nomatch h) dX5_apply_161
    · have c_16 := mt (lg_cmp_lt _ _).mpr c_16
      refine lv_lload_n hx hb dX5_apply_155 rfl (lv_at hl 2 rfl) ?_
      refine lv_goto (tgt := 161) hx hb dX5_apply_156 (by decide) ?_
      exact W.lret (v := a) hx hb hr (fun t ht hW => ⟨_, rfl, (by first | rfl | (simp [n_apply, lg_cmp_eq, lg_cmp_lt, lg_cmp_le, lg_cmp_gt, lg_cmp_ge, e_1, e_3, e_5, e_7, e_9, e_11, e_13, e_15, c_16]; done) | (simp_all [n_apply, lg_cmp_eq, lg_cmp_lt, lg_cmp_le, lg_cmp_gt, lg_cmp_ge]; done) | (unfold n_apply; (repeat split) <;> simp_all; done)), ht⟩) (fun _ h => nomatch h) dX5_apply_161
  by_cases e_17 : o = 8
  · refine lv_tableIn (off := 161) (tgt := 162) hx hb dX5_apply_1 (by rw [e_17]; decide) (by rw [e_17]; decide) (by rw [e_17]; rfl) (by decide) ?_
    refine lv_iload_n hx hb dX5_apply_162 rfl (lv_at hl 1 rfl) ?_
    refine lv_if_eq (tgt := 176) hx hb dX5_apply_163 (by decide) (fun c_18 => ?_) (fun c_18 => ?_)
    · skip
      refine lv_lload_n hx hb dX5_apply_176 rfl (lv_at hl 2 rfl) ?_
      refine lv_l2i (v := a.toInt32) hx hb dX5_apply_177 rfl ?_
      refine lv_lload hx hb dX5_apply_178 (lv_at hl 3 rfl) ?_
      refine lv_l2i (v := b.toInt32) hx hb dX5_apply_180 rfl ?_
      refine vp_callSi (W.runS (As := [.int a.toInt32, .int b.toInt32]) (rest := []) ⟨hx, hb, hml, hown, hts⟩ (c_X5_turn l a.toInt32 b.toInt32) (va_cwS 2 hts gX5_apply_X5_turn rfl rfl rfl (by decide +kernel) ⟨Nat.le_of_ble_eq_true rfl, Nat.le_of_ble_eq_true rfl⟩) ⟨fun _ _ _ _ q => q, fun _ _ _ => ⟨rfl, trivial⟩⟩ rfl rfl hl.1 rfl (lv_room (Nat.le_of_ble_eq_true rfl)) dX5_apply_181 ⟨Nat.le_of_ble_eq_true rfl, Nat.le_of_ble_eq_true rfl⟩) (fun r_19 h_20 => ?_)
      subst h_20
      refine lv_i2l (v := (n_turn a.toInt32 b.toInt32).toInt64) hx hb dX5_apply_184 rfl ?_
      exact W.lret (v := (n_turn a.toInt32 b.toInt32).toInt64) hx hb hr (fun t ht hW => ⟨_, rfl, (by first | rfl | (simp [n_apply, lg_cmp_eq, lg_cmp_lt, lg_cmp_le, lg_cmp_gt, lg_cmp_ge, e_1, e_3, e_5, e_7, e_9, e_11, e_13, e_15, e_17, c_18]; done) | (simp_all [n_apply, lg_cmp_eq, lg_cmp_lt, lg_cmp_le, lg_cmp_gt, lg_cmp_ge]; done) | (unfold n_apply; (repeat split) <;> simp_all; done)), ht⟩) (fun _ h => nomatch h) dX5_apply_185
    · skip
      refine lv_lload_n hx hb dX5_apply_166 rfl (lv_at hl 2 rfl) ?_
      refine lv_lload hx hb dX5_apply_167 (lv_at hl 3 rfl) ?_
      refine lv_l2i (v := b.toInt32) hx hb dX5_apply_169 rfl ?_
      refine vp_callSl (W.runS (As := [.long a, .int b.toInt32]) (rest := []) ⟨hx, hb, hml, hown, hts⟩ (c_X5_turnWide l a b.toInt32) (va_cwS 2 hts gX5_apply_X5_turnWide rfl rfl rfl (by decide +kernel) ⟨Nat.le_of_ble_eq_true rfl, Nat.le_of_ble_eq_true rfl⟩) ⟨fun _ _ _ _ q => q, fun _ _ _ => ⟨rfl, trivial⟩⟩ rfl rfl hl.1 rfl (lv_room (Nat.le_of_ble_eq_true rfl)) dX5_apply_170 ⟨Nat.le_of_ble_eq_true rfl, Nat.le_of_ble_eq_true rfl⟩) (fun r_21 h_22 => ?_)
      subst h_22
      refine lv_goto (tgt := 185) hx hb dX5_apply_173 (by decide) ?_
      exact W.lret (v := n_turnW a b.toInt32) hx hb hr (fun t ht hW => ⟨_, rfl, (by first | rfl | (simp [n_apply, lg_cmp_eq, lg_cmp_lt, lg_cmp_le, lg_cmp_gt, lg_cmp_ge, e_1, e_3, e_5, e_7, e_9, e_11, e_13, e_15, e_17, c_18]; done) | (simp_all [n_apply, lg_cmp_eq, lg_cmp_lt, lg_cmp_le, lg_cmp_gt, lg_cmp_ge]; done) | (unfold n_apply; (repeat split) <;> simp_all; done)), ht⟩) (fun _ h => nomatch h) dX5_apply_185
  by_cases e_23 : o = 9
  · refine lv_tableIn (off := 185) (tgt := 186) hx hb dX5_apply_1 (by rw [e_23]; decide) (by rw [e_23]; decide) (by rw [e_23]; rfl) (by decide) ?_
    refine lv_iload_n hx hb dX5_apply_186 rfl (lv_at hl 1 rfl) ?_
    refine lv_if_eq (tgt := 201) hx hb dX5_apply_187 (by decide) (fun c_24 => ?_) (fun c_24 => ?_)
    · skip
      refine lv_lload_n hx hb dX5_apply_201 rfl (lv_at hl 2 rfl) ?_
      refine lv_l2i (v := a.toInt32) hx hb dX5_apply_202 rfl ?_
      refine lv_lload hx hb dX5_apply_203 (lv_at hl 3 rfl) ?_
      refine lv_l2i (v := b.toInt32) hx hb dX5_apply_205 rfl ?_
      refine lv_ineg hx hb dX5_apply_206 ?_
      refine vp_callSi (W.runS (As := [.int a.toInt32, .int (-b.toInt32)]) (rest := []) ⟨hx, hb, hml, hown, hts⟩ (c_X5_turn l a.toInt32 (-b.toInt32)) (va_cwS 2 hts gX5_apply_X5_turn rfl rfl rfl (by decide +kernel) ⟨Nat.le_of_ble_eq_true rfl, Nat.le_of_ble_eq_true rfl⟩) ⟨fun _ _ _ _ q => q, fun _ _ _ => ⟨rfl, trivial⟩⟩ rfl rfl hl.1 rfl (lv_room (Nat.le_of_ble_eq_true rfl)) dX5_apply_207 ⟨Nat.le_of_ble_eq_true rfl, Nat.le_of_ble_eq_true rfl⟩) (fun r_25 h_26 => ?_)
      subst h_26
      refine lv_i2l (v := (n_turn a.toInt32 (-b.toInt32)).toInt64) hx hb dX5_apply_210 rfl ?_
      exact W.lret (v := (n_turn a.toInt32 (-b.toInt32)).toInt64) hx hb hr (fun t ht hW => ⟨_, rfl, (by first | rfl | (simp [n_apply, lg_cmp_eq, lg_cmp_lt, lg_cmp_le, lg_cmp_gt, lg_cmp_ge, e_1, e_3, e_5, e_7, e_9, e_11, e_13, e_15, e_17, e_23, c_24]; done) | (simp_all [n_apply, lg_cmp_eq, lg_cmp_lt, lg_cmp_le, lg_cmp_gt, lg_cmp_ge]; done) | (unfold n_apply; (repeat split) <;> simp_all; done)), ht⟩) (fun _ h => nomatch h) dX5_apply_211
    · skip
      refine lv_lload_n hx hb dX5_apply_190 rfl (lv_at hl 2 rfl) ?_
      refine lv_lload hx hb dX5_apply_191 (lv_at hl 3 rfl) ?_
      refine lv_l2i (v := b.toInt32) hx hb dX5_apply_193 rfl ?_
      refine lv_ineg hx hb dX5_apply_194 ?_
      refine vp_callSl (W.runS (As := [.long a, .int (-b.toInt32)]) (rest := []) ⟨hx, hb, hml, hown, hts⟩ (c_X5_turnWide l a (-b.toInt32)) (va_cwS 2 hts gX5_apply_X5_turnWide rfl rfl rfl (by decide +kernel) ⟨Nat.le_of_ble_eq_true rfl, Nat.le_of_ble_eq_true rfl⟩) ⟨fun _ _ _ _ q => q, fun _ _ _ => ⟨rfl, trivial⟩⟩ rfl rfl hl.1 rfl (lv_room (Nat.le_of_ble_eq_true rfl)) dX5_apply_195 ⟨Nat.le_of_ble_eq_true rfl, Nat.le_of_ble_eq_true rfl⟩) (fun r_27 h_28 => ?_)
      subst h_28
      refine lv_goto (tgt := 211) hx hb dX5_apply_198 (by decide) ?_
      exact W.lret (v := n_turnW a (-b.toInt32)) hx hb hr (fun t ht hW => ⟨_, rfl, (by first | rfl | (simp [n_apply, lg_cmp_eq, lg_cmp_lt, lg_cmp_le, lg_cmp_gt, lg_cmp_ge, e_1, e_3, e_5, e_7, e_9, e_11, e_13, e_15, e_17, e_23, c_24]; done) | (simp_all [n_apply, lg_cmp_eq, lg_cmp_lt, lg_cmp_le, lg_cmp_gt, lg_cmp_ge]; done) | (unfold n_apply; (repeat split) <;> simp_all; done)), ht⟩) (fun _ h => nomatch h) dX5_apply_211
  refine lv_tableDef (tgt := 212) hx hb dX5_apply_1 (by decide) (fun off h1 h2 ho => by
    have hI : (o).toInt = 0 ∨ (o).toInt = 1 ∨ (o).toInt = 2 ∨ (o).toInt = 3 ∨ (o).toInt = 4 ∨ (o).toInt = 5 ∨ (o).toInt = 6 ∨ (o).toInt = 7 ∨ (o).toInt = 8 ∨ (o).toInt = 9 := by omega
    rcases hI with q | q | q | q | q | q | q | q | q | q
    · exact absurd (Int32.toInt_inj.mp (q.trans (by decide))) e_1
    · exact absurd (Int32.toInt_inj.mp (q.trans (by decide))) e_3
    · exact absurd (Int32.toInt_inj.mp (q.trans (by decide))) e_5
    · exact absurd (Int32.toInt_inj.mp (q.trans (by decide))) e_7
    · exact absurd (Int32.toInt_inj.mp (q.trans (by decide))) e_9
    · exact absurd (Int32.toInt_inj.mp (q.trans (by decide))) e_11
    · exact absurd (Int32.toInt_inj.mp (q.trans (by decide))) e_13
    · exact absurd (Int32.toInt_inj.mp (q.trans (by decide))) e_15
    · exact absurd (Int32.toInt_inj.mp (q.trans (by decide))) e_17
    · exact absurd (Int32.toInt_inj.mp (q.trans (by decide))) e_23) (by decide) ?_
  refine lv_iload_n hx hb dX5_apply_212 rfl (lv_at hl 0 rfl) ?_
  refine lv_iload_n hx hb dX5_apply_213 rfl (lv_at hl 1 rfl) ?_
  refine lv_lload_n hx hb dX5_apply_214 rfl (lv_at hl 2 rfl) ?_
  refine vp_callSl (W.runS (As := [.int o, .int w, .long a]) (rest := []) ⟨hx, hb, hml, hown, hts⟩ (c_X5_applySingle l o w a) (va_cwS 3 hts gX5_apply_X5_applySingle rfl rfl rfl (by decide +kernel) ⟨Nat.le_of_ble_eq_true rfl, Nat.le_of_ble_eq_true rfl⟩) ⟨fun _ _ _ _ q => q, fun _ _ _ => ⟨rfl, trivial⟩⟩ rfl rfl hl.1 rfl (lv_room (Nat.le_of_ble_eq_true rfl)) dX5_apply_215 ⟨Nat.le_of_ble_eq_true rfl, Nat.le_of_ble_eq_true rfl⟩) (fun r_29 h_30 => ?_)
  subst h_30
  exact W.lret (v := n_single o w a) hx hb hr (fun t ht hW => ⟨_, rfl, (by first | rfl | (simp [n_apply, lg_cmp_eq, lg_cmp_lt, lg_cmp_le, lg_cmp_gt, lg_cmp_ge, e_1, e_3, e_5, e_7, e_9, e_11, e_13, e_15, e_17, e_23]; done) | (simp_all [n_apply, lg_cmp_eq, lg_cmp_lt, lg_cmp_le, lg_cmp_gt, lg_cmp_ge]; done) | (unfold n_apply; (repeat split) <;> simp_all; done)), ht⟩) (fun _ h => nomatch h) dX5_apply_218
