abbrev cX12_own : ByteArray := prog_14_method_39_code
def yX12_own : MethodName := ⟨RX12, "own", "(I)I"⟩
theorem dX12_own_0 : decode cX12_own 0 = .ok (.aload_n 0, 1) := by decide +kernel
theorem dX12_own_1 : decode cX12_own 1 = .ok (.getfield 101, 3) := by decide +kernel
theorem dX12_own_4 : decode cX12_own 4 = .ok (.ifCond .eq 29, 3) := by decide +kernel
theorem dX12_own_7 : decode cX12_own 7 = .ok (.aload_n 0, 1) := by decide +kernel
theorem dX12_own_8 : decode cX12_own 8 = .ok (.aload_n 0, 1) := by decide +kernel
theorem dX12_own_9 : decode cX12_own 9 = .ok (.getfield 66, 3) := by decide +kernel
theorem dX12_own_12 : decode cX12_own 12 = .ok (.aload_n 0, 1) := by decide +kernel
theorem dX12_own_13 : decode cX12_own 13 = .ok (.getfield 109, 3) := by decide +kernel
theorem dX12_own_16 : decode cX12_own 16 = .ok (.laload, 1) := by decide +kernel
theorem dX12_own_17 : decode cX12_own 17 = .ok (.aload_n 0, 1) := by decide +kernel
theorem dX12_own_18 : decode cX12_own 18 = .ok (.getfield 73, 3) := by decide +kernel
theorem dX12_own_21 : decode cX12_own 21 = .ok (.aload_n 0, 1) := by decide +kernel
theorem dX12_own_22 : decode cX12_own 22 = .ok (.getfield 109, 3) := by decide +kernel
theorem dX12_own_25 : decode cX12_own 25 = .ok (.laload, 1) := by decide +kernel
theorem dX12_own_26 : decode cX12_own 26 = .ok (.invokevirtual 215, 3) := by decide +kernel
theorem dX12_own_29 : decode cX12_own 29 = .ok (.iconst (-1), 1) := by decide +kernel
theorem dX12_own_30 : decode cX12_own 30 = .ok (.if_icmp .eq 5, 3) := by decide +kernel
theorem dX12_own_33 : decode cX12_own 33 = .ok (.iconst (-1), 1) := by decide +kernel
theorem dX12_own_34 : decode cX12_own 34 = .ok (.ireturn, 1) := by decide +kernel
theorem dX12_own_35 : decode cX12_own 35 = .ok (.aload_n 0, 1) := by decide +kernel
theorem dX12_own_36 : decode cX12_own 36 = .ok (.aload_n 0, 1) := by decide +kernel
theorem dX12_own_37 : decode cX12_own 37 = .ok (.getfield 66, 3) := by decide +kernel
theorem dX12_own_40 : decode cX12_own 40 = .ok (.aload_n 0, 1) := by decide +kernel
theorem dX12_own_41 : decode cX12_own 41 = .ok (.getfield 109, 3) := by decide +kernel
theorem dX12_own_44 : decode cX12_own 44 = .ok (.laload, 1) := by decide +kernel
theorem dX12_own_45 : decode cX12_own 45 = .ok (.aload_n 0, 1) := by decide +kernel
theorem dX12_own_46 : decode cX12_own 46 = .ok (.getfield 73, 3) := by decide +kernel
theorem dX12_own_49 : decode cX12_own 49 = .ok (.aload_n 0, 1) := by decide +kernel
theorem dX12_own_50 : decode cX12_own 50 = .ok (.getfield 109, 3) := by decide +kernel
theorem dX12_own_53 : decode cX12_own 53 = .ok (.laload, 1) := by decide +kernel
theorem dX12_own_54 : decode cX12_own 54 = .ok (.invokevirtual 198, 3) := by decide +kernel
theorem dX12_own_57 : decode cX12_own 57 = .ok (.istore_n 2, 1) := by decide +kernel
theorem dX12_own_58 : decode cX12_own 58 = .ok (.iload_n 2, 1) := by decide +kernel
theorem dX12_own_59 : decode cX12_own 59 = .ok (.iconst (-1), 1) := by decide +kernel
theorem dX12_own_60 : decode cX12_own 60 = .ok (.if_icmp .eq 22, 3) := by decide +kernel
theorem dX12_own_63 : decode cX12_own 63 = .ok (.aload_n 0, 1) := by decide +kernel
theorem dX12_own_64 : decode cX12_own 64 = .ok (.getfield 209, 3) := by decide +kernel
theorem dX12_own_67 : decode cX12_own 67 = .ok (.iload_n 2, 1) := by decide +kernel
theorem dX12_own_68 : decode cX12_own 68 = .ok (.iaload, 1) := by decide +kernel
theorem dX12_own_69 : decode cX12_own 69 = .ok (.iload_n 1, 1) := by decide +kernel
theorem dX12_own_70 : decode cX12_own 70 = .ok (.if_icmp .ne 12, 3) := by decide +kernel
theorem dX12_own_73 : decode cX12_own 73 = .ok (.aload_n 0, 1) := by decide +kernel
theorem dX12_own_74 : decode cX12_own 74 = .ok (.getfield 212, 3) := by decide +kernel
theorem dX12_own_77 : decode cX12_own 77 = .ok (.iload_n 2, 1) := by decide +kernel
theorem dX12_own_78 : decode cX12_own 78 = .ok (.iaload, 1) := by decide +kernel
theorem dX12_own_79 : decode cX12_own 79 = .ok (.goto 4, 3) := by decide +kernel
theorem dX12_own_82 : decode cX12_own 82 = .ok (.iconst (-1), 1) := by decide +kernel
theorem dX12_own_83 : decode cX12_own 83 = .ok (.ireturn, 1) := by decide +kernel
abbrev cX12_telling : ByteArray := prog_14_method_38_code
def yX12_telling : MethodName := ⟨RX12, "telling", "(IIZ)V"⟩
theorem dX12_telling_0 : decode cX12_telling 0 = .ok (.aload_n 0, 1) := by decide +kernel
theorem dX12_telling_1 : decode cX12_telling 1 = .ok (.aload_n 0, 1) := by decide +kernel
theorem dX12_telling_2 : decode cX12_telling 2 = .ok (.aload_n 0, 1) := by decide +kernel
theorem dX12_telling_3 : decode cX12_telling 3 = .ok (.getfield 66, 3) := by decide +kernel
theorem dX12_telling_6 : decode cX12_telling 6 = .ok (.aload_n 0, 1) := by decide +kernel
theorem dX12_telling_7 : decode cX12_telling 7 = .ok (.getfield 109, 3) := by decide +kernel
theorem dX12_telling_10 : decode cX12_telling 10 = .ok (.laload, 1) := by decide +kernel
theorem dX12_telling_11 : decode cX12_telling 11 = .ok (.aload_n 0, 1) := by decide +kernel
theorem dX12_telling_12 : decode cX12_telling 12 = .ok (.getfield 73, 3) := by decide +kernel
theorem dX12_telling_15 : decode cX12_telling 15 = .ok (.aload_n 0, 1) := by decide +kernel
theorem dX12_telling_16 : decode cX12_telling 16 = .ok (.getfield 109, 3) := by decide +kernel
theorem dX12_telling_19 : decode cX12_telling 19 = .ok (.laload, 1) := by decide +kernel
theorem dX12_telling_20 : decode cX12_telling 20 = .ok (.invokevirtual 198, 3) := by decide +kernel
theorem dX12_telling_23 : decode cX12_telling 23 = .ok (.iconst (-1), 1) := by decide +kernel
theorem dX12_telling_24 : decode cX12_telling 24 = .ok (.if_icmp .eq 7, 3) := by decide +kernel
theorem dX12_telling_27 : decode cX12_telling 27 = .ok (.iconst 1, 1) := by decide +kernel
theorem dX12_telling_28 : decode cX12_telling 28 = .ok (.goto 4, 3) := by decide +kernel
theorem dX12_telling_31 : decode cX12_telling 31 = .ok (.iconst 0, 1) := by decide +kernel
theorem dX12_telling_32 : decode cX12_telling 32 = .ok (.iconst 3, 1) := by decide +kernel
theorem dX12_telling_33 : decode cX12_telling 33 = .ok (.aload_n 0, 1) := by decide +kernel
theorem dX12_telling_34 : decode cX12_telling 34 = .ok (.getfield 35, 3) := by decide +kernel
theorem dX12_telling_37 : decode cX12_telling 37 = .ok (.aload_n 0, 1) := by decide +kernel
theorem dX12_telling_38 : decode cX12_telling 38 = .ok (.getfield 109, 3) := by decide +kernel
theorem dX12_telling_41 : decode cX12_telling 41 = .ok (.iaload, 1) := by decide +kernel
theorem dX12_telling_42 : decode cX12_telling 42 = .ok (.invokevirtual 202, 3) := by decide +kernel
theorem dX12_telling_45 : decode cX12_telling 45 = .ok (.aload_n 0, 1) := by decide +kernel
theorem dX12_telling_46 : decode cX12_telling 46 = .ok (.aload_n 0, 1) := by decide +kernel
theorem dX12_telling_47 : decode cX12_telling 47 = .ok (.getfield 206, 3) := by decide +kernel
theorem dX12_telling_50 : decode cX12_telling 50 = .ok (.sipush 160, 3) := by decide +kernel
theorem dX12_telling_53 : decode cX12_telling 53 = .ok (.if_icmp .eq 7, 3) := by decide +kernel
theorem dX12_telling_56 : decode cX12_telling 56 = .ok (.iload_n 3, 1) := by decide +kernel
theorem dX12_telling_57 : decode cX12_telling 57 = .ok (.ifCond .eq 7, 3) := by decide +kernel
theorem dX12_telling_60 : decode cX12_telling 60 = .ok (.iconst 1, 1) := by decide +kernel
theorem dX12_telling_61 : decode cX12_telling 61 = .ok (.goto 4, 3) := by decide +kernel
theorem dX12_telling_64 : decode cX12_telling 64 = .ok (.iconst 0, 1) := by decide +kernel
theorem dX12_telling_65 : decode cX12_telling 65 = .ok (.iconst 5, 1) := by decide +kernel
theorem dX12_telling_66 : decode cX12_telling 66 = .ok (.aload_n 0, 1) := by decide +kernel
theorem dX12_telling_67 : decode cX12_telling 67 = .ok (.getfield 35, 3) := by decide +kernel
theorem dX12_telling_70 : decode cX12_telling 70 = .ok (.aload_n 0, 1) := by decide +kernel
theorem dX12_telling_71 : decode cX12_telling 71 = .ok (.getfield 109, 3) := by decide +kernel
theorem dX12_telling_74 : decode cX12_telling 74 = .ok (.iaload, 1) := by decide +kernel
theorem dX12_telling_75 : decode cX12_telling 75 = .ok (.invokevirtual 202, 3) := by decide +kernel
theorem dX12_telling_78 : decode cX12_telling 78 = .ok (.aload_n 0, 1) := by decide +kernel
theorem dX12_telling_79 : decode cX12_telling 79 = .ok (.getfield 101, 3) := by decide +kernel
theorem dX12_telling_82 : decode cX12_telling 82 = .ok (.ifCond .eq 10, 3) := by decide +kernel
theorem dX12_telling_85 : decode cX12_telling 85 = .ok (.aload_n 0, 1) := by decide +kernel
theorem dX12_telling_86 : decode cX12_telling 86 = .ok (.getfield 95, 3) := by decide +kernel
theorem dX12_telling_89 : decode cX12_telling 89 = .ok (.ifCond .eq 4, 3) := by decide +kernel
theorem dX12_telling_92 : decode cX12_telling 92 = .ok (.return_, 1) := by decide +kernel
theorem dX12_telling_93 : decode cX12_telling 93 = .ok (.aload_n 0, 1) := by decide +kernel
theorem dX12_telling_94 : decode cX12_telling 94 = .ok (.dup, 1) := by decide +kernel
theorem dX12_telling_95 : decode cX12_telling 95 = .ok (.getfield 206, 3) := by decide +kernel
theorem dX12_telling_98 : decode cX12_telling 98 = .ok (.iconst 1, 1) := by decide +kernel
theorem dX12_telling_99 : decode cX12_telling 99 = .ok (.iadd, 1) := by decide +kernel
theorem dX12_telling_100 : decode cX12_telling 100 = .ok (.putfield 206, 3) := by decide +kernel
theorem dX12_telling_103 : decode cX12_telling 103 = .ok (.aload_n 0, 1) := by decide +kernel
theorem dX12_telling_104 : decode cX12_telling 104 = .ok (.getfield 177, 3) := by decide +kernel
theorem dX12_telling_107 : decode cX12_telling 107 = .ok (.aload_n 0, 1) := by decide +kernel
theorem dX12_telling_108 : decode cX12_telling 108 = .ok (.getfield 174, 3) := by decide +kernel
theorem dX12_telling_111 : decode cX12_telling 111 = .ok (.aload_n 0, 1) := by decide +kernel
theorem dX12_telling_112 : decode cX12_telling 112 = .ok (.getfield 66, 3) := by decide +kernel
theorem dX12_telling_115 : decode cX12_telling 115 = .ok (.aload_n 0, 1) := by decide +kernel
theorem dX12_telling_116 : decode cX12_telling 116 = .ok (.getfield 109, 3) := by decide +kernel
theorem dX12_telling_119 : decode cX12_telling 119 = .ok (.laload, 1) := by decide +kernel
theorem dX12_telling_120 : decode cX12_telling 120 = .ok (.lastore, 1) := by decide +kernel
theorem dX12_telling_121 : decode cX12_telling 121 = .ok (.aload_n 0, 1) := by decide +kernel
theorem dX12_telling_122 : decode cX12_telling 122 = .ok (.getfield 180, 3) := by decide +kernel
theorem dX12_telling_125 : decode cX12_telling 125 = .ok (.aload_n 0, 1) := by decide +kernel
theorem dX12_telling_126 : decode cX12_telling 126 = .ok (.getfield 174, 3) := by decide +kernel
theorem dX12_telling_129 : decode cX12_telling 129 = .ok (.aload_n 0, 1) := by decide +kernel
theorem dX12_telling_130 : decode cX12_telling 130 = .ok (.getfield 73, 3) := by decide +kernel
theorem dX12_telling_133 : decode cX12_telling 133 = .ok (.aload_n 0, 1) := by decide +kernel
theorem dX12_telling_134 : decode cX12_telling 134 = .ok (.getfield 109, 3) := by decide +kernel
theorem dX12_telling_137 : decode cX12_telling 137 = .ok (.laload, 1) := by decide +kernel
theorem dX12_telling_138 : decode cX12_telling 138 = .ok (.lastore, 1) := by decide +kernel
theorem dX12_telling_139 : decode cX12_telling 139 = .ok (.aload_n 0, 1) := by decide +kernel
theorem dX12_telling_140 : decode cX12_telling 140 = .ok (.getfield 209, 3) := by decide +kernel
theorem dX12_telling_143 : decode cX12_telling 143 = .ok (.aload_n 0, 1) := by decide +kernel
theorem dX12_telling_144 : decode cX12_telling 144 = .ok (.getfield 174, 3) := by decide +kernel
theorem dX12_telling_147 : decode cX12_telling 147 = .ok (.iload_n 1, 1) := by decide +kernel
theorem dX12_telling_148 : decode cX12_telling 148 = .ok (.iastore, 1) := by decide +kernel
theorem dX12_telling_149 : decode cX12_telling 149 = .ok (.aload_n 0, 1) := by decide +kernel
theorem dX12_telling_150 : decode cX12_telling 150 = .ok (.getfield 212, 3) := by decide +kernel
theorem dX12_telling_153 : decode cX12_telling 153 = .ok (.aload_n 0, 1) := by decide +kernel
theorem dX12_telling_154 : decode cX12_telling 154 = .ok (.getfield 174, 3) := by decide +kernel
theorem dX12_telling_157 : decode cX12_telling 157 = .ok (.iload_n 2, 1) := by decide +kernel
theorem dX12_telling_158 : decode cX12_telling 158 = .ok (.iastore, 1) := by decide +kernel
theorem dX12_telling_159 : decode cX12_telling 159 = .ok (.aload_n 0, 1) := by decide +kernel
theorem dX12_telling_160 : decode cX12_telling 160 = .ok (.dup, 1) := by decide +kernel
theorem dX12_telling_161 : decode cX12_telling 161 = .ok (.getfield 174, 3) := by decide +kernel
theorem dX12_telling_164 : decode cX12_telling 164 = .ok (.iconst 1, 1) := by decide +kernel
theorem dX12_telling_165 : decode cX12_telling 165 = .ok (.iadd, 1) := by decide +kernel
theorem dX12_telling_166 : decode cX12_telling 166 = .ok (.putfield 174, 3) := by decide +kernel
theorem dX12_telling_169 : decode cX12_telling 169 = .ok (.return_, 1) := by decide +kernel
abbrev cX12_constant : ByteArray := prog_14_method_40_code
def yX12_constant : MethodName := ⟨RX12, "constant", "()V"⟩
theorem dX12_constant_0 : decode cX12_constant 0 = .ok (.aload_n 0, 1) := by decide +kernel
theorem dX12_constant_1 : decode cX12_constant 1 = .ok (.sipush 241, 3) := by decide +kernel
theorem dX12_constant_4 : decode cX12_constant 4 = .ok (.invokevirtual 218, 3) := by decide +kernel
theorem dX12_constant_7 : decode cX12_constant 7 = .ok (.istore_n 1, 1) := by decide +kernel
theorem dX12_constant_8 : decode cX12_constant 8 = .ok (.aload_n 0, 1) := by decide +kernel
theorem dX12_constant_9 : decode cX12_constant 9 = .ok (.invokevirtual 221, 3) := by decide +kernel
theorem dX12_constant_12 : decode cX12_constant 12 = .ok (.ifCond .ne 16, 3) := by decide +kernel
theorem dX12_constant_15 : decode cX12_constant 15 = .ok (.aload_n 0, 1) := by decide +kernel
theorem dX12_constant_16 : decode cX12_constant 16 = .ok (.iconst 4, 1) := by decide +kernel
theorem dX12_constant_17 : decode cX12_constant 17 = .ok (.invokevirtual 112, 3) := by decide +kernel
theorem dX12_constant_20 : decode cX12_constant 20 = .ok (.ifCond .ne 8, 3) := by decide +kernel
theorem dX12_constant_23 : decode cX12_constant 23 = .ok (.aload_n 0, 1) := by decide +kernel
theorem dX12_constant_24 : decode cX12_constant 24 = .ok (.invokevirtual 115, 3) := by decide +kernel
theorem dX12_constant_27 : decode cX12_constant 27 = .ok (.return_, 1) := by decide +kernel
theorem dX12_constant_28 : decode cX12_constant 28 = .ok (.aload_n 0, 1) := by decide +kernel
theorem dX12_constant_29 : decode cX12_constant 29 = .ok (.aload_n 0, 1) := by decide +kernel
theorem dX12_constant_30 : decode cX12_constant 30 = .ok (.iconst 3, 1) := by decide +kernel
theorem dX12_constant_31 : decode cX12_constant 31 = .ok (.invokevirtual 112, 3) := by decide +kernel
theorem dX12_constant_34 : decode cX12_constant 34 = .ok (.iconst 5, 1) := by decide +kernel
theorem dX12_constant_35 : decode cX12_constant 35 = .ok (.aload_n 0, 1) := by decide +kernel
theorem dX12_constant_36 : decode cX12_constant 36 = .ok (.getfield 35, 3) := by decide +kernel
theorem dX12_constant_39 : decode cX12_constant 39 = .ok (.aload_n 0, 1) := by decide +kernel
theorem dX12_constant_40 : decode cX12_constant 40 = .ok (.getfield 109, 3) := by decide +kernel
theorem dX12_constant_43 : decode cX12_constant 43 = .ok (.iaload, 1) := by decide +kernel
theorem dX12_constant_44 : decode cX12_constant 44 = .ok (.invokevirtual 202, 3) := by decide +kernel
theorem dX12_constant_47 : decode cX12_constant 47 = .ok (.aload_n 0, 1) := by decide +kernel
theorem dX12_constant_48 : decode cX12_constant 48 = .ok (.iload_n 1, 1) := by decide +kernel
theorem dX12_constant_49 : decode cX12_constant 49 = .ok (.ifCond .eq 28, 3) := by decide +kernel
theorem dX12_constant_52 : decode cX12_constant 52 = .ok (.aload_n 0, 1) := by decide +kernel
theorem dX12_constant_53 : decode cX12_constant 53 = .ok (.getfield 41, 3) := by decide +kernel
theorem dX12_constant_56 : decode cX12_constant 56 = .ok (.aload_n 0, 1) := by decide +kernel
theorem dX12_constant_57 : decode cX12_constant 57 = .ok (.getfield 109, 3) := by decide +kernel
theorem dX12_constant_60 : decode cX12_constant 60 = .ok (.baload, 1) := by decide +kernel
theorem dX12_constant_61 : decode cX12_constant 61 = .ok (.aload_n 0, 1) := by decide +kernel
theorem dX12_constant_62 : decode cX12_constant 62 = .ok (.getfield 45, 3) := by decide +kernel
theorem dX12_constant_65 : decode cX12_constant 65 = .ok (.aload_n 0, 1) := by decide +kernel
theorem dX12_constant_66 : decode cX12_constant 66 = .ok (.getfield 109, 3) := by decide +kernel
theorem dX12_constant_69 : decode cX12_constant 69 = .ok (.laload, 1) := by decide +kernel
theorem dX12_constant_70 : decode cX12_constant 70 = .ok (.lneg, 1) := by decide +kernel
theorem dX12_constant_71 : decode cX12_constant 71 = .ok (.invokestatic 225, 3) := by decide +kernel
theorem dX12_constant_74 : decode cX12_constant 74 = .ok (.goto 12, 3) := by decide +kernel
theorem dX12_constant_77 : decode cX12_constant 77 = .ok (.aload_n 0, 1) := by decide +kernel
theorem dX12_constant_78 : decode cX12_constant 78 = .ok (.getfield 45, 3) := by decide +kernel
theorem dX12_constant_81 : decode cX12_constant 81 = .ok (.aload_n 0, 1) := by decide +kernel
theorem dX12_constant_82 : decode cX12_constant 82 = .ok (.getfield 109, 3) := by decide +kernel
theorem dX12_constant_85 : decode cX12_constant 85 = .ok (.laload, 1) := by decide +kernel
theorem dX12_constant_86 : decode cX12_constant 86 = .ok (.putfield 229, 3) := by decide +kernel
theorem dX12_constant_89 : decode cX12_constant 89 = .ok (.aload_n 0, 1) := by decide +kernel
theorem dX12_constant_90 : decode cX12_constant 90 = .ok (.dup, 1) := by decide +kernel
theorem dX12_constant_91 : decode cX12_constant 91 = .ok (.getfield 109, 3) := by decide +kernel
theorem dX12_constant_94 : decode cX12_constant 94 = .ok (.iconst 1, 1) := by decide +kernel
theorem dX12_constant_95 : decode cX12_constant 95 = .ok (.iadd, 1) := by decide +kernel
theorem dX12_constant_96 : decode cX12_constant 96 = .ok (.putfield 109, 3) := by decide +kernel
theorem dX12_constant_99 : decode cX12_constant 99 = .ok (.return_, 1) := by decide +kernel
abbrev cX12_bounded : ByteArray := prog_14_method_41_code
def yX12_bounded : MethodName := ⟨RX12, "bounded", "(II)I"⟩
theorem dX12_bounded_0 : decode cX12_bounded 0 = .ok (.aload_n 0, 1) := by decide +kernel
theorem dX12_bounded_1 : decode cX12_bounded 1 = .ok (.invokevirtual 221, 3) := by decide +kernel
theorem dX12_bounded_4 : decode cX12_bounded 4 = .ok (.ifCond .ne 9, 3) := by decide +kernel
theorem dX12_bounded_7 : decode cX12_bounded 7 = .ok (.aload_n 0, 1) := by decide +kernel
theorem dX12_bounded_8 : decode cX12_bounded 8 = .ok (.invokevirtual 115, 3) := by decide +kernel
theorem dX12_bounded_11 : decode cX12_bounded 11 = .ok (.iload_n 1, 1) := by decide +kernel
theorem dX12_bounded_12 : decode cX12_bounded 12 = .ok (.ireturn, 1) := by decide +kernel
theorem dX12_bounded_13 : decode cX12_bounded 13 = .ok (.aload_n 0, 1) := by decide +kernel
theorem dX12_bounded_14 : decode cX12_bounded 14 = .ok (.aload_n 0, 1) := by decide +kernel
theorem dX12_bounded_15 : decode cX12_bounded 15 = .ok (.iconst 3, 1) := by decide +kernel
theorem dX12_bounded_16 : decode cX12_bounded 16 = .ok (.invokevirtual 112, 3) := by decide +kernel
theorem dX12_bounded_19 : decode cX12_bounded 19 = .ok (.ifCond .ne 33, 3) := by decide +kernel
theorem dX12_bounded_22 : decode cX12_bounded 22 = .ok (.aload_n 0, 1) := by decide +kernel
theorem dX12_bounded_23 : decode cX12_bounded 23 = .ok (.getfield 45, 3) := by decide +kernel
theorem dX12_bounded_26 : decode cX12_bounded 26 = .ok (.aload_n 0, 1) := by decide +kernel
theorem dX12_bounded_27 : decode cX12_bounded 27 = .ok (.getfield 109, 3) := by decide +kernel
theorem dX12_bounded_30 : decode cX12_bounded 30 = .ok (.laload, 1) := by decide +kernel
theorem dX12_bounded_31 : decode cX12_bounded 31 = .ok (.iload_n 1, 1) := by decide +kernel
theorem dX12_bounded_32 : decode cX12_bounded 32 = .ok (.i2l, 1) := by decide +kernel
theorem dX12_bounded_33 : decode cX12_bounded 33 = .ok (.lcmp, 1) := by decide +kernel
theorem dX12_bounded_34 : decode cX12_bounded 34 = .ok (.ifCond .lt 18, 3) := by decide +kernel
theorem dX12_bounded_37 : decode cX12_bounded 37 = .ok (.aload_n 0, 1) := by decide +kernel
theorem dX12_bounded_38 : decode cX12_bounded 38 = .ok (.getfield 45, 3) := by decide +kernel
theorem dX12_bounded_41 : decode cX12_bounded 41 = .ok (.aload_n 0, 1) := by decide +kernel
theorem dX12_bounded_42 : decode cX12_bounded 42 = .ok (.getfield 109, 3) := by decide +kernel
theorem dX12_bounded_45 : decode cX12_bounded 45 = .ok (.laload, 1) := by decide +kernel
theorem dX12_bounded_46 : decode cX12_bounded 46 = .ok (.iload_n 2, 1) := by decide +kernel
theorem dX12_bounded_47 : decode cX12_bounded 47 = .ok (.i2l, 1) := by decide +kernel
theorem dX12_bounded_48 : decode cX12_bounded 48 = .ok (.lcmp, 1) := by decide +kernel
theorem dX12_bounded_49 : decode cX12_bounded 49 = .ok (.ifCond .le 7, 3) := by decide +kernel
theorem dX12_bounded_52 : decode cX12_bounded 52 = .ok (.iconst 1, 1) := by decide +kernel
theorem dX12_bounded_53 : decode cX12_bounded 53 = .ok (.goto 4, 3) := by decide +kernel
theorem dX12_bounded_56 : decode cX12_bounded 56 = .ok (.iconst 0, 1) := by decide +kernel
theorem dX12_bounded_57 : decode cX12_bounded 57 = .ok (.iconst 5, 1) := by decide +kernel
theorem dX12_bounded_58 : decode cX12_bounded 58 = .ok (.aload_n 0, 1) := by decide +kernel
theorem dX12_bounded_59 : decode cX12_bounded 59 = .ok (.getfield 35, 3) := by decide +kernel
theorem dX12_bounded_62 : decode cX12_bounded 62 = .ok (.aload_n 0, 1) := by decide +kernel
theorem dX12_bounded_63 : decode cX12_bounded 63 = .ok (.getfield 109, 3) := by decide +kernel
theorem dX12_bounded_66 : decode cX12_bounded 66 = .ok (.iaload, 1) := by decide +kernel
theorem dX12_bounded_67 : decode cX12_bounded 67 = .ok (.invokevirtual 202, 3) := by decide +kernel
theorem dX12_bounded_70 : decode cX12_bounded 70 = .ok (.aload_n 0, 1) := by decide +kernel
theorem dX12_bounded_71 : decode cX12_bounded 71 = .ok (.dup, 1) := by decide +kernel
theorem dX12_bounded_72 : decode cX12_bounded 72 = .ok (.getfield 109, 3) := by decide +kernel
theorem dX12_bounded_75 : decode cX12_bounded 75 = .ok (.iconst 1, 1) := by decide +kernel
theorem dX12_bounded_76 : decode cX12_bounded 76 = .ok (.iadd, 1) := by decide +kernel
theorem dX12_bounded_77 : decode cX12_bounded 77 = .ok (.putfield 109, 3) := by decide +kernel
theorem dX12_bounded_80 : decode cX12_bounded 80 = .ok (.aload_n 0, 1) := by decide +kernel
theorem dX12_bounded_81 : decode cX12_bounded 81 = .ok (.getfield 45, 3) := by decide +kernel
theorem dX12_bounded_84 : decode cX12_bounded 84 = .ok (.aload_n 0, 1) := by decide +kernel
theorem dX12_bounded_85 : decode cX12_bounded 85 = .ok (.getfield 109, 3) := by decide +kernel
theorem dX12_bounded_88 : decode cX12_bounded 88 = .ok (.iconst 1, 1) := by decide +kernel
theorem dX12_bounded_89 : decode cX12_bounded 89 = .ok (.isub, 1) := by decide +kernel
theorem dX12_bounded_90 : decode cX12_bounded 90 = .ok (.laload, 1) := by decide +kernel
theorem dX12_bounded_91 : decode cX12_bounded 91 = .ok (.l2i, 1) := by decide +kernel
theorem dX12_bounded_92 : decode cX12_bounded 92 = .ok (.ireturn, 1) := by decide +kernel
abbrev cX12_local : ByteArray := prog_14_method_42_code
def yX12_local : MethodName := ⟨RX12, "local", "(Z)V"⟩
theorem dX12_local_0 : decode cX12_local 0 = .ok (.aload_n 0, 1) := by decide +kernel
theorem dX12_local_1 : decode cX12_local 1 = .ok (.aload_n 0, 1) := by decide +kernel
theorem dX12_local_2 : decode cX12_local 2 = .ok (.aload_n 0, 1) := by decide +kernel
theorem dX12_local_3 : decode cX12_local 3 = .ok (.getfield 66, 3) := by decide +kernel
theorem dX12_local_6 : decode cX12_local 6 = .ok (.aload_n 0, 1) := by decide +kernel
theorem dX12_local_7 : decode cX12_local 7 = .ok (.getfield 109, 3) := by decide +kernel
theorem dX12_local_10 : decode cX12_local 10 = .ok (.laload, 1) := by decide +kernel
theorem dX12_local_11 : decode cX12_local 11 = .ok (.aload_n 0, 1) := by decide +kernel
theorem dX12_local_12 : decode cX12_local 12 = .ok (.getfield 73, 3) := by decide +kernel
theorem dX12_local_15 : decode cX12_local 15 = .ok (.aload_n 0, 1) := by decide +kernel
theorem dX12_local_16 : decode cX12_local 16 = .ok (.getfield 109, 3) := by decide +kernel
theorem dX12_local_19 : decode cX12_local 19 = .ok (.laload, 1) := by decide +kernel
theorem dX12_local_20 : decode cX12_local 20 = .ok (.invokevirtual 215, 3) := by decide +kernel
theorem dX12_local_23 : decode cX12_local 23 = .ok (.iconst (-1), 1) := by decide +kernel
theorem dX12_local_24 : decode cX12_local 24 = .ok (.if_icmp .eq 7, 3) := by decide +kernel
theorem dX12_local_27 : decode cX12_local 27 = .ok (.iconst 1, 1) := by decide +kernel
theorem dX12_local_28 : decode cX12_local 28 = .ok (.goto 4, 3) := by decide +kernel
theorem dX12_local_31 : decode cX12_local 31 = .ok (.iconst 0, 1) := by decide +kernel
theorem dX12_local_32 : decode cX12_local 32 = .ok (.iconst 3, 1) := by decide +kernel
theorem dX12_local_33 : decode cX12_local 33 = .ok (.aload_n 0, 1) := by decide +kernel
theorem dX12_local_34 : decode cX12_local 34 = .ok (.getfield 35, 3) := by decide +kernel
theorem dX12_local_37 : decode cX12_local 37 = .ok (.aload_n 0, 1) := by decide +kernel
theorem dX12_local_38 : decode cX12_local 38 = .ok (.getfield 109, 3) := by decide +kernel
theorem dX12_local_41 : decode cX12_local 41 = .ok (.iaload, 1) := by decide +kernel
theorem dX12_local_42 : decode cX12_local 42 = .ok (.invokevirtual 202, 3) := by decide +kernel
theorem dX12_local_45 : decode cX12_local 45 = .ok (.aload_n 0, 1) := by decide +kernel
theorem dX12_local_46 : decode cX12_local 46 = .ok (.aload_n 0, 1) := by decide +kernel
theorem dX12_local_47 : decode cX12_local 47 = .ok (.getfield 206, 3) := by decide +kernel
theorem dX12_local_50 : decode cX12_local 50 = .ok (.sipush 160, 3) := by decide +kernel
theorem dX12_local_53 : decode cX12_local 53 = .ok (.if_icmp .eq 28, 3) := by decide +kernel
theorem dX12_local_56 : decode cX12_local 56 = .ok (.iload_n 1, 1) := by decide +kernel
theorem dX12_local_57 : decode cX12_local 57 = .ok (.ifCond .eq 28, 3) := by decide +kernel
theorem dX12_local_60 : decode cX12_local 60 = .ok (.aload_n 0, 1) := by decide +kernel
theorem dX12_local_61 : decode cX12_local 61 = .ok (.getfield 101, 3) := by decide +kernel
theorem dX12_local_64 : decode cX12_local 64 = .ok (.ifCond .eq 21, 3) := by decide +kernel
theorem dX12_local_67 : decode cX12_local 67 = .ok (.aload_n 0, 1) := by decide +kernel
theorem dX12_local_68 : decode cX12_local 68 = .ok (.getfield 233, 3) := by decide +kernel
theorem dX12_local_71 : decode cX12_local 71 = .ok (.aload_n 0, 1) := by decide +kernel
theorem dX12_local_72 : decode cX12_local 72 = .ok (.getfield 236, 3) := by decide +kernel
theorem dX12_local_75 : decode cX12_local 75 = .ok (.iaload, 1) := by decide +kernel
theorem dX12_local_76 : decode cX12_local 76 = .ok (.bipush 6, 2) := by decide +kernel
theorem dX12_local_78 : decode cX12_local 78 = .ok (.if_icmp .ne 7, 3) := by decide +kernel
theorem dX12_local_81 : decode cX12_local 81 = .ok (.iconst 1, 1) := by decide +kernel
theorem dX12_local_82 : decode cX12_local 82 = .ok (.goto 4, 3) := by decide +kernel
theorem dX12_local_85 : decode cX12_local 85 = .ok (.iconst 0, 1) := by decide +kernel
theorem dX12_local_86 : decode cX12_local 86 = .ok (.iconst 5, 1) := by decide +kernel
theorem dX12_local_87 : decode cX12_local 87 = .ok (.aload_n 0, 1) := by decide +kernel
theorem dX12_local_88 : decode cX12_local 88 = .ok (.getfield 35, 3) := by decide +kernel
theorem dX12_local_91 : decode cX12_local 91 = .ok (.aload_n 0, 1) := by decide +kernel
theorem dX12_local_92 : decode cX12_local 92 = .ok (.getfield 109, 3) := by decide +kernel
theorem dX12_local_95 : decode cX12_local 95 = .ok (.iaload, 1) := by decide +kernel
theorem dX12_local_96 : decode cX12_local 96 = .ok (.invokevirtual 202, 3) := by decide +kernel
theorem dX12_local_99 : decode cX12_local 99 = .ok (.aload_n 0, 1) := by decide +kernel
theorem dX12_local_100 : decode cX12_local 100 = .ok (.getfield 101, 3) := by decide +kernel
theorem dX12_local_103 : decode cX12_local 103 = .ok (.ifCond .eq 20, 3) := by decide +kernel
theorem dX12_local_106 : decode cX12_local 106 = .ok (.aload_n 0, 1) := by decide +kernel
theorem dX12_local_107 : decode cX12_local 107 = .ok (.getfield 95, 3) := by decide +kernel
theorem dX12_local_110 : decode cX12_local 110 = .ok (.ifCond .ne 13, 3) := by decide +kernel
theorem dX12_local_113 : decode cX12_local 113 = .ok (.aload_n 0, 1) := by decide +kernel
theorem dX12_local_114 : decode cX12_local 114 = .ok (.dup, 1) := by decide +kernel
theorem dX12_local_115 : decode cX12_local 115 = .ok (.getfield 206, 3) := by decide +kernel
theorem dX12_local_118 : decode cX12_local 118 = .ok (.iconst 1, 1) := by decide +kernel
theorem dX12_local_119 : decode cX12_local 119 = .ok (.iadd, 1) := by decide +kernel
theorem dX12_local_120 : decode cX12_local 120 = .ok (.putfield 206, 3) := by decide +kernel
theorem dX12_local_123 : decode cX12_local 123 = .ok (.return_, 1) := by decide +kernel
abbrev cX12_addSlot : ByteArray := prog_14_method_43_code
def yX12_addSlot : MethodName := ⟨RX12, "addSlot", "(IIIZJ)V"⟩
theorem dX12_addSlot_0 : decode cX12_addSlot 0 = .ok (.aload_n 0, 1) := by decide +kernel
theorem dX12_addSlot_1 : decode cX12_addSlot 1 = .ok (.aload_n 0, 1) := by decide +kernel
theorem dX12_addSlot_2 : decode cX12_addSlot 2 = .ok (.getfield 239, 3) := by decide +kernel
theorem dX12_addSlot_5 : decode cX12_addSlot 5 = .ok (.iload_n 3, 1) := by decide +kernel
theorem dX12_addSlot_6 : decode cX12_addSlot 6 = .ok (.iadd, 1) := by decide +kernel
theorem dX12_addSlot_7 : decode cX12_addSlot 7 = .ok (.bipush 100, 2) := by decide +kernel
theorem dX12_addSlot_9 : decode cX12_addSlot 9 = .ok (.if_icmp .le 7, 3) := by decide +kernel
theorem dX12_addSlot_12 : decode cX12_addSlot 12 = .ok (.iconst 1, 1) := by decide +kernel
theorem dX12_addSlot_13 : decode cX12_addSlot 13 = .ok (.goto 4, 3) := by decide +kernel
theorem dX12_addSlot_16 : decode cX12_addSlot 16 = .ok (.iconst 0, 1) := by decide +kernel
theorem dX12_addSlot_17 : decode cX12_addSlot 17 = .ok (.iconst 5, 1) := by decide +kernel
theorem dX12_addSlot_18 : decode cX12_addSlot 18 = .ok (.aload_n 0, 1) := by decide +kernel
theorem dX12_addSlot_19 : decode cX12_addSlot 19 = .ok (.getfield 35, 3) := by decide +kernel
theorem dX12_addSlot_22 : decode cX12_addSlot 22 = .ok (.iload_n 1, 1) := by decide +kernel
theorem dX12_addSlot_23 : decode cX12_addSlot 23 = .ok (.iaload, 1) := by decide +kernel
theorem dX12_addSlot_24 : decode cX12_addSlot 24 = .ok (.invokevirtual 202, 3) := by decide +kernel
theorem dX12_addSlot_27 : decode cX12_addSlot 27 = .ok (.aload_n 0, 1) := by decide +kernel
theorem dX12_addSlot_28 : decode cX12_addSlot 28 = .ok (.getfield 101, 3) := by decide +kernel
theorem dX12_addSlot_31 : decode cX12_addSlot 31 = .ok (.ifCond .eq 10, 3) := by decide +kernel
theorem dX12_addSlot_34 : decode cX12_addSlot 34 = .ok (.aload_n 0, 1) := by decide +kernel
theorem dX12_addSlot_35 : decode cX12_addSlot 35 = .ok (.getfield 95, 3) := by decide +kernel
theorem dX12_addSlot_38 : decode cX12_addSlot 38 = .ok (.ifCond .eq 4, 3) := by decide +kernel
theorem dX12_addSlot_41 : decode cX12_addSlot 41 = .ok (.return_, 1) := by decide +kernel
theorem dX12_addSlot_42 : decode cX12_addSlot 42 = .ok (.sipush 160, 3) := by decide +kernel
theorem dX12_addSlot_45 : decode cX12_addSlot 45 = .ok (.aload_n 0, 1) := by decide +kernel
theorem dX12_addSlot_46 : decode cX12_addSlot 46 = .ok (.getfield 129, 3) := by decide +kernel
theorem dX12_addSlot_49 : decode cX12_addSlot 49 = .ok (.imul, 1) := by decide +kernel
theorem dX12_addSlot_50 : decode cX12_addSlot 50 = .ok (.aload_n 0, 1) := by decide +kernel
theorem dX12_addSlot_51 : decode cX12_addSlot 51 = .ok (.getfield 189, 3) := by decide +kernel
theorem dX12_addSlot_54 : decode cX12_addSlot 54 = .ok (.aload_n 0, 1) := by decide +kernel
theorem dX12_addSlot_55 : decode cX12_addSlot 55 = .ok (.getfield 129, 3) := by decide +kernel
theorem dX12_addSlot_58 : decode cX12_addSlot 58 = .ok (.iaload, 1) := by decide +kernel
theorem dX12_addSlot_59 : decode cX12_addSlot 59 = .ok (.iadd, 1) := by decide +kernel
theorem dX12_addSlot_60 : decode cX12_addSlot 60 = .ok (.istore 7, 2) := by decide +kernel
theorem dX12_addSlot_62 : decode cX12_addSlot 62 = .ok (.aload_n 0, 1) := by decide +kernel
theorem dX12_addSlot_63 : decode cX12_addSlot 63 = .ok (.getfield 242, 3) := by decide +kernel
theorem dX12_addSlot_66 : decode cX12_addSlot 66 = .ok (.iload 7, 2) := by decide +kernel
theorem dX12_addSlot_68 : decode cX12_addSlot 68 = .ok (.iload_n 2, 1) := by decide +kernel
theorem dX12_addSlot_69 : decode cX12_addSlot 69 = .ok (.iastore, 1) := by decide +kernel
theorem dX12_addSlot_70 : decode cX12_addSlot 70 = .ok (.aload_n 0, 1) := by decide +kernel
theorem dX12_addSlot_71 : decode cX12_addSlot 71 = .ok (.getfield 245, 3) := by decide +kernel
theorem dX12_addSlot_74 : decode cX12_addSlot 74 = .ok (.iload 7, 2) := by decide +kernel
theorem dX12_addSlot_76 : decode cX12_addSlot 76 = .ok (.iload_n 3, 1) := by decide +kernel
theorem dX12_addSlot_77 : decode cX12_addSlot 77 = .ok (.iastore, 1) := by decide +kernel
theorem dX12_addSlot_78 : decode cX12_addSlot 78 = .ok (.aload_n 0, 1) := by decide +kernel
theorem dX12_addSlot_79 : decode cX12_addSlot 79 = .ok (.getfield 248, 3) := by decide +kernel
theorem dX12_addSlot_82 : decode cX12_addSlot 82 = .ok (.iload 7, 2) := by decide +kernel
theorem dX12_addSlot_84 : decode cX12_addSlot 84 = .ok (.iload 4, 2) := by decide +kernel
theorem dX12_addSlot_86 : decode cX12_addSlot 86 = .ok (.bastore, 1) := by decide +kernel
theorem dX12_addSlot_87 : decode cX12_addSlot 87 = .ok (.aload_n 0, 1) := by decide +kernel
theorem dX12_addSlot_88 : decode cX12_addSlot 88 = .ok (.getfield 251, 3) := by decide +kernel
theorem dX12_addSlot_91 : decode cX12_addSlot 91 = .ok (.iload 7, 2) := by decide +kernel
theorem dX12_addSlot_93 : decode cX12_addSlot 93 = .ok (.aload_n 0, 1) := by decide +kernel
theorem dX12_addSlot_94 : decode cX12_addSlot 94 = .ok (.getfield 239, 3) := by decide +kernel
theorem dX12_addSlot_97 : decode cX12_addSlot 97 = .ok (.iastore, 1) := by decide +kernel
theorem dX12_addSlot_98 : decode cX12_addSlot 98 = .ok (.aload_n 0, 1) := by decide +kernel
theorem dX12_addSlot_99 : decode cX12_addSlot 99 = .ok (.getfield 254, 3) := by decide +kernel
theorem dX12_addSlot_102 : decode cX12_addSlot 102 = .ok (.iload 7, 2) := by decide +kernel
theorem dX12_addSlot_104 : decode cX12_addSlot 104 = .ok (.lload 5, 2) := by decide +kernel
theorem dX12_addSlot_106 : decode cX12_addSlot 106 = .ok (.lastore, 1) := by decide +kernel
theorem dX12_addSlot_107 : decode cX12_addSlot 107 = .ok (.aload_n 0, 1) := by decide +kernel
theorem dX12_addSlot_108 : decode cX12_addSlot 108 = .ok (.getfield 192, 3) := by decide +kernel
theorem dX12_addSlot_111 : decode cX12_addSlot 111 = .ok (.iload 7, 2) := by decide +kernel
theorem dX12_addSlot_113 : decode cX12_addSlot 113 = .ok (.aload_n 0, 1) := by decide +kernel
theorem dX12_addSlot_114 : decode cX12_addSlot 114 = .ok (.getfield 66, 3) := by decide +kernel
theorem dX12_addSlot_117 : decode cX12_addSlot 117 = .ok (.iload_n 1, 1) := by decide +kernel
theorem dX12_addSlot_118 : decode cX12_addSlot 118 = .ok (.laload, 1) := by decide +kernel
theorem dX12_addSlot_119 : decode cX12_addSlot 119 = .ok (.lastore, 1) := by decide +kernel
theorem dX12_addSlot_120 : decode cX12_addSlot 120 = .ok (.aload_n 0, 1) := by decide +kernel
theorem dX12_addSlot_121 : decode cX12_addSlot 121 = .ok (.getfield 195, 3) := by decide +kernel
theorem dX12_addSlot_124 : decode cX12_addSlot 124 = .ok (.iload 7, 2) := by decide +kernel
theorem dX12_addSlot_126 : decode cX12_addSlot 126 = .ok (.aload_n 0, 1) := by decide +kernel
theorem dX12_addSlot_127 : decode cX12_addSlot 127 = .ok (.getfield 73, 3) := by decide +kernel
theorem dX12_addSlot_130 : decode cX12_addSlot 130 = .ok (.iload_n 1, 1) := by decide +kernel
theorem dX12_addSlot_131 : decode cX12_addSlot 131 = .ok (.laload, 1) := by decide +kernel
theorem dX12_addSlot_132 : decode cX12_addSlot 132 = .ok (.lastore, 1) := by decide +kernel
theorem dX12_addSlot_133 : decode cX12_addSlot 133 = .ok (.aload_n 0, 1) := by decide +kernel
theorem dX12_addSlot_134 : decode cX12_addSlot 134 = .ok (.getfield 189, 3) := by decide +kernel
theorem dX12_addSlot_137 : decode cX12_addSlot 137 = .ok (.aload_n 0, 1) := by decide +kernel
theorem dX12_addSlot_138 : decode cX12_addSlot 138 = .ok (.getfield 129, 3) := by decide +kernel
theorem dX12_addSlot_141 : decode cX12_addSlot 141 = .ok (.dup2, 1) := by decide +kernel
theorem dX12_addSlot_142 : decode cX12_addSlot 142 = .ok (.iaload, 1) := by decide +kernel
theorem dX12_addSlot_143 : decode cX12_addSlot 143 = .ok (.iconst 1, 1) := by decide +kernel
theorem dX12_addSlot_144 : decode cX12_addSlot 144 = .ok (.iadd, 1) := by decide +kernel
theorem dX12_addSlot_145 : decode cX12_addSlot 145 = .ok (.iastore, 1) := by decide +kernel
theorem dX12_addSlot_146 : decode cX12_addSlot 146 = .ok (.aload_n 0, 1) := by decide +kernel
theorem dX12_addSlot_147 : decode cX12_addSlot 147 = .ok (.dup, 1) := by decide +kernel
theorem dX12_addSlot_148 : decode cX12_addSlot 148 = .ok (.getfield 239, 3) := by decide +kernel
theorem dX12_addSlot_151 : decode cX12_addSlot 151 = .ok (.iload_n 3, 1) := by decide +kernel
theorem dX12_addSlot_152 : decode cX12_addSlot 152 = .ok (.iadd, 1) := by decide +kernel
theorem dX12_addSlot_153 : decode cX12_addSlot 153 = .ok (.putfield 239, 3) := by decide +kernel
theorem dX12_addSlot_156 : decode cX12_addSlot 156 = .ok (.aload_n 0, 1) := by decide +kernel
theorem dX12_addSlot_157 : decode cX12_addSlot 157 = .ok (.getfield 257, 3) := by decide +kernel
theorem dX12_addSlot_160 : decode cX12_addSlot 160 = .ok (.aload_n 0, 1) := by decide +kernel
theorem dX12_addSlot_161 : decode cX12_addSlot 161 = .ok (.getfield 236, 3) := by decide +kernel
theorem dX12_addSlot_164 : decode cX12_addSlot 164 = .ok (.dup2, 1) := by decide +kernel
theorem dX12_addSlot_165 : decode cX12_addSlot 165 = .ok (.iaload, 1) := by decide +kernel
theorem dX12_addSlot_166 : decode cX12_addSlot 166 = .ok (.iconst 1, 1) := by decide +kernel
theorem dX12_addSlot_167 : decode cX12_addSlot 167 = .ok (.iadd, 1) := by decide +kernel
theorem dX12_addSlot_168 : decode cX12_addSlot 168 = .ok (.iastore, 1) := by decide +kernel
theorem dX12_addSlot_169 : decode cX12_addSlot 169 = .ok (.aload_n 0, 1) := by decide +kernel
theorem dX12_addSlot_170 : decode cX12_addSlot 170 = .ok (.getfield 260, 3) := by decide +kernel
theorem dX12_addSlot_173 : decode cX12_addSlot 173 = .ok (.aload_n 0, 1) := by decide +kernel
theorem dX12_addSlot_174 : decode cX12_addSlot 174 = .ok (.getfield 236, 3) := by decide +kernel
theorem dX12_addSlot_177 : decode cX12_addSlot 177 = .ok (.aload_n 0, 1) := by decide +kernel
theorem dX12_addSlot_178 : decode cX12_addSlot 178 = .ok (.getfield 239, 3) := by decide +kernel
theorem dX12_addSlot_181 : decode cX12_addSlot 181 = .ok (.iastore, 1) := by decide +kernel
theorem dX12_addSlot_182 : decode cX12_addSlot 182 = .ok (.return_, 1) := by decide +kernel
abbrev cX12_addVariable : ByteArray := prog_14_method_44_code
def yX12_addVariable : MethodName := ⟨RX12, "addVariable", "(IIIIZIJ)V"⟩
theorem dX12_addVariable_0 : decode cX12_addVariable 0 = .ok (.aload_n 0, 1) := by decide +kernel
theorem dX12_addVariable_1 : decode cX12_addVariable 1 = .ok (.getfield 101, 3) := by decide +kernel
theorem dX12_addVariable_4 : decode cX12_addVariable 4 = .ok (.ifCond .eq 47, 3) := by decide +kernel
theorem dX12_addVariable_7 : decode cX12_addVariable 7 = .ok (.iload_n 3, 1) := by decide +kernel
theorem dX12_addVariable_8 : decode cX12_addVariable 8 = .ok (.iconst 2, 1) := by decide +kernel
theorem dX12_addVariable_9 : decode cX12_addVariable 9 = .ok (.if_icmp .ge 42, 3) := by decide +kernel
theorem dX12_addVariable_12 : decode cX12_addVariable 12 = .ok (.aload_n 0, 1) := by decide +kernel
theorem dX12_addVariable_13 : decode cX12_addVariable 13 = .ok (.getfield 263, 3) := by decide +kernel
theorem dX12_addVariable_16 : decode cX12_addVariable 16 = .ok (.iload_n 2, 1) := by decide +kernel
theorem dX12_addVariable_17 : decode cX12_addVariable 17 = .ok (.dup2, 1) := by decide +kernel
theorem dX12_addVariable_18 : decode cX12_addVariable 18 = .ok (.iaload, 1) := by decide +kernel
theorem dX12_addVariable_19 : decode cX12_addVariable 19 = .ok (.iload 4, 2) := by decide +kernel
theorem dX12_addVariable_21 : decode cX12_addVariable 21 = .ok (.iadd, 1) := by decide +kernel
theorem dX12_addVariable_22 : decode cX12_addVariable 22 = .ok (.iastore, 1) := by decide +kernel
theorem dX12_addVariable_23 : decode cX12_addVariable 23 = .ok (.aload_n 0, 1) := by decide +kernel
theorem dX12_addVariable_24 : decode cX12_addVariable 24 = .ok (.aload_n 0, 1) := by decide +kernel
theorem dX12_addVariable_25 : decode cX12_addVariable 25 = .ok (.getfield 263, 3) := by decide +kernel
theorem dX12_addVariable_28 : decode cX12_addVariable 28 = .ok (.iload_n 2, 1) := by decide +kernel
theorem dX12_addVariable_29 : decode cX12_addVariable 29 = .ok (.iaload, 1) := by decide +kernel
theorem dX12_addVariable_30 : decode cX12_addVariable 30 = .ok (.sipush 400, 3) := by decide +kernel
theorem dX12_addVariable_33 : decode cX12_addVariable 33 = .ok (.if_icmp .le 7, 3) := by decide +kernel
theorem dX12_addVariable_36 : decode cX12_addVariable 36 = .ok (.iconst 1, 1) := by decide +kernel
theorem dX12_addVariable_37 : decode cX12_addVariable 37 = .ok (.goto 4, 3) := by decide +kernel
theorem dX12_addVariable_40 : decode cX12_addVariable 40 = .ok (.iconst 0, 1) := by decide +kernel
theorem dX12_addVariable_41 : decode cX12_addVariable 41 = .ok (.iconst 5, 1) := by decide +kernel
theorem dX12_addVariable_42 : decode cX12_addVariable 42 = .ok (.aload_n 0, 1) := by decide +kernel
theorem dX12_addVariable_43 : decode cX12_addVariable 43 = .ok (.getfield 35, 3) := by decide +kernel
theorem dX12_addVariable_46 : decode cX12_addVariable 46 = .ok (.iload_n 1, 1) := by decide +kernel
theorem dX12_addVariable_47 : decode cX12_addVariable 47 = .ok (.iaload, 1) := by decide +kernel
theorem dX12_addVariable_48 : decode cX12_addVariable 48 = .ok (.invokevirtual 202, 3) := by decide +kernel
theorem dX12_addVariable_51 : decode cX12_addVariable 51 = .ok (.aload_n 0, 1) := by decide +kernel
theorem dX12_addVariable_52 : decode cX12_addVariable 52 = .ok (.getfield 101, 3) := by decide +kernel
theorem dX12_addVariable_55 : decode cX12_addVariable 55 = .ok (.ifCond .eq 10, 3) := by decide +kernel
theorem dX12_addVariable_58 : decode cX12_addVariable 58 = .ok (.aload_n 0, 1) := by decide +kernel
theorem dX12_addVariable_59 : decode cX12_addVariable 59 = .ok (.getfield 95, 3) := by decide +kernel
theorem dX12_addVariable_62 : decode cX12_addVariable 62 = .ok (.ifCond .eq 4, 3) := by decide +kernel
theorem dX12_addVariable_65 : decode cX12_addVariable 65 = .ok (.return_, 1) := by decide +kernel
theorem dX12_addVariable_66 : decode cX12_addVariable 66 = .ok (.sipush 160, 3) := by decide +kernel
theorem dX12_addVariable_69 : decode cX12_addVariable 69 = .ok (.aload_n 0, 1) := by decide +kernel
theorem dX12_addVariable_70 : decode cX12_addVariable 70 = .ok (.getfield 129, 3) := by decide +kernel
theorem dX12_addVariable_73 : decode cX12_addVariable 73 = .ok (.imul, 1) := by decide +kernel
theorem dX12_addVariable_74 : decode cX12_addVariable 74 = .ok (.aload_n 0, 1) := by decide +kernel
theorem dX12_addVariable_75 : decode cX12_addVariable 75 = .ok (.getfield 266, 3) := by decide +kernel
theorem dX12_addVariable_78 : decode cX12_addVariable 78 = .ok (.aload_n 0, 1) := by decide +kernel
theorem dX12_addVariable_79 : decode cX12_addVariable 79 = .ok (.getfield 129, 3) := by decide +kernel
theorem dX12_addVariable_82 : decode cX12_addVariable 82 = .ok (.iaload, 1) := by decide +kernel
theorem dX12_addVariable_83 : decode cX12_addVariable 83 = .ok (.iadd, 1) := by decide +kernel
theorem dX12_addVariable_84 : decode cX12_addVariable 84 = .ok (.istore 9, 2) := by decide +kernel
theorem dX12_addVariable_86 : decode cX12_addVariable 86 = .ok (.aload_n 0, 1) := by decide +kernel
theorem dX12_addVariable_87 : decode cX12_addVariable 87 = .ok (.getfield 269, 3) := by decide +kernel
theorem dX12_addVariable_90 : decode cX12_addVariable 90 = .ok (.iload 9, 2) := by decide +kernel
theorem dX12_addVariable_92 : decode cX12_addVariable 92 = .ok (.iload_n 2, 1) := by decide +kernel
theorem dX12_addVariable_93 : decode cX12_addVariable 93 = .ok (.iastore, 1) := by decide +kernel
theorem dX12_addVariable_94 : decode cX12_addVariable 94 = .ok (.aload_n 0, 1) := by decide +kernel
theorem dX12_addVariable_95 : decode cX12_addVariable 95 = .ok (.getfield 272, 3) := by decide +kernel
theorem dX12_addVariable_98 : decode cX12_addVariable 98 = .ok (.iload 9, 2) := by decide +kernel
theorem dX12_addVariable_100 : decode cX12_addVariable 100 = .ok (.iload_n 3, 1) := by decide +kernel
theorem dX12_addVariable_101 : decode cX12_addVariable 101 = .ok (.iastore, 1) := by decide +kernel
theorem dX12_addVariable_102 : decode cX12_addVariable 102 = .ok (.aload_n 0, 1) := by decide +kernel
theorem dX12_addVariable_103 : decode cX12_addVariable 103 = .ok (.getfield 275, 3) := by decide +kernel
theorem dX12_addVariable_106 : decode cX12_addVariable 106 = .ok (.iload 9, 2) := by decide +kernel
theorem dX12_addVariable_108 : decode cX12_addVariable 108 = .ok (.iload 4, 2) := by decide +kernel
theorem dX12_addVariable_110 : decode cX12_addVariable 110 = .ok (.iastore, 1) := by decide +kernel
theorem dX12_addVariable_111 : decode cX12_addVariable 111 = .ok (.aload_n 0, 1) := by decide +kernel
theorem dX12_addVariable_112 : decode cX12_addVariable 112 = .ok (.getfield 278, 3) := by decide +kernel
theorem dX12_addVariable_115 : decode cX12_addVariable 115 = .ok (.iload 9, 2) := by decide +kernel
theorem dX12_addVariable_117 : decode cX12_addVariable 117 = .ok (.iload 5, 2) := by decide +kernel
theorem dX12_addVariable_119 : decode cX12_addVariable 119 = .ok (.bastore, 1) := by decide +kernel
theorem dX12_addVariable_120 : decode cX12_addVariable 120 = .ok (.aload_n 0, 1) := by decide +kernel
theorem dX12_addVariable_121 : decode cX12_addVariable 121 = .ok (.getfield 281, 3) := by decide +kernel
theorem dX12_addVariable_124 : decode cX12_addVariable 124 = .ok (.iload 9, 2) := by decide +kernel
theorem dX12_addVariable_126 : decode cX12_addVariable 126 = .ok (.iload 6, 2) := by decide +kernel
theorem dX12_addVariable_128 : decode cX12_addVariable 128 = .ok (.iastore, 1) := by decide +kernel
theorem dX12_addVariable_129 : decode cX12_addVariable 129 = .ok (.aload_n 0, 1) := by decide +kernel
theorem dX12_addVariable_130 : decode cX12_addVariable 130 = .ok (.getfield 284, 3) := by decide +kernel
theorem dX12_addVariable_133 : decode cX12_addVariable 133 = .ok (.iload 9, 2) := by decide +kernel
theorem dX12_addVariable_135 : decode cX12_addVariable 135 = .ok (.lload 7, 2) := by decide +kernel
theorem dX12_addVariable_137 : decode cX12_addVariable 137 = .ok (.lastore, 1) := by decide +kernel
theorem dX12_addVariable_138 : decode cX12_addVariable 138 = .ok (.aload_n 0, 1) := by decide +kernel
theorem dX12_addVariable_139 : decode cX12_addVariable 139 = .ok (.getfield 287, 3) := by decide +kernel
theorem dX12_addVariable_142 : decode cX12_addVariable 142 = .ok (.iload 9, 2) := by decide +kernel
theorem dX12_addVariable_144 : decode cX12_addVariable 144 = .ok (.aload_n 0, 1) := by decide +kernel
theorem dX12_addVariable_145 : decode cX12_addVariable 145 = .ok (.getfield 66, 3) := by decide +kernel
theorem dX12_addVariable_148 : decode cX12_addVariable 148 = .ok (.iload_n 1, 1) := by decide +kernel
theorem dX12_addVariable_149 : decode cX12_addVariable 149 = .ok (.laload, 1) := by decide +kernel
theorem dX12_addVariable_150 : decode cX12_addVariable 150 = .ok (.lastore, 1) := by decide +kernel
theorem dX12_addVariable_151 : decode cX12_addVariable 151 = .ok (.aload_n 0, 1) := by decide +kernel
theorem dX12_addVariable_152 : decode cX12_addVariable 152 = .ok (.getfield 290, 3) := by decide +kernel
theorem dX12_addVariable_155 : decode cX12_addVariable 155 = .ok (.iload 9, 2) := by decide +kernel
theorem dX12_addVariable_157 : decode cX12_addVariable 157 = .ok (.aload_n 0, 1) := by decide +kernel
theorem dX12_addVariable_158 : decode cX12_addVariable 158 = .ok (.getfield 73, 3) := by decide +kernel
theorem dX12_addVariable_161 : decode cX12_addVariable 161 = .ok (.iload_n 1, 1) := by decide +kernel
theorem dX12_addVariable_162 : decode cX12_addVariable 162 = .ok (.laload, 1) := by decide +kernel
theorem dX12_addVariable_163 : decode cX12_addVariable 163 = .ok (.lastore, 1) := by decide +kernel
theorem dX12_addVariable_164 : decode cX12_addVariable 164 = .ok (.aload_n 0, 1) := by decide +kernel
theorem dX12_addVariable_165 : decode cX12_addVariable 165 = .ok (.getfield 293, 3) := by decide +kernel
theorem dX12_addVariable_168 : decode cX12_addVariable 168 = .ok (.iload 9, 2) := by decide +kernel
theorem dX12_addVariable_170 : decode cX12_addVariable 170 = .ok (.iload_n 3, 1) := by decide +kernel
theorem dX12_addVariable_171 : decode cX12_addVariable 171 = .ok (.iconst 2, 1) := by decide +kernel
theorem dX12_addVariable_172 : decode cX12_addVariable 172 = .ok (.if_icmp .ge 10, 3) := by decide +kernel
theorem dX12_addVariable_175 : decode cX12_addVariable 175 = .ok (.aload_n 0, 1) := by decide +kernel
theorem dX12_addVariable_176 : decode cX12_addVariable 176 = .ok (.getfield 296, 3) := by decide +kernel
theorem dX12_addVariable_179 : decode cX12_addVariable 179 = .ok (.goto 23, 3) := by decide +kernel
theorem dX12_addVariable_182 : decode cX12_addVariable 182 = .ok (.iload_n 3, 1) := by decide +kernel
theorem dX12_addVariable_183 : decode cX12_addVariable 183 = .ok (.iconst 2, 1) := by decide +kernel
theorem dX12_addVariable_184 : decode cX12_addVariable 184 = .ok (.if_icmp .ne 12, 3) := by decide +kernel
theorem dX12_addVariable_187 : decode cX12_addVariable 187 = .ok (.sipush 6000, 3) := by decide +kernel
theorem dX12_addVariable_190 : decode cX12_addVariable 190 = .ok (.iload 6, 2) := by decide +kernel
theorem dX12_addVariable_192 : decode cX12_addVariable 192 = .ok (.iadd, 1) := by decide +kernel
theorem dX12_addVariable_193 : decode cX12_addVariable 193 = .ok (.goto 9, 3) := by decide +kernel
theorem dX12_addVariable_196 : decode cX12_addVariable 196 = .ok (.sipush 5000, 3) := by decide +kernel
theorem dX12_addVariable_199 : decode cX12_addVariable 199 = .ok (.iload 6, 2) := by decide +kernel
theorem dX12_addVariable_201 : decode cX12_addVariable 201 = .ok (.iadd, 1) := by decide +kernel
theorem dX12_addVariable_202 : decode cX12_addVariable 202 = .ok (.iastore, 1) := by decide +kernel
theorem dX12_addVariable_203 : decode cX12_addVariable 203 = .ok (.aload_n 0, 1) := by decide +kernel
theorem dX12_addVariable_204 : decode cX12_addVariable 204 = .ok (.dup, 1) := by decide +kernel
theorem dX12_addVariable_205 : decode cX12_addVariable 205 = .ok (.getfield 296, 3) := by decide +kernel
theorem dX12_addVariable_208 : decode cX12_addVariable 208 = .ok (.iload_n 3, 1) := by decide +kernel
theorem dX12_addVariable_209 : decode cX12_addVariable 209 = .ok (.iconst 2, 1) := by decide +kernel
theorem dX12_addVariable_210 : decode cX12_addVariable 210 = .ok (.if_icmp .ge 8, 3) := by decide +kernel
theorem dX12_addVariable_213 : decode cX12_addVariable 213 = .ok (.iload 4, 2) := by decide +kernel
theorem dX12_addVariable_215 : decode cX12_addVariable 215 = .ok (.goto 4, 3) := by decide +kernel
theorem dX12_addVariable_218 : decode cX12_addVariable 218 = .ok (.iconst 0, 1) := by decide +kernel
theorem dX12_addVariable_219 : decode cX12_addVariable 219 = .ok (.iadd, 1) := by decide +kernel
theorem dX12_addVariable_220 : decode cX12_addVariable 220 = .ok (.putfield 296, 3) := by decide +kernel
theorem dX12_addVariable_223 : decode cX12_addVariable 223 = .ok (.aload_n 0, 1) := by decide +kernel
theorem dX12_addVariable_224 : decode cX12_addVariable 224 = .ok (.getfield 266, 3) := by decide +kernel
theorem dX12_addVariable_227 : decode cX12_addVariable 227 = .ok (.aload_n 0, 1) := by decide +kernel
theorem dX12_addVariable_228 : decode cX12_addVariable 228 = .ok (.getfield 129, 3) := by decide +kernel
theorem dX12_addVariable_231 : decode cX12_addVariable 231 = .ok (.dup2, 1) := by decide +kernel
theorem dX12_addVariable_232 : decode cX12_addVariable 232 = .ok (.iaload, 1) := by decide +kernel
theorem dX12_addVariable_233 : decode cX12_addVariable 233 = .ok (.iconst 1, 1) := by decide +kernel
theorem dX12_addVariable_234 : decode cX12_addVariable 234 = .ok (.iadd, 1) := by decide +kernel
theorem dX12_addVariable_235 : decode cX12_addVariable 235 = .ok (.iastore, 1) := by decide +kernel
theorem dX12_addVariable_236 : decode cX12_addVariable 236 = .ok (.return_, 1) := by decide +kernel
abbrev cX12_isTooWide : ByteArray := prog_14_method_54_code
def yX12_isTooWide : MethodName := ⟨RX12, "isTooWide", "(II)Z"⟩
theorem dX12_isTooWide_0 : decode cX12_isTooWide 0 = .ok (.iload_n 1, 1) := by decide +kernel
theorem dX12_isTooWide_1 : decode cX12_isTooWide 1 = .ok (.iload_n 2, 1) := by decide +kernel
theorem dX12_isTooWide_2 : decode cX12_isTooWide 2 = .ok (.if_icmp .eq 21, 3) := by decide +kernel
theorem dX12_isTooWide_5 : decode cX12_isTooWide 5 = .ok (.aload_n 0, 1) := by decide +kernel
theorem dX12_isTooWide_6 : decode cX12_isTooWide 6 = .ok (.getfield 432, 3) := by decide +kernel
theorem dX12_isTooWide_9 : decode cX12_isTooWide 9 = .ok (.ifCond .le 16, 3) := by decide +kernel
theorem dX12_isTooWide_12 : decode cX12_isTooWide 12 = .ok (.iload_n 2, 1) := by decide +kernel
theorem dX12_isTooWide_13 : decode cX12_isTooWide 13 = .ok (.aload_n 0, 1) := by decide +kernel
theorem dX12_isTooWide_14 : decode cX12_isTooWide 14 = .ok (.getfield 435, 3) := by decide +kernel
theorem dX12_isTooWide_17 : decode cX12_isTooWide 17 = .ok (.invokestatic 319, 3) := by decide +kernel
theorem dX12_isTooWide_20 : decode cX12_isTooWide 20 = .ok (.ifCond .eq 5, 3) := by decide +kernel
theorem dX12_isTooWide_23 : decode cX12_isTooWide 23 = .ok (.iconst 0, 1) := by decide +kernel
theorem dX12_isTooWide_24 : decode cX12_isTooWide 24 = .ok (.ireturn, 1) := by decide +kernel
theorem dX12_isTooWide_25 : decode cX12_isTooWide 25 = .ok (.iload_n 1, 1) := by decide +kernel
theorem dX12_isTooWide_26 : decode cX12_isTooWide 26 = .ok (.tableswitch 63 0 3 #[30, 41, 41, 52], 30) := by decide +kernel
theorem dX12_isTooWide_56 : decode cX12_isTooWide 56 = .ok (.iload_n 2, 1) := by decide +kernel
theorem dX12_isTooWide_57 : decode cX12_isTooWide 57 = .ok (.iconst 2, 1) := by decide +kernel
theorem dX12_isTooWide_58 : decode cX12_isTooWide 58 = .ok (.if_icmp .ne 7, 3) := by decide +kernel
theorem dX12_isTooWide_61 : decode cX12_isTooWide 61 = .ok (.iconst 1, 1) := by decide +kernel
theorem dX12_isTooWide_62 : decode cX12_isTooWide 62 = .ok (.goto 4, 3) := by decide +kernel
theorem dX12_isTooWide_65 : decode cX12_isTooWide 65 = .ok (.iconst 0, 1) := by decide +kernel
theorem dX12_isTooWide_66 : decode cX12_isTooWide 66 = .ok (.ireturn, 1) := by decide +kernel
theorem dX12_isTooWide_67 : decode cX12_isTooWide 67 = .ok (.iload_n 2, 1) := by decide +kernel
theorem dX12_isTooWide_68 : decode cX12_isTooWide 68 = .ok (.iconst 3, 1) := by decide +kernel
theorem dX12_isTooWide_69 : decode cX12_isTooWide 69 = .ok (.if_icmp .ge 7, 3) := by decide +kernel
theorem dX12_isTooWide_72 : decode cX12_isTooWide 72 = .ok (.iconst 1, 1) := by decide +kernel
theorem dX12_isTooWide_73 : decode cX12_isTooWide 73 = .ok (.goto 4, 3) := by decide +kernel
theorem dX12_isTooWide_76 : decode cX12_isTooWide 76 = .ok (.iconst 0, 1) := by decide +kernel
theorem dX12_isTooWide_77 : decode cX12_isTooWide 77 = .ok (.ireturn, 1) := by decide +kernel
theorem dX12_isTooWide_78 : decode cX12_isTooWide 78 = .ok (.iload_n 2, 1) := by decide +kernel
theorem dX12_isTooWide_79 : decode cX12_isTooWide 79 = .ok (.iconst 4, 1) := by decide +kernel
theorem dX12_isTooWide_80 : decode cX12_isTooWide 80 = .ok (.if_icmp .eq 7, 3) := by decide +kernel
theorem dX12_isTooWide_83 : decode cX12_isTooWide 83 = .ok (.iconst 1, 1) := by decide +kernel
theorem dX12_isTooWide_84 : decode cX12_isTooWide 84 = .ok (.goto 4, 3) := by decide +kernel
theorem dX12_isTooWide_87 : decode cX12_isTooWide 87 = .ok (.iconst 0, 1) := by decide +kernel
theorem dX12_isTooWide_88 : decode cX12_isTooWide 88 = .ok (.ireturn, 1) := by decide +kernel
theorem dX12_isTooWide_89 : decode cX12_isTooWide 89 = .ok (.iconst 1, 1) := by decide +kernel
theorem dX12_isTooWide_90 : decode cX12_isTooWide 90 = .ok (.ireturn, 1) := by decide +kernel
abbrev cX12_strength : ByteArray := prog_14_method_55_code
def yX12_strength : MethodName := ⟨RX12, "strength", "()I"⟩
theorem dX12_strength_0 : decode cX12_strength 0 = .ok (.aload_n 0, 1) := by decide +kernel
theorem dX12_strength_1 : decode cX12_strength 1 = .ok (.getfield 95, 3) := by decide +kernel
theorem dX12_strength_4 : decode cX12_strength 4 = .ok (.ifCond .eq 5, 3) := by decide +kernel
theorem dX12_strength_7 : decode cX12_strength 7 = .ok (.iconst 0, 1) := by decide +kernel
theorem dX12_strength_8 : decode cX12_strength 8 = .ok (.ireturn, 1) := by decide +kernel
theorem dX12_strength_9 : decode cX12_strength 9 = .ok (.aload_n 0, 1) := by decide +kernel
theorem dX12_strength_10 : decode cX12_strength 10 = .ok (.getfield 38, 3) := by decide +kernel
theorem dX12_strength_13 : decode cX12_strength 13 = .ok (.aload_n 0, 1) := by decide +kernel
theorem dX12_strength_14 : decode cX12_strength 14 = .ok (.getfield 109, 3) := by decide +kernel
theorem dX12_strength_17 : decode cX12_strength 17 = .ok (.iaload, 1) := by decide +kernel
theorem dX12_strength_18 : decode cX12_strength 18 = .ok (.tableswitch 130 215 239 #[114, 116, 124, 124, 127, 127, 130, 130, 130, 130, 130, 130, 130, 130, 130, 130, 130, 130, 130, 130, 118, 120, 122, 127, 127], 114) := by decide +kernel
theorem dX12_strength_132 : decode cX12_strength 132 = .ok (.iconst 1, 1) := by decide +kernel
theorem dX12_strength_133 : decode cX12_strength 133 = .ok (.ireturn, 1) := by decide +kernel
theorem dX12_strength_134 : decode cX12_strength 134 = .ok (.iconst 2, 1) := by decide +kernel
theorem dX12_strength_135 : decode cX12_strength 135 = .ok (.ireturn, 1) := by decide +kernel
theorem dX12_strength_136 : decode cX12_strength 136 = .ok (.iconst 3, 1) := by decide +kernel
theorem dX12_strength_137 : decode cX12_strength 137 = .ok (.ireturn, 1) := by decide +kernel
theorem dX12_strength_138 : decode cX12_strength 138 = .ok (.iconst 4, 1) := by decide +kernel
theorem dX12_strength_139 : decode cX12_strength 139 = .ok (.ireturn, 1) := by decide +kernel
theorem dX12_strength_140 : decode cX12_strength 140 = .ok (.iconst 5, 1) := by decide +kernel
theorem dX12_strength_141 : decode cX12_strength 141 = .ok (.ireturn, 1) := by decide +kernel
theorem dX12_strength_142 : decode cX12_strength 142 = .ok (.bipush 6, 2) := by decide +kernel
theorem dX12_strength_144 : decode cX12_strength 144 = .ok (.ireturn, 1) := by decide +kernel
theorem dX12_strength_145 : decode cX12_strength 145 = .ok (.bipush 7, 2) := by decide +kernel
theorem dX12_strength_147 : decode cX12_strength 147 = .ok (.ireturn, 1) := by decide +kernel
theorem dX12_strength_148 : decode cX12_strength 148 = .ok (.aload_n 0, 1) := by decide +kernel
theorem dX12_strength_149 : decode cX12_strength 149 = .ok (.getfield 38, 3) := by decide +kernel
theorem dX12_strength_152 : decode cX12_strength 152 = .ok (.aload_n 0, 1) := by decide +kernel
theorem dX12_strength_153 : decode cX12_strength 153 = .ok (.getfield 109, 3) := by decide +kernel
theorem dX12_strength_156 : decode cX12_strength 156 = .ok (.iaload, 1) := by decide +kernel
theorem dX12_strength_157 : decode cX12_strength 157 = .ok (.sipush 221, 3) := by decide +kernel
theorem dX12_strength_160 : decode cX12_strength 160 = .ok (.if_icmp .eq 33, 3) := by decide +kernel
theorem dX12_strength_163 : decode cX12_strength 163 = .ok (.aload_n 0, 1) := by decide +kernel
theorem dX12_strength_164 : decode cX12_strength 164 = .ok (.getfield 38, 3) := by decide +kernel
theorem dX12_strength_167 : decode cX12_strength 167 = .ok (.aload_n 0, 1) := by decide +kernel
theorem dX12_strength_168 : decode cX12_strength 168 = .ok (.getfield 109, 3) := by decide +kernel
theorem dX12_strength_171 : decode cX12_strength 171 = .ok (.iaload, 1) := by decide +kernel
theorem dX12_strength_172 : decode cX12_strength 172 = .ok (.sipush 222, 3) := by decide +kernel
theorem dX12_strength_175 : decode cX12_strength 175 = .ok (.if_icmp .eq 18, 3) := by decide +kernel
theorem dX12_strength_178 : decode cX12_strength 178 = .ok (.aload_n 0, 1) := by decide +kernel
theorem dX12_strength_179 : decode cX12_strength 179 = .ok (.getfield 38, 3) := by decide +kernel
theorem dX12_strength_182 : decode cX12_strength 182 = .ok (.aload_n 0, 1) := by decide +kernel
theorem dX12_strength_183 : decode cX12_strength 183 = .ok (.getfield 109, 3) := by decide +kernel
theorem dX12_strength_186 : decode cX12_strength 186 = .ok (.iaload, 1) := by decide +kernel
theorem dX12_strength_187 : decode cX12_strength 187 = .ok (.sipush 203, 3) := by decide +kernel
theorem dX12_strength_190 : decode cX12_strength 190 = .ok (.if_icmp .ne 8, 3) := by decide +kernel
theorem dX12_strength_193 : decode cX12_strength 193 = .ok (.bipush 8, 2) := by decide +kernel
theorem dX12_strength_195 : decode cX12_strength 195 = .ok (.goto 89, 3) := by decide +kernel
theorem dX12_strength_198 : decode cX12_strength 198 = .ok (.aload_n 0, 1) := by decide +kernel
theorem dX12_strength_199 : decode cX12_strength 199 = .ok (.getfield 38, 3) := by decide +kernel
theorem dX12_strength_202 : decode cX12_strength 202 = .ok (.aload_n 0, 1) := by decide +kernel
theorem dX12_strength_203 : decode cX12_strength 203 = .ok (.getfield 109, 3) := by decide +kernel
theorem dX12_strength_206 : decode cX12_strength 206 = .ok (.iaload, 1) := by decide +kernel
theorem dX12_strength_207 : decode cX12_strength 207 = .ok (.sipush 240, 3) := by decide +kernel
theorem dX12_strength_210 : decode cX12_strength 210 = .ok (.if_icmp .eq 18, 3) := by decide +kernel
theorem dX12_strength_213 : decode cX12_strength 213 = .ok (.aload_n 0, 1) := by decide +kernel
theorem dX12_strength_214 : decode cX12_strength 214 = .ok (.getfield 38, 3) := by decide +kernel
theorem dX12_strength_217 : decode cX12_strength 217 = .ok (.aload_n 0, 1) := by decide +kernel
theorem dX12_strength_218 : decode cX12_strength 218 = .ok (.getfield 109, 3) := by decide +kernel
theorem dX12_strength_221 : decode cX12_strength 221 = .ok (.iaload, 1) := by decide +kernel
theorem dX12_strength_222 : decode cX12_strength 222 = .ok (.sipush 241, 3) := by decide +kernel
theorem dX12_strength_225 : decode cX12_strength 225 = .ok (.if_icmp .ne 8, 3) := by decide +kernel
theorem dX12_strength_228 : decode cX12_strength 228 = .ok (.bipush 9, 2) := by decide +kernel
theorem dX12_strength_230 : decode cX12_strength 230 = .ok (.goto 54, 3) := by decide +kernel
theorem dX12_strength_233 : decode cX12_strength 233 = .ok (.aload_n 0, 1) := by decide +kernel
theorem dX12_strength_234 : decode cX12_strength 234 = .ok (.getfield 38, 3) := by decide +kernel
theorem dX12_strength_237 : decode cX12_strength 237 = .ok (.aload_n 0, 1) := by decide +kernel
theorem dX12_strength_238 : decode cX12_strength 238 = .ok (.getfield 109, 3) := by decide +kernel
theorem dX12_strength_241 : decode cX12_strength 241 = .ok (.iaload, 1) := by decide +kernel
theorem dX12_strength_242 : decode cX12_strength 242 = .ok (.sipush 242, 3) := by decide +kernel
theorem dX12_strength_245 : decode cX12_strength 245 = .ok (.if_icmp .eq 33, 3) := by decide +kernel
theorem dX12_strength_248 : decode cX12_strength 248 = .ok (.aload_n 0, 1) := by decide +kernel
theorem dX12_strength_249 : decode cX12_strength 249 = .ok (.getfield 38, 3) := by decide +kernel
theorem dX12_strength_252 : decode cX12_strength 252 = .ok (.aload_n 0, 1) := by decide +kernel
theorem dX12_strength_253 : decode cX12_strength 253 = .ok (.getfield 109, 3) := by decide +kernel
theorem dX12_strength_256 : decode cX12_strength 256 = .ok (.iaload, 1) := by decide +kernel
theorem dX12_strength_257 : decode cX12_strength 257 = .ok (.sipush 243, 3) := by decide +kernel
theorem dX12_strength_260 : decode cX12_strength 260 = .ok (.if_icmp .eq 18, 3) := by decide +kernel
theorem dX12_strength_263 : decode cX12_strength 263 = .ok (.aload_n 0, 1) := by decide +kernel
theorem dX12_strength_264 : decode cX12_strength 264 = .ok (.getfield 38, 3) := by decide +kernel
theorem dX12_strength_267 : decode cX12_strength 267 = .ok (.aload_n 0, 1) := by decide +kernel
theorem dX12_strength_268 : decode cX12_strength 268 = .ok (.getfield 109, 3) := by decide +kernel
theorem dX12_strength_271 : decode cX12_strength 271 = .ok (.iaload, 1) := by decide +kernel
theorem dX12_strength_272 : decode cX12_strength 272 = .ok (.sipush 244, 3) := by decide +kernel
theorem dX12_strength_275 : decode cX12_strength 275 = .ok (.if_icmp .ne 8, 3) := by decide +kernel
theorem dX12_strength_278 : decode cX12_strength 278 = .ok (.bipush 10, 2) := by decide +kernel
theorem dX12_strength_280 : decode cX12_strength 280 = .ok (.goto 4, 3) := by decide +kernel
theorem dX12_strength_283 : decode cX12_strength 283 = .ok (.iconst 0, 1) := by decide +kernel
theorem dX12_strength_284 : decode cX12_strength 284 = .ok (.ireturn, 1) := by decide +kernel
abbrev cX12_joined : ByteArray := prog_14_method_58_code
def yX12_joined : MethodName := ⟨RX12, "joined", "(IIII)I"⟩
theorem dX12_joined_0 : decode cX12_joined 0 = .ok (.iload_n 1, 1) := by decide +kernel
theorem dX12_joined_1 : decode cX12_joined 1 = .ok (.sipush 221, 3) := by decide +kernel
theorem dX12_joined_4 : decode cX12_joined 4 = .ok (.if_icmp .eq 17, 3) := by decide +kernel
theorem dX12_joined_7 : decode cX12_joined 7 = .ok (.iload_n 1, 1) := by decide +kernel
theorem dX12_joined_8 : decode cX12_joined 8 = .ok (.sipush 222, 3) := by decide +kernel
theorem dX12_joined_11 : decode cX12_joined 11 = .ok (.if_icmp .eq 10, 3) := by decide +kernel
theorem dX12_joined_14 : decode cX12_joined 14 = .ok (.iload_n 1, 1) := by decide +kernel
theorem dX12_joined_15 : decode cX12_joined 15 = .ok (.sipush 203, 3) := by decide +kernel
theorem dX12_joined_18 : decode cX12_joined 18 = .ok (.if_icmp .ne 7, 3) := by decide +kernel
theorem dX12_joined_21 : decode cX12_joined 21 = .ok (.iconst 1, 1) := by decide +kernel
theorem dX12_joined_22 : decode cX12_joined 22 = .ok (.goto 4, 3) := by decide +kernel
theorem dX12_joined_25 : decode cX12_joined 25 = .ok (.iconst 0, 1) := by decide +kernel
theorem dX12_joined_26 : decode cX12_joined 26 = .ok (.istore 5, 2) := by decide +kernel
theorem dX12_joined_28 : decode cX12_joined 28 = .ok (.iload_n 3, 1) := by decide +kernel
theorem dX12_joined_29 : decode cX12_joined 29 = .ok (.iconst 4, 1) := by decide +kernel
theorem dX12_joined_30 : decode cX12_joined 30 = .ok (.if_icmp .eq 14, 3) := by decide +kernel
theorem dX12_joined_33 : decode cX12_joined 33 = .ok (.iload 5, 2) := by decide +kernel
theorem dX12_joined_35 : decode cX12_joined 35 = .ok (.ifCond .ne 13, 3) := by decide +kernel
theorem dX12_joined_38 : decode cX12_joined 38 = .ok (.iload 4, 2) := by decide +kernel
theorem dX12_joined_40 : decode cX12_joined 40 = .ok (.iconst 4, 1) := by decide +kernel
theorem dX12_joined_41 : decode cX12_joined 41 = .ok (.if_icmp .ne 7, 3) := by decide +kernel
theorem dX12_joined_44 : decode cX12_joined 44 = .ok (.iconst 1, 1) := by decide +kernel
theorem dX12_joined_45 : decode cX12_joined 45 = .ok (.goto 4, 3) := by decide +kernel
theorem dX12_joined_48 : decode cX12_joined 48 = .ok (.iconst 0, 1) := by decide +kernel
theorem dX12_joined_49 : decode cX12_joined 49 = .ok (.istore 6, 2) := by decide +kernel
theorem dX12_joined_51 : decode cX12_joined 51 = .ok (.aload_n 0, 1) := by decide +kernel
theorem dX12_joined_52 : decode cX12_joined 52 = .ok (.bipush 21, 2) := by decide +kernel
theorem dX12_joined_54 : decode cX12_joined 54 = .ok (.iload_n 1, 1) := by decide +kernel
theorem dX12_joined_55 : decode cX12_joined 55 = .ok (.iload_n 2, 1) := by decide +kernel
theorem dX12_joined_56 : decode cX12_joined 56 = .ok (.invokevirtual 144, 3) := by decide +kernel
theorem dX12_joined_59 : decode cX12_joined 59 = .ok (.istore 7, 2) := by decide +kernel
theorem dX12_joined_61 : decode cX12_joined 61 = .ok (.aload_n 0, 1) := by decide +kernel
theorem dX12_joined_62 : decode cX12_joined 62 = .ok (.getfield 101, 3) := by decide +kernel
theorem dX12_joined_65 : decode cX12_joined 65 = .ok (.ifCond .eq 27, 3) := by decide +kernel
theorem dX12_joined_68 : decode cX12_joined 68 = .ok (.aload_n 0, 1) := by decide +kernel
theorem dX12_joined_69 : decode cX12_joined 69 = .ok (.getfield 95, 3) := by decide +kernel
theorem dX12_joined_72 : decode cX12_joined 72 = .ok (.ifCond .ne 20, 3) := by decide +kernel
theorem dX12_joined_75 : decode cX12_joined 75 = .ok (.aload_n 0, 1) := by decide +kernel
theorem dX12_joined_76 : decode cX12_joined 76 = .ok (.getfield 148, 3) := by decide +kernel
theorem dX12_joined_79 : decode cX12_joined 79 = .ok (.iload 7, 2) := by decide +kernel
theorem dX12_joined_81 : decode cX12_joined 81 = .ok (.iload 6, 2) := by decide +kernel
theorem dX12_joined_83 : decode cX12_joined 83 = .ok (.ifCond .eq 7, 3) := by decide +kernel
theorem dX12_joined_86 : decode cX12_joined 86 = .ok (.lconst 1, 1) := by decide +kernel
theorem dX12_joined_87 : decode cX12_joined 87 = .ok (.goto 4, 3) := by decide +kernel
theorem dX12_joined_90 : decode cX12_joined 90 = .ok (.lconst 0, 1) := by decide +kernel
theorem dX12_joined_91 : decode cX12_joined 91 = .ok (.lastore, 1) := by decide +kernel
theorem dX12_joined_92 : decode cX12_joined 92 = .ok (.iload_n 1, 1) := by decide +kernel
theorem dX12_joined_93 : decode cX12_joined 93 = .ok (.sipush 217, 3) := by decide +kernel
theorem dX12_joined_96 : decode cX12_joined 96 = .ok (.if_icmp .eq 38, 3) := by decide +kernel
theorem dX12_joined_99 : decode cX12_joined 99 = .ok (.iload_n 1, 1) := by decide +kernel
theorem dX12_joined_100 : decode cX12_joined 100 = .ok (.sipush 218, 3) := by decide +kernel
theorem dX12_joined_103 : decode cX12_joined 103 = .ok (.if_icmp .eq 31, 3) := by decide +kernel
theorem dX12_joined_106 : decode cX12_joined 106 = .ok (.iload_n 1, 1) := by decide +kernel
theorem dX12_joined_107 : decode cX12_joined 107 = .ok (.sipush 238, 3) := by decide +kernel
theorem dX12_joined_110 : decode cX12_joined 110 = .ok (.if_icmp .eq 24, 3) := by decide +kernel
theorem dX12_joined_113 : decode cX12_joined 113 = .ok (.iload_n 1, 1) := by decide +kernel
theorem dX12_joined_114 : decode cX12_joined 114 = .ok (.sipush 219, 3) := by decide +kernel
theorem dX12_joined_117 : decode cX12_joined 117 = .ok (.if_icmp .eq 17, 3) := by decide +kernel
theorem dX12_joined_120 : decode cX12_joined 120 = .ok (.iload_n 1, 1) := by decide +kernel
theorem dX12_joined_121 : decode cX12_joined 121 = .ok (.sipush 239, 3) := by decide +kernel
theorem dX12_joined_124 : decode cX12_joined 124 = .ok (.if_icmp .eq 10, 3) := by decide +kernel
theorem dX12_joined_127 : decode cX12_joined 127 = .ok (.iload_n 1, 1) := by decide +kernel
theorem dX12_joined_128 : decode cX12_joined 128 = .ok (.sipush 220, 3) := by decide +kernel
theorem dX12_joined_131 : decode cX12_joined 131 = .ok (.if_icmp .ne 7, 3) := by decide +kernel
theorem dX12_joined_134 : decode cX12_joined 134 = .ok (.iconst 1, 1) := by decide +kernel
theorem dX12_joined_135 : decode cX12_joined 135 = .ok (.goto 4, 3) := by decide +kernel
theorem dX12_joined_138 : decode cX12_joined 138 = .ok (.iconst 0, 1) := by decide +kernel
theorem dX12_joined_139 : decode cX12_joined 139 = .ok (.istore 8, 2) := by decide +kernel
theorem dX12_joined_141 : decode cX12_joined 141 = .ok (.iload 6, 2) := by decide +kernel
theorem dX12_joined_143 : decode cX12_joined 143 = .ok (.ifCond .eq 12, 3) := by decide +kernel
theorem dX12_joined_146 : decode cX12_joined 146 = .ok (.iload 8, 2) := by decide +kernel
theorem dX12_joined_148 : decode cX12_joined 148 = .ok (.ifCond .ne 7, 3) := by decide +kernel
theorem dX12_joined_151 : decode cX12_joined 151 = .ok (.iconst 4, 1) := by decide +kernel
theorem dX12_joined_152 : decode cX12_joined 152 = .ok (.goto 4, 3) := by decide +kernel
theorem dX12_joined_155 : decode cX12_joined 155 = .ok (.iconst 3, 1) := by decide +kernel
theorem dX12_joined_156 : decode cX12_joined 156 = .ok (.ireturn, 1) := by decide +kernel
abbrev cX12_leadAll : ByteArray := prog_14_method_71_code
def yX12_leadAll : MethodName := ⟨RX12, "leadAll", "(I)V"⟩
theorem dX12_leadAll_0 : decode cX12_leadAll 0 = .ok (.iload_n 1, 1) := by decide +kernel
theorem dX12_leadAll_1 : decode cX12_leadAll 1 = .ok (.istore_n 2, 1) := by decide +kernel
theorem dX12_leadAll_2 : decode cX12_leadAll 2 = .ok (.aload_n 0, 1) := by decide +kernel
theorem dX12_leadAll_3 : decode cX12_leadAll 3 = .ok (.getfield 101, 3) := by decide +kernel
theorem dX12_leadAll_6 : decode cX12_leadAll 6 = .ok (.ifCond .eq 37, 3) := by decide +kernel
theorem dX12_leadAll_9 : decode cX12_leadAll 9 = .ok (.aload_n 0, 1) := by decide +kernel
theorem dX12_leadAll_10 : decode cX12_leadAll 10 = .ok (.getfield 95, 3) := by decide +kernel
theorem dX12_leadAll_13 : decode cX12_leadAll 13 = .ok (.ifCond .ne 30, 3) := by decide +kernel
theorem dX12_leadAll_16 : decode cX12_leadAll 16 = .ok (.iload_n 2, 1) := by decide +kernel
theorem dX12_leadAll_17 : decode cX12_leadAll 17 = .ok (.iconst (-1), 1) := by decide +kernel
theorem dX12_leadAll_18 : decode cX12_leadAll 18 = .ok (.if_icmp .eq 25, 3) := by decide +kernel
theorem dX12_leadAll_21 : decode cX12_leadAll 21 = .ok (.aload_n 0, 1) := by decide +kernel
theorem dX12_leadAll_22 : decode cX12_leadAll 22 = .ok (.getfield 138, 3) := by decide +kernel
theorem dX12_leadAll_25 : decode cX12_leadAll 25 = .ok (.iload_n 2, 1) := by decide +kernel
theorem dX12_leadAll_26 : decode cX12_leadAll 26 = .ok (.iaload, 1) := by decide +kernel
theorem dX12_leadAll_27 : decode cX12_leadAll 27 = .ok (.istore_n 3, 1) := by decide +kernel
theorem dX12_leadAll_28 : decode cX12_leadAll 28 = .ok (.aload_n 0, 1) := by decide +kernel
theorem dX12_leadAll_29 : decode cX12_leadAll 29 = .ok (.getfield 138, 3) := by decide +kernel
theorem dX12_leadAll_32 : decode cX12_leadAll 32 = .ok (.iload_n 2, 1) := by decide +kernel
theorem dX12_leadAll_33 : decode cX12_leadAll 33 = .ok (.aload_n 0, 1) := by decide +kernel
theorem dX12_leadAll_34 : decode cX12_leadAll 34 = .ok (.invokevirtual 151, 3) := by decide +kernel
theorem dX12_leadAll_37 : decode cX12_leadAll 37 = .ok (.iastore, 1) := by decide +kernel
theorem dX12_leadAll_38 : decode cX12_leadAll 38 = .ok (.iload_n 3, 1) := by decide +kernel
theorem dX12_leadAll_39 : decode cX12_leadAll 39 = .ok (.istore_n 2, 1) := by decide +kernel
theorem dX12_leadAll_40 : decode cX12_leadAll 40 = .ok (.goto (-38), 3) := by decide +kernel
theorem dX12_leadAll_43 : decode cX12_leadAll 43 = .ok (.return_, 1) := by decide +kernel
abbrev cX12_loop : ByteArray := prog_14_method_72_code
def yX12_loop : MethodName := ⟨RX12, "loop", "()V"⟩
theorem dX12_loop_0 : decode cX12_loop 0 = .ok (.aload_n 0, 1) := by decide +kernel
theorem dX12_loop_1 : decode cX12_loop 1 = .ok (.getfield 521, 3) := by decide +kernel
theorem dX12_loop_4 : decode cX12_loop 4 = .ok (.aload_n 0, 1) := by decide +kernel
theorem dX12_loop_5 : decode cX12_loop 5 = .ok (.getfield 346, 3) := by decide +kernel
theorem dX12_loop_8 : decode cX12_loop 8 = .ok (.iconst (-1), 1) := by decide +kernel
theorem dX12_loop_9 : decode cX12_loop 9 = .ok (.iastore, 1) := by decide +kernel
theorem dX12_loop_10 : decode cX12_loop 10 = .ok (.aload_n 0, 1) := by decide +kernel
theorem dX12_loop_11 : decode cX12_loop 11 = .ok (.getfield 524, 3) := by decide +kernel
theorem dX12_loop_14 : decode cX12_loop 14 = .ok (.aload_n 0, 1) := by decide +kernel
theorem dX12_loop_15 : decode cX12_loop 15 = .ok (.getfield 346, 3) := by decide +kernel
theorem dX12_loop_18 : decode cX12_loop 18 = .ok (.iconst (-1), 1) := by decide +kernel
theorem dX12_loop_19 : decode cX12_loop 19 = .ok (.iastore, 1) := by decide +kernel
theorem dX12_loop_20 : decode cX12_loop 20 = .ok (.aload_n 0, 1) := by decide +kernel
theorem dX12_loop_21 : decode cX12_loop 21 = .ok (.dup, 1) := by decide +kernel
theorem dX12_loop_22 : decode cX12_loop 22 = .ok (.getfield 346, 3) := by decide +kernel
theorem dX12_loop_25 : decode cX12_loop 25 = .ok (.iconst 1, 1) := by decide +kernel
theorem dX12_loop_26 : decode cX12_loop 26 = .ok (.iadd, 1) := by decide +kernel
theorem dX12_loop_27 : decode cX12_loop 27 = .ok (.putfield 346, 3) := by decide +kernel
theorem dX12_loop_30 : decode cX12_loop 30 = .ok (.return_, 1) := by decide +kernel
abbrev cX12_label : ByteArray := prog_14_method_76_code
def yX12_label : MethodName := ⟨RX12, "label", "()V"⟩
theorem dX12_label_0 : decode cX12_label 0 = .ok (.aload_n 0, 1) := by decide +kernel
theorem dX12_label_1 : decode cX12_label 1 = .ok (.invokevirtual 317, 3) := by decide +kernel
theorem dX12_label_4 : decode cX12_label 4 = .ok (.aload_n 0, 1) := by decide +kernel
theorem dX12_label_5 : decode cX12_label 5 = .ok (.getfield 229, 3) := by decide +kernel
theorem dX12_label_8 : decode cX12_label 8 = .ok (.lstore_n 1, 1) := by decide +kernel
theorem dX12_label_9 : decode cX12_label 9 = .ok (.lload_n 1, 1) := by decide +kernel
theorem dX12_label_10 : decode cX12_label 10 = .ok (.lstore_n 3, 1) := by decide +kernel
theorem dX12_label_11 : decode cX12_label 11 = .ok (.aload_n 0, 1) := by decide +kernel
theorem dX12_label_12 : decode cX12_label 12 = .ok (.sipush 204, 3) := by decide +kernel
theorem dX12_label_15 : decode cX12_label 15 = .ok (.invokevirtual 218, 3) := by decide +kernel
theorem dX12_label_18 : decode cX12_label 18 = .ok (.ifCond .eq 41, 3) := by decide +kernel
theorem dX12_label_21 : decode cX12_label 21 = .ok (.aload_n 0, 1) := by decide +kernel
theorem dX12_label_22 : decode cX12_label 22 = .ok (.getfield 35, 3) := by decide +kernel
theorem dX12_label_25 : decode cX12_label 25 = .ok (.aload_n 0, 1) := by decide +kernel
theorem dX12_label_26 : decode cX12_label 26 = .ok (.getfield 109, 3) := by decide +kernel
theorem dX12_label_29 : decode cX12_label 29 = .ok (.iaload, 1) := by decide +kernel
theorem dX12_label_30 : decode cX12_label 30 = .ok (.istore 5, 2) := by decide +kernel
theorem dX12_label_32 : decode cX12_label 32 = .ok (.aload_n 0, 1) := by decide +kernel
theorem dX12_label_33 : decode cX12_label 33 = .ok (.invokevirtual 317, 3) := by decide +kernel
theorem dX12_label_36 : decode cX12_label 36 = .ok (.aload_n 0, 1) := by decide +kernel
theorem dX12_label_37 : decode cX12_label 37 = .ok (.getfield 229, 3) := by decide +kernel
theorem dX12_label_40 : decode cX12_label 40 = .ok (.lstore_n 3, 1) := by decide +kernel
theorem dX12_label_41 : decode cX12_label 41 = .ok (.aload_n 0, 1) := by decide +kernel
theorem dX12_label_42 : decode cX12_label 42 = .ok (.lload_n 1, 1) := by decide +kernel
theorem dX12_label_43 : decode cX12_label 43 = .ok (.lload_n 3, 1) := by decide +kernel
theorem dX12_label_44 : decode cX12_label 44 = .ok (.lcmp, 1) := by decide +kernel
theorem dX12_label_45 : decode cX12_label 45 = .ok (.ifCond .le 7, 3) := by decide +kernel
theorem dX12_label_48 : decode cX12_label 48 = .ok (.iconst 1, 1) := by decide +kernel
theorem dX12_label_49 : decode cX12_label 49 = .ok (.goto 4, 3) := by decide +kernel
theorem dX12_label_52 : decode cX12_label 52 = .ok (.iconst 0, 1) := by decide +kernel
theorem dX12_label_53 : decode cX12_label 53 = .ok (.iconst 5, 1) := by decide +kernel
theorem dX12_label_54 : decode cX12_label 54 = .ok (.iload 5, 2) := by decide +kernel
theorem dX12_label_56 : decode cX12_label 56 = .ok (.invokevirtual 202, 3) := by decide +kernel
theorem dX12_label_59 : decode cX12_label 59 = .ok (.aload_n 0, 1) := by decide +kernel
theorem dX12_label_60 : decode cX12_label 60 = .ok (.bipush 36, 2) := by decide +kernel
theorem dX12_label_62 : decode cX12_label 62 = .ok (.iconst 0, 1) := by decide +kernel
theorem dX12_label_63 : decode cX12_label 63 = .ok (.iconst 0, 1) := by decide +kernel
theorem dX12_label_64 : decode cX12_label 64 = .ok (.invokevirtual 144, 3) := by decide +kernel
theorem dX12_label_67 : decode cX12_label 67 = .ok (.istore 5, 2) := by decide +kernel
theorem dX12_label_69 : decode cX12_label 69 = .ok (.aload_n 0, 1) := by decide +kernel
theorem dX12_label_70 : decode cX12_label 70 = .ok (.getfield 101, 3) := by decide +kernel
theorem dX12_label_73 : decode cX12_label 73 = .ok (.ifCond .eq 26, 3) := by decide +kernel
theorem dX12_label_76 : decode cX12_label 76 = .ok (.aload_n 0, 1) := by decide +kernel
theorem dX12_label_77 : decode cX12_label 77 = .ok (.getfield 95, 3) := by decide +kernel
theorem dX12_label_80 : decode cX12_label 80 = .ok (.ifCond .ne 19, 3) := by decide +kernel
theorem dX12_label_83 : decode cX12_label 83 = .ok (.aload_n 0, 1) := by decide +kernel
theorem dX12_label_84 : decode cX12_label 84 = .ok (.getfield 148, 3) := by decide +kernel
theorem dX12_label_87 : decode cX12_label 87 = .ok (.iload 5, 2) := by decide +kernel
theorem dX12_label_89 : decode cX12_label 89 = .ok (.lload_n 1, 1) := by decide +kernel
theorem dX12_label_90 : decode cX12_label 90 = .ok (.lastore, 1) := by decide +kernel
theorem dX12_label_91 : decode cX12_label 91 = .ok (.aload_n 0, 1) := by decide +kernel
theorem dX12_label_92 : decode cX12_label 92 = .ok (.getfield 533, 3) := by decide +kernel
theorem dX12_label_95 : decode cX12_label 95 = .ok (.iload 5, 2) := by decide +kernel
theorem dX12_label_97 : decode cX12_label 97 = .ok (.lload_n 3, 1) := by decide +kernel
theorem dX12_label_98 : decode cX12_label 98 = .ok (.lastore, 1) := by decide +kernel
theorem dX12_label_99 : decode cX12_label 99 = .ok (.return_, 1) := by decide +kernel
abbrev cX12_leaves : ByteArray := prog_14_method_77_code
def yX12_leaves : MethodName := ⟨RX12, "leaves", "(II)V"⟩
theorem dX12_leaves_0 : decode cX12_leaves 0 = .ok (.aload_n 0, 1) := by decide +kernel
theorem dX12_leaves_1 : decode cX12_leaves 1 = .ok (.aload_n 0, 1) := by decide +kernel
theorem dX12_leaves_2 : decode cX12_leaves 2 = .ok (.getfield 346, 3) := by decide +kernel
theorem dX12_leaves_5 : decode cX12_leaves 5 = .ok (.ifCond .ne 7, 3) := by decide +kernel
theorem dX12_leaves_8 : decode cX12_leaves 8 = .ok (.iconst 1, 1) := by decide +kernel
theorem dX12_leaves_9 : decode cX12_leaves 9 = .ok (.goto 4, 3) := by decide +kernel
theorem dX12_leaves_12 : decode cX12_leaves 12 = .ok (.iconst 0, 1) := by decide +kernel
theorem dX12_leaves_13 : decode cX12_leaves 13 = .ok (.iconst 3, 1) := by decide +kernel
theorem dX12_leaves_14 : decode cX12_leaves 14 = .ok (.iload_n 2, 1) := by decide +kernel
theorem dX12_leaves_15 : decode cX12_leaves 15 = .ok (.invokevirtual 202, 3) := by decide +kernel
theorem dX12_leaves_18 : decode cX12_leaves 18 = .ok (.aload_n 0, 1) := by decide +kernel
theorem dX12_leaves_19 : decode cX12_leaves 19 = .ok (.getfield 101, 3) := by decide +kernel
theorem dX12_leaves_22 : decode cX12_leaves 22 = .ok (.ifCond .eq 72, 3) := by decide +kernel
theorem dX12_leaves_25 : decode cX12_leaves 25 = .ok (.aload_n 0, 1) := by decide +kernel
theorem dX12_leaves_26 : decode cX12_leaves 26 = .ok (.getfield 95, 3) := by decide +kernel
theorem dX12_leaves_29 : decode cX12_leaves 29 = .ok (.ifCond .ne 65, 3) := by decide +kernel
theorem dX12_leaves_32 : decode cX12_leaves 32 = .ok (.aload_n 0, 1) := by decide +kernel
theorem dX12_leaves_33 : decode cX12_leaves 33 = .ok (.getfield 346, 3) := by decide +kernel
theorem dX12_leaves_36 : decode cX12_leaves 36 = .ok (.iconst 1, 1) := by decide +kernel
theorem dX12_leaves_37 : decode cX12_leaves 37 = .ok (.isub, 1) := by decide +kernel
theorem dX12_leaves_38 : decode cX12_leaves 38 = .ok (.istore_n 3, 1) := by decide +kernel
theorem dX12_leaves_39 : decode cX12_leaves 39 = .ok (.aload_n 0, 1) := by decide +kernel
theorem dX12_leaves_40 : decode cX12_leaves 40 = .ok (.bipush 28, 2) := by decide +kernel
theorem dX12_leaves_42 : decode cX12_leaves 42 = .ok (.iload_n 1, 1) := by decide +kernel
theorem dX12_leaves_43 : decode cX12_leaves 43 = .ok (.bipush 124, 2) := by decide +kernel
theorem dX12_leaves_45 : decode cX12_leaves 45 = .ok (.if_icmp .ne 12, 3) := by decide +kernel
theorem dX12_leaves_48 : decode cX12_leaves 48 = .ok (.aload_n 0, 1) := by decide +kernel
theorem dX12_leaves_49 : decode cX12_leaves 49 = .ok (.getfield 521, 3) := by decide +kernel
theorem dX12_leaves_52 : decode cX12_leaves 52 = .ok (.iload_n 3, 1) := by decide +kernel
theorem dX12_leaves_53 : decode cX12_leaves 53 = .ok (.iaload, 1) := by decide +kernel
theorem dX12_leaves_54 : decode cX12_leaves 54 = .ok (.goto 9, 3) := by decide +kernel
theorem dX12_leaves_57 : decode cX12_leaves 57 = .ok (.aload_n 0, 1) := by decide +kernel
theorem dX12_leaves_58 : decode cX12_leaves 58 = .ok (.getfield 524, 3) := by decide +kernel
theorem dX12_leaves_61 : decode cX12_leaves 61 = .ok (.iload_n 3, 1) := by decide +kernel
theorem dX12_leaves_62 : decode cX12_leaves 62 = .ok (.iaload, 1) := by decide +kernel
theorem dX12_leaves_63 : decode cX12_leaves 63 = .ok (.iconst 0, 1) := by decide +kernel
theorem dX12_leaves_64 : decode cX12_leaves 64 = .ok (.invokevirtual 144, 3) := by decide +kernel
theorem dX12_leaves_67 : decode cX12_leaves 67 = .ok (.istore 4, 2) := by decide +kernel
theorem dX12_leaves_69 : decode cX12_leaves 69 = .ok (.iload_n 1, 1) := by decide +kernel
theorem dX12_leaves_70 : decode cX12_leaves 70 = .ok (.bipush 124, 2) := by decide +kernel
theorem dX12_leaves_72 : decode cX12_leaves 72 = .ok (.if_icmp .ne 14, 3) := by decide +kernel
theorem dX12_leaves_75 : decode cX12_leaves 75 = .ok (.aload_n 0, 1) := by decide +kernel
theorem dX12_leaves_76 : decode cX12_leaves 76 = .ok (.getfield 521, 3) := by decide +kernel
theorem dX12_leaves_79 : decode cX12_leaves 79 = .ok (.iload_n 3, 1) := by decide +kernel
theorem dX12_leaves_80 : decode cX12_leaves 80 = .ok (.iload 4, 2) := by decide +kernel
theorem dX12_leaves_82 : decode cX12_leaves 82 = .ok (.iastore, 1) := by decide +kernel
theorem dX12_leaves_83 : decode cX12_leaves 83 = .ok (.goto 11, 3) := by decide +kernel
theorem dX12_leaves_86 : decode cX12_leaves 86 = .ok (.aload_n 0, 1) := by decide +kernel
theorem dX12_leaves_87 : decode cX12_leaves 87 = .ok (.getfield 524, 3) := by decide +kernel
theorem dX12_leaves_90 : decode cX12_leaves 90 = .ok (.iload_n 3, 1) := by decide +kernel
theorem dX12_leaves_91 : decode cX12_leaves 91 = .ok (.iload 4, 2) := by decide +kernel
theorem dX12_leaves_93 : decode cX12_leaves 93 = .ok (.iastore, 1) := by decide +kernel
theorem dX12_leaves_94 : decode cX12_leaves 94 = .ok (.aload_n 0, 1) := by decide +kernel
theorem dX12_leaves_95 : decode cX12_leaves 95 = .ok (.sipush 229, 3) := by decide +kernel
theorem dX12_leaves_98 : decode cX12_leaves 98 = .ok (.invokevirtual 125, 3) := by decide +kernel
theorem dX12_leaves_101 : decode cX12_leaves 101 = .ok (.return_, 1) := by decide +kernel
theorem gs_10_11 : Cond.selects "SoftControllerModel" ⟨"SoftControllerModel", "strength", "()I"⟩ ⟨"SoftControllerModel", "strength", "()I"⟩ ∈ GW := gw_s (List.mem_map.mpr ⟨_, pin_10 _ (List.mem_of_getElem? (i := 11) rfl), rfl⟩) rfl
theorem gs_10_13 : Cond.selects "SoftControllerModel" ⟨"SoftControllerModel", "joined", "(IIII)I"⟩ ⟨"SoftControllerModel", "joined", "(IIII)I"⟩ ∈ GW := gw_s (List.mem_map.mpr ⟨_, pin_10 _ (List.mem_of_getElem? (i := 13) rfl), rfl⟩) rfl
theorem gs_10_7 : Cond.selects "SoftControllerModel" ⟨"SoftControllerModel", "isTooWide", "(II)Z"⟩ ⟨"SoftControllerModel", "isTooWide", "(II)Z"⟩ ∈ GW := gw_s (List.mem_map.mpr ⟨_, pin_10 _ (List.mem_of_getElem? (i := 7) rfl), rfl⟩) rfl
theorem gs_11_1 : Cond.selects "SoftControllerModel" ⟨"SoftControllerModel", "leadAll", "(I)V"⟩ ⟨"SoftControllerModel", "leadAll", "(I)V"⟩ ∈ GW := gw_s (List.mem_map.mpr ⟨_, pin_11 _ (List.mem_of_getElem? (i := 1) rfl), rfl⟩) rfl
theorem gs_11_3 : Cond.selects "SoftControllerModel" ⟨"SoftControllerModel", "loop", "()V"⟩ ⟨"SoftControllerModel", "loop", "()V"⟩ ∈ GW := gw_s (List.mem_map.mpr ⟨_, pin_11 _ (List.mem_of_getElem? (i := 3) rfl), rfl⟩) rfl
theorem gs_11_6 : Cond.selects "SoftControllerModel" ⟨"SoftControllerModel", "label", "()V"⟩ ⟨"SoftControllerModel", "label", "()V"⟩ ∈ GW := gw_s (List.mem_map.mpr ⟨_, pin_11 _ (List.mem_of_getElem? (i := 6) rfl), rfl⟩) rfl
theorem gs_11_7 : Cond.selects "SoftControllerModel" ⟨"SoftControllerModel", "leaves", "(II)V"⟩ ⟨"SoftControllerModel", "leaves", "(II)V"⟩ ∈ GW := gw_s (List.mem_map.mpr ⟨_, pin_11 _ (List.mem_of_getElem? (i := 7) rfl), rfl⟩) rfl
theorem gs_8_13 : Cond.selects "SoftControllerModel" ⟨"SoftControllerModel", "bounded", "(II)I"⟩ ⟨"SoftControllerModel", "bounded", "(II)I"⟩ ∈ GW := gw_s (List.mem_map.mpr ⟨_, pin_8 _ (List.mem_of_getElem? (i := 13) rfl), rfl⟩) rfl
theorem gs_8_6 : Cond.selects "SoftControllerModel" ⟨"SoftControllerModel", "local", "(Z)V"⟩ ⟨"SoftControllerModel", "local", "(Z)V"⟩ ∈ GW := gw_s (List.mem_map.mpr ⟨_, pin_8 _ (List.mem_of_getElem? (i := 6) rfl), rfl⟩) rfl
theorem gs_8_9 : Cond.selects "SoftControllerModel" ⟨"SoftControllerModel", "telling", "(IIZ)V"⟩ ⟨"SoftControllerModel", "telling", "(IIZ)V"⟩ ∈ GW := gw_s (List.mem_map.mpr ⟨_, pin_8 _ (List.mem_of_getElem? (i := 9) rfl), rfl⟩) rfl
theorem gs_9_14 : Cond.selects "SoftControllerModel" ⟨"SoftControllerModel", "own", "(I)I"⟩ ⟨"SoftControllerModel", "own", "(I)I"⟩ ∈ GW := gw_s (List.mem_map.mpr ⟨_, pin_9 _ (List.mem_of_getElem? (i := 14) rfl), rfl⟩) rfl
theorem gs_9_2 : Cond.selects "SoftControllerModel" ⟨"SoftControllerModel", "constant", "()V"⟩ ⟨"SoftControllerModel", "constant", "()V"⟩ ∈ GW := gw_s (List.mem_map.mpr ⟨_, pin_9 _ (List.mem_of_getElem? (i := 2) rfl), rfl⟩) rfl
theorem gs_9_3 : Cond.selects "SoftControllerModel" ⟨"SoftControllerModel", "addSlot", "(IIIZJ)V"⟩ ⟨"SoftControllerModel", "addSlot", "(IIIZJ)V"⟩ ∈ GW := gw_s (List.mem_map.mpr ⟨_, pin_9 _ (List.mem_of_getElem? (i := 3) rfl), rfl⟩) rfl
theorem gs_9_4 : Cond.selects "SoftControllerModel" ⟨"SoftControllerModel", "addVariable", "(IIIIZIJ)V"⟩ ⟨"SoftControllerModel", "addVariable", "(IIIIZIJ)V"⟩ ∈ GW := gw_s (List.mem_map.mpr ⟨_, pin_9 _ (List.mem_of_getElem? (i := 4) rfl), rfl⟩) rfl
theorem gw_2344 : (Jvm.Cond.methodLink "SoftControllerModel" (299 : Nat) ({ cls := "SoftControllerModel", name := "local", desc := "(Z)V" } : Jvm.MethodName)) ∈ GW := gw_t (tin_10 _ (List.mem_of_getElem? (i := 184) rfl)) rfl
theorem gw_2346 : (Jvm.Cond.instanceMethod ({ cls := "SoftControllerModel", name := "local", desc := "(Z)V" } : Jvm.MethodName)) ∈ GW := gw_t (tin_10 _ (List.mem_of_getElem? (i := 186) rfl)) rfl
theorem gw_2347 : (Jvm.Cond.code ({ cls := "SoftControllerModel", name := "local", desc := "(Z)V" } : Jvm.MethodName) prog_14_method_42_code (2 : Nat) (Option.none : Option Jvm.ClassFile.FieldType)) ∈ GW := gw_t (tin_10 _ (List.mem_of_getElem? (i := 187) rfl)) rfl
theorem gw_2356 : (Jvm.Cond.methodLink "SoftControllerModel" (303 : Nat) ({ cls := "SoftControllerModel", name := "telling", desc := "(IIZ)V" } : Jvm.MethodName)) ∈ GW := gw_t (tin_10 _ (List.mem_of_getElem? (i := 196) rfl)) rfl
theorem gw_2358 : (Jvm.Cond.instanceMethod ({ cls := "SoftControllerModel", name := "telling", desc := "(IIZ)V" } : Jvm.MethodName)) ∈ GW := gw_t (tin_10 _ (List.mem_of_getElem? (i := 198) rfl)) rfl
theorem gw_2359 : (Jvm.Cond.code ({ cls := "SoftControllerModel", name := "telling", desc := "(IIZ)V" } : Jvm.MethodName) prog_14_method_38_code (4 : Nat) (Option.none : Option Jvm.ClassFile.FieldType)) ∈ GW := gw_t (tin_10 _ (List.mem_of_getElem? (i := 199) rfl)) rfl
theorem gw_2372 : (Jvm.Cond.methodLink "SoftControllerModel" (310 : Nat) ({ cls := "SoftControllerModel", name := "bounded", desc := "(II)I" } : Jvm.MethodName)) ∈ GW := gw_t (tin_10 _ (List.mem_of_getElem? (i := 212) rfl)) rfl
theorem gw_2374 : (Jvm.Cond.instanceMethod ({ cls := "SoftControllerModel", name := "bounded", desc := "(II)I" } : Jvm.MethodName)) ∈ GW := gw_t (tin_10 _ (List.mem_of_getElem? (i := 214) rfl)) rfl
theorem gw_2375 : (Jvm.Cond.code ({ cls := "SoftControllerModel", name := "bounded", desc := "(II)I" } : Jvm.MethodName) prog_14_method_41_code (3 : Nat) (Option.some Jvm.ClassFile.FieldType.int)) ∈ GW := gw_t (tin_10 _ (List.mem_of_getElem? (i := 215) rfl)) rfl
theorem gw_2392 : (Jvm.Cond.methodLink "SoftControllerModel" (317 : Nat) ({ cls := "SoftControllerModel", name := "constant", desc := "()V" } : Jvm.MethodName)) ∈ GW := gw_t (tin_10 _ (List.mem_of_getElem? (i := 232) rfl)) rfl
theorem gw_2394 : (Jvm.Cond.instanceMethod ({ cls := "SoftControllerModel", name := "constant", desc := "()V" } : Jvm.MethodName)) ∈ GW := gw_t (tin_10 _ (List.mem_of_getElem? (i := 234) rfl)) rfl
theorem gw_2395 : (Jvm.Cond.code ({ cls := "SoftControllerModel", name := "constant", desc := "()V" } : Jvm.MethodName) prog_14_method_40_code (2 : Nat) (Option.none : Option Jvm.ClassFile.FieldType)) ∈ GW := gw_t (tin_10 _ (List.mem_of_getElem? (i := 235) rfl)) rfl
theorem gw_2396 : (Jvm.Cond.methodLink "SoftControllerModel" (225 : Nat) ({ cls := "SoftControllerModel", name := "worked", desc := "(ZJ)J" } : Jvm.MethodName)) ∈ GW := gw_t (tin_10 _ (List.mem_of_getElem? (i := 236) rfl)) rfl
theorem gw_2397 : (Jvm.Cond.static ({ cls := "SoftControllerModel", name := "worked", desc := "(ZJ)J" } : Jvm.MethodName)) ∈ GW := gw_t (tin_10 _ (List.mem_of_getElem? (i := 237) rfl)) rfl
theorem gw_2410 : (Jvm.Cond.methodLink "SoftControllerModel" (319 : Nat) ({ cls := "SoftControllerModel", name := "canHave", desc := "(IJ)Z" } : Jvm.MethodName)) ∈ GW := gw_t (tin_11 _ (List.mem_of_getElem? (i := 10) rfl)) rfl
theorem gw_2411 : (Jvm.Cond.static ({ cls := "SoftControllerModel", name := "canHave", desc := "(IJ)Z" } : Jvm.MethodName)) ∈ GW := gw_t (tin_11 _ (List.mem_of_getElem? (i := 11) rfl)) rfl
theorem gw_2413 : (Jvm.Cond.methodLink "SoftControllerModel" (323 : Nat) ({ cls := "SoftControllerModel", name := "addSlot", desc := "(IIIZJ)V" } : Jvm.MethodName)) ∈ GW := gw_t (tin_11 _ (List.mem_of_getElem? (i := 13) rfl)) rfl
theorem gw_2415 : (Jvm.Cond.instanceMethod ({ cls := "SoftControllerModel", name := "addSlot", desc := "(IIIZJ)V" } : Jvm.MethodName)) ∈ GW := gw_t (tin_11 _ (List.mem_of_getElem? (i := 15) rfl)) rfl
theorem gw_2416 : (Jvm.Cond.code ({ cls := "SoftControllerModel", name := "addSlot", desc := "(IIIZJ)V" } : Jvm.MethodName) prog_14_method_43_code (8 : Nat) (Option.none : Option Jvm.ClassFile.FieldType)) ∈ GW := gw_t (tin_11 _ (List.mem_of_getElem? (i := 16) rfl)) rfl
theorem gw_2417 : (Jvm.Cond.methodLink "SoftControllerModel" (327 : Nat) ({ cls := "SoftControllerModel", name := "addVariable", desc := "(IIIIZIJ)V" } : Jvm.MethodName)) ∈ GW := gw_t (tin_11 _ (List.mem_of_getElem? (i := 17) rfl)) rfl
theorem gw_2419 : (Jvm.Cond.instanceMethod ({ cls := "SoftControllerModel", name := "addVariable", desc := "(IIIIZIJ)V" } : Jvm.MethodName)) ∈ GW := gw_t (tin_11 _ (List.mem_of_getElem? (i := 19) rfl)) rfl
theorem gw_2420 : (Jvm.Cond.code ({ cls := "SoftControllerModel", name := "addVariable", desc := "(IIIIZIJ)V" } : Jvm.MethodName) prog_14_method_44_code (10 : Nat) (Option.none : Option Jvm.ClassFile.FieldType)) ∈ GW := gw_t (tin_11 _ (List.mem_of_getElem? (i := 20) rfl)) rfl
theorem gw_2460 : (Jvm.Cond.methodLink "SoftControllerModel" (378 : Nat) ({ cls := "SoftControllerModel", name := "own", desc := "(I)I" } : Jvm.MethodName)) ∈ GW := gw_t (tin_11 _ (List.mem_of_getElem? (i := 60) rfl)) rfl
theorem gw_2462 : (Jvm.Cond.instanceMethod ({ cls := "SoftControllerModel", name := "own", desc := "(I)I" } : Jvm.MethodName)) ∈ GW := gw_t (tin_11 _ (List.mem_of_getElem? (i := 62) rfl)) rfl
theorem gw_2463 : (Jvm.Cond.code ({ cls := "SoftControllerModel", name := "own", desc := "(I)I" } : Jvm.MethodName) prog_14_method_39_code (3 : Nat) (Option.some Jvm.ClassFile.FieldType.int)) ∈ GW := gw_t (tin_11 _ (List.mem_of_getElem? (i := 63) rfl)) rfl
theorem gw_2496 : (Jvm.Cond.methodLink "SoftControllerModel" (487 : Nat) ({ cls := "SoftControllerModel", name := "isTooWide", desc := "(II)Z" } : Jvm.MethodName)) ∈ GW := gw_t (tin_11 _ (List.mem_of_getElem? (i := 96) rfl)) rfl
theorem gw_2498 : (Jvm.Cond.instanceMethod ({ cls := "SoftControllerModel", name := "isTooWide", desc := "(II)Z" } : Jvm.MethodName)) ∈ GW := gw_t (tin_11 _ (List.mem_of_getElem? (i := 98) rfl)) rfl
theorem gw_2499 : (Jvm.Cond.code ({ cls := "SoftControllerModel", name := "isTooWide", desc := "(II)Z" } : Jvm.MethodName) prog_14_method_54_code (3 : Nat) (Option.some Jvm.ClassFile.FieldType.boolean)) ∈ GW := gw_t (tin_11 _ (List.mem_of_getElem? (i := 99) rfl)) rfl
theorem gw_2512 : (Jvm.Cond.methodLink "SoftControllerModel" (453 : Nat) ({ cls := "SoftControllerModel", name := "strength", desc := "()I" } : Jvm.MethodName)) ∈ GW := gw_t (tin_11 _ (List.mem_of_getElem? (i := 112) rfl)) rfl
theorem gw_2514 : (Jvm.Cond.instanceMethod ({ cls := "SoftControllerModel", name := "strength", desc := "()I" } : Jvm.MethodName)) ∈ GW := gw_t (tin_11 _ (List.mem_of_getElem? (i := 114) rfl)) rfl
theorem gw_2515 : (Jvm.Cond.code ({ cls := "SoftControllerModel", name := "strength", desc := "()I" } : Jvm.MethodName) prog_14_method_55_code (1 : Nat) (Option.some Jvm.ClassFile.FieldType.int)) ∈ GW := gw_t (tin_11 _ (List.mem_of_getElem? (i := 115) rfl)) rfl
theorem gw_2520 : (Jvm.Cond.methodLink "SoftControllerModel" (456 : Nat) ({ cls := "SoftControllerModel", name := "joined", desc := "(IIII)I" } : Jvm.MethodName)) ∈ GW := gw_t (tin_11 _ (List.mem_of_getElem? (i := 120) rfl)) rfl
theorem gw_2522 : (Jvm.Cond.instanceMethod ({ cls := "SoftControllerModel", name := "joined", desc := "(IIII)I" } : Jvm.MethodName)) ∈ GW := gw_t (tin_11 _ (List.mem_of_getElem? (i := 122) rfl)) rfl
theorem gw_2523 : (Jvm.Cond.code ({ cls := "SoftControllerModel", name := "joined", desc := "(IIII)I" } : Jvm.MethodName) prog_14_method_58_code (9 : Nat) (Option.some Jvm.ClassFile.FieldType.int)) ∈ GW := gw_t (tin_11 _ (List.mem_of_getElem? (i := 123) rfl)) rfl
theorem gw_2536 : (Jvm.Cond.methodLink "SoftControllerModel" (518 : Nat) ({ cls := "SoftControllerModel", name := "leadAll", desc := "(I)V" } : Jvm.MethodName)) ∈ GW := gw_t (tin_11 _ (List.mem_of_getElem? (i := 136) rfl)) rfl
theorem gw_2538 : (Jvm.Cond.instanceMethod ({ cls := "SoftControllerModel", name := "leadAll", desc := "(I)V" } : Jvm.MethodName)) ∈ GW := gw_t (tin_11 _ (List.mem_of_getElem? (i := 138) rfl)) rfl
theorem gw_2539 : (Jvm.Cond.code ({ cls := "SoftControllerModel", name := "leadAll", desc := "(I)V" } : Jvm.MethodName) prog_14_method_71_code (4 : Nat) (Option.none : Option Jvm.ClassFile.FieldType)) ∈ GW := gw_t (tin_11 _ (List.mem_of_getElem? (i := 139) rfl)) rfl
theorem gw_2544 : (Jvm.Cond.methodLink "SoftControllerModel" (527 : Nat) ({ cls := "SoftControllerModel", name := "loop", desc := "()V" } : Jvm.MethodName)) ∈ GW := gw_t (tin_11 _ (List.mem_of_getElem? (i := 144) rfl)) rfl
theorem gw_2546 : (Jvm.Cond.instanceMethod ({ cls := "SoftControllerModel", name := "loop", desc := "()V" } : Jvm.MethodName)) ∈ GW := gw_t (tin_11 _ (List.mem_of_getElem? (i := 146) rfl)) rfl
theorem gw_2547 : (Jvm.Cond.code ({ cls := "SoftControllerModel", name := "loop", desc := "()V" } : Jvm.MethodName) prog_14_method_72_code (1 : Nat) (Option.none : Option Jvm.ClassFile.FieldType)) ∈ GW := gw_t (tin_11 _ (List.mem_of_getElem? (i := 147) rfl)) rfl
theorem gw_2556 : (Jvm.Cond.methodLink "SoftControllerModel" (530 : Nat) ({ cls := "SoftControllerModel", name := "label", desc := "()V" } : Jvm.MethodName)) ∈ GW := gw_t (tin_11 _ (List.mem_of_getElem? (i := 156) rfl)) rfl
theorem gw_2558 : (Jvm.Cond.instanceMethod ({ cls := "SoftControllerModel", name := "label", desc := "()V" } : Jvm.MethodName)) ∈ GW := gw_t (tin_11 _ (List.mem_of_getElem? (i := 158) rfl)) rfl
theorem gw_2559 : (Jvm.Cond.code ({ cls := "SoftControllerModel", name := "label", desc := "()V" } : Jvm.MethodName) prog_14_method_76_code (6 : Nat) (Option.none : Option Jvm.ClassFile.FieldType)) ∈ GW := gw_t (tin_11 _ (List.mem_of_getElem? (i := 159) rfl)) rfl
theorem gw_2560 : (Jvm.Cond.methodLink "SoftControllerModel" (512 : Nat) ({ cls := "SoftControllerModel", name := "leaves", desc := "(II)V" } : Jvm.MethodName)) ∈ GW := gw_t (tin_11 _ (List.mem_of_getElem? (i := 160) rfl)) rfl
theorem gw_2562 : (Jvm.Cond.instanceMethod ({ cls := "SoftControllerModel", name := "leaves", desc := "(II)V" } : Jvm.MethodName)) ∈ GW := gw_t (tin_11 _ (List.mem_of_getElem? (i := 162) rfl)) rfl
theorem gw_2563 : (Jvm.Cond.code ({ cls := "SoftControllerModel", name := "leaves", desc := "(II)V" } : Jvm.MethodName) prog_14_method_77_code (5 : Nat) (Option.none : Option Jvm.ClassFile.FieldType)) ∈ GW := gw_t (tin_11 _ (List.mem_of_getElem? (i := 163) rfl)) rfl
theorem gwp_X12_canHave : ∀ w ∈ wsX12_canHave, w ∈ GW := gwl [2412, 2399, 2400, 16, 2401, 2402, 2403, 2404, 2405, 2406, 2407, 2408, 2310, 2409] (by decide +kernel) (by decide +kernel)
theorem gwp_X12_worked : ∀ w ∈ wsX12_worked, w ∈ GW := gwl [2398, 2399, 2400, 16, 2401, 2402, 2403, 2404, 2405, 2406, 2407, 2408, 2310, 2409] (by decide +kernel) (by decide +kernel)
section JudgeRows
variable {p : Program} {l : Launch} {e : Env} {R : Room} {s : State} {m : MethodId} {args : Array Value} {below : List Frame} {meth : Method} {c : Code} {H : Heap} {locs : List Loc} {Q : State → Prop}
variable {ls : Array Slot} {D : va_G} {kA : Nat → ClassId} {V Z : Nat → Nat} {A : Nat → Prop} {N d : Nat} {w : RSt}
def B_own_0 (N : Nat) (l1 : Int32) (u : RSt) : Option (Int32 × RSt) := if (u.1 69) = (0 : Int32) then (some ((-1), u)) else (rd (u.2.2.2 6) 1502 (u.1 65) fun v_2 => rd (u.2.2.2 7) 1502 (u.1 65) fun v_4 => bn (F_slotOf N v_2 v_4 u) fun r_7 u_6 => if r_7 = ((-1) : Int32) then (rd (u_6.2.2.2 6) 1502 (u_6.1 65) fun v_9 => rd (u_6.2.2.2 7) 1502 (u_6.1 65) fun v_11 => bn (F_named N v_9 v_11 u_6) fun r_14 u_13 => if r_14 = ((-1) : Int32) then (some ((-1), u_13)) else (rd (u_13.2.2.1 59) 180 r_14 fun v_16 => if v_16 = l1 then (rd (u_13.2.2.1 60) 180 r_14 fun v_19 => some (v_19, u_13)) else (some ((-1), u_13)))) else (some ((-1), u_6)))
set_option maxHeartbeats 4000000 in
theorem b_own_0 {r : Int32} (X : RC p s m args c cX12_own 3 (Cond.code yX12_own cX12_own 3 (some .int)) D kA V A) (hE : REi p l e R s m args below meth c cX12_own D kA Z A Q r w) (hF : 1 ≤ R.frames) (hL : 25 ≤ R.locals) {l1 : Int32}  {u : RSt} (h : B_own_0 N l1 u = some (r, w)) (hS : RS D kA Z A s u H locs) (hl : lv_has ls 3 [(0, .ref (Z 200)), (1, .int l1)]) : W p l e R s m args below meth c H locs 0 0 Q (F0 m 0 ls []) := by
  obtain ⟨⟨hx, hb, hml, hown, hts⟩, hK, hEV, hA⟩ := id X
  have hG : ∀ w ∈ GW, w.before args s = true := fun w h => hts w (List.mem_cons_of_mem _ h)
  unfold B_own_0 at h
  refine lv_aload_n hx hb dX12_own_0 rfl (lv_at hl 0 rfl) ?_
  refine rg_69 X hS dX12_own_1 ?_
  refine lv_if_eq (tgt := 33) hx hb dX12_own_4 (by decide) (fun c_1 => ?_) (fun c_1 => ?_)
  · have h := ip (c_1) h
    refine lv_iconst (v := (-1)) hx hb dX12_own_33 (by decide) ?_
    obtain ⟨rfl, rfl⟩ := so h
    exact hE _ _ _ _ hS dX12_own_34
  · have h := im (c_1) h
    refine lv_aload_n hx hb dX12_own_7 rfl (lv_at hl 0 rfl) ?_
    refine lv_aload_n hx hb dX12_own_8 rfl (lv_at hl 0 rfl) ?_
    refine rg_6 X hS dX12_own_9 ?_
    refine lv_aload_n hx hb dX12_own_12 rfl (lv_at hl 0 rfl) ?_
    refine rg_65 X hS dX12_own_13 ?_
    obtain ⟨v_2, e_v_2, i_3, h⟩ := rd_of h
    refine ra_6 X hS i_3 e_v_2 dX12_own_16 ?_
    refine lv_aload_n hx hb dX12_own_17 rfl (lv_at hl 0 rfl) ?_
    refine rg_7 X hS dX12_own_18 ?_
    refine lv_aload_n hx hb dX12_own_21 rfl (lv_at hl 0 rfl) ?_
    refine rg_65 X hS dX12_own_22 ?_
    obtain ⟨v_4, e_v_4, i_5, h⟩ := rd_of h
    refine ra_7 X hS i_5 e_v_4 dX12_own_25 ?_
    obtain ⟨r_7, u_6, h_u_6, h⟩ := bn_of h
    refine kc_slotOf X hS h_u_6 (Nat.le_trans (Nat.le_of_ble_eq_true rfl) hF) (Nat.le_trans (Nat.le_of_ble_eq_true rfl) hL) hl.1 (Nat.le_of_ble_eq_true rfl) dX12_own_26 (fun H locs hS => ?_)
    refine lv_iconst (v := (-1)) hx hb dX12_own_29 (by decide) ?_
    refine lv_icmp_eq (tgt := 35) hx hb dX12_own_30 (by decide) (fun c_8 => ?_) (fun c_8 => ?_)
    · have h := ip (c_8) h
      refine lv_aload_n hx hb dX12_own_35 rfl (lv_at hl 0 rfl) ?_
      refine lv_aload_n hx hb dX12_own_36 rfl (lv_at hl 0 rfl) ?_
      refine rg_6 X hS dX12_own_37 ?_
      refine lv_aload_n hx hb dX12_own_40 rfl (lv_at hl 0 rfl) ?_
      refine rg_65 X hS dX12_own_41 ?_
      obtain ⟨v_9, e_v_9, i_10, h⟩ := rd_of h
      refine ra_6 X hS i_10 e_v_9 dX12_own_44 ?_
      refine lv_aload_n hx hb dX12_own_45 rfl (lv_at hl 0 rfl) ?_
      refine rg_7 X hS dX12_own_46 ?_
      refine lv_aload_n hx hb dX12_own_49 rfl (lv_at hl 0 rfl) ?_
      refine rg_65 X hS dX12_own_50 ?_
      obtain ⟨v_11, e_v_11, i_12, h⟩ := rd_of h
      refine ra_7 X hS i_12 e_v_11 dX12_own_53 ?_
      obtain ⟨r_14, u_13, h_u_13, h⟩ := bn_of h
      refine kc_named X hS h_u_13 (Nat.le_trans (Nat.le_of_ble_eq_true rfl) hF) (Nat.le_trans (Nat.le_of_ble_eq_true rfl) hL) hl.1 (Nat.le_of_ble_eq_true rfl) dX12_own_54 (fun H locs hS => ?_)
      refine lv_istore_n (lv' := [(2, .int r_14), (0, .ref (Z 200)), (1, .int l1)]) hx hb dX12_own_57 rfl hl (by decide) rfl (fun ls hl => ?_)
      refine lv_iload_n hx hb dX12_own_58 rfl (lv_at hl 0 rfl) ?_
      refine lv_iconst (v := (-1)) hx hb dX12_own_59 (by decide) ?_
      refine lv_icmp_eq (tgt := 82) hx hb dX12_own_60 (by decide) (fun c_15 => ?_) (fun c_15 => ?_)
      · have h := ip (c_15) h
        refine lv_iconst (v := (-1)) hx hb dX12_own_82 (by decide) ?_
        obtain ⟨rfl, rfl⟩ := so h
        exact hE _ _ _ _ hS dX12_own_83
      · have h := im (c_15) h
        refine lv_aload_n hx hb dX12_own_63 rfl (lv_at hl 1 rfl) ?_
        refine rg_59 X hS dX12_own_64 ?_
        refine lv_iload_n hx hb dX12_own_67 rfl (lv_at hl 0 rfl) ?_
        obtain ⟨v_16, e_v_16, i_17, h⟩ := rd_of h
        refine ra_59 X hS i_17 e_v_16 dX12_own_68 ?_
        refine lv_iload_n hx hb dX12_own_69 rfl (lv_at hl 2 rfl) ?_
        refine lv_icmp_ne (tgt := 82) hx hb dX12_own_70 (by decide) (fun c_18 => ?_) (fun c_18 => ?_)
        · have h := im (c_18) h
          refine lv_iconst (v := (-1)) hx hb dX12_own_82 (by decide) ?_
          obtain ⟨rfl, rfl⟩ := so h
          exact hE _ _ _ _ hS dX12_own_83
        · have h := ip (c_18) h
          refine lv_aload_n hx hb dX12_own_73 rfl (lv_at hl 1 rfl) ?_
          refine rg_60 X hS dX12_own_74 ?_
          refine lv_iload_n hx hb dX12_own_77 rfl (lv_at hl 0 rfl) ?_
          obtain ⟨v_19, e_v_19, i_20, h⟩ := rd_of h
          refine ra_60 X hS i_20 e_v_19 dX12_own_78 ?_
          refine lv_goto (tgt := 83) hx hb dX12_own_79 (by decide) ?_
          obtain ⟨rfl, rfl⟩ := so h
          exact hE _ _ _ _ hS dX12_own_83
    · have h := im (c_8) h
      refine lv_iconst (v := (-1)) hx hb dX12_own_33 (by decide) ?_
      obtain ⟨rfl, rfl⟩ := so h
      exact hE _ _ _ _ hS dX12_own_34
def F_own (N : Nat) (l1 : Int32) (u : RSt) : Option (Int32 × RSt) := B_own_0 N l1 u
set_option maxHeartbeats 4000000 in
theorem k_own (l : Launch) (D : va_G) (kA : Nat → ClassId) (V Z : Nat → Nat) (N : Nat) (l1 : Int32) (u : RSt) (sz : Nat) {r : Int32} {w : RSt} (h : F_own N l1 u = some (r, w)) : Met l yX12_own (Cond.code yX12_own cX12_own 3 (some .int) :: GW) { frames := 1, cells := 0, slots := 0, locals := 25 } (rPc D kA V Z [.int l1] u sz) (rQi D kA Z u sz r w) 0 0 (va_A (RW kA Z u) sz) := by
  refine Met.ofW (cc := cX12_own) (maxL := 3) (ret := (some .int)) (by decide) rfl ?_
  intro p e s m args below meth c s₁ Bd hml hv
  obtain ⟨rfl, hsz, hP, hK, hD0, hE⟩ := hv
  have hts := atoms_spec (ws := Cond.code yX12_own cX12_own 3 (some .int) :: GW) Bd.pre
  have hl := lv_entry (.ref (Z 200) :: [.int l1]) (n := 3) (Nat.le_of_ble_eq_true rfl)
  rw [lg_entry_eq]
  generalize (lg_sl (.ref (Z 200) :: [.int l1]) ++ List.replicate (3 - (lg_sl (.ref (Z 200) :: [.int l1])).length) Slot.unset).toArray = ls at hl ⊢
  have hl : lv_has ls 3 [(0, .ref (Z 200)), (1, .int l1)] := hl
  subst hsz
  have X : RC p s m (.ref (Z 200) :: [.int l1]).toArray c cX12_own 3 (Cond.code yX12_own cX12_own 3 (some .int)) D kA V (va_A (RW kA Z u) s.heap.size) := ⟨⟨Bd.exec, Bd.bytes, hml, findClass_of_methodNamed Bd.named, hts⟩, hK, hE, fun q h => Or.inr h⟩
  exact b_own_0 X (rend_i (cy := cX12_own) X Bd.returns Bd.notSynchronized) (Nat.le_refl _) (Nat.le_refl _) h ⟨hP, hD0.self, va_S.rf⟩ (lv_sub hl [0, 1] rfl)
theorem kc_own {r : Int32} {cc : ByteArray} {pc nL : Nat} {c0 : Cond} {rest : List Value} {l1 : Int32} {u : RSt} (X : RC p s m args c cc nL c0 D kA V A) (hS : RS D kA Z A s u H locs) (h : F_own N l1 u = some (r, w)) (hF : 1 + 1 ≤ R.frames) (hL : 8 + (3 + 11) + 25 ≤ R.locals) (hl : ls.size = nL) (hc : (rest.map fun v => v.category).sum ≤ 8) (hdg : decode cc pc = .ok (.invokevirtual 378, 3)) (kk : ∀ H locs, RS D kA Z A s w H locs → W p l e R s m args below meth c H locs 0 0 Q (F0 m (pc + 3) ls (.int r :: rest))) : W p l e R s m args below meth c H locs 0 0 Q (F0 m pc ls (.int l1 :: .ref (Z 200) :: rest)) :=
  rcall_i (n := 1) X hS (k_own l D kA V Z N l1 u H.size h) (gw_V gw_2460 gw_2462 gs_9_14 gw_16 gw_2463) (by decide +kernel) hF hL rfl hl hc rfl hdg kk
def B_telling_65 (N : Nat) (l1 : Int32) (l2 : Int32) (s1 : Int32) (u : RSt) : Option (Int32 × RSt) := rd (u.2.2.1 3) 1502 (u.1 65) fun v_1 => bn (F_wrong N s1 5 v_1 u) fun _ u_3 => if (u_3.1 69) = (0 : Int32) then (some (0, u_3)) else (if (u_3.1 67) = (0 : Int32) then (pu (sI u_3 62 ((u_3.1 62) + 1)) fun u_6 => rd (u_6.2.2.2 6) 1502 (u_6.1 65) fun v_7 => wr 180 (u_6.1 61) (sB u_6 57 (u_6.1 61).toNatClampNeg v_7) fun u_9 => rd (u_9.2.2.2 7) 1502 (u_9.1 65) fun v_11 => wr 180 (u_9.1 61) (sB u_9 58 (u_9.1 61).toNatClampNeg v_11) fun u_13 => wr 180 (u_13.1 61) (sA u_13 59 (u_13.1 61).toNatClampNeg l1) fun u_15 => wr 180 (u_15.1 61) (sA u_15 60 (u_15.1 61).toNatClampNeg l2) fun u_17 => pu (sI u_17 61 ((u_17.1 61) + 1)) fun u_19 => some (0, u_19)) else (some (0, u_3)))
set_option maxHeartbeats 4000000 in
theorem b_telling_65 {r : Int32} (X : RC p s m args c cX12_telling 4 (Cond.code yX12_telling cX12_telling 4 none) D kA V A) (hE : REv p l e R s m args below meth c cX12_telling D kA Z A Q w) (hF : 2 ≤ R.frames) (hL : 45 ≤ R.locals) {l1 : Int32} {l2 : Int32} {s1 : Int32}  {u : RSt} (h : B_telling_65 N l1 l2 s1 u = some (r, w)) (hS : RS D kA Z A s u H locs) (hl : lv_has ls 4 [(0, .ref (Z 200)), (1, .int l1), (2, .int l2)]) : W p l e R s m args below meth c H locs 0 0 Q (F0 m 65 ls [.int s1, .ref (Z 200)]) := by
  obtain ⟨⟨hx, hb, hml, hown, hts⟩, hK, hEV, hA⟩ := id X
  have hG : ∀ w ∈ GW, w.before args s = true := fun w h => hts w (List.mem_cons_of_mem _ h)
  unfold B_telling_65 at h
  refine lv_iconst (v := 5) hx hb dX12_telling_65 (by decide) ?_
  refine lv_aload_n hx hb dX12_telling_66 rfl (lv_at hl 0 rfl) ?_
  refine rg_3 X hS dX12_telling_67 ?_
  refine lv_aload_n hx hb dX12_telling_70 rfl (lv_at hl 0 rfl) ?_
  refine rg_65 X hS dX12_telling_71 ?_
  obtain ⟨v_1, e_v_1, i_2, h⟩ := rd_of h
  refine ra_3 X hS i_2 e_v_1 dX12_telling_74 ?_
  obtain ⟨r_u_3, u_3, h_u_3, h⟩ := bn_of h
  refine kc_wrong X hS h_u_3 (Nat.le_trans (Nat.le_of_ble_eq_true rfl) hF) (Nat.le_trans (Nat.le_of_ble_eq_true rfl) hL) hl.1 (Nat.le_of_ble_eq_true rfl) dX12_telling_75 (fun H locs hS => ?_)
  refine lv_aload_n hx hb dX12_telling_78 rfl (lv_at hl 0 rfl) ?_
  refine rg_69 X hS dX12_telling_79 ?_
  refine lv_if_eq (tgt := 92) hx hb dX12_telling_82 (by decide) (fun c_4 => ?_) (fun c_4 => ?_)
  · have h := ip (c_4) h
    obtain ⟨-, rfl⟩ := so h
    exact hE _ _ _ _ hS dX12_telling_92
  · have h := im (c_4) h
    refine lv_aload_n hx hb dX12_telling_85 rfl (lv_at hl 0 rfl) ?_
    refine rg_67 X hS dX12_telling_86 ?_
    refine lv_if_eq (tgt := 93) hx hb dX12_telling_89 (by decide) (fun c_5 => ?_) (fun c_5 => ?_)
    · have h := ip (c_5) h
      refine lv_aload_n hx hb dX12_telling_93 rfl (lv_at hl 0 rfl) ?_
      refine lv_dup hx hb dX12_telling_94 rfl ?_
      refine rg_62 X hS dX12_telling_95 ?_
      refine lv_iconst (v := 1) hx hb dX12_telling_98 (by decide) ?_
      refine lv_iadd hx hb dX12_telling_99 ?_
      obtain ⟨u_6, e_u_6, h⟩ := pu_of h
      refine rp_62 X hS e_u_6 dX12_telling_100 (fun H locs hS => ?_)
      refine lv_aload_n hx hb dX12_telling_103 rfl (lv_at hl 0 rfl) ?_
      refine rg_57 X hS dX12_telling_104 ?_
      refine lv_aload_n hx hb dX12_telling_107 rfl (lv_at hl 0 rfl) ?_
      refine rg_61 X hS dX12_telling_108 ?_
      refine lv_aload_n hx hb dX12_telling_111 rfl (lv_at hl 0 rfl) ?_
      refine rg_6 X hS dX12_telling_112 ?_
      refine lv_aload_n hx hb dX12_telling_115 rfl (lv_at hl 0 rfl) ?_
      refine rg_65 X hS dX12_telling_116 ?_
      obtain ⟨v_7, e_v_7, i_8, h⟩ := rd_of h
      refine ra_6 X hS i_8 e_v_7 dX12_telling_119 ?_
      obtain ⟨u_9, e_u_9, i_10, h⟩ := wr_of h
      refine rs_57 X hS i_10 e_u_9 dX12_telling_120 (fun H locs hS => ?_)
      refine lv_aload_n hx hb dX12_telling_121 rfl (lv_at hl 0 rfl) ?_
      refine rg_58 X hS dX12_telling_122 ?_
      refine lv_aload_n hx hb dX12_telling_125 rfl (lv_at hl 0 rfl) ?_
      refine rg_61 X hS dX12_telling_126 ?_
      refine lv_aload_n hx hb dX12_telling_129 rfl (lv_at hl 0 rfl) ?_
      refine rg_7 X hS dX12_telling_130 ?_
      refine lv_aload_n hx hb dX12_telling_133 rfl (lv_at hl 0 rfl) ?_
      refine rg_65 X hS dX12_telling_134 ?_
      obtain ⟨v_11, e_v_11, i_12, h⟩ := rd_of h
      refine ra_7 X hS i_12 e_v_11 dX12_telling_137 ?_
      obtain ⟨u_13, e_u_13, i_14, h⟩ := wr_of h
      refine rs_58 X hS i_14 e_u_13 dX12_telling_138 (fun H locs hS => ?_)
      refine lv_aload_n hx hb dX12_telling_139 rfl (lv_at hl 0 rfl) ?_
      refine rg_59 X hS dX12_telling_140 ?_
      refine lv_aload_n hx hb dX12_telling_143 rfl (lv_at hl 0 rfl) ?_
      refine rg_61 X hS dX12_telling_144 ?_
      refine lv_iload_n hx hb dX12_telling_147 rfl (lv_at hl 1 rfl) ?_
      obtain ⟨u_15, e_u_15, i_16, h⟩ := wr_of h
      refine rs_59 X hS i_16 e_u_15 dX12_telling_148 (fun H locs hS => ?_)
      refine lv_aload_n hx hb dX12_telling_149 rfl (lv_at hl 0 rfl) ?_
      refine rg_60 X hS dX12_telling_150 ?_
      refine lv_aload_n hx hb dX12_telling_153 rfl (lv_at hl 0 rfl) ?_
      refine rg_61 X hS dX12_telling_154 ?_
      refine lv_iload_n hx hb dX12_telling_157 rfl (lv_at hl 2 rfl) ?_
      obtain ⟨u_17, e_u_17, i_18, h⟩ := wr_of h
      refine rs_60 X hS i_18 e_u_17 dX12_telling_158 (fun H locs hS => ?_)
      refine lv_aload_n hx hb dX12_telling_159 rfl (lv_at hl 0 rfl) ?_
      refine lv_dup hx hb dX12_telling_160 rfl ?_
      refine rg_61 X hS dX12_telling_161 ?_
      refine lv_iconst (v := 1) hx hb dX12_telling_164 (by decide) ?_
      refine lv_iadd hx hb dX12_telling_165 ?_
      obtain ⟨u_19, e_u_19, h⟩ := pu_of h
      refine rp_61 X hS e_u_19 dX12_telling_166 (fun H locs hS => ?_)
      obtain ⟨-, rfl⟩ := so h
      exact hE _ _ _ _ hS dX12_telling_169
    · have h := im (c_5) h
      obtain ⟨-, rfl⟩ := so h
      exact hE _ _ _ _ hS dX12_telling_92
def B_telling_60 (N : Nat) (l1 : Int32) (l2 : Int32) (u : RSt) : Option (Int32 × RSt) := B_telling_65 N l1 l2 1 u
set_option maxHeartbeats 4000000 in
theorem b_telling_60 {r : Int32} (X : RC p s m args c cX12_telling 4 (Cond.code yX12_telling cX12_telling 4 none) D kA V A) (hE : REv p l e R s m args below meth c cX12_telling D kA Z A Q w) (hF : 2 ≤ R.frames) (hL : 45 ≤ R.locals) {l1 : Int32} {l2 : Int32}  {u : RSt} (h : B_telling_60 N l1 l2 u = some (r, w)) (hS : RS D kA Z A s u H locs) (hl : lv_has ls 4 [(0, .ref (Z 200)), (1, .int l1), (2, .int l2)]) : W p l e R s m args below meth c H locs 0 0 Q (F0 m 60 ls [.ref (Z 200)]) := by
  obtain ⟨⟨hx, hb, hml, hown, hts⟩, hK, hEV, hA⟩ := id X
  have hG : ∀ w ∈ GW, w.before args s = true := fun w h => hts w (List.mem_cons_of_mem _ h)
  unfold B_telling_60 at h
  refine lv_iconst (v := 1) hx hb dX12_telling_60 (by decide) ?_
  refine lv_goto (tgt := 65) hx hb dX12_telling_61 (by decide) ?_
  exact b_telling_65 X hE hF hL  h hS (lv_sub hl [0, 1, 2] rfl)
def B_telling_32 (N : Nat) (l1 : Int32) (l2 : Int32) (l3 : Int32) (s1 : Int32) (u : RSt) : Option (Int32 × RSt) := rd (u.2.2.1 3) 1502 (u.1 65) fun v_20 => bn (F_wrong N s1 3 v_20 u) fun _ u_22 => if (u_22.1 62) = (160 : Int32) then (B_telling_60 N l1 l2 u_22) else (if l3 = (0 : Int32) then (B_telling_65 N l1 l2 0 u_22) else (B_telling_60 N l1 l2 u_22))
set_option maxHeartbeats 4000000 in
theorem b_telling_32 {r : Int32} (X : RC p s m args c cX12_telling 4 (Cond.code yX12_telling cX12_telling 4 none) D kA V A) (hE : REv p l e R s m args below meth c cX12_telling D kA Z A Q w) (hF : 2 ≤ R.frames) (hL : 45 ≤ R.locals) {l1 : Int32} {l2 : Int32} {l3 : Int32} {s1 : Int32}  {u : RSt} (h : B_telling_32 N l1 l2 l3 s1 u = some (r, w)) (hS : RS D kA Z A s u H locs) (hl : lv_has ls 4 [(0, .ref (Z 200)), (1, .int l1), (2, .int l2), (3, .int l3)]) : W p l e R s m args below meth c H locs 0 0 Q (F0 m 32 ls [.int s1, .ref (Z 200)]) := by
  obtain ⟨⟨hx, hb, hml, hown, hts⟩, hK, hEV, hA⟩ := id X
  have hG : ∀ w ∈ GW, w.before args s = true := fun w h => hts w (List.mem_cons_of_mem _ h)
  unfold B_telling_32 at h
  refine lv_iconst (v := 3) hx hb dX12_telling_32 (by decide) ?_
  refine lv_aload_n hx hb dX12_telling_33 rfl (lv_at hl 0 rfl) ?_
  refine rg_3 X hS dX12_telling_34 ?_
  refine lv_aload_n hx hb dX12_telling_37 rfl (lv_at hl 0 rfl) ?_
  refine rg_65 X hS dX12_telling_38 ?_
  obtain ⟨v_20, e_v_20, i_21, h⟩ := rd_of h
  refine ra_3 X hS i_21 e_v_20 dX12_telling_41 ?_
  obtain ⟨r_u_22, u_22, h_u_22, h⟩ := bn_of h
  refine kc_wrong X hS h_u_22 (Nat.le_trans (Nat.le_of_ble_eq_true rfl) hF) (Nat.le_trans (Nat.le_of_ble_eq_true rfl) hL) hl.1 (Nat.le_of_ble_eq_true rfl) dX12_telling_42 (fun H locs hS => ?_)
  refine lv_aload_n hx hb dX12_telling_45 rfl (lv_at hl 0 rfl) ?_
  refine lv_aload_n hx hb dX12_telling_46 rfl (lv_at hl 0 rfl) ?_
  refine rg_62 X hS dX12_telling_47 ?_
  refine lv_sipush (v := 160) hx hb dX12_telling_50 (by decide) ?_
  refine lv_icmp_eq (tgt := 60) hx hb dX12_telling_53 (by decide) (fun c_23 => ?_) (fun c_23 => ?_)
  · have h := ip (c_23) h
    exact b_telling_60 X hE hF hL  h hS (lv_sub hl [0, 1, 2] rfl)
  · have h := im (c_23) h
    refine lv_iload_n hx hb dX12_telling_56 rfl (lv_at hl 3 rfl) ?_
    refine lv_if_eq (tgt := 64) hx hb dX12_telling_57 (by decide) (fun c_24 => ?_) (fun c_24 => ?_)
    · have h := ip (c_24) h
      refine lv_iconst (v := 0) hx hb dX12_telling_64 (by decide) ?_
      exact b_telling_65 X hE hF hL  h hS (lv_sub hl [0, 1, 2] rfl)
    · have h := im (c_24) h
      exact b_telling_60 X hE hF hL  h hS (lv_sub hl [0, 1, 2] rfl)
def B_telling_0 (N : Nat) (l1 : Int32) (l2 : Int32) (l3 : Int32) (u : RSt) : Option (Int32 × RSt) := rd (u.2.2.2 6) 1502 (u.1 65) fun v_25 => rd (u.2.2.2 7) 1502 (u.1 65) fun v_27 => bn (F_named N v_25 v_27 u) fun r_30 u_29 => if r_30 = ((-1) : Int32) then (B_telling_32 N l1 l2 l3 0 u_29) else (B_telling_32 N l1 l2 l3 1 u_29)
set_option maxHeartbeats 4000000 in
theorem b_telling_0 {r : Int32} (X : RC p s m args c cX12_telling 4 (Cond.code yX12_telling cX12_telling 4 none) D kA V A) (hE : REv p l e R s m args below meth c cX12_telling D kA Z A Q w) (hF : 2 ≤ R.frames) (hL : 45 ≤ R.locals) {l1 : Int32} {l2 : Int32} {l3 : Int32}  {u : RSt} (h : B_telling_0 N l1 l2 l3 u = some (r, w)) (hS : RS D kA Z A s u H locs) (hl : lv_has ls 4 [(0, .ref (Z 200)), (1, .int l1), (2, .int l2), (3, .int l3)]) : W p l e R s m args below meth c H locs 0 0 Q (F0 m 0 ls []) := by
  obtain ⟨⟨hx, hb, hml, hown, hts⟩, hK, hEV, hA⟩ := id X
  have hG : ∀ w ∈ GW, w.before args s = true := fun w h => hts w (List.mem_cons_of_mem _ h)
  unfold B_telling_0 at h
  refine lv_aload_n hx hb dX12_telling_0 rfl (lv_at hl 0 rfl) ?_
  refine lv_aload_n hx hb dX12_telling_1 rfl (lv_at hl 0 rfl) ?_
  refine lv_aload_n hx hb dX12_telling_2 rfl (lv_at hl 0 rfl) ?_
  refine rg_6 X hS dX12_telling_3 ?_
  refine lv_aload_n hx hb dX12_telling_6 rfl (lv_at hl 0 rfl) ?_
  refine rg_65 X hS dX12_telling_7 ?_
  obtain ⟨v_25, e_v_25, i_26, h⟩ := rd_of h
  refine ra_6 X hS i_26 e_v_25 dX12_telling_10 ?_
  refine lv_aload_n hx hb dX12_telling_11 rfl (lv_at hl 0 rfl) ?_
  refine rg_7 X hS dX12_telling_12 ?_
  refine lv_aload_n hx hb dX12_telling_15 rfl (lv_at hl 0 rfl) ?_
  refine rg_65 X hS dX12_telling_16 ?_
  obtain ⟨v_27, e_v_27, i_28, h⟩ := rd_of h
  refine ra_7 X hS i_28 e_v_27 dX12_telling_19 ?_
  obtain ⟨r_30, u_29, h_u_29, h⟩ := bn_of h
  refine kc_named X hS h_u_29 (Nat.le_trans (Nat.le_of_ble_eq_true rfl) hF) (Nat.le_trans (Nat.le_of_ble_eq_true rfl) hL) hl.1 (Nat.le_of_ble_eq_true rfl) dX12_telling_20 (fun H locs hS => ?_)
  refine lv_iconst (v := (-1)) hx hb dX12_telling_23 (by decide) ?_
  refine lv_icmp_eq (tgt := 31) hx hb dX12_telling_24 (by decide) (fun c_31 => ?_) (fun c_31 => ?_)
  · have h := ip (c_31) h
    refine lv_iconst (v := 0) hx hb dX12_telling_31 (by decide) ?_
    exact b_telling_32 X hE hF hL  h hS (lv_sub hl [0, 1, 2, 3] rfl)
  · have h := im (c_31) h
    refine lv_iconst (v := 1) hx hb dX12_telling_27 (by decide) ?_
    refine lv_goto (tgt := 32) hx hb dX12_telling_28 (by decide) ?_
    exact b_telling_32 X hE hF hL  h hS (lv_sub hl [0, 1, 2, 3] rfl)
def F_telling (N : Nat) (l1 : Int32) (l2 : Int32) (l3 : Int32) (u : RSt) : Option (Int32 × RSt) := B_telling_0 N l1 l2 l3 u
set_option maxHeartbeats 4000000 in
theorem k_telling (l : Launch) (D : va_G) (kA : Nat → ClassId) (V Z : Nat → Nat) (N : Nat) (l1 : Int32) (l2 : Int32) (l3 : Int32) (u : RSt) (sz : Nat) {r : Int32} {w : RSt} (h : F_telling N l1 l2 l3 u = some (r, w)) : Met l yX12_telling (Cond.code yX12_telling cX12_telling 4 none :: GW) { frames := 2, cells := 0, slots := 0, locals := 45 } (rPc D kA V Z [.int l1, .int l2, .int l3] u sz) (rQv D kA Z u sz w) 0 0 (va_A (RW kA Z u) sz) := by
  refine Met.ofW (cc := cX12_telling) (maxL := 4) (ret := none) (by decide) rfl ?_
  intro p e s m args below meth c s₁ Bd hml hv
  obtain ⟨rfl, hsz, hP, hK, hD0, hE⟩ := hv
  have hts := atoms_spec (ws := Cond.code yX12_telling cX12_telling 4 none :: GW) Bd.pre
  have hl := lv_entry (.ref (Z 200) :: [.int l1, .int l2, .int l3]) (n := 4) (Nat.le_of_ble_eq_true rfl)
  rw [lg_entry_eq]
  generalize (lg_sl (.ref (Z 200) :: [.int l1, .int l2, .int l3]) ++ List.replicate (4 - (lg_sl (.ref (Z 200) :: [.int l1, .int l2, .int l3])).length) Slot.unset).toArray = ls at hl ⊢
  have hl : lv_has ls 4 [(0, .ref (Z 200)), (1, .int l1), (2, .int l2), (3, .int l3)] := hl
  subst hsz
  have X : RC p s m (.ref (Z 200) :: [.int l1, .int l2, .int l3]).toArray c cX12_telling 4 (Cond.code yX12_telling cX12_telling 4 none) D kA V (va_A (RW kA Z u) s.heap.size) := ⟨⟨Bd.exec, Bd.bytes, hml, findClass_of_methodNamed Bd.named, hts⟩, hK, hE, fun q h => Or.inr h⟩
  exact b_telling_0 X (rend_v (cy := cX12_telling) X Bd.returns Bd.notSynchronized) (Nat.le_refl _) (Nat.le_refl _) h ⟨hP, hD0.self, va_S.rf⟩ (lv_sub hl [0, 1, 2, 3] rfl)
theorem kc_telling {r : Int32} {cc : ByteArray} {pc nL : Nat} {c0 : Cond} {rest : List Value} {l1 : Int32} {l2 : Int32} {l3 : Int32} {u : RSt} (X : RC p s m args c cc nL c0 D kA V A) (hS : RS D kA Z A s u H locs) (h : F_telling N l1 l2 l3 u = some (r, w)) (hF : 2 + 1 ≤ R.frames) (hL : 8 + (4 + 11) + 45 ≤ R.locals) (hl : ls.size = nL) (hc : (rest.map fun v => v.category).sum ≤ 8) (hdg : decode cc pc = .ok (.invokevirtual 303, 3)) (kk : ∀ H locs, RS D kA Z A s w H locs → W p l e R s m args below meth c H locs 0 0 Q (F0 m (pc + 3) ls (rest))) : W p l e R s m args below meth c H locs 0 0 Q (F0 m pc ls (.int l3 :: .int l2 :: .int l1 :: .ref (Z 200) :: rest)) :=
  rcall_v (n := 3) X hS (k_telling l D kA V Z N l1 l2 l3 u H.size h) (gw_V gw_2356 gw_2358 gs_8_9 gw_16 gw_2359) (by decide +kernel) hF hL rfl hl hc rfl hdg kk
def B_constant_86 (N : Nat) (s1 : Int64) (u : RSt) : Option (Int32 × RSt) := pu (sL u 77 s1) fun u_1 => pu (sI u_1 65 ((u_1.1 65) + 1)) fun u_2 => some (0, u_2)
set_option maxHeartbeats 4000000 in
theorem b_constant_86 {r : Int32} (X : RC p s m args c cX12_constant 2 (Cond.code yX12_constant cX12_constant 2 none) D kA V A) (hE : REv p l e R s m args below meth c cX12_constant D kA Z A Q w) (hF : 2 ≤ R.frames) (hL : 45 ≤ R.locals) {s1 : Int64}  {u : RSt} (h : B_constant_86 N s1 u = some (r, w)) (hS : RS D kA Z A s u H locs) (hl : lv_has ls 2 [(0, .ref (Z 200))]) : W p l e R s m args below meth c H locs 0 0 Q (F0 m 86 ls [.long s1, .ref (Z 200)]) := by
  obtain ⟨⟨hx, hb, hml, hown, hts⟩, hK, hEV, hA⟩ := id X
  have hG : ∀ w ∈ GW, w.before args s = true := fun w h => hts w (List.mem_cons_of_mem _ h)
  unfold B_constant_86 at h
  obtain ⟨u_1, e_u_1, h⟩ := pu_of h
  refine rp_77 X hS e_u_1 dX12_constant_86 (fun H locs hS => ?_)
  refine lv_aload_n hx hb dX12_constant_89 rfl (lv_at hl 0 rfl) ?_
  refine lv_dup hx hb dX12_constant_90 rfl ?_
  refine rg_65 X hS dX12_constant_91 ?_
  refine lv_iconst (v := 1) hx hb dX12_constant_94 (by decide) ?_
  refine lv_iadd hx hb dX12_constant_95 ?_
  obtain ⟨u_2, e_u_2, h⟩ := pu_of h
  refine rp_65 X hS e_u_2 dX12_constant_96 (fun H locs hS => ?_)
  obtain ⟨-, rfl⟩ := so h
  exact hE _ _ _ _ hS dX12_constant_99
def B_constant_28 (N : Nat) (l1 : Int32) (u : RSt) : Option (Int32 × RSt) := bn (F_is N 3 u) fun r_4 u_3 => rd (u_3.2.2.1 3) 1502 (u_3.1 65) fun v_5 => bn (F_wrong N r_4 5 v_5 u_3) fun _ u_7 => if l1 = (0 : Int32) then (rd (u_7.2.2.2 4) 1502 (u_7.1 65) fun v_9 => B_constant_86 N v_9 u_7) else (rd (u_7.2.2.1 5) 1502 (u_7.1 65) fun v_11 => rd (u_7.2.2.2 4) 1502 (u_7.1 65) fun v_13 => B_constant_86 N (r_worked v_11 (-v_13)) u_7)
set_option maxHeartbeats 4000000 in
theorem b_constant_28 {r : Int32} (X : RC p s m args c cX12_constant 2 (Cond.code yX12_constant cX12_constant 2 none) D kA V A) (hE : REv p l e R s m args below meth c cX12_constant D kA Z A Q w) (hF : 2 ≤ R.frames) (hL : 45 ≤ R.locals) {l1 : Int32}  {u : RSt} (h : B_constant_28 N l1 u = some (r, w)) (hS : RS D kA Z A s u H locs) (hl : lv_has ls 2 [(0, .ref (Z 200)), (1, .int l1)]) : W p l e R s m args below meth c H locs 0 0 Q (F0 m 28 ls []) := by
  obtain ⟨⟨hx, hb, hml, hown, hts⟩, hK, hEV, hA⟩ := id X
  have hG : ∀ w ∈ GW, w.before args s = true := fun w h => hts w (List.mem_cons_of_mem _ h)
  unfold B_constant_28 at h
  refine lv_aload_n hx hb dX12_constant_28 rfl (lv_at hl 0 rfl) ?_
  refine lv_aload_n hx hb dX12_constant_29 rfl (lv_at hl 0 rfl) ?_
  refine lv_iconst (v := 3) hx hb dX12_constant_30 (by decide) ?_
  obtain ⟨r_4, u_3, h_u_3, h⟩ := bn_of h
  refine kc_is X hS h_u_3 (Nat.le_trans (Nat.le_of_ble_eq_true rfl) hF) (Nat.le_trans (Nat.le_of_ble_eq_true rfl) hL) hl.1 (Nat.le_of_ble_eq_true rfl) dX12_constant_31 (fun H locs hS => ?_)
  refine lv_iconst (v := 5) hx hb dX12_constant_34 (by decide) ?_
  refine lv_aload_n hx hb dX12_constant_35 rfl (lv_at hl 0 rfl) ?_
  refine rg_3 X hS dX12_constant_36 ?_
  refine lv_aload_n hx hb dX12_constant_39 rfl (lv_at hl 0 rfl) ?_
  refine rg_65 X hS dX12_constant_40 ?_
  obtain ⟨v_5, e_v_5, i_6, h⟩ := rd_of h
  refine ra_3 X hS i_6 e_v_5 dX12_constant_43 ?_
  obtain ⟨r_u_7, u_7, h_u_7, h⟩ := bn_of h
  refine kc_wrong X hS h_u_7 (Nat.le_trans (Nat.le_of_ble_eq_true rfl) hF) (Nat.le_trans (Nat.le_of_ble_eq_true rfl) hL) hl.1 (Nat.le_of_ble_eq_true rfl) dX12_constant_44 (fun H locs hS => ?_)
  refine lv_aload_n hx hb dX12_constant_47 rfl (lv_at hl 0 rfl) ?_
  refine lv_iload_n hx hb dX12_constant_48 rfl (lv_at hl 1 rfl) ?_
  refine lv_if_eq (tgt := 77) hx hb dX12_constant_49 (by decide) (fun c_8 => ?_) (fun c_8 => ?_)
  · have h := ip (c_8) h
    refine lv_aload_n hx hb dX12_constant_77 rfl (lv_at hl 0 rfl) ?_
    refine rg_4 X hS dX12_constant_78 ?_
    refine lv_aload_n hx hb dX12_constant_81 rfl (lv_at hl 0 rfl) ?_
    refine rg_65 X hS dX12_constant_82 ?_
    obtain ⟨v_9, e_v_9, i_10, h⟩ := rd_of h
    refine ra_4 X hS i_10 e_v_9 dX12_constant_85 ?_
    exact b_constant_86 X hE hF hL  h hS (lv_sub hl [0] rfl)
  · have h := im (c_8) h
    refine lv_aload_n hx hb dX12_constant_52 rfl (lv_at hl 0 rfl) ?_
    refine rg_5 X hS dX12_constant_53 ?_
    refine lv_aload_n hx hb dX12_constant_56 rfl (lv_at hl 0 rfl) ?_
    refine rg_65 X hS dX12_constant_57 ?_
    obtain ⟨v_11, e_v_11, i_12, h⟩ := rd_of h
    refine ra_5 X hS i_12 e_v_11 dX12_constant_60 ?_
    refine lv_aload_n hx hb dX12_constant_61 rfl (lv_at hl 0 rfl) ?_
    refine rg_4 X hS dX12_constant_62 ?_
    refine lv_aload_n hx hb dX12_constant_65 rfl (lv_at hl 0 rfl) ?_
    refine rg_65 X hS dX12_constant_66 ?_
    obtain ⟨v_13, e_v_13, i_14, h⟩ := rd_of h
    refine ra_4 X hS i_14 e_v_13 dX12_constant_69 ?_
    refine lv_lneg hx hb dX12_constant_70 ?_
    refine vp_callSl (W.runS (As := [.int v_11, .long (-v_13)]) (rest := [.ref (Z 200)]) X.1 (c_X12_worked l v_11 (-v_13)) (va_cwS 2 hts (gw_P gw_2396 gw_2397 gw_16 gwp_X12_worked) rfl rfl rfl (by decide +kernel) ⟨Nat.le_trans (Nat.le_of_ble_eq_true rfl) hF, Nat.le_trans (Nat.le_of_ble_eq_true rfl) hL⟩) ⟨fun _ _ _ _ q => q, fun _ _ _ => ⟨rfl, trivial⟩⟩ rfl rfl hl.1 rfl (lv_room (Nat.le_of_ble_eq_true rfl)) dX12_constant_71 ⟨Nat.zero_le _, Nat.zero_le _⟩) (fun r_15 q_16 => ?_)
    subst q_16
    refine lv_goto (tgt := 86) hx hb dX12_constant_74 (by decide) ?_
    exact b_constant_86 X hE hF hL  h hS (lv_sub hl [0] rfl)
def B_constant_0 (N : Nat) (u : RSt) : Option (Int32 × RSt) := bn (F_has N 241 u) fun r_18 u_17 => bn (F_isNumber N u_17) fun r_20 u_19 => if r_20 = (0 : Int32) then (bn (F_is N 4 u_19) fun r_23 u_22 => if r_23 = (0 : Int32) then (bn (F_stuck N u_22) fun _ u_25 => some (0, u_25)) else (B_constant_28 N r_18 u_22)) else (B_constant_28 N r_18 u_19)
set_option maxHeartbeats 4000000 in
theorem b_constant_0 {r : Int32} (X : RC p s m args c cX12_constant 2 (Cond.code yX12_constant cX12_constant 2 none) D kA V A) (hE : REv p l e R s m args below meth c cX12_constant D kA Z A Q w) (hF : 2 ≤ R.frames) (hL : 45 ≤ R.locals)  {u : RSt} (h : B_constant_0 N u = some (r, w)) (hS : RS D kA Z A s u H locs) (hl : lv_has ls 2 [(0, .ref (Z 200))]) : W p l e R s m args below meth c H locs 0 0 Q (F0 m 0 ls []) := by
  obtain ⟨⟨hx, hb, hml, hown, hts⟩, hK, hEV, hA⟩ := id X
  have hG : ∀ w ∈ GW, w.before args s = true := fun w h => hts w (List.mem_cons_of_mem _ h)
  unfold B_constant_0 at h
  refine lv_aload_n hx hb dX12_constant_0 rfl (lv_at hl 0 rfl) ?_
  refine lv_sipush (v := 241) hx hb dX12_constant_1 (by decide) ?_
  obtain ⟨r_18, u_17, h_u_17, h⟩ := bn_of h
  refine kc_has X hS h_u_17 (Nat.le_trans (Nat.le_of_ble_eq_true rfl) hF) (Nat.le_trans (Nat.le_of_ble_eq_true rfl) hL) hl.1 (Nat.le_of_ble_eq_true rfl) dX12_constant_4 (fun H locs hS => ?_)
  refine lv_istore_n (lv' := [(1, .int r_18), (0, .ref (Z 200))]) hx hb dX12_constant_7 rfl hl (by decide) rfl (fun ls hl => ?_)
  refine lv_aload_n hx hb dX12_constant_8 rfl (lv_at hl 1 rfl) ?_
  obtain ⟨r_20, u_19, h_u_19, h⟩ := bn_of h
  refine kc_isNumber X hS h_u_19 (Nat.le_trans (Nat.le_of_ble_eq_true rfl) hF) (Nat.le_trans (Nat.le_of_ble_eq_true rfl) hL) hl.1 (Nat.le_of_ble_eq_true rfl) dX12_constant_9 (fun H locs hS => ?_)
  refine lv_if_ne (tgt := 28) hx hb dX12_constant_12 (by decide) (fun c_21 => ?_) (fun c_21 => ?_)
  · have h := im (c_21) h
    exact b_constant_28 X hE hF hL  h hS (lv_sub hl [1, 0] rfl)
  · have h := ip (c_21) h
    refine lv_aload_n hx hb dX12_constant_15 rfl (lv_at hl 1 rfl) ?_
    refine lv_iconst (v := 4) hx hb dX12_constant_16 (by decide) ?_
    obtain ⟨r_23, u_22, h_u_22, h⟩ := bn_of h
    refine kc_is X hS h_u_22 (Nat.le_trans (Nat.le_of_ble_eq_true rfl) hF) (Nat.le_trans (Nat.le_of_ble_eq_true rfl) hL) hl.1 (Nat.le_of_ble_eq_true rfl) dX12_constant_17 (fun H locs hS => ?_)
    refine lv_if_ne (tgt := 28) hx hb dX12_constant_20 (by decide) (fun c_24 => ?_) (fun c_24 => ?_)
    · have h := im (c_24) h
      exact b_constant_28 X hE hF hL  h hS (lv_sub hl [1, 0] rfl)
    · have h := ip (c_24) h
      refine lv_aload_n hx hb dX12_constant_23 rfl (lv_at hl 1 rfl) ?_
      obtain ⟨r_u_25, u_25, h_u_25, h⟩ := bn_of h
      refine kc_stuck X hS h_u_25 (Nat.le_trans (Nat.le_of_ble_eq_true rfl) hF) (Nat.le_trans (Nat.le_of_ble_eq_true rfl) hL) hl.1 (Nat.le_of_ble_eq_true rfl) dX12_constant_24 (fun H locs hS => ?_)
      obtain ⟨-, rfl⟩ := so h
      exact hE _ _ _ _ hS dX12_constant_27
def F_constant (N : Nat) (u : RSt) : Option (Int32 × RSt) := B_constant_0 N u
set_option maxHeartbeats 4000000 in
theorem k_constant (l : Launch) (D : va_G) (kA : Nat → ClassId) (V Z : Nat → Nat) (N : Nat) (u : RSt) (sz : Nat) {r : Int32} {w : RSt} (h : F_constant N u = some (r, w)) : Met l yX12_constant (Cond.code yX12_constant cX12_constant 2 none :: GW) { frames := 2, cells := 0, slots := 0, locals := 45 } (rPc D kA V Z [] u sz) (rQv D kA Z u sz w) 0 0 (va_A (RW kA Z u) sz) := by
  refine Met.ofW (cc := cX12_constant) (maxL := 2) (ret := none) (by decide) rfl ?_
  intro p e s m args below meth c s₁ Bd hml hv
  obtain ⟨rfl, hsz, hP, hK, hD0, hE⟩ := hv
  have hts := atoms_spec (ws := Cond.code yX12_constant cX12_constant 2 none :: GW) Bd.pre
  have hl := lv_entry (.ref (Z 200) :: []) (n := 2) (Nat.le_of_ble_eq_true rfl)
  rw [lg_entry_eq]
  generalize (lg_sl (.ref (Z 200) :: []) ++ List.replicate (2 - (lg_sl (.ref (Z 200) :: [])).length) Slot.unset).toArray = ls at hl ⊢
  have hl : lv_has ls 2 [(0, .ref (Z 200))] := hl
  subst hsz
  have X : RC p s m (.ref (Z 200) :: []).toArray c cX12_constant 2 (Cond.code yX12_constant cX12_constant 2 none) D kA V (va_A (RW kA Z u) s.heap.size) := ⟨⟨Bd.exec, Bd.bytes, hml, findClass_of_methodNamed Bd.named, hts⟩, hK, hE, fun q h => Or.inr h⟩
  exact b_constant_0 X (rend_v (cy := cX12_constant) X Bd.returns Bd.notSynchronized) (Nat.le_refl _) (Nat.le_refl _) h ⟨hP, hD0.self, va_S.rf⟩ (lv_sub hl [0] rfl)
theorem kc_constant {r : Int32} {cc : ByteArray} {pc nL : Nat} {c0 : Cond} {rest : List Value} {u : RSt} (X : RC p s m args c cc nL c0 D kA V A) (hS : RS D kA Z A s u H locs) (h : F_constant N u = some (r, w)) (hF : 2 + 1 ≤ R.frames) (hL : 8 + (2 + 11) + 45 ≤ R.locals) (hl : ls.size = nL) (hc : (rest.map fun v => v.category).sum ≤ 8) (hdg : decode cc pc = .ok (.invokevirtual 317, 3)) (kk : ∀ H locs, RS D kA Z A s w H locs → W p l e R s m args below meth c H locs 0 0 Q (F0 m (pc + 3) ls (rest))) : W p l e R s m args below meth c H locs 0 0 Q (F0 m pc ls (.ref (Z 200) :: rest)) :=
  rcall_v (n := 0) X hS (k_constant l D kA V Z N  u H.size h) (gw_V gw_2392 gw_2394 gs_9_2 gw_16 gw_2395) (by decide +kernel) hF hL rfl hl hc rfl hdg kk
def B_bounded_57 (N : Nat) (s1 : Int32) (u : RSt) : Option (Int32 × RSt) := rd (u.2.2.1 3) 1502 (u.1 65) fun v_1 => bn (F_wrong N s1 5 v_1 u) fun _ u_3 => pu (sI u_3 65 ((u_3.1 65) + 1)) fun u_4 => rd (u_4.2.2.2 4) 1502 ((u_4.1 65) - 1) fun v_5 => some (v_5.toInt32, u_4)
set_option maxHeartbeats 4000000 in
theorem b_bounded_57 {r : Int32} (X : RC p s m args c cX12_bounded 3 (Cond.code yX12_bounded cX12_bounded 3 (some .int)) D kA V A) (hE : REi p l e R s m args below meth c cX12_bounded D kA Z A Q r w) (hF : 2 ≤ R.frames) (hL : 45 ≤ R.locals) {s1 : Int32}  {u : RSt} (h : B_bounded_57 N s1 u = some (r, w)) (hS : RS D kA Z A s u H locs) (hl : lv_has ls 3 [(0, .ref (Z 200))]) : W p l e R s m args below meth c H locs 0 0 Q (F0 m 57 ls [.int s1, .ref (Z 200)]) := by
  obtain ⟨⟨hx, hb, hml, hown, hts⟩, hK, hEV, hA⟩ := id X
  have hG : ∀ w ∈ GW, w.before args s = true := fun w h => hts w (List.mem_cons_of_mem _ h)
  unfold B_bounded_57 at h
  refine lv_iconst (v := 5) hx hb dX12_bounded_57 (by decide) ?_
  refine lv_aload_n hx hb dX12_bounded_58 rfl (lv_at hl 0 rfl) ?_
  refine rg_3 X hS dX12_bounded_59 ?_
  refine lv_aload_n hx hb dX12_bounded_62 rfl (lv_at hl 0 rfl) ?_
  refine rg_65 X hS dX12_bounded_63 ?_
  obtain ⟨v_1, e_v_1, i_2, h⟩ := rd_of h
  refine ra_3 X hS i_2 e_v_1 dX12_bounded_66 ?_
  obtain ⟨r_u_3, u_3, h_u_3, h⟩ := bn_of h
  refine kc_wrong X hS h_u_3 (Nat.le_trans (Nat.le_of_ble_eq_true rfl) hF) (Nat.le_trans (Nat.le_of_ble_eq_true rfl) hL) hl.1 (Nat.le_of_ble_eq_true rfl) dX12_bounded_67 (fun H locs hS => ?_)
  refine lv_aload_n hx hb dX12_bounded_70 rfl (lv_at hl 0 rfl) ?_
  refine lv_dup hx hb dX12_bounded_71 rfl ?_
  refine rg_65 X hS dX12_bounded_72 ?_
  refine lv_iconst (v := 1) hx hb dX12_bounded_75 (by decide) ?_
  refine lv_iadd hx hb dX12_bounded_76 ?_
  obtain ⟨u_4, e_u_4, h⟩ := pu_of h
  refine rp_65 X hS e_u_4 dX12_bounded_77 (fun H locs hS => ?_)
  refine lv_aload_n hx hb dX12_bounded_80 rfl (lv_at hl 0 rfl) ?_
  refine rg_4 X hS dX12_bounded_81 ?_
  refine lv_aload_n hx hb dX12_bounded_84 rfl (lv_at hl 0 rfl) ?_
  refine rg_65 X hS dX12_bounded_85 ?_
  refine lv_iconst (v := 1) hx hb dX12_bounded_88 (by decide) ?_
  refine lv_isub hx hb dX12_bounded_89 ?_
  obtain ⟨v_5, e_v_5, i_6, h⟩ := rd_of h
  refine ra_4 X hS i_6 e_v_5 dX12_bounded_90 ?_
  refine lv_l2i (v := v_5.toInt32) hx hb dX12_bounded_91 rfl ?_
  obtain ⟨rfl, rfl⟩ := so h
  exact hE _ _ _ _ hS dX12_bounded_92
def B_bounded_52 (N : Nat) (u : RSt) : Option (Int32 × RSt) := B_bounded_57 N 1 u
set_option maxHeartbeats 4000000 in
theorem b_bounded_52 {r : Int32} (X : RC p s m args c cX12_bounded 3 (Cond.code yX12_bounded cX12_bounded 3 (some .int)) D kA V A) (hE : REi p l e R s m args below meth c cX12_bounded D kA Z A Q r w) (hF : 2 ≤ R.frames) (hL : 45 ≤ R.locals)  {u : RSt} (h : B_bounded_52 N u = some (r, w)) (hS : RS D kA Z A s u H locs) (hl : lv_has ls 3 [(0, .ref (Z 200))]) : W p l e R s m args below meth c H locs 0 0 Q (F0 m 52 ls [.ref (Z 200)]) := by
  obtain ⟨⟨hx, hb, hml, hown, hts⟩, hK, hEV, hA⟩ := id X
  have hG : ∀ w ∈ GW, w.before args s = true := fun w h => hts w (List.mem_cons_of_mem _ h)
  unfold B_bounded_52 at h
  refine lv_iconst (v := 1) hx hb dX12_bounded_52 (by decide) ?_
  refine lv_goto (tgt := 57) hx hb dX12_bounded_53 (by decide) ?_
  exact b_bounded_57 X hE hF hL  h hS (lv_sub hl [0] rfl)
def B_bounded_0 (N : Nat) (l1 : Int32) (l2 : Int32) (u : RSt) : Option (Int32 × RSt) := bn (F_isNumber N u) fun r_8 u_7 => if r_8 = (0 : Int32) then (bn (F_stuck N u_7) fun _ u_19 => some (l1, u_19)) else (bn (F_is N 3 u_7) fun r_11 u_10 => if r_11 = (0 : Int32) then (rd (u_10.2.2.2 4) 1502 (u_10.1 65) fun v_13 => if v_13 < l1.toInt64 then (B_bounded_52 N u_10) else (rd (u_10.2.2.2 4) 1502 (u_10.1 65) fun v_16 => if v_16 ≤ l2.toInt64 then (B_bounded_57 N 0 u_10) else (B_bounded_52 N u_10))) else (B_bounded_52 N u_10))
set_option maxHeartbeats 4000000 in
theorem b_bounded_0 {r : Int32} (X : RC p s m args c cX12_bounded 3 (Cond.code yX12_bounded cX12_bounded 3 (some .int)) D kA V A) (hE : REi p l e R s m args below meth c cX12_bounded D kA Z A Q r w) (hF : 2 ≤ R.frames) (hL : 45 ≤ R.locals) {l1 : Int32} {l2 : Int32}  {u : RSt} (h : B_bounded_0 N l1 l2 u = some (r, w)) (hS : RS D kA Z A s u H locs) (hl : lv_has ls 3 [(0, .ref (Z 200)), (1, .int l1), (2, .int l2)]) : W p l e R s m args below meth c H locs 0 0 Q (F0 m 0 ls []) := by
  obtain ⟨⟨hx, hb, hml, hown, hts⟩, hK, hEV, hA⟩ := id X
  have hG : ∀ w ∈ GW, w.before args s = true := fun w h => hts w (List.mem_cons_of_mem _ h)
  unfold B_bounded_0 at h
  refine lv_aload_n hx hb dX12_bounded_0 rfl (lv_at hl 0 rfl) ?_
  obtain ⟨r_8, u_7, h_u_7, h⟩ := bn_of h
  refine kc_isNumber X hS h_u_7 (Nat.le_trans (Nat.le_of_ble_eq_true rfl) hF) (Nat.le_trans (Nat.le_of_ble_eq_true rfl) hL) hl.1 (Nat.le_of_ble_eq_true rfl) dX12_bounded_1 (fun H locs hS => ?_)
  refine lv_if_ne (tgt := 13) hx hb dX12_bounded_4 (by decide) (fun c_9 => ?_) (fun c_9 => ?_)
  · have h := im (c_9) h
    refine lv_aload_n hx hb dX12_bounded_13 rfl (lv_at hl 0 rfl) ?_
    refine lv_aload_n hx hb dX12_bounded_14 rfl (lv_at hl 0 rfl) ?_
    refine lv_iconst (v := 3) hx hb dX12_bounded_15 (by decide) ?_
    obtain ⟨r_11, u_10, h_u_10, h⟩ := bn_of h
    refine kc_is X hS h_u_10 (Nat.le_trans (Nat.le_of_ble_eq_true rfl) hF) (Nat.le_trans (Nat.le_of_ble_eq_true rfl) hL) hl.1 (Nat.le_of_ble_eq_true rfl) dX12_bounded_16 (fun H locs hS => ?_)
    refine lv_if_ne (tgt := 52) hx hb dX12_bounded_19 (by decide) (fun c_12 => ?_) (fun c_12 => ?_)
    · have h := im (c_12) h
      exact b_bounded_52 X hE hF hL  h hS (lv_sub hl [0] rfl)
    · have h := ip (c_12) h
      refine lv_aload_n hx hb dX12_bounded_22 rfl (lv_at hl 0 rfl) ?_
      refine rg_4 X hS dX12_bounded_23 ?_
      refine lv_aload_n hx hb dX12_bounded_26 rfl (lv_at hl 0 rfl) ?_
      refine rg_65 X hS dX12_bounded_27 ?_
      obtain ⟨v_13, e_v_13, i_14, h⟩ := rd_of h
      refine ra_4 X hS i_14 e_v_13 dX12_bounded_30 ?_
      refine lv_iload_n hx hb dX12_bounded_31 rfl (lv_at hl 1 rfl) ?_
      refine lv_i2l (v := l1.toInt64) hx hb dX12_bounded_32 rfl ?_
      refine W.lcmp hx hb dX12_bounded_33 ?_
      refine lv_if_lt (tgt := 52) hx hb dX12_bounded_34 (by decide) (fun c_15 => ?_) (fun c_15 => ?_)
      · have h := ip ((lg_cmp_lt _ _).mp c_15) h
        exact b_bounded_52 X hE hF hL  h hS (lv_sub hl [0] rfl)
      · have h := im (mt (lg_cmp_lt _ _).mpr c_15) h
        refine lv_aload_n hx hb dX12_bounded_37 rfl (lv_at hl 0 rfl) ?_
        refine rg_4 X hS dX12_bounded_38 ?_
        refine lv_aload_n hx hb dX12_bounded_41 rfl (lv_at hl 0 rfl) ?_
        refine rg_65 X hS dX12_bounded_42 ?_
        obtain ⟨v_16, e_v_16, i_17, h⟩ := rd_of h
        refine ra_4 X hS i_17 e_v_16 dX12_bounded_45 ?_
        refine lv_iload_n hx hb dX12_bounded_46 rfl (lv_at hl 2 rfl) ?_
        refine lv_i2l (v := l2.toInt64) hx hb dX12_bounded_47 rfl ?_
        refine W.lcmp hx hb dX12_bounded_48 ?_
        refine lv_if_le (tgt := 56) hx hb dX12_bounded_49 (by decide) (fun c_18 => ?_) (fun c_18 => ?_)
        · have h := ip ((lg_cmp_le _ _).mp c_18) h
          refine lv_iconst (v := 0) hx hb dX12_bounded_56 (by decide) ?_
          exact b_bounded_57 X hE hF hL  h hS (lv_sub hl [0] rfl)
        · have h := im (mt (lg_cmp_le _ _).mpr c_18) h
          exact b_bounded_52 X hE hF hL  h hS (lv_sub hl [0] rfl)
  · have h := ip (c_9) h
    refine lv_aload_n hx hb dX12_bounded_7 rfl (lv_at hl 0 rfl) ?_
    obtain ⟨r_u_19, u_19, h_u_19, h⟩ := bn_of h
    refine kc_stuck X hS h_u_19 (Nat.le_trans (Nat.le_of_ble_eq_true rfl) hF) (Nat.le_trans (Nat.le_of_ble_eq_true rfl) hL) hl.1 (Nat.le_of_ble_eq_true rfl) dX12_bounded_8 (fun H locs hS => ?_)
    refine lv_iload_n hx hb dX12_bounded_11 rfl (lv_at hl 1 rfl) ?_
    obtain ⟨rfl, rfl⟩ := so h
    exact hE _ _ _ _ hS dX12_bounded_12
def F_bounded (N : Nat) (l1 : Int32) (l2 : Int32) (u : RSt) : Option (Int32 × RSt) := B_bounded_0 N l1 l2 u
set_option maxHeartbeats 4000000 in
theorem k_bounded (l : Launch) (D : va_G) (kA : Nat → ClassId) (V Z : Nat → Nat) (N : Nat) (l1 : Int32) (l2 : Int32) (u : RSt) (sz : Nat) {r : Int32} {w : RSt} (h : F_bounded N l1 l2 u = some (r, w)) : Met l yX12_bounded (Cond.code yX12_bounded cX12_bounded 3 (some .int) :: GW) { frames := 2, cells := 0, slots := 0, locals := 45 } (rPc D kA V Z [.int l1, .int l2] u sz) (rQi D kA Z u sz r w) 0 0 (va_A (RW kA Z u) sz) := by
  refine Met.ofW (cc := cX12_bounded) (maxL := 3) (ret := (some .int)) (by decide) rfl ?_
  intro p e s m args below meth c s₁ Bd hml hv
  obtain ⟨rfl, hsz, hP, hK, hD0, hE⟩ := hv
  have hts := atoms_spec (ws := Cond.code yX12_bounded cX12_bounded 3 (some .int) :: GW) Bd.pre
  have hl := lv_entry (.ref (Z 200) :: [.int l1, .int l2]) (n := 3) (Nat.le_of_ble_eq_true rfl)
  rw [lg_entry_eq]
  generalize (lg_sl (.ref (Z 200) :: [.int l1, .int l2]) ++ List.replicate (3 - (lg_sl (.ref (Z 200) :: [.int l1, .int l2])).length) Slot.unset).toArray = ls at hl ⊢
  have hl : lv_has ls 3 [(0, .ref (Z 200)), (1, .int l1), (2, .int l2)] := hl
  subst hsz
  have X : RC p s m (.ref (Z 200) :: [.int l1, .int l2]).toArray c cX12_bounded 3 (Cond.code yX12_bounded cX12_bounded 3 (some .int)) D kA V (va_A (RW kA Z u) s.heap.size) := ⟨⟨Bd.exec, Bd.bytes, hml, findClass_of_methodNamed Bd.named, hts⟩, hK, hE, fun q h => Or.inr h⟩
  exact b_bounded_0 X (rend_i (cy := cX12_bounded) X Bd.returns Bd.notSynchronized) (Nat.le_refl _) (Nat.le_refl _) h ⟨hP, hD0.self, va_S.rf⟩ (lv_sub hl [0, 1, 2] rfl)
theorem kc_bounded {r : Int32} {cc : ByteArray} {pc nL : Nat} {c0 : Cond} {rest : List Value} {l1 : Int32} {l2 : Int32} {u : RSt} (X : RC p s m args c cc nL c0 D kA V A) (hS : RS D kA Z A s u H locs) (h : F_bounded N l1 l2 u = some (r, w)) (hF : 2 + 1 ≤ R.frames) (hL : 8 + (3 + 11) + 45 ≤ R.locals) (hl : ls.size = nL) (hc : (rest.map fun v => v.category).sum ≤ 8) (hdg : decode cc pc = .ok (.invokevirtual 310, 3)) (kk : ∀ H locs, RS D kA Z A s w H locs → W p l e R s m args below meth c H locs 0 0 Q (F0 m (pc + 3) ls (.int r :: rest))) : W p l e R s m args below meth c H locs 0 0 Q (F0 m pc ls (.int l2 :: .int l1 :: .ref (Z 200) :: rest)) :=
  rcall_i (n := 2) X hS (k_bounded l D kA V Z N l1 l2 u H.size h) (gw_V gw_2372 gw_2374 gs_8_13 gw_16 gw_2375) (by decide +kernel) hF hL rfl hl hc rfl hdg kk
def B_local_86 (N : Nat) (s1 : Int32) (u : RSt) : Option (Int32 × RSt) := rd (u.2.2.1 3) 1502 (u.1 65) fun v_1 => bn (F_wrong N s1 5 v_1 u) fun _ u_3 => if (u_3.1 69) = (0 : Int32) then (some (0, u_3)) else (if (u_3.1 67) = (0 : Int32) then (pu (sI u_3 62 ((u_3.1 62) + 1)) fun u_6 => some (0, u_6)) else (some (0, u_3)))
set_option maxHeartbeats 4000000 in
theorem b_local_86 {r : Int32} (X : RC p s m args c cX12_local 2 (Cond.code yX12_local cX12_local 2 none) D kA V A) (hE : REv p l e R s m args below meth c cX12_local D kA Z A Q w) (hF : 2 ≤ R.frames) (hL : 45 ≤ R.locals) {s1 : Int32}  {u : RSt} (h : B_local_86 N s1 u = some (r, w)) (hS : RS D kA Z A s u H locs) (hl : lv_has ls 2 [(0, .ref (Z 200))]) : W p l e R s m args below meth c H locs 0 0 Q (F0 m 86 ls [.int s1, .ref (Z 200)]) := by
  obtain ⟨⟨hx, hb, hml, hown, hts⟩, hK, hEV, hA⟩ := id X
  have hG : ∀ w ∈ GW, w.before args s = true := fun w h => hts w (List.mem_cons_of_mem _ h)
  unfold B_local_86 at h
  refine lv_iconst (v := 5) hx hb dX12_local_86 (by decide) ?_
  refine lv_aload_n hx hb dX12_local_87 rfl (lv_at hl 0 rfl) ?_
  refine rg_3 X hS dX12_local_88 ?_
  refine lv_aload_n hx hb dX12_local_91 rfl (lv_at hl 0 rfl) ?_
  refine rg_65 X hS dX12_local_92 ?_
  obtain ⟨v_1, e_v_1, i_2, h⟩ := rd_of h
  refine ra_3 X hS i_2 e_v_1 dX12_local_95 ?_
  obtain ⟨r_u_3, u_3, h_u_3, h⟩ := bn_of h
  refine kc_wrong X hS h_u_3 (Nat.le_trans (Nat.le_of_ble_eq_true rfl) hF) (Nat.le_trans (Nat.le_of_ble_eq_true rfl) hL) hl.1 (Nat.le_of_ble_eq_true rfl) dX12_local_96 (fun H locs hS => ?_)
  refine lv_aload_n hx hb dX12_local_99 rfl (lv_at hl 0 rfl) ?_
  refine rg_69 X hS dX12_local_100 ?_
  refine lv_if_eq (tgt := 123) hx hb dX12_local_103 (by decide) (fun c_4 => ?_) (fun c_4 => ?_)
  · have h := ip (c_4) h
    obtain ⟨-, rfl⟩ := so h
    exact hE _ _ _ _ hS dX12_local_123
  · have h := im (c_4) h
    refine lv_aload_n hx hb dX12_local_106 rfl (lv_at hl 0 rfl) ?_
    refine rg_67 X hS dX12_local_107 ?_
    refine lv_if_ne (tgt := 123) hx hb dX12_local_110 (by decide) (fun c_5 => ?_) (fun c_5 => ?_)
    · have h := im (c_5) h
      obtain ⟨-, rfl⟩ := so h
      exact hE _ _ _ _ hS dX12_local_123
    · have h := ip (c_5) h
      refine lv_aload_n hx hb dX12_local_113 rfl (lv_at hl 0 rfl) ?_
      refine lv_dup hx hb dX12_local_114 rfl ?_
      refine rg_62 X hS dX12_local_115 ?_
      refine lv_iconst (v := 1) hx hb dX12_local_118 (by decide) ?_
      refine lv_iadd hx hb dX12_local_119 ?_
      obtain ⟨u_6, e_u_6, h⟩ := pu_of h
      refine rp_62 X hS e_u_6 dX12_local_120 (fun H locs hS => ?_)
      obtain ⟨-, rfl⟩ := so h
      exact hE _ _ _ _ hS dX12_local_123
def B_local_81 (N : Nat) (u : RSt) : Option (Int32 × RSt) := B_local_86 N 1 u
set_option maxHeartbeats 4000000 in
theorem b_local_81 {r : Int32} (X : RC p s m args c cX12_local 2 (Cond.code yX12_local cX12_local 2 none) D kA V A) (hE : REv p l e R s m args below meth c cX12_local D kA Z A Q w) (hF : 2 ≤ R.frames) (hL : 45 ≤ R.locals)  {u : RSt} (h : B_local_81 N u = some (r, w)) (hS : RS D kA Z A s u H locs) (hl : lv_has ls 2 [(0, .ref (Z 200))]) : W p l e R s m args below meth c H locs 0 0 Q (F0 m 81 ls [.ref (Z 200)]) := by
  obtain ⟨⟨hx, hb, hml, hown, hts⟩, hK, hEV, hA⟩ := id X
  have hG : ∀ w ∈ GW, w.before args s = true := fun w h => hts w (List.mem_cons_of_mem _ h)
  unfold B_local_81 at h
  refine lv_iconst (v := 1) hx hb dX12_local_81 (by decide) ?_
  refine lv_goto (tgt := 86) hx hb dX12_local_82 (by decide) ?_
  exact b_local_86 X hE hF hL  h hS (lv_sub hl [0] rfl)
def B_local_85 (N : Nat) (u : RSt) : Option (Int32 × RSt) := B_local_86 N 0 u
set_option maxHeartbeats 4000000 in
theorem b_local_85 {r : Int32} (X : RC p s m args c cX12_local 2 (Cond.code yX12_local cX12_local 2 none) D kA V A) (hE : REv p l e R s m args below meth c cX12_local D kA Z A Q w) (hF : 2 ≤ R.frames) (hL : 45 ≤ R.locals)  {u : RSt} (h : B_local_85 N u = some (r, w)) (hS : RS D kA Z A s u H locs) (hl : lv_has ls 2 [(0, .ref (Z 200))]) : W p l e R s m args below meth c H locs 0 0 Q (F0 m 85 ls [.ref (Z 200)]) := by
  obtain ⟨⟨hx, hb, hml, hown, hts⟩, hK, hEV, hA⟩ := id X
  have hG : ∀ w ∈ GW, w.before args s = true := fun w h => hts w (List.mem_cons_of_mem _ h)
  unfold B_local_85 at h
  refine lv_iconst (v := 0) hx hb dX12_local_85 (by decide) ?_
  exact b_local_86 X hE hF hL  h hS (lv_sub hl [0] rfl)
def B_local_32 (N : Nat) (l1 : Int32) (s1 : Int32) (u : RSt) : Option (Int32 × RSt) := rd (u.2.2.1 3) 1502 (u.1 65) fun v_7 => bn (F_wrong N s1 3 v_7 u) fun _ u_9 => if (u_9.1 62) = (160 : Int32) then (B_local_81 N u_9) else (if l1 = (0 : Int32) then (B_local_85 N u_9) else (if (u_9.1 69) = (0 : Int32) then (B_local_85 N u_9) else (rd (u_9.2.2.1 30) 48 (u_9.1 71) fun v_13 => if v_13 = (6 : Int32) then (B_local_81 N u_9) else (B_local_85 N u_9))))
set_option maxHeartbeats 4000000 in
theorem b_local_32 {r : Int32} (X : RC p s m args c cX12_local 2 (Cond.code yX12_local cX12_local 2 none) D kA V A) (hE : REv p l e R s m args below meth c cX12_local D kA Z A Q w) (hF : 2 ≤ R.frames) (hL : 45 ≤ R.locals) {l1 : Int32} {s1 : Int32}  {u : RSt} (h : B_local_32 N l1 s1 u = some (r, w)) (hS : RS D kA Z A s u H locs) (hl : lv_has ls 2 [(0, .ref (Z 200)), (1, .int l1)]) : W p l e R s m args below meth c H locs 0 0 Q (F0 m 32 ls [.int s1, .ref (Z 200)]) := by
  obtain ⟨⟨hx, hb, hml, hown, hts⟩, hK, hEV, hA⟩ := id X
  have hG : ∀ w ∈ GW, w.before args s = true := fun w h => hts w (List.mem_cons_of_mem _ h)
  unfold B_local_32 at h
  refine lv_iconst (v := 3) hx hb dX12_local_32 (by decide) ?_
  refine lv_aload_n hx hb dX12_local_33 rfl (lv_at hl 0 rfl) ?_
  refine rg_3 X hS dX12_local_34 ?_
  refine lv_aload_n hx hb dX12_local_37 rfl (lv_at hl 0 rfl) ?_
  refine rg_65 X hS dX12_local_38 ?_
  obtain ⟨v_7, e_v_7, i_8, h⟩ := rd_of h
  refine ra_3 X hS i_8 e_v_7 dX12_local_41 ?_
  obtain ⟨r_u_9, u_9, h_u_9, h⟩ := bn_of h
  refine kc_wrong X hS h_u_9 (Nat.le_trans (Nat.le_of_ble_eq_true rfl) hF) (Nat.le_trans (Nat.le_of_ble_eq_true rfl) hL) hl.1 (Nat.le_of_ble_eq_true rfl) dX12_local_42 (fun H locs hS => ?_)
  refine lv_aload_n hx hb dX12_local_45 rfl (lv_at hl 0 rfl) ?_
  refine lv_aload_n hx hb dX12_local_46 rfl (lv_at hl 0 rfl) ?_
  refine rg_62 X hS dX12_local_47 ?_
  refine lv_sipush (v := 160) hx hb dX12_local_50 (by decide) ?_
  refine lv_icmp_eq (tgt := 81) hx hb dX12_local_53 (by decide) (fun c_10 => ?_) (fun c_10 => ?_)
  · have h := ip (c_10) h
    exact b_local_81 X hE hF hL  h hS (lv_sub hl [0] rfl)
  · have h := im (c_10) h
    refine lv_iload_n hx hb dX12_local_56 rfl (lv_at hl 1 rfl) ?_
    refine lv_if_eq (tgt := 85) hx hb dX12_local_57 (by decide) (fun c_11 => ?_) (fun c_11 => ?_)
    · have h := ip (c_11) h
      exact b_local_85 X hE hF hL  h hS (lv_sub hl [0] rfl)
    · have h := im (c_11) h
      refine lv_aload_n hx hb dX12_local_60 rfl (lv_at hl 0 rfl) ?_
      refine rg_69 X hS dX12_local_61 ?_
      refine lv_if_eq (tgt := 85) hx hb dX12_local_64 (by decide) (fun c_12 => ?_) (fun c_12 => ?_)
      · have h := ip (c_12) h
        exact b_local_85 X hE hF hL  h hS (lv_sub hl [0] rfl)
      · have h := im (c_12) h
        refine lv_aload_n hx hb dX12_local_67 rfl (lv_at hl 0 rfl) ?_
        refine rg_30 X hS dX12_local_68 ?_
        refine lv_aload_n hx hb dX12_local_71 rfl (lv_at hl 0 rfl) ?_
        refine rg_71 X hS dX12_local_72 ?_
        obtain ⟨v_13, e_v_13, i_14, h⟩ := rd_of h
        refine ra_30 X hS i_14 e_v_13 dX12_local_75 ?_
        refine lv_bipush (v := 6) hx hb dX12_local_76 (by decide) ?_
        refine lv_icmp_ne (tgt := 85) hx hb dX12_local_78 (by decide) (fun c_15 => ?_) (fun c_15 => ?_)
        · have h := im (c_15) h
          exact b_local_85 X hE hF hL  h hS (lv_sub hl [0] rfl)
        · have h := ip (c_15) h
          exact b_local_81 X hE hF hL  h hS (lv_sub hl [0] rfl)
def B_local_0 (N : Nat) (l1 : Int32) (u : RSt) : Option (Int32 × RSt) := rd (u.2.2.2 6) 1502 (u.1 65) fun v_16 => rd (u.2.2.2 7) 1502 (u.1 65) fun v_18 => bn (F_slotOf N v_16 v_18 u) fun r_21 u_20 => if r_21 = ((-1) : Int32) then (B_local_32 N l1 0 u_20) else (B_local_32 N l1 1 u_20)
set_option maxHeartbeats 4000000 in
theorem b_local_0 {r : Int32} (X : RC p s m args c cX12_local 2 (Cond.code yX12_local cX12_local 2 none) D kA V A) (hE : REv p l e R s m args below meth c cX12_local D kA Z A Q w) (hF : 2 ≤ R.frames) (hL : 45 ≤ R.locals) {l1 : Int32}  {u : RSt} (h : B_local_0 N l1 u = some (r, w)) (hS : RS D kA Z A s u H locs) (hl : lv_has ls 2 [(0, .ref (Z 200)), (1, .int l1)]) : W p l e R s m args below meth c H locs 0 0 Q (F0 m 0 ls []) := by
  obtain ⟨⟨hx, hb, hml, hown, hts⟩, hK, hEV, hA⟩ := id X
  have hG : ∀ w ∈ GW, w.before args s = true := fun w h => hts w (List.mem_cons_of_mem _ h)
  unfold B_local_0 at h
  refine lv_aload_n hx hb dX12_local_0 rfl (lv_at hl 0 rfl) ?_
  refine lv_aload_n hx hb dX12_local_1 rfl (lv_at hl 0 rfl) ?_
  refine lv_aload_n hx hb dX12_local_2 rfl (lv_at hl 0 rfl) ?_
  refine rg_6 X hS dX12_local_3 ?_
  refine lv_aload_n hx hb dX12_local_6 rfl (lv_at hl 0 rfl) ?_
  refine rg_65 X hS dX12_local_7 ?_
  obtain ⟨v_16, e_v_16, i_17, h⟩ := rd_of h
  refine ra_6 X hS i_17 e_v_16 dX12_local_10 ?_
  refine lv_aload_n hx hb dX12_local_11 rfl (lv_at hl 0 rfl) ?_
  refine rg_7 X hS dX12_local_12 ?_
  refine lv_aload_n hx hb dX12_local_15 rfl (lv_at hl 0 rfl) ?_
  refine rg_65 X hS dX12_local_16 ?_
  obtain ⟨v_18, e_v_18, i_19, h⟩ := rd_of h
  refine ra_7 X hS i_19 e_v_18 dX12_local_19 ?_
  obtain ⟨r_21, u_20, h_u_20, h⟩ := bn_of h
  refine kc_slotOf X hS h_u_20 (Nat.le_trans (Nat.le_of_ble_eq_true rfl) hF) (Nat.le_trans (Nat.le_of_ble_eq_true rfl) hL) hl.1 (Nat.le_of_ble_eq_true rfl) dX12_local_20 (fun H locs hS => ?_)
  refine lv_iconst (v := (-1)) hx hb dX12_local_23 (by decide) ?_
  refine lv_icmp_eq (tgt := 31) hx hb dX12_local_24 (by decide) (fun c_22 => ?_) (fun c_22 => ?_)
  · have h := ip (c_22) h
    refine lv_iconst (v := 0) hx hb dX12_local_31 (by decide) ?_
    exact b_local_32 X hE hF hL  h hS (lv_sub hl [0, 1] rfl)
  · have h := im (c_22) h
    refine lv_iconst (v := 1) hx hb dX12_local_27 (by decide) ?_
    refine lv_goto (tgt := 32) hx hb dX12_local_28 (by decide) ?_
    exact b_local_32 X hE hF hL  h hS (lv_sub hl [0, 1] rfl)
def F_local (N : Nat) (l1 : Int32) (u : RSt) : Option (Int32 × RSt) := B_local_0 N l1 u
set_option maxHeartbeats 4000000 in
theorem k_local (l : Launch) (D : va_G) (kA : Nat → ClassId) (V Z : Nat → Nat) (N : Nat) (l1 : Int32) (u : RSt) (sz : Nat) {r : Int32} {w : RSt} (h : F_local N l1 u = some (r, w)) : Met l yX12_local (Cond.code yX12_local cX12_local 2 none :: GW) { frames := 2, cells := 0, slots := 0, locals := 45 } (rPc D kA V Z [.int l1] u sz) (rQv D kA Z u sz w) 0 0 (va_A (RW kA Z u) sz) := by
  refine Met.ofW (cc := cX12_local) (maxL := 2) (ret := none) (by decide) rfl ?_
  intro p e s m args below meth c s₁ Bd hml hv
  obtain ⟨rfl, hsz, hP, hK, hD0, hE⟩ := hv
  have hts := atoms_spec (ws := Cond.code yX12_local cX12_local 2 none :: GW) Bd.pre
  have hl := lv_entry (.ref (Z 200) :: [.int l1]) (n := 2) (Nat.le_of_ble_eq_true rfl)
  rw [lg_entry_eq]
  generalize (lg_sl (.ref (Z 200) :: [.int l1]) ++ List.replicate (2 - (lg_sl (.ref (Z 200) :: [.int l1])).length) Slot.unset).toArray = ls at hl ⊢
  have hl : lv_has ls 2 [(0, .ref (Z 200)), (1, .int l1)] := hl
  subst hsz
  have X : RC p s m (.ref (Z 200) :: [.int l1]).toArray c cX12_local 2 (Cond.code yX12_local cX12_local 2 none) D kA V (va_A (RW kA Z u) s.heap.size) := ⟨⟨Bd.exec, Bd.bytes, hml, findClass_of_methodNamed Bd.named, hts⟩, hK, hE, fun q h => Or.inr h⟩
  exact b_local_0 X (rend_v (cy := cX12_local) X Bd.returns Bd.notSynchronized) (Nat.le_refl _) (Nat.le_refl _) h ⟨hP, hD0.self, va_S.rf⟩ (lv_sub hl [0, 1] rfl)
theorem kc_local {r : Int32} {cc : ByteArray} {pc nL : Nat} {c0 : Cond} {rest : List Value} {l1 : Int32} {u : RSt} (X : RC p s m args c cc nL c0 D kA V A) (hS : RS D kA Z A s u H locs) (h : F_local N l1 u = some (r, w)) (hF : 2 + 1 ≤ R.frames) (hL : 8 + (2 + 11) + 45 ≤ R.locals) (hl : ls.size = nL) (hc : (rest.map fun v => v.category).sum ≤ 8) (hdg : decode cc pc = .ok (.invokevirtual 299, 3)) (kk : ∀ H locs, RS D kA Z A s w H locs → W p l e R s m args below meth c H locs 0 0 Q (F0 m (pc + 3) ls (rest))) : W p l e R s m args below meth c H locs 0 0 Q (F0 m pc ls (.int l1 :: .ref (Z 200) :: rest)) :=
  rcall_v (n := 1) X hS (k_local l D kA V Z N l1 u H.size h) (gw_V gw_2344 gw_2346 gs_8_6 gw_16 gw_2347) (by decide +kernel) hF hL rfl hl hc rfl hdg kk
def B_addSlot_17 (N : Nat) (l1 : Int32) (l2 : Int32) (l3 : Int32) (l4 : Int32) (l5 : Int64) (s1 : Int32) (u : RSt) : Option (Int32 × RSt) := rd (u.2.2.1 3) 1502 l1 fun v_1 => bn (F_wrong N s1 5 v_1 u) fun _ u_3 => if (u_3.1 69) = (0 : Int32) then (some (0, u_3)) else (if (u_3.1 67) = (0 : Int32) then (rd (u_3.2.2.1 27) 2 (u_3.1 56) fun v_6 => wr 320 ((160 * (u_3.1 56)) + v_6) (sA u_3 20 ((160 * (u_3.1 56)) + v_6).toNatClampNeg l2) fun u_8 => wr 320 ((160 * (u_3.1 56)) + v_6) (sA u_8 21 ((160 * (u_3.1 56)) + v_6).toNatClampNeg l3) fun u_10 => wr 320 ((160 * (u_3.1 56)) + v_6) (sA u_10 22 ((160 * (u_3.1 56)) + v_6).toNatClampNeg (vp_nar .boolean l4)) fun u_12 => wr 320 ((160 * (u_3.1 56)) + v_6) (sA u_12 23 ((160 * (u_3.1 56)) + v_6).toNatClampNeg (u_12.1 73)) fun u_14 => wr 320 ((160 * (u_3.1 56)) + v_6) (sB u_14 24 ((160 * (u_3.1 56)) + v_6).toNatClampNeg l5) fun u_16 => rd (u_16.2.2.2 6) 1502 l1 fun v_18 => wr 320 ((160 * (u_3.1 56)) + v_6) (sB u_16 25 ((160 * (u_3.1 56)) + v_6).toNatClampNeg v_18) fun u_20 => rd (u_20.2.2.2 7) 1502 l1 fun v_22 => wr 320 ((160 * (u_3.1 56)) + v_6) (sB u_20 26 ((160 * (u_3.1 56)) + v_6).toNatClampNeg v_22) fun u_24 => rd (u_24.2.2.1 27) 2 (u_24.1 56) fun v_26 => wr 2 (u_24.1 56) (sA u_24 27 (u_24.1 56).toNatClampNeg (v_26 + 1)) fun u_28 => pu (sI u_28 73 ((u_28.1 73) + l3)) fun u_30 => rd (u_30.2.2.1 29) 48 (u_30.1 71) fun v_31 => wr 48 (u_30.1 71) (sA u_30 29 (u_30.1 71).toNatClampNeg (v_31 + 1)) fun u_33 => wr 48 (u_33.1 71) (sA u_33 31 (u_33.1 71).toNatClampNeg (u_33.1 73)) fun u_35 => some (0, u_35)) else (some (0, u_3)))
set_option maxHeartbeats 4000000 in
theorem b_addSlot_17 {r : Int32} (X : RC p s m args c cX12_addSlot 8 (Cond.code yX12_addSlot cX12_addSlot 8 none) D kA V A) (hE : REv p l e R s m args below meth c cX12_addSlot D kA Z A Q w) (hF : 2 ≤ R.frames) (hL : 45 ≤ R.locals) {l1 : Int32} {l2 : Int32} {l3 : Int32} {l4 : Int32} {l5 : Int64} {s1 : Int32}  {u : RSt} (h : B_addSlot_17 N l1 l2 l3 l4 l5 s1 u = some (r, w)) (hS : RS D kA Z A s u H locs) (hl : lv_has ls 8 [(0, .ref (Z 200)), (1, .int l1), (2, .int l2), (3, .int l3), (4, .int l4), (5, .long l5)]) : W p l e R s m args below meth c H locs 0 0 Q (F0 m 17 ls [.int s1, .ref (Z 200)]) := by
  obtain ⟨⟨hx, hb, hml, hown, hts⟩, hK, hEV, hA⟩ := id X
  have hG : ∀ w ∈ GW, w.before args s = true := fun w h => hts w (List.mem_cons_of_mem _ h)
  unfold B_addSlot_17 at h
  refine lv_iconst (v := 5) hx hb dX12_addSlot_17 (by decide) ?_
  refine lv_aload_n hx hb dX12_addSlot_18 rfl (lv_at hl 0 rfl) ?_
  refine rg_3 X hS dX12_addSlot_19 ?_
  refine lv_iload_n hx hb dX12_addSlot_22 rfl (lv_at hl 1 rfl) ?_
  obtain ⟨v_1, e_v_1, i_2, h⟩ := rd_of h
  refine ra_3 X hS i_2 e_v_1 dX12_addSlot_23 ?_
  obtain ⟨r_u_3, u_3, h_u_3, h⟩ := bn_of h
  refine kc_wrong X hS h_u_3 (Nat.le_trans (Nat.le_of_ble_eq_true rfl) hF) (Nat.le_trans (Nat.le_of_ble_eq_true rfl) hL) hl.1 (Nat.le_of_ble_eq_true rfl) dX12_addSlot_24 (fun H locs hS => ?_)
  refine lv_aload_n hx hb dX12_addSlot_27 rfl (lv_at hl 0 rfl) ?_
  refine rg_69 X hS dX12_addSlot_28 ?_
  refine lv_if_eq (tgt := 41) hx hb dX12_addSlot_31 (by decide) (fun c_4 => ?_) (fun c_4 => ?_)
  · have h := ip (c_4) h
    obtain ⟨-, rfl⟩ := so h
    exact hE _ _ _ _ hS dX12_addSlot_41
  · have h := im (c_4) h
    refine lv_aload_n hx hb dX12_addSlot_34 rfl (lv_at hl 0 rfl) ?_
    refine rg_67 X hS dX12_addSlot_35 ?_
    refine lv_if_eq (tgt := 42) hx hb dX12_addSlot_38 (by decide) (fun c_5 => ?_) (fun c_5 => ?_)
    · have h := ip (c_5) h
      refine lv_sipush (v := 160) hx hb dX12_addSlot_42 (by decide) ?_
      refine lv_aload_n hx hb dX12_addSlot_45 rfl (lv_at hl 0 rfl) ?_
      refine rg_56 X hS dX12_addSlot_46 ?_
      refine lv_imul hx hb dX12_addSlot_49 ?_
      refine lv_aload_n hx hb dX12_addSlot_50 rfl (lv_at hl 0 rfl) ?_
      refine rg_27 X hS dX12_addSlot_51 ?_
      refine lv_aload_n hx hb dX12_addSlot_54 rfl (lv_at hl 0 rfl) ?_
      refine rg_56 X hS dX12_addSlot_55 ?_
      obtain ⟨v_6, e_v_6, i_7, h⟩ := rd_of h
      refine ra_27 X hS i_7 e_v_6 dX12_addSlot_58 ?_
      refine lv_iadd hx hb dX12_addSlot_59 ?_
      refine lv_istore (lv' := [(7, .int ((160 * (u_3.1 56)) + v_6)), (0, .ref (Z 200)), (1, .int l1), (2, .int l2), (3, .int l3), (4, .int l4), (5, .long l5)]) hx hb dX12_addSlot_60 hl (by decide) rfl (fun ls hl => ?_)
      refine lv_aload_n hx hb dX12_addSlot_62 rfl (lv_at hl 1 rfl) ?_
      refine rg_20 X hS dX12_addSlot_63 ?_
      refine lv_iload hx hb dX12_addSlot_66 (lv_at hl 0 rfl) ?_
      refine lv_iload_n hx hb dX12_addSlot_68 rfl (lv_at hl 3 rfl) ?_
      obtain ⟨u_8, e_u_8, i_9, h⟩ := wr_of h
      refine rs_20 X hS i_9 e_u_8 dX12_addSlot_69 (fun H locs hS => ?_)
      refine lv_aload_n hx hb dX12_addSlot_70 rfl (lv_at hl 1 rfl) ?_
      refine rg_21 X hS dX12_addSlot_71 ?_
      refine lv_iload hx hb dX12_addSlot_74 (lv_at hl 0 rfl) ?_
      refine lv_iload_n hx hb dX12_addSlot_76 rfl (lv_at hl 4 rfl) ?_
      obtain ⟨u_10, e_u_10, i_11, h⟩ := wr_of h
      refine rs_21 X hS i_11 e_u_10 dX12_addSlot_77 (fun H locs hS => ?_)
      refine lv_aload_n hx hb dX12_addSlot_78 rfl (lv_at hl 1 rfl) ?_
      refine rg_22 X hS dX12_addSlot_79 ?_
      refine lv_iload hx hb dX12_addSlot_82 (lv_at hl 0 rfl) ?_
      refine lv_iload hx hb dX12_addSlot_84 (lv_at hl 5 rfl) ?_
      obtain ⟨u_12, e_u_12, i_13, h⟩ := wr_of h
      refine rs_22 X hS i_13 e_u_12 dX12_addSlot_86 (fun H locs hS => ?_)
      refine lv_aload_n hx hb dX12_addSlot_87 rfl (lv_at hl 1 rfl) ?_
      refine rg_23 X hS dX12_addSlot_88 ?_
      refine lv_iload hx hb dX12_addSlot_91 (lv_at hl 0 rfl) ?_
      refine lv_aload_n hx hb dX12_addSlot_93 rfl (lv_at hl 1 rfl) ?_
      refine rg_73 X hS dX12_addSlot_94 ?_
      obtain ⟨u_14, e_u_14, i_15, h⟩ := wr_of h
      refine rs_23 X hS i_15 e_u_14 dX12_addSlot_97 (fun H locs hS => ?_)
      refine lv_aload_n hx hb dX12_addSlot_98 rfl (lv_at hl 1 rfl) ?_
      refine rg_24 X hS dX12_addSlot_99 ?_
      refine lv_iload hx hb dX12_addSlot_102 (lv_at hl 0 rfl) ?_
      refine lv_lload hx hb dX12_addSlot_104 (lv_at hl 6 rfl) ?_
      obtain ⟨u_16, e_u_16, i_17, h⟩ := wr_of h
      refine rs_24 X hS i_17 e_u_16 dX12_addSlot_106 (fun H locs hS => ?_)
      refine lv_aload_n hx hb dX12_addSlot_107 rfl (lv_at hl 1 rfl) ?_
      refine rg_25 X hS dX12_addSlot_108 ?_
      refine lv_iload hx hb dX12_addSlot_111 (lv_at hl 0 rfl) ?_
      refine lv_aload_n hx hb dX12_addSlot_113 rfl (lv_at hl 1 rfl) ?_
      refine rg_6 X hS dX12_addSlot_114 ?_
      refine lv_iload_n hx hb dX12_addSlot_117 rfl (lv_at hl 2 rfl) ?_
      obtain ⟨v_18, e_v_18, i_19, h⟩ := rd_of h
      refine ra_6 X hS i_19 e_v_18 dX12_addSlot_118 ?_
      obtain ⟨u_20, e_u_20, i_21, h⟩ := wr_of h
      refine rs_25 X hS i_21 e_u_20 dX12_addSlot_119 (fun H locs hS => ?_)
      refine lv_aload_n hx hb dX12_addSlot_120 rfl (lv_at hl 1 rfl) ?_
      refine rg_26 X hS dX12_addSlot_121 ?_
      refine lv_iload hx hb dX12_addSlot_124 (lv_at hl 0 rfl) ?_
      refine lv_aload_n hx hb dX12_addSlot_126 rfl (lv_at hl 1 rfl) ?_
      refine rg_7 X hS dX12_addSlot_127 ?_
      refine lv_iload_n hx hb dX12_addSlot_130 rfl (lv_at hl 2 rfl) ?_
      obtain ⟨v_22, e_v_22, i_23, h⟩ := rd_of h
      refine ra_7 X hS i_23 e_v_22 dX12_addSlot_131 ?_
      obtain ⟨u_24, e_u_24, i_25, h⟩ := wr_of h
      refine rs_26 X hS i_25 e_u_24 dX12_addSlot_132 (fun H locs hS => ?_)
      refine lv_aload_n hx hb dX12_addSlot_133 rfl (lv_at hl 1 rfl) ?_
      refine rg_27 X hS dX12_addSlot_134 ?_
      refine lv_aload_n hx hb dX12_addSlot_137 rfl (lv_at hl 1 rfl) ?_
      refine rg_56 X hS dX12_addSlot_138 ?_
      refine lv_dup2_11 hx hb dX12_addSlot_141 rfl rfl ?_
      obtain ⟨v_26, e_v_26, i_27, h⟩ := rd_of h
      refine ra_27 X hS i_27 e_v_26 dX12_addSlot_142 ?_
      refine lv_iconst (v := 1) hx hb dX12_addSlot_143 (by decide) ?_
      refine lv_iadd hx hb dX12_addSlot_144 ?_
      obtain ⟨u_28, e_u_28, i_29, h⟩ := wr_of h
      refine rs_27 X hS i_29 e_u_28 dX12_addSlot_145 (fun H locs hS => ?_)
      refine lv_aload_n hx hb dX12_addSlot_146 rfl (lv_at hl 1 rfl) ?_
      refine lv_dup hx hb dX12_addSlot_147 rfl ?_
      refine rg_73 X hS dX12_addSlot_148 ?_
      refine lv_iload_n hx hb dX12_addSlot_151 rfl (lv_at hl 4 rfl) ?_
      refine lv_iadd hx hb dX12_addSlot_152 ?_
      obtain ⟨u_30, e_u_30, h⟩ := pu_of h
      refine rp_73 X hS e_u_30 dX12_addSlot_153 (fun H locs hS => ?_)
      refine lv_aload_n hx hb dX12_addSlot_156 rfl (lv_at hl 1 rfl) ?_
      refine rg_29 X hS dX12_addSlot_157 ?_
      refine lv_aload_n hx hb dX12_addSlot_160 rfl (lv_at hl 1 rfl) ?_
      refine rg_71 X hS dX12_addSlot_161 ?_
      refine lv_dup2_11 hx hb dX12_addSlot_164 rfl rfl ?_
      obtain ⟨v_31, e_v_31, i_32, h⟩ := rd_of h
      refine ra_29 X hS i_32 e_v_31 dX12_addSlot_165 ?_
      refine lv_iconst (v := 1) hx hb dX12_addSlot_166 (by decide) ?_
      refine lv_iadd hx hb dX12_addSlot_167 ?_
      obtain ⟨u_33, e_u_33, i_34, h⟩ := wr_of h
      refine rs_29 X hS i_34 e_u_33 dX12_addSlot_168 (fun H locs hS => ?_)
      refine lv_aload_n hx hb dX12_addSlot_169 rfl (lv_at hl 1 rfl) ?_
      refine rg_31 X hS dX12_addSlot_170 ?_
      refine lv_aload_n hx hb dX12_addSlot_173 rfl (lv_at hl 1 rfl) ?_
      refine rg_71 X hS dX12_addSlot_174 ?_
      refine lv_aload_n hx hb dX12_addSlot_177 rfl (lv_at hl 1 rfl) ?_
      refine rg_73 X hS dX12_addSlot_178 ?_
      obtain ⟨u_35, e_u_35, i_36, h⟩ := wr_of h
      refine rs_31 X hS i_36 e_u_35 dX12_addSlot_181 (fun H locs hS => ?_)
      obtain ⟨-, rfl⟩ := so h
      exact hE _ _ _ _ hS dX12_addSlot_182
    · have h := im (c_5) h
      obtain ⟨-, rfl⟩ := so h
      exact hE _ _ _ _ hS dX12_addSlot_41
def B_addSlot_0 (N : Nat) (l1 : Int32) (l2 : Int32) (l3 : Int32) (l4 : Int32) (l5 : Int64) (u : RSt) : Option (Int32 × RSt) := if ((u.1 73) + l3) ≤ (100 : Int32) then (B_addSlot_17 N l1 l2 l3 l4 l5 0 u) else (B_addSlot_17 N l1 l2 l3 l4 l5 1 u)
set_option maxHeartbeats 4000000 in
theorem b_addSlot_0 {r : Int32} (X : RC p s m args c cX12_addSlot 8 (Cond.code yX12_addSlot cX12_addSlot 8 none) D kA V A) (hE : REv p l e R s m args below meth c cX12_addSlot D kA Z A Q w) (hF : 2 ≤ R.frames) (hL : 45 ≤ R.locals) {l1 : Int32} {l2 : Int32} {l3 : Int32} {l4 : Int32} {l5 : Int64}  {u : RSt} (h : B_addSlot_0 N l1 l2 l3 l4 l5 u = some (r, w)) (hS : RS D kA Z A s u H locs) (hl : lv_has ls 8 [(0, .ref (Z 200)), (1, .int l1), (2, .int l2), (3, .int l3), (4, .int l4), (5, .long l5)]) : W p l e R s m args below meth c H locs 0 0 Q (F0 m 0 ls []) := by
  obtain ⟨⟨hx, hb, hml, hown, hts⟩, hK, hEV, hA⟩ := id X
  have hG : ∀ w ∈ GW, w.before args s = true := fun w h => hts w (List.mem_cons_of_mem _ h)
  unfold B_addSlot_0 at h
  refine lv_aload_n hx hb dX12_addSlot_0 rfl (lv_at hl 0 rfl) ?_
  refine lv_aload_n hx hb dX12_addSlot_1 rfl (lv_at hl 0 rfl) ?_
  refine rg_73 X hS dX12_addSlot_2 ?_
  refine lv_iload_n hx hb dX12_addSlot_5 rfl (lv_at hl 3 rfl) ?_
  refine lv_iadd hx hb dX12_addSlot_6 ?_
  refine lv_bipush (v := 100) hx hb dX12_addSlot_7 (by decide) ?_
  refine lv_icmp_le (tgt := 16) hx hb dX12_addSlot_9 (by decide) (fun c_37 => ?_) (fun c_37 => ?_)
  · have h := ip (c_37) h
    refine lv_iconst (v := 0) hx hb dX12_addSlot_16 (by decide) ?_
    exact b_addSlot_17 X hE hF hL  h hS (lv_sub hl [0, 1, 2, 3, 4, 5] rfl)
  · have h := im (c_37) h
    refine lv_iconst (v := 1) hx hb dX12_addSlot_12 (by decide) ?_
    refine lv_goto (tgt := 17) hx hb dX12_addSlot_13 (by decide) ?_
    exact b_addSlot_17 X hE hF hL  h hS (lv_sub hl [0, 1, 2, 3, 4, 5] rfl)
def F_addSlot (N : Nat) (l1 : Int32) (l2 : Int32) (l3 : Int32) (l4 : Int32) (l5 : Int64) (u : RSt) : Option (Int32 × RSt) := B_addSlot_0 N l1 l2 l3 l4 l5 u
set_option maxHeartbeats 4000000 in
theorem k_addSlot (l : Launch) (D : va_G) (kA : Nat → ClassId) (V Z : Nat → Nat) (N : Nat) (l1 : Int32) (l2 : Int32) (l3 : Int32) (l4 : Int32) (l5 : Int64) (u : RSt) (sz : Nat) {r : Int32} {w : RSt} (h : F_addSlot N l1 l2 l3 l4 l5 u = some (r, w)) : Met l yX12_addSlot (Cond.code yX12_addSlot cX12_addSlot 8 none :: GW) { frames := 2, cells := 0, slots := 0, locals := 45 } (rPc D kA V Z [.int l1, .int l2, .int l3, .int l4, .long l5] u sz) (rQv D kA Z u sz w) 0 0 (va_A (RW kA Z u) sz) := by
  refine Met.ofW (cc := cX12_addSlot) (maxL := 8) (ret := none) (by decide) rfl ?_
  intro p e s m args below meth c s₁ Bd hml hv
  obtain ⟨rfl, hsz, hP, hK, hD0, hE⟩ := hv
  have hts := atoms_spec (ws := Cond.code yX12_addSlot cX12_addSlot 8 none :: GW) Bd.pre
  have hl := lv_entry (.ref (Z 200) :: [.int l1, .int l2, .int l3, .int l4, .long l5]) (n := 8) (Nat.le_of_ble_eq_true rfl)
  rw [lg_entry_eq]
  generalize (lg_sl (.ref (Z 200) :: [.int l1, .int l2, .int l3, .int l4, .long l5]) ++ List.replicate (8 - (lg_sl (.ref (Z 200) :: [.int l1, .int l2, .int l3, .int l4, .long l5])).length) Slot.unset).toArray = ls at hl ⊢
  have hl : lv_has ls 8 [(0, .ref (Z 200)), (1, .int l1), (2, .int l2), (3, .int l3), (4, .int l4), (5, .long l5)] := hl
  subst hsz
  have X : RC p s m (.ref (Z 200) :: [.int l1, .int l2, .int l3, .int l4, .long l5]).toArray c cX12_addSlot 8 (Cond.code yX12_addSlot cX12_addSlot 8 none) D kA V (va_A (RW kA Z u) s.heap.size) := ⟨⟨Bd.exec, Bd.bytes, hml, findClass_of_methodNamed Bd.named, hts⟩, hK, hE, fun q h => Or.inr h⟩
  exact b_addSlot_0 X (rend_v (cy := cX12_addSlot) X Bd.returns Bd.notSynchronized) (Nat.le_refl _) (Nat.le_refl _) h ⟨hP, hD0.self, va_S.rf⟩ (lv_sub hl [0, 1, 2, 3, 4, 5] rfl)
theorem kc_addSlot {r : Int32} {cc : ByteArray} {pc nL : Nat} {c0 : Cond} {rest : List Value} {l1 : Int32} {l2 : Int32} {l3 : Int32} {l4 : Int32} {l5 : Int64} {u : RSt} (X : RC p s m args c cc nL c0 D kA V A) (hS : RS D kA Z A s u H locs) (h : F_addSlot N l1 l2 l3 l4 l5 u = some (r, w)) (hF : 2 + 1 ≤ R.frames) (hL : 8 + (8 + 11) + 45 ≤ R.locals) (hl : ls.size = nL) (hc : (rest.map fun v => v.category).sum ≤ 8) (hdg : decode cc pc = .ok (.invokevirtual 323, 3)) (kk : ∀ H locs, RS D kA Z A s w H locs → W p l e R s m args below meth c H locs 0 0 Q (F0 m (pc + 3) ls (rest))) : W p l e R s m args below meth c H locs 0 0 Q (F0 m pc ls (.long l5 :: .int l4 :: .int l3 :: .int l2 :: .int l1 :: .ref (Z 200) :: rest)) :=
  rcall_v (n := 5) X hS (k_addSlot l D kA V Z N l1 l2 l3 l4 l5 u H.size h) (gw_V gw_2413 gw_2415 gs_9_3 gw_16 gw_2416) (by decide +kernel) hF hL rfl hl hc rfl hdg kk
def B_addVariable_219 (N : Nat) (s1 : Int32) (s2 : Int32) (u : RSt) : Option (Int32 × RSt) := pu (sI u 63 (s1 + s2)) fun u_1 => rd (u_1.2.2.1 19) 2 (u_1.1 56) fun v_2 => wr 2 (u_1.1 56) (sA u_1 19 (u_1.1 56).toNatClampNeg (v_2 + 1)) fun u_4 => some (0, u_4)
set_option maxHeartbeats 4000000 in
theorem b_addVariable_219 {r : Int32} (X : RC p s m args c cX12_addVariable 10 (Cond.code yX12_addVariable cX12_addVariable 10 none) D kA V A) (hE : REv p l e R s m args below meth c cX12_addVariable D kA Z A Q w) (hF : 2 ≤ R.frames) (hL : 45 ≤ R.locals) {s1 : Int32} {s2 : Int32}  {u : RSt} (h : B_addVariable_219 N s1 s2 u = some (r, w)) (hS : RS D kA Z A s u H locs) (hl : lv_has ls 10 [(0, .ref (Z 200))]) : W p l e R s m args below meth c H locs 0 0 Q (F0 m 219 ls [.int s2, .int s1, .ref (Z 200)]) := by
  obtain ⟨⟨hx, hb, hml, hown, hts⟩, hK, hEV, hA⟩ := id X
  have hG : ∀ w ∈ GW, w.before args s = true := fun w h => hts w (List.mem_cons_of_mem _ h)
  unfold B_addVariable_219 at h
  refine lv_iadd hx hb dX12_addVariable_219 ?_
  obtain ⟨u_1, e_u_1, h⟩ := pu_of h
  refine rp_63 X hS e_u_1 dX12_addVariable_220 (fun H locs hS => ?_)
  refine lv_aload_n hx hb dX12_addVariable_223 rfl (lv_at hl 0 rfl) ?_
  refine rg_19 X hS dX12_addVariable_224 ?_
  refine lv_aload_n hx hb dX12_addVariable_227 rfl (lv_at hl 0 rfl) ?_
  refine rg_56 X hS dX12_addVariable_228 ?_
  refine lv_dup2_11 hx hb dX12_addVariable_231 rfl rfl ?_
  obtain ⟨v_2, e_v_2, i_3, h⟩ := rd_of h
  refine ra_19 X hS i_3 e_v_2 dX12_addVariable_232 ?_
  refine lv_iconst (v := 1) hx hb dX12_addVariable_233 (by decide) ?_
  refine lv_iadd hx hb dX12_addVariable_234 ?_
  obtain ⟨u_4, e_u_4, i_5, h⟩ := wr_of h
  refine rs_19 X hS i_5 e_u_4 dX12_addVariable_235 (fun H locs hS => ?_)
  obtain ⟨-, rfl⟩ := so h
  exact hE _ _ _ _ hS dX12_addVariable_236
def B_addVariable_202 (N : Nat) (l3 : Int32) (l4 : Int32) (s1 : Int32) (s2 : Int32) (u : RSt) : Option (Int32 × RSt) := wr 320 s1 (sA u 15 s1.toNatClampNeg s2) fun u_6 => if (2 : Int32) ≤ l3 then (B_addVariable_219 N (u_6.1 63) 0 u_6) else (B_addVariable_219 N (u_6.1 63) l4 u_6)
set_option maxHeartbeats 4000000 in
theorem b_addVariable_202 {r : Int32} (X : RC p s m args c cX12_addVariable 10 (Cond.code yX12_addVariable cX12_addVariable 10 none) D kA V A) (hE : REv p l e R s m args below meth c cX12_addVariable D kA Z A Q w) (hF : 2 ≤ R.frames) (hL : 45 ≤ R.locals) {l3 : Int32} {l4 : Int32} {s1 : Int32} {s2 : Int32}  {u : RSt} (h : B_addVariable_202 N l3 l4 s1 s2 u = some (r, w)) (hS : RS D kA Z A s u H locs) (hl : lv_has ls 10 [(0, .ref (Z 200)), (3, .int l3), (4, .int l4)]) : W p l e R s m args below meth c H locs 0 0 Q (F0 m 202 ls [.int s2, .int s1, .ref (Z 15)]) := by
  obtain ⟨⟨hx, hb, hml, hown, hts⟩, hK, hEV, hA⟩ := id X
  have hG : ∀ w ∈ GW, w.before args s = true := fun w h => hts w (List.mem_cons_of_mem _ h)
  unfold B_addVariable_202 at h
  obtain ⟨u_6, e_u_6, i_7, h⟩ := wr_of h
  refine rs_15 X hS i_7 e_u_6 dX12_addVariable_202 (fun H locs hS => ?_)
  refine lv_aload_n hx hb dX12_addVariable_203 rfl (lv_at hl 0 rfl) ?_
  refine lv_dup hx hb dX12_addVariable_204 rfl ?_
  refine rg_63 X hS dX12_addVariable_205 ?_
  refine lv_iload_n hx hb dX12_addVariable_208 rfl (lv_at hl 1 rfl) ?_
  refine lv_iconst (v := 2) hx hb dX12_addVariable_209 (by decide) ?_
  refine lv_icmp_ge (tgt := 218) hx hb dX12_addVariable_210 (by decide) (fun c_8 => ?_) (fun c_8 => ?_)
  · have h := ip (c_8) h
    refine lv_iconst (v := 0) hx hb dX12_addVariable_218 (by decide) ?_
    exact b_addVariable_219 X hE hF hL  h hS (lv_sub hl [0] rfl)
  · have h := im (c_8) h
    refine lv_iload hx hb dX12_addVariable_213 (lv_at hl 2 rfl) ?_
    refine lv_goto (tgt := 219) hx hb dX12_addVariable_215 (by decide) ?_
    exact b_addVariable_219 X hE hF hL  h hS (lv_sub hl [0] rfl)
def B_addVariable_51 (N : Nat) (l1 : Int32) (l2 : Int32) (l3 : Int32) (l4 : Int32) (l5 : Int32) (l6 : Int32) (l7 : Int64) (u : RSt) : Option (Int32 × RSt) := if (u.1 69) = (0 : Int32) then (some (0, u)) else (if (u.1 67) = (0 : Int32) then (rd (u.2.2.1 19) 2 (u.1 56) fun v_11 => wr 320 ((160 * (u.1 56)) + v_11) (sA u 10 ((160 * (u.1 56)) + v_11).toNatClampNeg l2) fun u_13 => wr 320 ((160 * (u.1 56)) + v_11) (sA u_13 12 ((160 * (u.1 56)) + v_11).toNatClampNeg l3) fun u_15 => wr 320 ((160 * (u.1 56)) + v_11) (sA u_15 11 ((160 * (u.1 56)) + v_11).toNatClampNeg l4) fun u_17 => wr 320 ((160 * (u.1 56)) + v_11) (sA u_17 13 ((160 * (u.1 56)) + v_11).toNatClampNeg (vp_nar .boolean l5)) fun u_19 => wr 320 ((160 * (u.1 56)) + v_11) (sA u_19 14 ((160 * (u.1 56)) + v_11).toNatClampNeg l6) fun u_21 => wr 320 ((160 * (u.1 56)) + v_11) (sB u_21 16 ((160 * (u.1 56)) + v_11).toNatClampNeg l7) fun u_23 => rd (u_23.2.2.2 6) 1502 l1 fun v_25 => wr 320 ((160 * (u.1 56)) + v_11) (sB u_23 17 ((160 * (u.1 56)) + v_11).toNatClampNeg v_25) fun u_27 => rd (u_27.2.2.2 7) 1502 l1 fun v_29 => wr 320 ((160 * (u.1 56)) + v_11) (sB u_27 18 ((160 * (u.1 56)) + v_11).toNatClampNeg v_29) fun u_31 => if (2 : Int32) ≤ l3 then (if l3 = (2 : Int32) then (B_addVariable_202 N l3 l4 ((160 * (u.1 56)) + v_11) (6000 + l6) u_31) else (B_addVariable_202 N l3 l4 ((160 * (u.1 56)) + v_11) (5000 + l6) u_31)) else (B_addVariable_202 N l3 l4 ((160 * (u.1 56)) + v_11) (u_31.1 63) u_31)) else (some (0, u)))
set_option maxHeartbeats 4000000 in
theorem b_addVariable_51 {r : Int32} (X : RC p s m args c cX12_addVariable 10 (Cond.code yX12_addVariable cX12_addVariable 10 none) D kA V A) (hE : REv p l e R s m args below meth c cX12_addVariable D kA Z A Q w) (hF : 2 ≤ R.frames) (hL : 45 ≤ R.locals) {l1 : Int32} {l2 : Int32} {l3 : Int32} {l4 : Int32} {l5 : Int32} {l6 : Int32} {l7 : Int64}  {u : RSt} (h : B_addVariable_51 N l1 l2 l3 l4 l5 l6 l7 u = some (r, w)) (hS : RS D kA Z A s u H locs) (hl : lv_has ls 10 [(0, .ref (Z 200)), (1, .int l1), (2, .int l2), (3, .int l3), (4, .int l4), (5, .int l5), (6, .int l6), (7, .long l7)]) : W p l e R s m args below meth c H locs 0 0 Q (F0 m 51 ls []) := by
  obtain ⟨⟨hx, hb, hml, hown, hts⟩, hK, hEV, hA⟩ := id X
  have hG : ∀ w ∈ GW, w.before args s = true := fun w h => hts w (List.mem_cons_of_mem _ h)
  unfold B_addVariable_51 at h
  refine lv_aload_n hx hb dX12_addVariable_51 rfl (lv_at hl 0 rfl) ?_
  refine rg_69 X hS dX12_addVariable_52 ?_
  refine lv_if_eq (tgt := 65) hx hb dX12_addVariable_55 (by decide) (fun c_9 => ?_) (fun c_9 => ?_)
  · have h := ip (c_9) h
    obtain ⟨-, rfl⟩ := so h
    exact hE _ _ _ _ hS dX12_addVariable_65
  · have h := im (c_9) h
    refine lv_aload_n hx hb dX12_addVariable_58 rfl (lv_at hl 0 rfl) ?_
    refine rg_67 X hS dX12_addVariable_59 ?_
    refine lv_if_eq (tgt := 66) hx hb dX12_addVariable_62 (by decide) (fun c_10 => ?_) (fun c_10 => ?_)
    · have h := ip (c_10) h
      refine lv_sipush (v := 160) hx hb dX12_addVariable_66 (by decide) ?_
      refine lv_aload_n hx hb dX12_addVariable_69 rfl (lv_at hl 0 rfl) ?_
      refine rg_56 X hS dX12_addVariable_70 ?_
      refine lv_imul hx hb dX12_addVariable_73 ?_
      refine lv_aload_n hx hb dX12_addVariable_74 rfl (lv_at hl 0 rfl) ?_
      refine rg_19 X hS dX12_addVariable_75 ?_
      refine lv_aload_n hx hb dX12_addVariable_78 rfl (lv_at hl 0 rfl) ?_
      refine rg_56 X hS dX12_addVariable_79 ?_
      obtain ⟨v_11, e_v_11, i_12, h⟩ := rd_of h
      refine ra_19 X hS i_12 e_v_11 dX12_addVariable_82 ?_
      refine lv_iadd hx hb dX12_addVariable_83 ?_
      refine lv_istore (lv' := [(9, .int ((160 * (u.1 56)) + v_11)), (0, .ref (Z 200)), (1, .int l1), (2, .int l2), (3, .int l3), (4, .int l4), (5, .int l5), (6, .int l6), (7, .long l7)]) hx hb dX12_addVariable_84 hl (by decide) rfl (fun ls hl => ?_)
      refine lv_aload_n hx hb dX12_addVariable_86 rfl (lv_at hl 1 rfl) ?_
      refine rg_10 X hS dX12_addVariable_87 ?_
      refine lv_iload hx hb dX12_addVariable_90 (lv_at hl 0 rfl) ?_
      refine lv_iload_n hx hb dX12_addVariable_92 rfl (lv_at hl 3 rfl) ?_
      obtain ⟨u_13, e_u_13, i_14, h⟩ := wr_of h
      refine rs_10 X hS i_14 e_u_13 dX12_addVariable_93 (fun H locs hS => ?_)
      refine lv_aload_n hx hb dX12_addVariable_94 rfl (lv_at hl 1 rfl) ?_
      refine rg_12 X hS dX12_addVariable_95 ?_
      refine lv_iload hx hb dX12_addVariable_98 (lv_at hl 0 rfl) ?_
      refine lv_iload_n hx hb dX12_addVariable_100 rfl (lv_at hl 4 rfl) ?_
      obtain ⟨u_15, e_u_15, i_16, h⟩ := wr_of h
      refine rs_12 X hS i_16 e_u_15 dX12_addVariable_101 (fun H locs hS => ?_)
      refine lv_aload_n hx hb dX12_addVariable_102 rfl (lv_at hl 1 rfl) ?_
      refine rg_11 X hS dX12_addVariable_103 ?_
      refine lv_iload hx hb dX12_addVariable_106 (lv_at hl 0 rfl) ?_
      refine lv_iload hx hb dX12_addVariable_108 (lv_at hl 5 rfl) ?_
      obtain ⟨u_17, e_u_17, i_18, h⟩ := wr_of h
      refine rs_11 X hS i_18 e_u_17 dX12_addVariable_110 (fun H locs hS => ?_)
      refine lv_aload_n hx hb dX12_addVariable_111 rfl (lv_at hl 1 rfl) ?_
      refine rg_13 X hS dX12_addVariable_112 ?_
      refine lv_iload hx hb dX12_addVariable_115 (lv_at hl 0 rfl) ?_
      refine lv_iload hx hb dX12_addVariable_117 (lv_at hl 6 rfl) ?_
      obtain ⟨u_19, e_u_19, i_20, h⟩ := wr_of h
      refine rs_13 X hS i_20 e_u_19 dX12_addVariable_119 (fun H locs hS => ?_)
      refine lv_aload_n hx hb dX12_addVariable_120 rfl (lv_at hl 1 rfl) ?_
      refine rg_14 X hS dX12_addVariable_121 ?_
      refine lv_iload hx hb dX12_addVariable_124 (lv_at hl 0 rfl) ?_
      refine lv_iload hx hb dX12_addVariable_126 (lv_at hl 7 rfl) ?_
      obtain ⟨u_21, e_u_21, i_22, h⟩ := wr_of h
      refine rs_14 X hS i_22 e_u_21 dX12_addVariable_128 (fun H locs hS => ?_)
      refine lv_aload_n hx hb dX12_addVariable_129 rfl (lv_at hl 1 rfl) ?_
      refine rg_16 X hS dX12_addVariable_130 ?_
      refine lv_iload hx hb dX12_addVariable_133 (lv_at hl 0 rfl) ?_
      refine lv_lload hx hb dX12_addVariable_135 (lv_at hl 8 rfl) ?_
      obtain ⟨u_23, e_u_23, i_24, h⟩ := wr_of h
      refine rs_16 X hS i_24 e_u_23 dX12_addVariable_137 (fun H locs hS => ?_)
      refine lv_aload_n hx hb dX12_addVariable_138 rfl (lv_at hl 1 rfl) ?_
      refine rg_17 X hS dX12_addVariable_139 ?_
      refine lv_iload hx hb dX12_addVariable_142 (lv_at hl 0 rfl) ?_
      refine lv_aload_n hx hb dX12_addVariable_144 rfl (lv_at hl 1 rfl) ?_
      refine rg_6 X hS dX12_addVariable_145 ?_
      refine lv_iload_n hx hb dX12_addVariable_148 rfl (lv_at hl 2 rfl) ?_
      obtain ⟨v_25, e_v_25, i_26, h⟩ := rd_of h
      refine ra_6 X hS i_26 e_v_25 dX12_addVariable_149 ?_
      obtain ⟨u_27, e_u_27, i_28, h⟩ := wr_of h
      refine rs_17 X hS i_28 e_u_27 dX12_addVariable_150 (fun H locs hS => ?_)
      refine lv_aload_n hx hb dX12_addVariable_151 rfl (lv_at hl 1 rfl) ?_
      refine rg_18 X hS dX12_addVariable_152 ?_
      refine lv_iload hx hb dX12_addVariable_155 (lv_at hl 0 rfl) ?_
      refine lv_aload_n hx hb dX12_addVariable_157 rfl (lv_at hl 1 rfl) ?_
      refine rg_7 X hS dX12_addVariable_158 ?_
      refine lv_iload_n hx hb dX12_addVariable_161 rfl (lv_at hl 2 rfl) ?_
      obtain ⟨v_29, e_v_29, i_30, h⟩ := rd_of h
      refine ra_7 X hS i_30 e_v_29 dX12_addVariable_162 ?_
      obtain ⟨u_31, e_u_31, i_32, h⟩ := wr_of h
      refine rs_18 X hS i_32 e_u_31 dX12_addVariable_163 (fun H locs hS => ?_)
      refine lv_aload_n hx hb dX12_addVariable_164 rfl (lv_at hl 1 rfl) ?_
      refine rg_15 X hS dX12_addVariable_165 ?_
      refine lv_iload hx hb dX12_addVariable_168 (lv_at hl 0 rfl) ?_
      refine lv_iload_n hx hb dX12_addVariable_170 rfl (lv_at hl 4 rfl) ?_
      refine lv_iconst (v := 2) hx hb dX12_addVariable_171 (by decide) ?_
      refine lv_icmp_ge (tgt := 182) hx hb dX12_addVariable_172 (by decide) (fun c_33 => ?_) (fun c_33 => ?_)
      · have h := ip (c_33) h
        refine lv_iload_n hx hb dX12_addVariable_182 rfl (lv_at hl 4 rfl) ?_
        refine lv_iconst (v := 2) hx hb dX12_addVariable_183 (by decide) ?_
        refine lv_icmp_ne (tgt := 196) hx hb dX12_addVariable_184 (by decide) (fun c_34 => ?_) (fun c_34 => ?_)
        · have h := im (c_34) h
          refine lv_sipush (v := 5000) hx hb dX12_addVariable_196 (by decide) ?_
          refine lv_iload hx hb dX12_addVariable_199 (lv_at hl 7 rfl) ?_
          refine lv_iadd hx hb dX12_addVariable_201 ?_
          exact b_addVariable_202 X hE hF hL  h hS (lv_sub hl [1, 4, 5] rfl)
        · have h := ip (c_34) h
          refine lv_sipush (v := 6000) hx hb dX12_addVariable_187 (by decide) ?_
          refine lv_iload hx hb dX12_addVariable_190 (lv_at hl 7 rfl) ?_
          refine lv_iadd hx hb dX12_addVariable_192 ?_
          refine lv_goto (tgt := 202) hx hb dX12_addVariable_193 (by decide) ?_
          exact b_addVariable_202 X hE hF hL  h hS (lv_sub hl [1, 4, 5] rfl)
      · have h := im (c_33) h
        refine lv_aload_n hx hb dX12_addVariable_175 rfl (lv_at hl 1 rfl) ?_
        refine rg_63 X hS dX12_addVariable_176 ?_
        refine lv_goto (tgt := 202) hx hb dX12_addVariable_179 (by decide) ?_
        exact b_addVariable_202 X hE hF hL  h hS (lv_sub hl [1, 4, 5] rfl)
    · have h := im (c_10) h
      obtain ⟨-, rfl⟩ := so h
      exact hE _ _ _ _ hS dX12_addVariable_65
def B_addVariable_41 (N : Nat) (l1 : Int32) (l2 : Int32) (l3 : Int32) (l4 : Int32) (l5 : Int32) (l6 : Int32) (l7 : Int64) (s1 : Int32) (u : RSt) : Option (Int32 × RSt) := rd (u.2.2.1 3) 1502 l1 fun v_35 => bn (F_wrong N s1 5 v_35 u) fun _ u_37 => B_addVariable_51 N l1 l2 l3 l4 l5 l6 l7 u_37
set_option maxHeartbeats 4000000 in
theorem b_addVariable_41 {r : Int32} (X : RC p s m args c cX12_addVariable 10 (Cond.code yX12_addVariable cX12_addVariable 10 none) D kA V A) (hE : REv p l e R s m args below meth c cX12_addVariable D kA Z A Q w) (hF : 2 ≤ R.frames) (hL : 45 ≤ R.locals) {l1 : Int32} {l2 : Int32} {l3 : Int32} {l4 : Int32} {l5 : Int32} {l6 : Int32} {l7 : Int64} {s1 : Int32}  {u : RSt} (h : B_addVariable_41 N l1 l2 l3 l4 l5 l6 l7 s1 u = some (r, w)) (hS : RS D kA Z A s u H locs) (hl : lv_has ls 10 [(0, .ref (Z 200)), (1, .int l1), (2, .int l2), (3, .int l3), (4, .int l4), (5, .int l5), (6, .int l6), (7, .long l7)]) : W p l e R s m args below meth c H locs 0 0 Q (F0 m 41 ls [.int s1, .ref (Z 200)]) := by
  obtain ⟨⟨hx, hb, hml, hown, hts⟩, hK, hEV, hA⟩ := id X
  have hG : ∀ w ∈ GW, w.before args s = true := fun w h => hts w (List.mem_cons_of_mem _ h)
  unfold B_addVariable_41 at h
  refine lv_iconst (v := 5) hx hb dX12_addVariable_41 (by decide) ?_
  refine lv_aload_n hx hb dX12_addVariable_42 rfl (lv_at hl 0 rfl) ?_
  refine rg_3 X hS dX12_addVariable_43 ?_
  refine lv_iload_n hx hb dX12_addVariable_46 rfl (lv_at hl 1 rfl) ?_
  obtain ⟨v_35, e_v_35, i_36, h⟩ := rd_of h
  refine ra_3 X hS i_36 e_v_35 dX12_addVariable_47 ?_
  obtain ⟨r_u_37, u_37, h_u_37, h⟩ := bn_of h
  refine kc_wrong X hS h_u_37 (Nat.le_trans (Nat.le_of_ble_eq_true rfl) hF) (Nat.le_trans (Nat.le_of_ble_eq_true rfl) hL) hl.1 (Nat.le_of_ble_eq_true rfl) dX12_addVariable_48 (fun H locs hS => ?_)
  exact b_addVariable_51 X hE hF hL  h hS (lv_sub hl [0, 1, 2, 3, 4, 5, 6, 7] rfl)
def B_addVariable_0 (N : Nat) (l1 : Int32) (l2 : Int32) (l3 : Int32) (l4 : Int32) (l5 : Int32) (l6 : Int32) (l7 : Int64) (u : RSt) : Option (Int32 × RSt) := if (u.1 69) = (0 : Int32) then (B_addVariable_51 N l1 l2 l3 l4 l5 l6 l7 u) else (if (2 : Int32) ≤ l3 then (B_addVariable_51 N l1 l2 l3 l4 l5 l6 l7 u) else (rd (u.2.2.1 64) 5 l2 fun v_40 => wr 5 l2 (sA u 64 l2.toNatClampNeg (v_40 + l4)) fun u_42 => rd (u_42.2.2.1 64) 5 l2 fun v_44 => if v_44 ≤ (400 : Int32) then (B_addVariable_41 N l1 l2 l3 l4 l5 l6 l7 0 u_42) else (B_addVariable_41 N l1 l2 l3 l4 l5 l6 l7 1 u_42)))
set_option maxHeartbeats 4000000 in
theorem b_addVariable_0 {r : Int32} (X : RC p s m args c cX12_addVariable 10 (Cond.code yX12_addVariable cX12_addVariable 10 none) D kA V A) (hE : REv p l e R s m args below meth c cX12_addVariable D kA Z A Q w) (hF : 2 ≤ R.frames) (hL : 45 ≤ R.locals) {l1 : Int32} {l2 : Int32} {l3 : Int32} {l4 : Int32} {l5 : Int32} {l6 : Int32} {l7 : Int64}  {u : RSt} (h : B_addVariable_0 N l1 l2 l3 l4 l5 l6 l7 u = some (r, w)) (hS : RS D kA Z A s u H locs) (hl : lv_has ls 10 [(0, .ref (Z 200)), (1, .int l1), (2, .int l2), (3, .int l3), (4, .int l4), (5, .int l5), (6, .int l6), (7, .long l7)]) : W p l e R s m args below meth c H locs 0 0 Q (F0 m 0 ls []) := by
  obtain ⟨⟨hx, hb, hml, hown, hts⟩, hK, hEV, hA⟩ := id X
  have hG : ∀ w ∈ GW, w.before args s = true := fun w h => hts w (List.mem_cons_of_mem _ h)
  unfold B_addVariable_0 at h
  refine lv_aload_n hx hb dX12_addVariable_0 rfl (lv_at hl 0 rfl) ?_
  refine rg_69 X hS dX12_addVariable_1 ?_
  refine lv_if_eq (tgt := 51) hx hb dX12_addVariable_4 (by decide) (fun c_38 => ?_) (fun c_38 => ?_)
  · have h := ip (c_38) h
    exact b_addVariable_51 X hE hF hL  h hS (lv_sub hl [0, 1, 2, 3, 4, 5, 6, 7] rfl)
  · have h := im (c_38) h
    refine lv_iload_n hx hb dX12_addVariable_7 rfl (lv_at hl 3 rfl) ?_
    refine lv_iconst (v := 2) hx hb dX12_addVariable_8 (by decide) ?_
    refine lv_icmp_ge (tgt := 51) hx hb dX12_addVariable_9 (by decide) (fun c_39 => ?_) (fun c_39 => ?_)
    · have h := ip (c_39) h
      exact b_addVariable_51 X hE hF hL  h hS (lv_sub hl [0, 1, 2, 3, 4, 5, 6, 7] rfl)
    · have h := im (c_39) h
      refine lv_aload_n hx hb dX12_addVariable_12 rfl (lv_at hl 0 rfl) ?_
      refine rg_64 X hS dX12_addVariable_13 ?_
      refine lv_iload_n hx hb dX12_addVariable_16 rfl (lv_at hl 2 rfl) ?_
      refine lv_dup2_11 hx hb dX12_addVariable_17 rfl rfl ?_
      obtain ⟨v_40, e_v_40, i_41, h⟩ := rd_of h
      refine ra_64 X hS i_41 e_v_40 dX12_addVariable_18 ?_
      refine lv_iload hx hb dX12_addVariable_19 (lv_at hl 4 rfl) ?_
      refine lv_iadd hx hb dX12_addVariable_21 ?_
      obtain ⟨u_42, e_u_42, i_43, h⟩ := wr_of h
      refine rs_64 X hS i_43 e_u_42 dX12_addVariable_22 (fun H locs hS => ?_)
      refine lv_aload_n hx hb dX12_addVariable_23 rfl (lv_at hl 0 rfl) ?_
      refine lv_aload_n hx hb dX12_addVariable_24 rfl (lv_at hl 0 rfl) ?_
      refine rg_64 X hS dX12_addVariable_25 ?_
      refine lv_iload_n hx hb dX12_addVariable_28 rfl (lv_at hl 2 rfl) ?_
      obtain ⟨v_44, e_v_44, i_45, h⟩ := rd_of h
      refine ra_64 X hS i_45 e_v_44 dX12_addVariable_29 ?_
      refine lv_sipush (v := 400) hx hb dX12_addVariable_30 (by decide) ?_
      refine lv_icmp_le (tgt := 40) hx hb dX12_addVariable_33 (by decide) (fun c_46 => ?_) (fun c_46 => ?_)
      · have h := ip (c_46) h
        refine lv_iconst (v := 0) hx hb dX12_addVariable_40 (by decide) ?_
        exact b_addVariable_41 X hE hF hL  h hS (lv_sub hl [0, 1, 2, 3, 4, 5, 6, 7] rfl)
      · have h := im (c_46) h
        refine lv_iconst (v := 1) hx hb dX12_addVariable_36 (by decide) ?_
        refine lv_goto (tgt := 41) hx hb dX12_addVariable_37 (by decide) ?_
        exact b_addVariable_41 X hE hF hL  h hS (lv_sub hl [0, 1, 2, 3, 4, 5, 6, 7] rfl)
def F_addVariable (N : Nat) (l1 : Int32) (l2 : Int32) (l3 : Int32) (l4 : Int32) (l5 : Int32) (l6 : Int32) (l7 : Int64) (u : RSt) : Option (Int32 × RSt) := B_addVariable_0 N l1 l2 l3 l4 l5 l6 l7 u
set_option maxHeartbeats 4000000 in
theorem k_addVariable (l : Launch) (D : va_G) (kA : Nat → ClassId) (V Z : Nat → Nat) (N : Nat) (l1 : Int32) (l2 : Int32) (l3 : Int32) (l4 : Int32) (l5 : Int32) (l6 : Int32) (l7 : Int64) (u : RSt) (sz : Nat) {r : Int32} {w : RSt} (h : F_addVariable N l1 l2 l3 l4 l5 l6 l7 u = some (r, w)) : Met l yX12_addVariable (Cond.code yX12_addVariable cX12_addVariable 10 none :: GW) { frames := 2, cells := 0, slots := 0, locals := 45 } (rPc D kA V Z [.int l1, .int l2, .int l3, .int l4, .int l5, .int l6, .long l7] u sz) (rQv D kA Z u sz w) 0 0 (va_A (RW kA Z u) sz) := by
  refine Met.ofW (cc := cX12_addVariable) (maxL := 10) (ret := none) (by decide) rfl ?_
  intro p e s m args below meth c s₁ Bd hml hv
  obtain ⟨rfl, hsz, hP, hK, hD0, hE⟩ := hv
  have hts := atoms_spec (ws := Cond.code yX12_addVariable cX12_addVariable 10 none :: GW) Bd.pre
  have hl := lv_entry (.ref (Z 200) :: [.int l1, .int l2, .int l3, .int l4, .int l5, .int l6, .long l7]) (n := 10) (Nat.le_of_ble_eq_true rfl)
  rw [lg_entry_eq]
  generalize (lg_sl (.ref (Z 200) :: [.int l1, .int l2, .int l3, .int l4, .int l5, .int l6, .long l7]) ++ List.replicate (10 - (lg_sl (.ref (Z 200) :: [.int l1, .int l2, .int l3, .int l4, .int l5, .int l6, .long l7])).length) Slot.unset).toArray = ls at hl ⊢
  have hl : lv_has ls 10 [(0, .ref (Z 200)), (1, .int l1), (2, .int l2), (3, .int l3), (4, .int l4), (5, .int l5), (6, .int l6), (7, .long l7)] := hl
  subst hsz
  have X : RC p s m (.ref (Z 200) :: [.int l1, .int l2, .int l3, .int l4, .int l5, .int l6, .long l7]).toArray c cX12_addVariable 10 (Cond.code yX12_addVariable cX12_addVariable 10 none) D kA V (va_A (RW kA Z u) s.heap.size) := ⟨⟨Bd.exec, Bd.bytes, hml, findClass_of_methodNamed Bd.named, hts⟩, hK, hE, fun q h => Or.inr h⟩
  exact b_addVariable_0 X (rend_v (cy := cX12_addVariable) X Bd.returns Bd.notSynchronized) (Nat.le_refl _) (Nat.le_refl _) h ⟨hP, hD0.self, va_S.rf⟩ (lv_sub hl [0, 1, 2, 3, 4, 5, 6, 7] rfl)
theorem kc_addVariable {r : Int32} {cc : ByteArray} {pc nL : Nat} {c0 : Cond} {rest : List Value} {l1 : Int32} {l2 : Int32} {l3 : Int32} {l4 : Int32} {l5 : Int32} {l6 : Int32} {l7 : Int64} {u : RSt} (X : RC p s m args c cc nL c0 D kA V A) (hS : RS D kA Z A s u H locs) (h : F_addVariable N l1 l2 l3 l4 l5 l6 l7 u = some (r, w)) (hF : 2 + 1 ≤ R.frames) (hL : 8 + (10 + 11) + 45 ≤ R.locals) (hl : ls.size = nL) (hc : (rest.map fun v => v.category).sum ≤ 8) (hdg : decode cc pc = .ok (.invokevirtual 327, 3)) (kk : ∀ H locs, RS D kA Z A s w H locs → W p l e R s m args below meth c H locs 0 0 Q (F0 m (pc + 3) ls (rest))) : W p l e R s m args below meth c H locs 0 0 Q (F0 m pc ls (.long l7 :: .int l6 :: .int l5 :: .int l4 :: .int l3 :: .int l2 :: .int l1 :: .ref (Z 200) :: rest)) :=
  rcall_v (n := 7) X hS (k_addVariable l D kA V Z N l1 l2 l3 l4 l5 l6 l7 u H.size h) (gw_V gw_2417 gw_2419 gs_9_4 gw_16 gw_2420) (by decide +kernel) hF hL rfl hl hc rfl hdg kk
def B_isTooWide_25 (N : Nat) (l1 : Int32) (l2 : Int32) (u : RSt) : Option (Int32 × RSt) := if l1 = 0 then (if l2 = (2 : Int32) then (some (1, u)) else (some (0, u))) else (if l1 = 1 then (if (3 : Int32) ≤ l2 then (some (0, u)) else (some (1, u))) else (if l1 = 2 then (if (3 : Int32) ≤ l2 then (some (0, u)) else (some (1, u))) else (if l1 = 3 then (if l2 = (4 : Int32) then (some (0, u)) else (some (1, u))) else (some (1, u)))))
set_option maxHeartbeats 4000000 in
theorem b_isTooWide_25 {r : Int32} (X : RC p s m args c cX12_isTooWide 3 (Cond.code yX12_isTooWide cX12_isTooWide 3 (some .boolean)) D kA V A) (hE : REz p l e R s m args below meth c cX12_isTooWide D kA Z A Q r w) (hF : 2 ≤ R.frames) (hL : 44 ≤ R.locals) {l1 : Int32} {l2 : Int32}  {u : RSt} (h : B_isTooWide_25 N l1 l2 u = some (r, w)) (hS : RS D kA Z A s u H locs) (hl : lv_has ls 3 [(1, .int l1), (2, .int l2)]) : W p l e R s m args below meth c H locs 0 0 Q (F0 m 25 ls []) := by
  obtain ⟨⟨hx, hb, hml, hown, hts⟩, hK, hEV, hA⟩ := id X
  have hG : ∀ w ∈ GW, w.before args s = true := fun w h => hts w (List.mem_cons_of_mem _ h)
  unfold B_isTooWide_25 at h
  refine lv_iload_n hx hb dX12_isTooWide_25 rfl (lv_at hl 0 rfl) ?_
  by_cases e_1 : l1 = 0
  · have h := ip e_1 h
    refine lv_tableIn (off := 30) (tgt := 56) hx hb dX12_isTooWide_26 (by rw [e_1]; decide) (by rw [e_1]; decide) (by rw [e_1]; rfl) (by decide) ?_
    refine lv_iload_n hx hb dX12_isTooWide_56 rfl (lv_at hl 1 rfl) ?_
    refine lv_iconst (v := 2) hx hb dX12_isTooWide_57 (by decide) ?_
    refine lv_icmp_ne (tgt := 65) hx hb dX12_isTooWide_58 (by decide) (fun c_2 => ?_) (fun c_2 => ?_)
    · have h := im (c_2) h
      refine lv_iconst (v := 0) hx hb dX12_isTooWide_65 (by decide) ?_
      obtain ⟨rfl, rfl⟩ := so h
      exact hE _ _ _ _ hS (Or.inl rfl) dX12_isTooWide_66
    · have h := ip (c_2) h
      refine lv_iconst (v := 1) hx hb dX12_isTooWide_61 (by decide) ?_
      refine lv_goto (tgt := 66) hx hb dX12_isTooWide_62 (by decide) ?_
      obtain ⟨rfl, rfl⟩ := so h
      exact hE _ _ _ _ hS (Or.inr rfl) dX12_isTooWide_66
  have h := im e_1 h
  by_cases e_3 : l1 = 1
  · have h := ip e_3 h
    refine lv_tableIn (off := 41) (tgt := 67) hx hb dX12_isTooWide_26 (by rw [e_3]; decide) (by rw [e_3]; decide) (by rw [e_3]; rfl) (by decide) ?_
    refine lv_iload_n hx hb dX12_isTooWide_67 rfl (lv_at hl 1 rfl) ?_
    refine lv_iconst (v := 3) hx hb dX12_isTooWide_68 (by decide) ?_
    refine lv_icmp_ge (tgt := 76) hx hb dX12_isTooWide_69 (by decide) (fun c_4 => ?_) (fun c_4 => ?_)
    · have h := ip (c_4) h
      refine lv_iconst (v := 0) hx hb dX12_isTooWide_76 (by decide) ?_
      obtain ⟨rfl, rfl⟩ := so h
      exact hE _ _ _ _ hS (Or.inl rfl) dX12_isTooWide_77
    · have h := im (c_4) h
      refine lv_iconst (v := 1) hx hb dX12_isTooWide_72 (by decide) ?_
      refine lv_goto (tgt := 77) hx hb dX12_isTooWide_73 (by decide) ?_
      obtain ⟨rfl, rfl⟩ := so h
      exact hE _ _ _ _ hS (Or.inr rfl) dX12_isTooWide_77
  have h := im e_3 h
  by_cases e_5 : l1 = 2
  · have h := ip e_5 h
    refine lv_tableIn (off := 41) (tgt := 67) hx hb dX12_isTooWide_26 (by rw [e_5]; decide) (by rw [e_5]; decide) (by rw [e_5]; rfl) (by decide) ?_
    refine lv_iload_n hx hb dX12_isTooWide_67 rfl (lv_at hl 1 rfl) ?_
    refine lv_iconst (v := 3) hx hb dX12_isTooWide_68 (by decide) ?_
    refine lv_icmp_ge (tgt := 76) hx hb dX12_isTooWide_69 (by decide) (fun c_6 => ?_) (fun c_6 => ?_)
    · have h := ip (c_6) h
      refine lv_iconst (v := 0) hx hb dX12_isTooWide_76 (by decide) ?_
      obtain ⟨rfl, rfl⟩ := so h
      exact hE _ _ _ _ hS (Or.inl rfl) dX12_isTooWide_77
    · have h := im (c_6) h
      refine lv_iconst (v := 1) hx hb dX12_isTooWide_72 (by decide) ?_
      refine lv_goto (tgt := 77) hx hb dX12_isTooWide_73 (by decide) ?_
      obtain ⟨rfl, rfl⟩ := so h
      exact hE _ _ _ _ hS (Or.inr rfl) dX12_isTooWide_77
  have h := im e_5 h
  by_cases e_7 : l1 = 3
  · have h := ip e_7 h
    refine lv_tableIn (off := 52) (tgt := 78) hx hb dX12_isTooWide_26 (by rw [e_7]; decide) (by rw [e_7]; decide) (by rw [e_7]; rfl) (by decide) ?_
    refine lv_iload_n hx hb dX12_isTooWide_78 rfl (lv_at hl 1 rfl) ?_
    refine lv_iconst (v := 4) hx hb dX12_isTooWide_79 (by decide) ?_
    refine lv_icmp_eq (tgt := 87) hx hb dX12_isTooWide_80 (by decide) (fun c_8 => ?_) (fun c_8 => ?_)
    · have h := ip (c_8) h
      refine lv_iconst (v := 0) hx hb dX12_isTooWide_87 (by decide) ?_
      obtain ⟨rfl, rfl⟩ := so h
      exact hE _ _ _ _ hS (Or.inl rfl) dX12_isTooWide_88
    · have h := im (c_8) h
      refine lv_iconst (v := 1) hx hb dX12_isTooWide_83 (by decide) ?_
      refine lv_goto (tgt := 88) hx hb dX12_isTooWide_84 (by decide) ?_
      obtain ⟨rfl, rfl⟩ := so h
      exact hE _ _ _ _ hS (Or.inr rfl) dX12_isTooWide_88
  have h := im e_7 h
  refine lv_tableDef (tgt := 89) hx hb dX12_isTooWide_26 (by decide) (fun off h1 h2 ho => by
    have hI : (l1).toInt = 0 ∨ (l1).toInt = 1 ∨ (l1).toInt = 2 ∨ (l1).toInt = 3 := by omega
    rcases hI with q | q | q | q
    · exact absurd (Int32.toInt_inj.mp (q.trans (by decide))) e_1
    · exact absurd (Int32.toInt_inj.mp (q.trans (by decide))) e_3
    · exact absurd (Int32.toInt_inj.mp (q.trans (by decide))) e_5
    · exact absurd (Int32.toInt_inj.mp (q.trans (by decide))) e_7) (by decide) ?_
  refine lv_iconst (v := 1) hx hb dX12_isTooWide_89 (by decide) ?_
  obtain ⟨rfl, rfl⟩ := so h
  exact hE _ _ _ _ hS (Or.inr rfl) dX12_isTooWide_90
def B_isTooWide_0 (N : Nat) (l1 : Int32) (l2 : Int32) (u : RSt) : Option (Int32 × RSt) := if l1 = l2 then (some (0, u)) else (if (u.1 78) ≤ (0 : Int32) then (B_isTooWide_25 N l1 l2 u) else (if (r_has l2 (u.2.1 79)) = (0 : Int32) then (B_isTooWide_25 N l1 l2 u) else (some (0, u))))
set_option maxHeartbeats 4000000 in
theorem b_isTooWide_0 {r : Int32} (X : RC p s m args c cX12_isTooWide 3 (Cond.code yX12_isTooWide cX12_isTooWide 3 (some .boolean)) D kA V A) (hE : REz p l e R s m args below meth c cX12_isTooWide D kA Z A Q r w) (hF : 2 ≤ R.frames) (hL : 44 ≤ R.locals) {l1 : Int32} {l2 : Int32}  {u : RSt} (h : B_isTooWide_0 N l1 l2 u = some (r, w)) (hS : RS D kA Z A s u H locs) (hl : lv_has ls 3 [(0, .ref (Z 200)), (1, .int l1), (2, .int l2)]) : W p l e R s m args below meth c H locs 0 0 Q (F0 m 0 ls []) := by
  obtain ⟨⟨hx, hb, hml, hown, hts⟩, hK, hEV, hA⟩ := id X
  have hG : ∀ w ∈ GW, w.before args s = true := fun w h => hts w (List.mem_cons_of_mem _ h)
  unfold B_isTooWide_0 at h
  refine lv_iload_n hx hb dX12_isTooWide_0 rfl (lv_at hl 1 rfl) ?_
  refine lv_iload_n hx hb dX12_isTooWide_1 rfl (lv_at hl 2 rfl) ?_
  refine lv_icmp_eq (tgt := 23) hx hb dX12_isTooWide_2 (by decide) (fun c_9 => ?_) (fun c_9 => ?_)
  · have h := ip (c_9) h
    refine lv_iconst (v := 0) hx hb dX12_isTooWide_23 (by decide) ?_
    obtain ⟨rfl, rfl⟩ := so h
    exact hE _ _ _ _ hS (Or.inl rfl) dX12_isTooWide_24
  · have h := im (c_9) h
    refine lv_aload_n hx hb dX12_isTooWide_5 rfl (lv_at hl 0 rfl) ?_
    refine rg_78 X hS dX12_isTooWide_6 ?_
    refine lv_if_le (tgt := 25) hx hb dX12_isTooWide_9 (by decide) (fun c_10 => ?_) (fun c_10 => ?_)
    · have h := ip (c_10) h
      exact b_isTooWide_25 X hE hF hL  h hS (lv_sub hl [1, 2] rfl)
    · have h := im (c_10) h
      refine lv_iload_n hx hb dX12_isTooWide_12 rfl (lv_at hl 2 rfl) ?_
      refine lv_aload_n hx hb dX12_isTooWide_13 rfl (lv_at hl 0 rfl) ?_
      refine rg_79 X hS dX12_isTooWide_14 ?_
      refine vp_callSi (W.runS (As := [.int l2, .long (u.2.1 79)]) (rest := []) X.1 (c_X12_canHave l l2 (u.2.1 79)) (va_cwS 2 hts (gw_P gw_2410 gw_2411 gw_16 gwp_X12_canHave) rfl rfl rfl (by decide +kernel) ⟨Nat.le_trans (Nat.le_of_ble_eq_true rfl) hF, Nat.le_trans (Nat.le_of_ble_eq_true rfl) hL⟩) ⟨fun _ _ _ _ q => q, fun _ _ _ => ⟨rfl, trivial⟩⟩ rfl rfl hl.1 rfl (lv_room (Nat.le_of_ble_eq_true rfl)) dX12_isTooWide_17 ⟨Nat.zero_le _, Nat.zero_le _⟩) (fun r_11 q_12 => ?_)
      subst q_12
      refine lv_if_eq (tgt := 25) hx hb dX12_isTooWide_20 (by decide) (fun c_13 => ?_) (fun c_13 => ?_)
      · have h := ip (c_13) h
        exact b_isTooWide_25 X hE hF hL  h hS (lv_sub hl [1, 2] rfl)
      · have h := im (c_13) h
        refine lv_iconst (v := 0) hx hb dX12_isTooWide_23 (by decide) ?_
        obtain ⟨rfl, rfl⟩ := so h
        exact hE _ _ _ _ hS (Or.inl rfl) dX12_isTooWide_24
def F_isTooWide (N : Nat) (l1 : Int32) (l2 : Int32) (u : RSt) : Option (Int32 × RSt) := B_isTooWide_0 N l1 l2 u
set_option maxHeartbeats 4000000 in
theorem k_isTooWide (l : Launch) (D : va_G) (kA : Nat → ClassId) (V Z : Nat → Nat) (N : Nat) (l1 : Int32) (l2 : Int32) (u : RSt) (sz : Nat) {r : Int32} {w : RSt} (h : F_isTooWide N l1 l2 u = some (r, w)) : Met l yX12_isTooWide (Cond.code yX12_isTooWide cX12_isTooWide 3 (some .boolean) :: GW) { frames := 2, cells := 0, slots := 0, locals := 44 } (rPc D kA V Z [.int l1, .int l2] u sz) (rQi D kA Z u sz r w) 0 0 (va_A (RW kA Z u) sz) := by
  refine Met.ofW (cc := cX12_isTooWide) (maxL := 3) (ret := (some .boolean)) (by decide) rfl ?_
  intro p e s m args below meth c s₁ Bd hml hv
  obtain ⟨rfl, hsz, hP, hK, hD0, hE⟩ := hv
  have hts := atoms_spec (ws := Cond.code yX12_isTooWide cX12_isTooWide 3 (some .boolean) :: GW) Bd.pre
  have hl := lv_entry (.ref (Z 200) :: [.int l1, .int l2]) (n := 3) (Nat.le_of_ble_eq_true rfl)
  rw [lg_entry_eq]
  generalize (lg_sl (.ref (Z 200) :: [.int l1, .int l2]) ++ List.replicate (3 - (lg_sl (.ref (Z 200) :: [.int l1, .int l2])).length) Slot.unset).toArray = ls at hl ⊢
  have hl : lv_has ls 3 [(0, .ref (Z 200)), (1, .int l1), (2, .int l2)] := hl
  subst hsz
  have X : RC p s m (.ref (Z 200) :: [.int l1, .int l2]).toArray c cX12_isTooWide 3 (Cond.code yX12_isTooWide cX12_isTooWide 3 (some .boolean)) D kA V (va_A (RW kA Z u) s.heap.size) := ⟨⟨Bd.exec, Bd.bytes, hml, findClass_of_methodNamed Bd.named, hts⟩, hK, hE, fun q h => Or.inr h⟩
  exact b_isTooWide_0 X (rend_z (cy := cX12_isTooWide) X Bd.returns Bd.notSynchronized) (Nat.le_refl _) (Nat.le_refl _) h ⟨hP, hD0.self, va_S.rf⟩ (lv_sub hl [0, 1, 2] rfl)
theorem kc_isTooWide {r : Int32} {cc : ByteArray} {pc nL : Nat} {c0 : Cond} {rest : List Value} {l1 : Int32} {l2 : Int32} {u : RSt} (X : RC p s m args c cc nL c0 D kA V A) (hS : RS D kA Z A s u H locs) (h : F_isTooWide N l1 l2 u = some (r, w)) (hF : 2 + 1 ≤ R.frames) (hL : 8 + (3 + 11) + 44 ≤ R.locals) (hl : ls.size = nL) (hc : (rest.map fun v => v.category).sum ≤ 8) (hdg : decode cc pc = .ok (.invokevirtual 487, 3)) (kk : ∀ H locs, RS D kA Z A s w H locs → W p l e R s m args below meth c H locs 0 0 Q (F0 m (pc + 3) ls (.int r :: rest))) : W p l e R s m args below meth c H locs 0 0 Q (F0 m pc ls (.int l2 :: .int l1 :: .ref (Z 200) :: rest)) :=
  rcall_i (n := 2) X hS (k_isTooWide l D kA V Z N l1 l2 u H.size h) (gw_V gw_2496 gw_2498 gs_10_7 gw_16 gw_2499) (by decide +kernel) hF hL rfl hl hc rfl hdg kk
def B_strength_193 (N : Nat) (u : RSt) : Option (Int32 × RSt) := some (8, u)
set_option maxHeartbeats 4000000 in
theorem b_strength_193 {r : Int32} (X : RC p s m args c cX12_strength 1 (Cond.code yX12_strength cX12_strength 1 (some .int)) D kA V A) (hE : REi p l e R s m args below meth c cX12_strength D kA Z A Q r w) (hF : 0 ≤ R.frames) (hL : 0 ≤ R.locals)  {u : RSt} (h : B_strength_193 N u = some (r, w)) (hS : RS D kA Z A s u H locs) (hl : lv_has ls 1 []) : W p l e R s m args below meth c H locs 0 0 Q (F0 m 193 ls []) := by
  obtain ⟨⟨hx, hb, hml, hown, hts⟩, hK, hEV, hA⟩ := id X
  have hG : ∀ w ∈ GW, w.before args s = true := fun w h => hts w (List.mem_cons_of_mem _ h)
  unfold B_strength_193 at h
  refine lv_bipush (v := 8) hx hb dX12_strength_193 (by decide) ?_
  refine lv_goto (tgt := 284) hx hb dX12_strength_195 (by decide) ?_
  obtain ⟨rfl, rfl⟩ := so h
  exact hE _ _ _ _ hS dX12_strength_284
def B_strength_228 (N : Nat) (u : RSt) : Option (Int32 × RSt) := some (9, u)
set_option maxHeartbeats 4000000 in
theorem b_strength_228 {r : Int32} (X : RC p s m args c cX12_strength 1 (Cond.code yX12_strength cX12_strength 1 (some .int)) D kA V A) (hE : REi p l e R s m args below meth c cX12_strength D kA Z A Q r w) (hF : 0 ≤ R.frames) (hL : 0 ≤ R.locals)  {u : RSt} (h : B_strength_228 N u = some (r, w)) (hS : RS D kA Z A s u H locs) (hl : lv_has ls 1 []) : W p l e R s m args below meth c H locs 0 0 Q (F0 m 228 ls []) := by
  obtain ⟨⟨hx, hb, hml, hown, hts⟩, hK, hEV, hA⟩ := id X
  have hG : ∀ w ∈ GW, w.before args s = true := fun w h => hts w (List.mem_cons_of_mem _ h)
  unfold B_strength_228 at h
  refine lv_bipush (v := 9) hx hb dX12_strength_228 (by decide) ?_
  refine lv_goto (tgt := 284) hx hb dX12_strength_230 (by decide) ?_
  obtain ⟨rfl, rfl⟩ := so h
  exact hE _ _ _ _ hS dX12_strength_284
def B_strength_278 (N : Nat) (u : RSt) : Option (Int32 × RSt) := some (10, u)
set_option maxHeartbeats 4000000 in
theorem b_strength_278 {r : Int32} (X : RC p s m args c cX12_strength 1 (Cond.code yX12_strength cX12_strength 1 (some .int)) D kA V A) (hE : REi p l e R s m args below meth c cX12_strength D kA Z A Q r w) (hF : 0 ≤ R.frames) (hL : 0 ≤ R.locals)  {u : RSt} (h : B_strength_278 N u = some (r, w)) (hS : RS D kA Z A s u H locs) (hl : lv_has ls 1 []) : W p l e R s m args below meth c H locs 0 0 Q (F0 m 278 ls []) := by
  obtain ⟨⟨hx, hb, hml, hown, hts⟩, hK, hEV, hA⟩ := id X
  have hG : ∀ w ∈ GW, w.before args s = true := fun w h => hts w (List.mem_cons_of_mem _ h)
  unfold B_strength_278 at h
  refine lv_bipush (v := 10) hx hb dX12_strength_278 (by decide) ?_
  refine lv_goto (tgt := 284) hx hb dX12_strength_280 (by decide) ?_
  obtain ⟨rfl, rfl⟩ := so h
  exact hE _ _ _ _ hS dX12_strength_284
def B_strength_0 (N : Nat) (u : RSt) : Option (Int32 × RSt) := if (u.1 67) = (0 : Int32) then (rd (u.2.2.1 2) 1502 (u.1 65) fun v_2 => if v_2 = 215 then (some (1, u)) else (if v_2 = 216 then (some (2, u)) else (if v_2 = 217 then (some (6, u)) else (if v_2 = 218 then (some (6, u)) else (if v_2 = 219 then (some (7, u)) else (if v_2 = 220 then (some (7, u)) else (if v_2 = 235 then (some (3, u)) else (if v_2 = 236 then (some (4, u)) else (if v_2 = 237 then (some (5, u)) else (if v_2 = 238 then (some (7, u)) else (if v_2 = 239 then (some (7, u)) else (rd (u.2.2.1 2) 1502 (u.1 65) fun v_15 => if v_15 = (221 : Int32) then (B_strength_193 N u) else (rd (u.2.2.1 2) 1502 (u.1 65) fun v_18 => if v_18 = (222 : Int32) then (B_strength_193 N u) else (rd (u.2.2.1 2) 1502 (u.1 65) fun v_21 => if v_21 = (203 : Int32) then (B_strength_193 N u) else (rd (u.2.2.1 2) 1502 (u.1 65) fun v_24 => if v_24 = (240 : Int32) then (B_strength_228 N u) else (rd (u.2.2.1 2) 1502 (u.1 65) fun v_27 => if v_27 = (241 : Int32) then (B_strength_228 N u) else (rd (u.2.2.1 2) 1502 (u.1 65) fun v_30 => if v_30 = (242 : Int32) then (B_strength_278 N u) else (rd (u.2.2.1 2) 1502 (u.1 65) fun v_33 => if v_33 = (243 : Int32) then (B_strength_278 N u) else (rd (u.2.2.1 2) 1502 (u.1 65) fun v_36 => if v_36 = (244 : Int32) then (B_strength_278 N u) else (some (0, u))))))))))))))))))))) else (some (0, u))
set_option maxHeartbeats 4000000 in
theorem b_strength_0 {r : Int32} (X : RC p s m args c cX12_strength 1 (Cond.code yX12_strength cX12_strength 1 (some .int)) D kA V A) (hE : REi p l e R s m args below meth c cX12_strength D kA Z A Q r w) (hF : 0 ≤ R.frames) (hL : 0 ≤ R.locals)  {u : RSt} (h : B_strength_0 N u = some (r, w)) (hS : RS D kA Z A s u H locs) (hl : lv_has ls 1 [(0, .ref (Z 200))]) : W p l e R s m args below meth c H locs 0 0 Q (F0 m 0 ls []) := by
  obtain ⟨⟨hx, hb, hml, hown, hts⟩, hK, hEV, hA⟩ := id X
  have hG : ∀ w ∈ GW, w.before args s = true := fun w h => hts w (List.mem_cons_of_mem _ h)
  unfold B_strength_0 at h
  refine lv_aload_n hx hb dX12_strength_0 rfl (lv_at hl 0 rfl) ?_
  refine rg_67 X hS dX12_strength_1 ?_
  refine lv_if_eq (tgt := 9) hx hb dX12_strength_4 (by decide) (fun c_1 => ?_) (fun c_1 => ?_)
  · have h := ip (c_1) h
    refine lv_aload_n hx hb dX12_strength_9 rfl (lv_at hl 0 rfl) ?_
    refine rg_2 X hS dX12_strength_10 ?_
    refine lv_aload_n hx hb dX12_strength_13 rfl (lv_at hl 0 rfl) ?_
    refine rg_65 X hS dX12_strength_14 ?_
    obtain ⟨v_2, e_v_2, i_3, h⟩ := rd_of h
    refine ra_2 X hS i_3 e_v_2 dX12_strength_17 ?_
    by_cases e_4 : v_2 = 215
    · have h := ip e_4 h
      refine lv_tableIn (off := 114) (tgt := 132) hx hb dX12_strength_18 (by rw [e_4]; decide) (by rw [e_4]; decide) (by rw [e_4]; rfl) (by decide) ?_
      refine lv_iconst (v := 1) hx hb dX12_strength_132 (by decide) ?_
      obtain ⟨rfl, rfl⟩ := so h
      exact hE _ _ _ _ hS dX12_strength_133
    have h := im e_4 h
    by_cases e_5 : v_2 = 216
    · have h := ip e_5 h
      refine lv_tableIn (off := 116) (tgt := 134) hx hb dX12_strength_18 (by rw [e_5]; decide) (by rw [e_5]; decide) (by rw [e_5]; rfl) (by decide) ?_
      refine lv_iconst (v := 2) hx hb dX12_strength_134 (by decide) ?_
      obtain ⟨rfl, rfl⟩ := so h
      exact hE _ _ _ _ hS dX12_strength_135
    have h := im e_5 h
    by_cases e_6 : v_2 = 217
    · have h := ip e_6 h
      refine lv_tableIn (off := 124) (tgt := 142) hx hb dX12_strength_18 (by rw [e_6]; decide) (by rw [e_6]; decide) (by rw [e_6]; rfl) (by decide) ?_
      refine lv_bipush (v := 6) hx hb dX12_strength_142 (by decide) ?_
      obtain ⟨rfl, rfl⟩ := so h
      exact hE _ _ _ _ hS dX12_strength_144
    have h := im e_6 h
    by_cases e_7 : v_2 = 218
    · have h := ip e_7 h
      refine lv_tableIn (off := 124) (tgt := 142) hx hb dX12_strength_18 (by rw [e_7]; decide) (by rw [e_7]; decide) (by rw [e_7]; rfl) (by decide) ?_
      refine lv_bipush (v := 6) hx hb dX12_strength_142 (by decide) ?_
      obtain ⟨rfl, rfl⟩ := so h
      exact hE _ _ _ _ hS dX12_strength_144
    have h := im e_7 h
    by_cases e_8 : v_2 = 219
    · have h := ip e_8 h
      refine lv_tableIn (off := 127) (tgt := 145) hx hb dX12_strength_18 (by rw [e_8]; decide) (by rw [e_8]; decide) (by rw [e_8]; rfl) (by decide) ?_
      refine lv_bipush (v := 7) hx hb dX12_strength_145 (by decide) ?_
      obtain ⟨rfl, rfl⟩ := so h
      exact hE _ _ _ _ hS dX12_strength_147
    have h := im e_8 h
    by_cases e_9 : v_2 = 220
    · have h := ip e_9 h
      refine lv_tableIn (off := 127) (tgt := 145) hx hb dX12_strength_18 (by rw [e_9]; decide) (by rw [e_9]; decide) (by rw [e_9]; rfl) (by decide) ?_
      refine lv_bipush (v := 7) hx hb dX12_strength_145 (by decide) ?_
      obtain ⟨rfl, rfl⟩ := so h
      exact hE _ _ _ _ hS dX12_strength_147
    have h := im e_9 h
    by_cases e_10 : v_2 = 235
    · have h := ip e_10 h
      refine lv_tableIn (off := 118) (tgt := 136) hx hb dX12_strength_18 (by rw [e_10]; decide) (by rw [e_10]; decide) (by rw [e_10]; rfl) (by decide) ?_
      refine lv_iconst (v := 3) hx hb dX12_strength_136 (by decide) ?_
      obtain ⟨rfl, rfl⟩ := so h
      exact hE _ _ _ _ hS dX12_strength_137
    have h := im e_10 h
    by_cases e_11 : v_2 = 236
    · have h := ip e_11 h
      refine lv_tableIn (off := 120) (tgt := 138) hx hb dX12_strength_18 (by rw [e_11]; decide) (by rw [e_11]; decide) (by rw [e_11]; rfl) (by decide) ?_
      refine lv_iconst (v := 4) hx hb dX12_strength_138 (by decide) ?_
      obtain ⟨rfl, rfl⟩ := so h
      exact hE _ _ _ _ hS dX12_strength_139
    have h := im e_11 h
    by_cases e_12 : v_2 = 237
    · have h := ip e_12 h
      refine lv_tableIn (off := 122) (tgt := 140) hx hb dX12_strength_18 (by rw [e_12]; decide) (by rw [e_12]; decide) (by rw [e_12]; rfl) (by decide) ?_
      refine lv_iconst (v := 5) hx hb dX12_strength_140 (by decide) ?_
      obtain ⟨rfl, rfl⟩ := so h
      exact hE _ _ _ _ hS dX12_strength_141
    have h := im e_12 h
    by_cases e_13 : v_2 = 238
    · have h := ip e_13 h
      refine lv_tableIn (off := 127) (tgt := 145) hx hb dX12_strength_18 (by rw [e_13]; decide) (by rw [e_13]; decide) (by rw [e_13]; rfl) (by decide) ?_
      refine lv_bipush (v := 7) hx hb dX12_strength_145 (by decide) ?_
      obtain ⟨rfl, rfl⟩ := so h
      exact hE _ _ _ _ hS dX12_strength_147
    have h := im e_13 h
    by_cases e_14 : v_2 = 239
    · have h := ip e_14 h
      refine lv_tableIn (off := 127) (tgt := 145) hx hb dX12_strength_18 (by rw [e_14]; decide) (by rw [e_14]; decide) (by rw [e_14]; rfl) (by decide) ?_
      refine lv_bipush (v := 7) hx hb dX12_strength_145 (by decide) ?_
      obtain ⟨rfl, rfl⟩ := so h
      exact hE _ _ _ _ hS dX12_strength_147
    have h := im e_14 h
    refine lv_tableDef (tgt := 148) hx hb dX12_strength_18 (by decide) (fun off h1 h2 ho => by
      have hI : (v_2).toInt = 215 ∨ (v_2).toInt = 216 ∨ (v_2).toInt = 217 ∨ (v_2).toInt = 218 ∨ (v_2).toInt = 219 ∨ (v_2).toInt = 220 ∨ (v_2).toInt = 221 ∨ (v_2).toInt = 222 ∨ (v_2).toInt = 223 ∨ (v_2).toInt = 224 ∨ (v_2).toInt = 225 ∨ (v_2).toInt = 226 ∨ (v_2).toInt = 227 ∨ (v_2).toInt = 228 ∨ (v_2).toInt = 229 ∨ (v_2).toInt = 230 ∨ (v_2).toInt = 231 ∨ (v_2).toInt = 232 ∨ (v_2).toInt = 233 ∨ (v_2).toInt = 234 ∨ (v_2).toInt = 235 ∨ (v_2).toInt = 236 ∨ (v_2).toInt = 237 ∨ (v_2).toInt = 238 ∨ (v_2).toInt = 239 := by omega
      rcases hI with q | q | q | q | q | q | q | q | q | q | q | q | q | q | q | q | q | q | q | q | q | q | q | q | q
      · exact absurd (Int32.toInt_inj.mp (q.trans (by decide))) e_4
      · exact absurd (Int32.toInt_inj.mp (q.trans (by decide))) e_5
      · exact absurd (Int32.toInt_inj.mp (q.trans (by decide))) e_6
      · exact absurd (Int32.toInt_inj.mp (q.trans (by decide))) e_7
      · exact absurd (Int32.toInt_inj.mp (q.trans (by decide))) e_8
      · exact absurd (Int32.toInt_inj.mp (q.trans (by decide))) e_9
      · rw [q] at ho; simpa using ho
      · rw [q] at ho; simpa using ho
      · rw [q] at ho; simpa using ho
      · rw [q] at ho; simpa using ho
      · rw [q] at ho; simpa using ho
      · rw [q] at ho; simpa using ho
      · rw [q] at ho; simpa using ho
      · rw [q] at ho; simpa using ho
      · rw [q] at ho; simpa using ho
      · rw [q] at ho; simpa using ho
      · rw [q] at ho; simpa using ho
      · rw [q] at ho; simpa using ho
      · rw [q] at ho; simpa using ho
      · rw [q] at ho; simpa using ho
      · exact absurd (Int32.toInt_inj.mp (q.trans (by decide))) e_10
      · exact absurd (Int32.toInt_inj.mp (q.trans (by decide))) e_11
      · exact absurd (Int32.toInt_inj.mp (q.trans (by decide))) e_12
      · exact absurd (Int32.toInt_inj.mp (q.trans (by decide))) e_13
      · exact absurd (Int32.toInt_inj.mp (q.trans (by decide))) e_14) (by decide) ?_
    refine lv_aload_n hx hb dX12_strength_148 rfl (lv_at hl 0 rfl) ?_
    refine rg_2 X hS dX12_strength_149 ?_
    refine lv_aload_n hx hb dX12_strength_152 rfl (lv_at hl 0 rfl) ?_
    refine rg_65 X hS dX12_strength_153 ?_
    obtain ⟨v_15, e_v_15, i_16, h⟩ := rd_of h
    refine ra_2 X hS i_16 e_v_15 dX12_strength_156 ?_
    refine lv_sipush (v := 221) hx hb dX12_strength_157 (by decide) ?_
    refine lv_icmp_eq (tgt := 193) hx hb dX12_strength_160 (by decide) (fun c_17 => ?_) (fun c_17 => ?_)
    · have h := ip (c_17) h
      exact b_strength_193 X hE hF hL  h hS (lv_sub hl [] rfl)
    · have h := im (c_17) h
      refine lv_aload_n hx hb dX12_strength_163 rfl (lv_at hl 0 rfl) ?_
      refine rg_2 X hS dX12_strength_164 ?_
      refine lv_aload_n hx hb dX12_strength_167 rfl (lv_at hl 0 rfl) ?_
      refine rg_65 X hS dX12_strength_168 ?_
      obtain ⟨v_18, e_v_18, i_19, h⟩ := rd_of h
      refine ra_2 X hS i_19 e_v_18 dX12_strength_171 ?_
      refine lv_sipush (v := 222) hx hb dX12_strength_172 (by decide) ?_
      refine lv_icmp_eq (tgt := 193) hx hb dX12_strength_175 (by decide) (fun c_20 => ?_) (fun c_20 => ?_)
      · have h := ip (c_20) h
        exact b_strength_193 X hE hF hL  h hS (lv_sub hl [] rfl)
      · have h := im (c_20) h
        refine lv_aload_n hx hb dX12_strength_178 rfl (lv_at hl 0 rfl) ?_
        refine rg_2 X hS dX12_strength_179 ?_
        refine lv_aload_n hx hb dX12_strength_182 rfl (lv_at hl 0 rfl) ?_
        refine rg_65 X hS dX12_strength_183 ?_
        obtain ⟨v_21, e_v_21, i_22, h⟩ := rd_of h
        refine ra_2 X hS i_22 e_v_21 dX12_strength_186 ?_
        refine lv_sipush (v := 203) hx hb dX12_strength_187 (by decide) ?_
        refine lv_icmp_ne (tgt := 198) hx hb dX12_strength_190 (by decide) (fun c_23 => ?_) (fun c_23 => ?_)
        · have h := im (c_23) h
          refine lv_aload_n hx hb dX12_strength_198 rfl (lv_at hl 0 rfl) ?_
          refine rg_2 X hS dX12_strength_199 ?_
          refine lv_aload_n hx hb dX12_strength_202 rfl (lv_at hl 0 rfl) ?_
          refine rg_65 X hS dX12_strength_203 ?_
          obtain ⟨v_24, e_v_24, i_25, h⟩ := rd_of h
          refine ra_2 X hS i_25 e_v_24 dX12_strength_206 ?_
          refine lv_sipush (v := 240) hx hb dX12_strength_207 (by decide) ?_
          refine lv_icmp_eq (tgt := 228) hx hb dX12_strength_210 (by decide) (fun c_26 => ?_) (fun c_26 => ?_)
          · have h := ip (c_26) h
            exact b_strength_228 X hE hF hL  h hS (lv_sub hl [] rfl)
          · have h := im (c_26) h
            refine lv_aload_n hx hb dX12_strength_213 rfl (lv_at hl 0 rfl) ?_
            refine rg_2 X hS dX12_strength_214 ?_
            refine lv_aload_n hx hb dX12_strength_217 rfl (lv_at hl 0 rfl) ?_
            refine rg_65 X hS dX12_strength_218 ?_
            obtain ⟨v_27, e_v_27, i_28, h⟩ := rd_of h
            refine ra_2 X hS i_28 e_v_27 dX12_strength_221 ?_
            refine lv_sipush (v := 241) hx hb dX12_strength_222 (by decide) ?_
            refine lv_icmp_ne (tgt := 233) hx hb dX12_strength_225 (by decide) (fun c_29 => ?_) (fun c_29 => ?_)
            · have h := im (c_29) h
              refine lv_aload_n hx hb dX12_strength_233 rfl (lv_at hl 0 rfl) ?_
              refine rg_2 X hS dX12_strength_234 ?_
              refine lv_aload_n hx hb dX12_strength_237 rfl (lv_at hl 0 rfl) ?_
              refine rg_65 X hS dX12_strength_238 ?_
              obtain ⟨v_30, e_v_30, i_31, h⟩ := rd_of h
              refine ra_2 X hS i_31 e_v_30 dX12_strength_241 ?_
              refine lv_sipush (v := 242) hx hb dX12_strength_242 (by decide) ?_
              refine lv_icmp_eq (tgt := 278) hx hb dX12_strength_245 (by decide) (fun c_32 => ?_) (fun c_32 => ?_)
              · have h := ip (c_32) h
                exact b_strength_278 X hE hF hL  h hS (lv_sub hl [] rfl)
              · have h := im (c_32) h
                refine lv_aload_n hx hb dX12_strength_248 rfl (lv_at hl 0 rfl) ?_
                refine rg_2 X hS dX12_strength_249 ?_
                refine lv_aload_n hx hb dX12_strength_252 rfl (lv_at hl 0 rfl) ?_
                refine rg_65 X hS dX12_strength_253 ?_
                obtain ⟨v_33, e_v_33, i_34, h⟩ := rd_of h
                refine ra_2 X hS i_34 e_v_33 dX12_strength_256 ?_
                refine lv_sipush (v := 243) hx hb dX12_strength_257 (by decide) ?_
                refine lv_icmp_eq (tgt := 278) hx hb dX12_strength_260 (by decide) (fun c_35 => ?_) (fun c_35 => ?_)
                · have h := ip (c_35) h
                  exact b_strength_278 X hE hF hL  h hS (lv_sub hl [] rfl)
                · have h := im (c_35) h
                  refine lv_aload_n hx hb dX12_strength_263 rfl (lv_at hl 0 rfl) ?_
                  refine rg_2 X hS dX12_strength_264 ?_
                  refine lv_aload_n hx hb dX12_strength_267 rfl (lv_at hl 0 rfl) ?_
                  refine rg_65 X hS dX12_strength_268 ?_
                  obtain ⟨v_36, e_v_36, i_37, h⟩ := rd_of h
                  refine ra_2 X hS i_37 e_v_36 dX12_strength_271 ?_
                  refine lv_sipush (v := 244) hx hb dX12_strength_272 (by decide) ?_
                  refine lv_icmp_ne (tgt := 283) hx hb dX12_strength_275 (by decide) (fun c_38 => ?_) (fun c_38 => ?_)
                  · have h := im (c_38) h
                    refine lv_iconst (v := 0) hx hb dX12_strength_283 (by decide) ?_
                    obtain ⟨rfl, rfl⟩ := so h
                    exact hE _ _ _ _ hS dX12_strength_284
                  · have h := ip (c_38) h
                    exact b_strength_278 X hE hF hL  h hS (lv_sub hl [] rfl)
            · have h := ip (c_29) h
              exact b_strength_228 X hE hF hL  h hS (lv_sub hl [] rfl)
        · have h := ip (c_23) h
          exact b_strength_193 X hE hF hL  h hS (lv_sub hl [] rfl)
  · have h := im (c_1) h
    refine lv_iconst (v := 0) hx hb dX12_strength_7 (by decide) ?_
    obtain ⟨rfl, rfl⟩ := so h
    exact hE _ _ _ _ hS dX12_strength_8
def F_strength (N : Nat) (u : RSt) : Option (Int32 × RSt) := B_strength_0 N u
set_option maxHeartbeats 4000000 in
theorem k_strength (l : Launch) (D : va_G) (kA : Nat → ClassId) (V Z : Nat → Nat) (N : Nat) (u : RSt) (sz : Nat) {r : Int32} {w : RSt} (h : F_strength N u = some (r, w)) : Met l yX12_strength (Cond.code yX12_strength cX12_strength 1 (some .int) :: GW) { frames := 0, cells := 0, slots := 0, locals := 0 } (rPc D kA V Z [] u sz) (rQi D kA Z u sz r w) 0 0 (va_A (RW kA Z u) sz) := by
  refine Met.ofW (cc := cX12_strength) (maxL := 1) (ret := (some .int)) (by decide) rfl ?_
  intro p e s m args below meth c s₁ Bd hml hv
  obtain ⟨rfl, hsz, hP, hK, hD0, hE⟩ := hv
  have hts := atoms_spec (ws := Cond.code yX12_strength cX12_strength 1 (some .int) :: GW) Bd.pre
  have hl := lv_entry (.ref (Z 200) :: []) (n := 1) (Nat.le_of_ble_eq_true rfl)
  rw [lg_entry_eq]
  generalize (lg_sl (.ref (Z 200) :: []) ++ List.replicate (1 - (lg_sl (.ref (Z 200) :: [])).length) Slot.unset).toArray = ls at hl ⊢
  have hl : lv_has ls 1 [(0, .ref (Z 200))] := hl
  subst hsz
  have X : RC p s m (.ref (Z 200) :: []).toArray c cX12_strength 1 (Cond.code yX12_strength cX12_strength 1 (some .int)) D kA V (va_A (RW kA Z u) s.heap.size) := ⟨⟨Bd.exec, Bd.bytes, hml, findClass_of_methodNamed Bd.named, hts⟩, hK, hE, fun q h => Or.inr h⟩
  exact b_strength_0 X (rend_i (cy := cX12_strength) X Bd.returns Bd.notSynchronized) (Nat.le_refl _) (Nat.le_refl _) h ⟨hP, hD0.self, va_S.rf⟩ (lv_sub hl [0] rfl)
theorem kc_strength {r : Int32} {cc : ByteArray} {pc nL : Nat} {c0 : Cond} {rest : List Value} {u : RSt} (X : RC p s m args c cc nL c0 D kA V A) (hS : RS D kA Z A s u H locs) (h : F_strength N u = some (r, w)) (hF : 0 + 1 ≤ R.frames) (hL : 8 + (1 + 11) + 0 ≤ R.locals) (hl : ls.size = nL) (hc : (rest.map fun v => v.category).sum ≤ 8) (hdg : decode cc pc = .ok (.invokevirtual 453, 3)) (kk : ∀ H locs, RS D kA Z A s w H locs → W p l e R s m args below meth c H locs 0 0 Q (F0 m (pc + 3) ls (.int r :: rest))) : W p l e R s m args below meth c H locs 0 0 Q (F0 m pc ls (.ref (Z 200) :: rest)) :=
  rcall_i (n := 0) X hS (k_strength l D kA V Z N  u H.size h) (gw_V gw_2512 gw_2514 gs_10_11 gw_16 gw_2515) (by decide +kernel) hF hL rfl hl hc rfl hdg kk
def B_joined_139 (N : Nat) (l6 : Int32) (s0 : Int32) (u : RSt) : Option (Int32 × RSt) := if l6 = (0 : Int32) then (some (3, u)) else (if s0 = (0 : Int32) then (some (4, u)) else (some (3, u)))
set_option maxHeartbeats 4000000 in
theorem b_joined_139 {r : Int32} (X : RC p s m args c cX12_joined 9 (Cond.code yX12_joined cX12_joined 9 (some .int)) D kA V A) (hE : REi p l e R s m args below meth c cX12_joined D kA Z A Q r w) (hF : 1 ≤ R.frames) (hL : 24 ≤ R.locals) {l6 : Int32} {s0 : Int32}  {u : RSt} (h : B_joined_139 N l6 s0 u = some (r, w)) (hS : RS D kA Z A s u H locs) (hl : lv_has ls 9 [(6, .int l6)]) : W p l e R s m args below meth c H locs 0 0 Q (F0 m 139 ls [.int s0]) := by
  obtain ⟨⟨hx, hb, hml, hown, hts⟩, hK, hEV, hA⟩ := id X
  have hG : ∀ w ∈ GW, w.before args s = true := fun w h => hts w (List.mem_cons_of_mem _ h)
  unfold B_joined_139 at h
  refine lv_istore (lv' := [(8, .int s0), (6, .int l6)]) hx hb dX12_joined_139 hl (by decide) rfl (fun ls hl => ?_)
  refine lv_iload hx hb dX12_joined_141 (lv_at hl 1 rfl) ?_
  refine lv_if_eq (tgt := 155) hx hb dX12_joined_143 (by decide) (fun c_1 => ?_) (fun c_1 => ?_)
  · have h := ip (c_1) h
    refine lv_iconst (v := 3) hx hb dX12_joined_155 (by decide) ?_
    obtain ⟨rfl, rfl⟩ := so h
    exact hE _ _ _ _ hS dX12_joined_156
  · have h := im (c_1) h
    refine lv_iload hx hb dX12_joined_146 (lv_at hl 0 rfl) ?_
    refine lv_if_ne (tgt := 155) hx hb dX12_joined_148 (by decide) (fun c_2 => ?_) (fun c_2 => ?_)
    · have h := im (c_2) h
      refine lv_iconst (v := 3) hx hb dX12_joined_155 (by decide) ?_
      obtain ⟨rfl, rfl⟩ := so h
      exact hE _ _ _ _ hS dX12_joined_156
    · have h := ip (c_2) h
      refine lv_iconst (v := 4) hx hb dX12_joined_151 (by decide) ?_
      refine lv_goto (tgt := 156) hx hb dX12_joined_152 (by decide) ?_
      obtain ⟨rfl, rfl⟩ := so h
      exact hE _ _ _ _ hS dX12_joined_156
def B_joined_134 (N : Nat) (l6 : Int32) (u : RSt) : Option (Int32 × RSt) := B_joined_139 N l6 1 u
set_option maxHeartbeats 4000000 in
theorem b_joined_134 {r : Int32} (X : RC p s m args c cX12_joined 9 (Cond.code yX12_joined cX12_joined 9 (some .int)) D kA V A) (hE : REi p l e R s m args below meth c cX12_joined D kA Z A Q r w) (hF : 1 ≤ R.frames) (hL : 24 ≤ R.locals) {l6 : Int32}  {u : RSt} (h : B_joined_134 N l6 u = some (r, w)) (hS : RS D kA Z A s u H locs) (hl : lv_has ls 9 [(6, .int l6)]) : W p l e R s m args below meth c H locs 0 0 Q (F0 m 134 ls []) := by
  obtain ⟨⟨hx, hb, hml, hown, hts⟩, hK, hEV, hA⟩ := id X
  have hG : ∀ w ∈ GW, w.before args s = true := fun w h => hts w (List.mem_cons_of_mem _ h)
  unfold B_joined_134 at h
  refine lv_iconst (v := 1) hx hb dX12_joined_134 (by decide) ?_
  refine lv_goto (tgt := 139) hx hb dX12_joined_135 (by decide) ?_
  exact b_joined_139 X hE hF hL  h hS (lv_sub hl [0] rfl)
def B_joined_92 (N : Nat) (l1 : Int32) (l6 : Int32) (u : RSt) : Option (Int32 × RSt) := if l1 = (217 : Int32) then (B_joined_134 N l6 u) else (if l1 = (218 : Int32) then (B_joined_134 N l6 u) else (if l1 = (238 : Int32) then (B_joined_134 N l6 u) else (if l1 = (219 : Int32) then (B_joined_134 N l6 u) else (if l1 = (239 : Int32) then (B_joined_134 N l6 u) else (if l1 = (220 : Int32) then (B_joined_134 N l6 u) else (B_joined_139 N l6 0 u))))))
set_option maxHeartbeats 4000000 in
theorem b_joined_92 {r : Int32} (X : RC p s m args c cX12_joined 9 (Cond.code yX12_joined cX12_joined 9 (some .int)) D kA V A) (hE : REi p l e R s m args below meth c cX12_joined D kA Z A Q r w) (hF : 1 ≤ R.frames) (hL : 24 ≤ R.locals) {l1 : Int32} {l6 : Int32}  {u : RSt} (h : B_joined_92 N l1 l6 u = some (r, w)) (hS : RS D kA Z A s u H locs) (hl : lv_has ls 9 [(1, .int l1), (6, .int l6)]) : W p l e R s m args below meth c H locs 0 0 Q (F0 m 92 ls []) := by
  obtain ⟨⟨hx, hb, hml, hown, hts⟩, hK, hEV, hA⟩ := id X
  have hG : ∀ w ∈ GW, w.before args s = true := fun w h => hts w (List.mem_cons_of_mem _ h)
  unfold B_joined_92 at h
  refine lv_iload_n hx hb dX12_joined_92 rfl (lv_at hl 0 rfl) ?_
  refine lv_sipush (v := 217) hx hb dX12_joined_93 (by decide) ?_
  refine lv_icmp_eq (tgt := 134) hx hb dX12_joined_96 (by decide) (fun c_3 => ?_) (fun c_3 => ?_)
  · have h := ip (c_3) h
    exact b_joined_134 X hE hF hL  h hS (lv_sub hl [1] rfl)
  · have h := im (c_3) h
    refine lv_iload_n hx hb dX12_joined_99 rfl (lv_at hl 0 rfl) ?_
    refine lv_sipush (v := 218) hx hb dX12_joined_100 (by decide) ?_
    refine lv_icmp_eq (tgt := 134) hx hb dX12_joined_103 (by decide) (fun c_4 => ?_) (fun c_4 => ?_)
    · have h := ip (c_4) h
      exact b_joined_134 X hE hF hL  h hS (lv_sub hl [1] rfl)
    · have h := im (c_4) h
      refine lv_iload_n hx hb dX12_joined_106 rfl (lv_at hl 0 rfl) ?_
      refine lv_sipush (v := 238) hx hb dX12_joined_107 (by decide) ?_
      refine lv_icmp_eq (tgt := 134) hx hb dX12_joined_110 (by decide) (fun c_5 => ?_) (fun c_5 => ?_)
      · have h := ip (c_5) h
        exact b_joined_134 X hE hF hL  h hS (lv_sub hl [1] rfl)
      · have h := im (c_5) h
        refine lv_iload_n hx hb dX12_joined_113 rfl (lv_at hl 0 rfl) ?_
        refine lv_sipush (v := 219) hx hb dX12_joined_114 (by decide) ?_
        refine lv_icmp_eq (tgt := 134) hx hb dX12_joined_117 (by decide) (fun c_6 => ?_) (fun c_6 => ?_)
        · have h := ip (c_6) h
          exact b_joined_134 X hE hF hL  h hS (lv_sub hl [1] rfl)
        · have h := im (c_6) h
          refine lv_iload_n hx hb dX12_joined_120 rfl (lv_at hl 0 rfl) ?_
          refine lv_sipush (v := 239) hx hb dX12_joined_121 (by decide) ?_
          refine lv_icmp_eq (tgt := 134) hx hb dX12_joined_124 (by decide) (fun c_7 => ?_) (fun c_7 => ?_)
          · have h := ip (c_7) h
            exact b_joined_134 X hE hF hL  h hS (lv_sub hl [1] rfl)
          · have h := im (c_7) h
            refine lv_iload_n hx hb dX12_joined_127 rfl (lv_at hl 0 rfl) ?_
            refine lv_sipush (v := 220) hx hb dX12_joined_128 (by decide) ?_
            refine lv_icmp_ne (tgt := 138) hx hb dX12_joined_131 (by decide) (fun c_8 => ?_) (fun c_8 => ?_)
            · have h := im (c_8) h
              refine lv_iconst (v := 0) hx hb dX12_joined_138 (by decide) ?_
              exact b_joined_139 X hE hF hL  h hS (lv_sub hl [1] rfl)
            · have h := ip (c_8) h
              exact b_joined_134 X hE hF hL  h hS (lv_sub hl [1] rfl)
def B_joined_91 (N : Nat) (l1 : Int32) (l6 : Int32) (s1 : Int32) (s2 : Int64) (u : RSt) : Option (Int32 × RSt) := wr 16000 s1 (sB u 52 s1.toNatClampNeg s2) fun u_9 => B_joined_92 N l1 l6 u_9
set_option maxHeartbeats 4000000 in
theorem b_joined_91 {r : Int32} (X : RC p s m args c cX12_joined 9 (Cond.code yX12_joined cX12_joined 9 (some .int)) D kA V A) (hE : REi p l e R s m args below meth c cX12_joined D kA Z A Q r w) (hF : 1 ≤ R.frames) (hL : 24 ≤ R.locals) {l1 : Int32} {l6 : Int32} {s1 : Int32} {s2 : Int64}  {u : RSt} (h : B_joined_91 N l1 l6 s1 s2 u = some (r, w)) (hS : RS D kA Z A s u H locs) (hl : lv_has ls 9 [(1, .int l1), (6, .int l6)]) : W p l e R s m args below meth c H locs 0 0 Q (F0 m 91 ls [.long s2, .int s1, .ref (Z 52)]) := by
  obtain ⟨⟨hx, hb, hml, hown, hts⟩, hK, hEV, hA⟩ := id X
  have hG : ∀ w ∈ GW, w.before args s = true := fun w h => hts w (List.mem_cons_of_mem _ h)
  unfold B_joined_91 at h
  obtain ⟨u_9, e_u_9, i_10, h⟩ := wr_of h
  refine rs_52 X hS i_10 e_u_9 dX12_joined_91 (fun H locs hS => ?_)
  exact b_joined_92 X hE hF hL  h hS (lv_sub hl [0, 1] rfl)
def B_joined_49 (N : Nat) (l1 : Int32) (l2 : Int32) (s0 : Int32) (u : RSt) : Option (Int32 × RSt) := bn (F_emit N 21 l1 l2 u) fun r_12 u_11 => if (u_11.1 69) = (0 : Int32) then (B_joined_92 N l1 s0 u_11) else (if (u_11.1 67) = (0 : Int32) then (if s0 = (0 : Int32) then (B_joined_91 N l1 s0 r_12 0 u_11) else (B_joined_91 N l1 s0 r_12 1 u_11)) else (B_joined_92 N l1 s0 u_11))
set_option maxHeartbeats 4000000 in
theorem b_joined_49 {r : Int32} (X : RC p s m args c cX12_joined 9 (Cond.code yX12_joined cX12_joined 9 (some .int)) D kA V A) (hE : REi p l e R s m args below meth c cX12_joined D kA Z A Q r w) (hF : 1 ≤ R.frames) (hL : 24 ≤ R.locals) {l1 : Int32} {l2 : Int32} {s0 : Int32}  {u : RSt} (h : B_joined_49 N l1 l2 s0 u = some (r, w)) (hS : RS D kA Z A s u H locs) (hl : lv_has ls 9 [(0, .ref (Z 200)), (1, .int l1), (2, .int l2)]) : W p l e R s m args below meth c H locs 0 0 Q (F0 m 49 ls [.int s0]) := by
  obtain ⟨⟨hx, hb, hml, hown, hts⟩, hK, hEV, hA⟩ := id X
  have hG : ∀ w ∈ GW, w.before args s = true := fun w h => hts w (List.mem_cons_of_mem _ h)
  unfold B_joined_49 at h
  refine lv_istore (lv' := [(6, .int s0), (0, .ref (Z 200)), (1, .int l1), (2, .int l2)]) hx hb dX12_joined_49 hl (by decide) rfl (fun ls hl => ?_)
  refine lv_aload_n hx hb dX12_joined_51 rfl (lv_at hl 1 rfl) ?_
  refine lv_bipush (v := 21) hx hb dX12_joined_52 (by decide) ?_
  refine lv_iload_n hx hb dX12_joined_54 rfl (lv_at hl 2 rfl) ?_
  refine lv_iload_n hx hb dX12_joined_55 rfl (lv_at hl 3 rfl) ?_
  obtain ⟨r_12, u_11, h_u_11, h⟩ := bn_of h
  refine kc_emit X hS h_u_11 (Nat.le_trans (Nat.le_of_ble_eq_true rfl) hF) (Nat.le_trans (Nat.le_of_ble_eq_true rfl) hL) hl.1 (Nat.le_of_ble_eq_true rfl) dX12_joined_56 (fun H locs hS => ?_)
  refine lv_istore (lv' := [(7, .int r_12), (6, .int s0), (0, .ref (Z 200)), (1, .int l1), (2, .int l2)]) hx hb dX12_joined_59 hl (by decide) rfl (fun ls hl => ?_)
  refine lv_aload_n hx hb dX12_joined_61 rfl (lv_at hl 2 rfl) ?_
  refine rg_69 X hS dX12_joined_62 ?_
  refine lv_if_eq (tgt := 92) hx hb dX12_joined_65 (by decide) (fun c_13 => ?_) (fun c_13 => ?_)
  · have h := ip (c_13) h
    exact b_joined_92 X hE hF hL  h hS (lv_sub hl [3, 1] rfl)
  · have h := im (c_13) h
    refine lv_aload_n hx hb dX12_joined_68 rfl (lv_at hl 2 rfl) ?_
    refine rg_67 X hS dX12_joined_69 ?_
    refine lv_if_ne (tgt := 92) hx hb dX12_joined_72 (by decide) (fun c_14 => ?_) (fun c_14 => ?_)
    · have h := im (c_14) h
      exact b_joined_92 X hE hF hL  h hS (lv_sub hl [3, 1] rfl)
    · have h := ip (c_14) h
      refine lv_aload_n hx hb dX12_joined_75 rfl (lv_at hl 2 rfl) ?_
      refine rg_52 X hS dX12_joined_76 ?_
      refine lv_iload hx hb dX12_joined_79 (lv_at hl 0 rfl) ?_
      refine lv_iload hx hb dX12_joined_81 (lv_at hl 1 rfl) ?_
      refine lv_if_eq (tgt := 90) hx hb dX12_joined_83 (by decide) (fun c_15 => ?_) (fun c_15 => ?_)
      · have h := ip (c_15) h
        refine lv_lconst (v := 0) hx hb dX12_joined_90 (by decide) ?_
        exact b_joined_91 X hE hF hL  h hS (lv_sub hl [3, 1] rfl)
      · have h := im (c_15) h
        refine lv_lconst (v := 1) hx hb dX12_joined_86 (by decide) ?_
        refine lv_goto (tgt := 91) hx hb dX12_joined_87 (by decide) ?_
        exact b_joined_91 X hE hF hL  h hS (lv_sub hl [3, 1] rfl)
def B_joined_44 (N : Nat) (l1 : Int32) (l2 : Int32) (u : RSt) : Option (Int32 × RSt) := B_joined_49 N l1 l2 1 u
set_option maxHeartbeats 4000000 in
theorem b_joined_44 {r : Int32} (X : RC p s m args c cX12_joined 9 (Cond.code yX12_joined cX12_joined 9 (some .int)) D kA V A) (hE : REi p l e R s m args below meth c cX12_joined D kA Z A Q r w) (hF : 1 ≤ R.frames) (hL : 24 ≤ R.locals) {l1 : Int32} {l2 : Int32}  {u : RSt} (h : B_joined_44 N l1 l2 u = some (r, w)) (hS : RS D kA Z A s u H locs) (hl : lv_has ls 9 [(0, .ref (Z 200)), (1, .int l1), (2, .int l2)]) : W p l e R s m args below meth c H locs 0 0 Q (F0 m 44 ls []) := by
  obtain ⟨⟨hx, hb, hml, hown, hts⟩, hK, hEV, hA⟩ := id X
  have hG : ∀ w ∈ GW, w.before args s = true := fun w h => hts w (List.mem_cons_of_mem _ h)
  unfold B_joined_44 at h
  refine lv_iconst (v := 1) hx hb dX12_joined_44 (by decide) ?_
  refine lv_goto (tgt := 49) hx hb dX12_joined_45 (by decide) ?_
  exact b_joined_49 X hE hF hL  h hS (lv_sub hl [0, 1, 2] rfl)
def B_joined_48 (N : Nat) (l1 : Int32) (l2 : Int32) (u : RSt) : Option (Int32 × RSt) := B_joined_49 N l1 l2 0 u
set_option maxHeartbeats 4000000 in
theorem b_joined_48 {r : Int32} (X : RC p s m args c cX12_joined 9 (Cond.code yX12_joined cX12_joined 9 (some .int)) D kA V A) (hE : REi p l e R s m args below meth c cX12_joined D kA Z A Q r w) (hF : 1 ≤ R.frames) (hL : 24 ≤ R.locals) {l1 : Int32} {l2 : Int32}  {u : RSt} (h : B_joined_48 N l1 l2 u = some (r, w)) (hS : RS D kA Z A s u H locs) (hl : lv_has ls 9 [(0, .ref (Z 200)), (1, .int l1), (2, .int l2)]) : W p l e R s m args below meth c H locs 0 0 Q (F0 m 48 ls []) := by
  obtain ⟨⟨hx, hb, hml, hown, hts⟩, hK, hEV, hA⟩ := id X
  have hG : ∀ w ∈ GW, w.before args s = true := fun w h => hts w (List.mem_cons_of_mem _ h)
  unfold B_joined_48 at h
  refine lv_iconst (v := 0) hx hb dX12_joined_48 (by decide) ?_
  exact b_joined_49 X hE hF hL  h hS (lv_sub hl [0, 1, 2] rfl)
def B_joined_26 (N : Nat) (l1 : Int32) (l2 : Int32) (l3 : Int32) (l4 : Int32) (s0 : Int32) (u : RSt) : Option (Int32 × RSt) := if l3 = (4 : Int32) then (B_joined_44 N l1 l2 u) else (if s0 = (0 : Int32) then (if l4 = (4 : Int32) then (B_joined_44 N l1 l2 u) else (B_joined_48 N l1 l2 u)) else (B_joined_48 N l1 l2 u))
set_option maxHeartbeats 4000000 in
theorem b_joined_26 {r : Int32} (X : RC p s m args c cX12_joined 9 (Cond.code yX12_joined cX12_joined 9 (some .int)) D kA V A) (hE : REi p l e R s m args below meth c cX12_joined D kA Z A Q r w) (hF : 1 ≤ R.frames) (hL : 24 ≤ R.locals) {l1 : Int32} {l2 : Int32} {l3 : Int32} {l4 : Int32} {s0 : Int32}  {u : RSt} (h : B_joined_26 N l1 l2 l3 l4 s0 u = some (r, w)) (hS : RS D kA Z A s u H locs) (hl : lv_has ls 9 [(0, .ref (Z 200)), (1, .int l1), (2, .int l2), (3, .int l3), (4, .int l4)]) : W p l e R s m args below meth c H locs 0 0 Q (F0 m 26 ls [.int s0]) := by
  obtain ⟨⟨hx, hb, hml, hown, hts⟩, hK, hEV, hA⟩ := id X
  have hG : ∀ w ∈ GW, w.before args s = true := fun w h => hts w (List.mem_cons_of_mem _ h)
  unfold B_joined_26 at h
  refine lv_istore (lv' := [(5, .int s0), (0, .ref (Z 200)), (1, .int l1), (2, .int l2), (3, .int l3), (4, .int l4)]) hx hb dX12_joined_26 hl (by decide) rfl (fun ls hl => ?_)
  refine lv_iload_n hx hb dX12_joined_28 rfl (lv_at hl 4 rfl) ?_
  refine lv_iconst (v := 4) hx hb dX12_joined_29 (by decide) ?_
  refine lv_icmp_eq (tgt := 44) hx hb dX12_joined_30 (by decide) (fun c_16 => ?_) (fun c_16 => ?_)
  · have h := ip (c_16) h
    exact b_joined_44 X hE hF hL  h hS (lv_sub hl [1, 2, 3] rfl)
  · have h := im (c_16) h
    refine lv_iload hx hb dX12_joined_33 (lv_at hl 0 rfl) ?_
    refine lv_if_ne (tgt := 48) hx hb dX12_joined_35 (by decide) (fun c_17 => ?_) (fun c_17 => ?_)
    · have h := im (c_17) h
      exact b_joined_48 X hE hF hL  h hS (lv_sub hl [1, 2, 3] rfl)
    · have h := ip (c_17) h
      refine lv_iload hx hb dX12_joined_38 (lv_at hl 5 rfl) ?_
      refine lv_iconst (v := 4) hx hb dX12_joined_40 (by decide) ?_
      refine lv_icmp_ne (tgt := 48) hx hb dX12_joined_41 (by decide) (fun c_18 => ?_) (fun c_18 => ?_)
      · have h := im (c_18) h
        exact b_joined_48 X hE hF hL  h hS (lv_sub hl [1, 2, 3] rfl)
      · have h := ip (c_18) h
        exact b_joined_44 X hE hF hL  h hS (lv_sub hl [1, 2, 3] rfl)
def B_joined_21 (N : Nat) (l1 : Int32) (l2 : Int32) (l3 : Int32) (l4 : Int32) (u : RSt) : Option (Int32 × RSt) := B_joined_26 N l1 l2 l3 l4 1 u
set_option maxHeartbeats 4000000 in
theorem b_joined_21 {r : Int32} (X : RC p s m args c cX12_joined 9 (Cond.code yX12_joined cX12_joined 9 (some .int)) D kA V A) (hE : REi p l e R s m args below meth c cX12_joined D kA Z A Q r w) (hF : 1 ≤ R.frames) (hL : 24 ≤ R.locals) {l1 : Int32} {l2 : Int32} {l3 : Int32} {l4 : Int32}  {u : RSt} (h : B_joined_21 N l1 l2 l3 l4 u = some (r, w)) (hS : RS D kA Z A s u H locs) (hl : lv_has ls 9 [(0, .ref (Z 200)), (1, .int l1), (2, .int l2), (3, .int l3), (4, .int l4)]) : W p l e R s m args below meth c H locs 0 0 Q (F0 m 21 ls []) := by
  obtain ⟨⟨hx, hb, hml, hown, hts⟩, hK, hEV, hA⟩ := id X
  have hG : ∀ w ∈ GW, w.before args s = true := fun w h => hts w (List.mem_cons_of_mem _ h)
  unfold B_joined_21 at h
  refine lv_iconst (v := 1) hx hb dX12_joined_21 (by decide) ?_
  refine lv_goto (tgt := 26) hx hb dX12_joined_22 (by decide) ?_
  exact b_joined_26 X hE hF hL  h hS (lv_sub hl [0, 1, 2, 3, 4] rfl)
def B_joined_0 (N : Nat) (l1 : Int32) (l2 : Int32) (l3 : Int32) (l4 : Int32) (u : RSt) : Option (Int32 × RSt) := if l1 = (221 : Int32) then (B_joined_21 N l1 l2 l3 l4 u) else (if l1 = (222 : Int32) then (B_joined_21 N l1 l2 l3 l4 u) else (if l1 = (203 : Int32) then (B_joined_21 N l1 l2 l3 l4 u) else (B_joined_26 N l1 l2 l3 l4 0 u)))
set_option maxHeartbeats 4000000 in
theorem b_joined_0 {r : Int32} (X : RC p s m args c cX12_joined 9 (Cond.code yX12_joined cX12_joined 9 (some .int)) D kA V A) (hE : REi p l e R s m args below meth c cX12_joined D kA Z A Q r w) (hF : 1 ≤ R.frames) (hL : 24 ≤ R.locals) {l1 : Int32} {l2 : Int32} {l3 : Int32} {l4 : Int32}  {u : RSt} (h : B_joined_0 N l1 l2 l3 l4 u = some (r, w)) (hS : RS D kA Z A s u H locs) (hl : lv_has ls 9 [(0, .ref (Z 200)), (1, .int l1), (2, .int l2), (3, .int l3), (4, .int l4)]) : W p l e R s m args below meth c H locs 0 0 Q (F0 m 0 ls []) := by
  obtain ⟨⟨hx, hb, hml, hown, hts⟩, hK, hEV, hA⟩ := id X
  have hG : ∀ w ∈ GW, w.before args s = true := fun w h => hts w (List.mem_cons_of_mem _ h)
  unfold B_joined_0 at h
  refine lv_iload_n hx hb dX12_joined_0 rfl (lv_at hl 1 rfl) ?_
  refine lv_sipush (v := 221) hx hb dX12_joined_1 (by decide) ?_
  refine lv_icmp_eq (tgt := 21) hx hb dX12_joined_4 (by decide) (fun c_19 => ?_) (fun c_19 => ?_)
  · have h := ip (c_19) h
    exact b_joined_21 X hE hF hL  h hS (lv_sub hl [0, 1, 2, 3, 4] rfl)
  · have h := im (c_19) h
    refine lv_iload_n hx hb dX12_joined_7 rfl (lv_at hl 1 rfl) ?_
    refine lv_sipush (v := 222) hx hb dX12_joined_8 (by decide) ?_
    refine lv_icmp_eq (tgt := 21) hx hb dX12_joined_11 (by decide) (fun c_20 => ?_) (fun c_20 => ?_)
    · have h := ip (c_20) h
      exact b_joined_21 X hE hF hL  h hS (lv_sub hl [0, 1, 2, 3, 4] rfl)
    · have h := im (c_20) h
      refine lv_iload_n hx hb dX12_joined_14 rfl (lv_at hl 1 rfl) ?_
      refine lv_sipush (v := 203) hx hb dX12_joined_15 (by decide) ?_
      refine lv_icmp_ne (tgt := 25) hx hb dX12_joined_18 (by decide) (fun c_21 => ?_) (fun c_21 => ?_)
      · have h := im (c_21) h
        refine lv_iconst (v := 0) hx hb dX12_joined_25 (by decide) ?_
        exact b_joined_26 X hE hF hL  h hS (lv_sub hl [0, 1, 2, 3, 4] rfl)
      · have h := ip (c_21) h
        exact b_joined_21 X hE hF hL  h hS (lv_sub hl [0, 1, 2, 3, 4] rfl)
def F_joined (N : Nat) (l1 : Int32) (l2 : Int32) (l3 : Int32) (l4 : Int32) (u : RSt) : Option (Int32 × RSt) := B_joined_0 N l1 l2 l3 l4 u
set_option maxHeartbeats 4000000 in
theorem k_joined (l : Launch) (D : va_G) (kA : Nat → ClassId) (V Z : Nat → Nat) (N : Nat) (l1 : Int32) (l2 : Int32) (l3 : Int32) (l4 : Int32) (u : RSt) (sz : Nat) {r : Int32} {w : RSt} (h : F_joined N l1 l2 l3 l4 u = some (r, w)) : Met l yX12_joined (Cond.code yX12_joined cX12_joined 9 (some .int) :: GW) { frames := 1, cells := 0, slots := 0, locals := 24 } (rPc D kA V Z [.int l1, .int l2, .int l3, .int l4] u sz) (rQi D kA Z u sz r w) 0 0 (va_A (RW kA Z u) sz) := by
  refine Met.ofW (cc := cX12_joined) (maxL := 9) (ret := (some .int)) (by decide) rfl ?_
  intro p e s m args below meth c s₁ Bd hml hv
  obtain ⟨rfl, hsz, hP, hK, hD0, hE⟩ := hv
  have hts := atoms_spec (ws := Cond.code yX12_joined cX12_joined 9 (some .int) :: GW) Bd.pre
  have hl := lv_entry (.ref (Z 200) :: [.int l1, .int l2, .int l3, .int l4]) (n := 9) (Nat.le_of_ble_eq_true rfl)
  rw [lg_entry_eq]
  generalize (lg_sl (.ref (Z 200) :: [.int l1, .int l2, .int l3, .int l4]) ++ List.replicate (9 - (lg_sl (.ref (Z 200) :: [.int l1, .int l2, .int l3, .int l4])).length) Slot.unset).toArray = ls at hl ⊢
  have hl : lv_has ls 9 [(0, .ref (Z 200)), (1, .int l1), (2, .int l2), (3, .int l3), (4, .int l4)] := hl
  subst hsz
  have X : RC p s m (.ref (Z 200) :: [.int l1, .int l2, .int l3, .int l4]).toArray c cX12_joined 9 (Cond.code yX12_joined cX12_joined 9 (some .int)) D kA V (va_A (RW kA Z u) s.heap.size) := ⟨⟨Bd.exec, Bd.bytes, hml, findClass_of_methodNamed Bd.named, hts⟩, hK, hE, fun q h => Or.inr h⟩
  exact b_joined_0 X (rend_i (cy := cX12_joined) X Bd.returns Bd.notSynchronized) (Nat.le_refl _) (Nat.le_refl _) h ⟨hP, hD0.self, va_S.rf⟩ (lv_sub hl [0, 1, 2, 3, 4] rfl)
theorem kc_joined {r : Int32} {cc : ByteArray} {pc nL : Nat} {c0 : Cond} {rest : List Value} {l1 : Int32} {l2 : Int32} {l3 : Int32} {l4 : Int32} {u : RSt} (X : RC p s m args c cc nL c0 D kA V A) (hS : RS D kA Z A s u H locs) (h : F_joined N l1 l2 l3 l4 u = some (r, w)) (hF : 1 + 1 ≤ R.frames) (hL : 8 + (9 + 11) + 24 ≤ R.locals) (hl : ls.size = nL) (hc : (rest.map fun v => v.category).sum ≤ 8) (hdg : decode cc pc = .ok (.invokevirtual 456, 3)) (kk : ∀ H locs, RS D kA Z A s w H locs → W p l e R s m args below meth c H locs 0 0 Q (F0 m (pc + 3) ls (.int r :: rest))) : W p l e R s m args below meth c H locs 0 0 Q (F0 m pc ls (.int l4 :: .int l3 :: .int l2 :: .int l1 :: .ref (Z 200) :: rest)) :=
  rcall_i (n := 4) X hS (k_joined l D kA V Z N l1 l2 l3 l4 u H.size h) (gw_V gw_2520 gw_2522 gs_10_13 gw_16 gw_2523) (by decide +kernel) hF hL rfl hl hc rfl hdg kk
def B_leadAll_2 (N : Nat) (R_2 : Int32 × RSt → Option (Int32 × RSt)) (l2 : Int32) (u : RSt) : Option (Int32 × RSt) := if (u.1 69) = (0 : Int32) then (some (0, u)) else (if (u.1 67) = (0 : Int32) then (if l2 = ((-1) : Int32) then (some (0, u)) else (rd (u.2.2.1 50) 16000 l2 fun v_4 => bn (F_here N u) fun r_7 u_6 => wr 16000 l2 (sA u_6 50 l2.toNatClampNeg r_7) fun u_8 => R_2 (v_4, u_8))) else (some (0, u)))
set_option maxHeartbeats 4000000 in
theorem b_leadAll_2 {r : Int32} (X : RC p s m args c cX12_leadAll 4 (Cond.code yX12_leadAll cX12_leadAll 4 none) D kA V A) (hE : REv p l e R s m args below meth c cX12_leadAll D kA Z A Q w) (hF : 1 ≤ R.frames) (hL : 20 ≤ R.locals) {R_2 : Int32 × RSt → Option (Int32 × RSt)} {l2 : Int32} (hR_2 : ∀ (l2 : Int32) (u : RSt), R_2 (l2, u) = some (r, w) → ∀ (H : Heap) (locs : List Loc) (ls : Array Slot), RS D kA Z A s u H locs → lv_has ls 4 [(0, .ref (Z 200)), (2, .int l2)] → W p l e R s m args below meth c H locs 0 0 Q (F0 m 2 ls [])) {u : RSt} (h : B_leadAll_2 N R_2 l2 u = some (r, w)) (hS : RS D kA Z A s u H locs) (hl : lv_has ls 4 [(0, .ref (Z 200)), (2, .int l2)]) : W p l e R s m args below meth c H locs 0 0 Q (F0 m 2 ls []) := by
  obtain ⟨⟨hx, hb, hml, hown, hts⟩, hK, hEV, hA⟩ := id X
  have hG : ∀ w ∈ GW, w.before args s = true := fun w h => hts w (List.mem_cons_of_mem _ h)
  unfold B_leadAll_2 at h
  refine lv_aload_n hx hb dX12_leadAll_2 rfl (lv_at hl 0 rfl) ?_
  refine rg_69 X hS dX12_leadAll_3 ?_
  refine lv_if_eq (tgt := 43) hx hb dX12_leadAll_6 (by decide) (fun c_1 => ?_) (fun c_1 => ?_)
  · have h := ip (c_1) h
    obtain ⟨-, rfl⟩ := so h
    exact hE _ _ _ _ hS dX12_leadAll_43
  · have h := im (c_1) h
    refine lv_aload_n hx hb dX12_leadAll_9 rfl (lv_at hl 0 rfl) ?_
    refine rg_67 X hS dX12_leadAll_10 ?_
    refine lv_if_ne (tgt := 43) hx hb dX12_leadAll_13 (by decide) (fun c_2 => ?_) (fun c_2 => ?_)
    · have h := im (c_2) h
      obtain ⟨-, rfl⟩ := so h
      exact hE _ _ _ _ hS dX12_leadAll_43
    · have h := ip (c_2) h
      refine lv_iload_n hx hb dX12_leadAll_16 rfl (lv_at hl 1 rfl) ?_
      refine lv_iconst (v := (-1)) hx hb dX12_leadAll_17 (by decide) ?_
      refine lv_icmp_eq (tgt := 43) hx hb dX12_leadAll_18 (by decide) (fun c_3 => ?_) (fun c_3 => ?_)
      · have h := ip (c_3) h
        obtain ⟨-, rfl⟩ := so h
        exact hE _ _ _ _ hS dX12_leadAll_43
      · have h := im (c_3) h
        refine lv_aload_n hx hb dX12_leadAll_21 rfl (lv_at hl 0 rfl) ?_
        refine rg_50 X hS dX12_leadAll_22 ?_
        refine lv_iload_n hx hb dX12_leadAll_25 rfl (lv_at hl 1 rfl) ?_
        obtain ⟨v_4, e_v_4, i_5, h⟩ := rd_of h
        refine ra_50 X hS i_5 e_v_4 dX12_leadAll_26 ?_
        refine lv_istore_n (lv' := [(3, .int v_4), (0, .ref (Z 200)), (2, .int l2)]) hx hb dX12_leadAll_27 rfl hl (by decide) rfl (fun ls hl => ?_)
        refine lv_aload_n hx hb dX12_leadAll_28 rfl (lv_at hl 1 rfl) ?_
        refine rg_50 X hS dX12_leadAll_29 ?_
        refine lv_iload_n hx hb dX12_leadAll_32 rfl (lv_at hl 2 rfl) ?_
        refine lv_aload_n hx hb dX12_leadAll_33 rfl (lv_at hl 1 rfl) ?_
        obtain ⟨r_7, u_6, h_u_6, h⟩ := bn_of h
        refine kc_here X hS h_u_6 (Nat.le_trans (Nat.le_of_ble_eq_true rfl) hF) (Nat.le_trans (Nat.le_of_ble_eq_true rfl) hL) hl.1 (Nat.le_of_ble_eq_true rfl) dX12_leadAll_34 (fun H locs hS => ?_)
        obtain ⟨u_8, e_u_8, i_9, h⟩ := wr_of h
        refine rs_50 X hS i_9 e_u_8 dX12_leadAll_37 (fun H locs hS => ?_)
        refine lv_iload_n hx hb dX12_leadAll_38 rfl (lv_at hl 0 rfl) ?_
        refine lv_istore_n (lv' := [(2, .int v_4), (3, .int v_4), (0, .ref (Z 200))]) hx hb dX12_leadAll_39 rfl hl (by decide) rfl (fun ls hl => ?_)
        refine lv_goto (tgt := 2) hx hb dX12_leadAll_40 (by decide) ?_
        exact hR_2 _ _ h _ _ _ hS (lv_sub hl [2, 0] rfl)
def LP_leadAll_2 (N : Nat) : Nat → Int32 × RSt → Option (Int32 × RSt) := lp (fun R a => B_leadAll_2 N R a.1 a.2)
theorem bl_leadAll_2 {r : Int32} (X : RC p s m args c cX12_leadAll 4 (Cond.code yX12_leadAll cX12_leadAll 4 none) D kA V A) (hE : REv p l e R s m args below meth c cX12_leadAll D kA Z A Q w) (hF : 1 ≤ R.frames) (hL : 20 ≤ R.locals)  : ∀ (n : Nat) (l2 : Int32) (u : RSt), LP_leadAll_2 N n (l2, u) = some (r, w) → ∀ (H : Heap) (locs : List Loc) (ls : Array Slot), RS D kA Z A s u H locs → lv_has ls 4 [(0, .ref (Z 200)), (2, .int l2)] → W p l e R s m args below meth c H locs 0 0 Q (F0 m 2 ls []) := by
  intro n
  induction n with
  | zero => intro l2 u h; exact nomatch h
  | succ n ih => intro l2 u h H locs ls hS hl; exact b_leadAll_2 (N := N) (R_2 := LP_leadAll_2 N n) X hE hF hL  ih h hS hl
def B_leadAll_0 (N : Nat) (l1 : Int32) (u : RSt) : Option (Int32 × RSt) := LP_leadAll_2 N N (l1, u)
set_option maxHeartbeats 4000000 in
theorem b_leadAll_0 {r : Int32} (X : RC p s m args c cX12_leadAll 4 (Cond.code yX12_leadAll cX12_leadAll 4 none) D kA V A) (hE : REv p l e R s m args below meth c cX12_leadAll D kA Z A Q w) (hF : 1 ≤ R.frames) (hL : 20 ≤ R.locals) {l1 : Int32}  {u : RSt} (h : B_leadAll_0 N l1 u = some (r, w)) (hS : RS D kA Z A s u H locs) (hl : lv_has ls 4 [(0, .ref (Z 200)), (1, .int l1)]) : W p l e R s m args below meth c H locs 0 0 Q (F0 m 0 ls []) := by
  obtain ⟨⟨hx, hb, hml, hown, hts⟩, hK, hEV, hA⟩ := id X
  have hG : ∀ w ∈ GW, w.before args s = true := fun w h => hts w (List.mem_cons_of_mem _ h)
  unfold B_leadAll_0 at h
  refine lv_iload_n hx hb dX12_leadAll_0 rfl (lv_at hl 1 rfl) ?_
  refine lv_istore_n (lv' := [(2, .int l1), (0, .ref (Z 200)), (1, .int l1)]) hx hb dX12_leadAll_1 rfl hl (by decide) rfl (fun ls hl => ?_)
  exact bl_leadAll_2 X hE hF hL  _ _ _ h _ _ _ hS (lv_sub hl [1, 0] rfl)
def F_leadAll (N : Nat) (l1 : Int32) (u : RSt) : Option (Int32 × RSt) := B_leadAll_0 N l1 u
set_option maxHeartbeats 4000000 in
theorem k_leadAll (l : Launch) (D : va_G) (kA : Nat → ClassId) (V Z : Nat → Nat) (N : Nat) (l1 : Int32) (u : RSt) (sz : Nat) {r : Int32} {w : RSt} (h : F_leadAll N l1 u = some (r, w)) : Met l yX12_leadAll (Cond.code yX12_leadAll cX12_leadAll 4 none :: GW) { frames := 1, cells := 0, slots := 0, locals := 20 } (rPc D kA V Z [.int l1] u sz) (rQv D kA Z u sz w) 0 0 (va_A (RW kA Z u) sz) := by
  refine Met.ofW (cc := cX12_leadAll) (maxL := 4) (ret := none) (by decide) rfl ?_
  intro p e s m args below meth c s₁ Bd hml hv
  obtain ⟨rfl, hsz, hP, hK, hD0, hE⟩ := hv
  have hts := atoms_spec (ws := Cond.code yX12_leadAll cX12_leadAll 4 none :: GW) Bd.pre
  have hl := lv_entry (.ref (Z 200) :: [.int l1]) (n := 4) (Nat.le_of_ble_eq_true rfl)
  rw [lg_entry_eq]
  generalize (lg_sl (.ref (Z 200) :: [.int l1]) ++ List.replicate (4 - (lg_sl (.ref (Z 200) :: [.int l1])).length) Slot.unset).toArray = ls at hl ⊢
  have hl : lv_has ls 4 [(0, .ref (Z 200)), (1, .int l1)] := hl
  subst hsz
  have X : RC p s m (.ref (Z 200) :: [.int l1]).toArray c cX12_leadAll 4 (Cond.code yX12_leadAll cX12_leadAll 4 none) D kA V (va_A (RW kA Z u) s.heap.size) := ⟨⟨Bd.exec, Bd.bytes, hml, findClass_of_methodNamed Bd.named, hts⟩, hK, hE, fun q h => Or.inr h⟩
  exact b_leadAll_0 X (rend_v (cy := cX12_leadAll) X Bd.returns Bd.notSynchronized) (Nat.le_refl _) (Nat.le_refl _) h ⟨hP, hD0.self, va_S.rf⟩ (lv_sub hl [0, 1] rfl)
theorem kc_leadAll {r : Int32} {cc : ByteArray} {pc nL : Nat} {c0 : Cond} {rest : List Value} {l1 : Int32} {u : RSt} (X : RC p s m args c cc nL c0 D kA V A) (hS : RS D kA Z A s u H locs) (h : F_leadAll N l1 u = some (r, w)) (hF : 1 + 1 ≤ R.frames) (hL : 8 + (4 + 11) + 20 ≤ R.locals) (hl : ls.size = nL) (hc : (rest.map fun v => v.category).sum ≤ 8) (hdg : decode cc pc = .ok (.invokevirtual 518, 3)) (kk : ∀ H locs, RS D kA Z A s w H locs → W p l e R s m args below meth c H locs 0 0 Q (F0 m (pc + 3) ls (rest))) : W p l e R s m args below meth c H locs 0 0 Q (F0 m pc ls (.int l1 :: .ref (Z 200) :: rest)) :=
  rcall_v (n := 1) X hS (k_leadAll l D kA V Z N l1 u H.size h) (gw_V gw_2536 gw_2538 gs_11_1 gw_16 gw_2539) (by decide +kernel) hF hL rfl hl hc rfl hdg kk
def B_loop_0 (N : Nat) (u : RSt) : Option (Int32 × RSt) := wr 30 (u.1 74) (sA u 75 (u.1 74).toNatClampNeg (-1)) fun u_1 => wr 30 (u_1.1 74) (sA u_1 76 (u_1.1 74).toNatClampNeg (-1)) fun u_3 => pu (sI u_3 74 ((u_3.1 74) + 1)) fun u_5 => some (0, u_5)
set_option maxHeartbeats 4000000 in
theorem b_loop_0 {r : Int32} (X : RC p s m args c cX12_loop 1 (Cond.code yX12_loop cX12_loop 1 none) D kA V A) (hE : REv p l e R s m args below meth c cX12_loop D kA Z A Q w) (hF : 0 ≤ R.frames) (hL : 0 ≤ R.locals)  {u : RSt} (h : B_loop_0 N u = some (r, w)) (hS : RS D kA Z A s u H locs) (hl : lv_has ls 1 [(0, .ref (Z 200))]) : W p l e R s m args below meth c H locs 0 0 Q (F0 m 0 ls []) := by
  obtain ⟨⟨hx, hb, hml, hown, hts⟩, hK, hEV, hA⟩ := id X
  have hG : ∀ w ∈ GW, w.before args s = true := fun w h => hts w (List.mem_cons_of_mem _ h)
  unfold B_loop_0 at h
  refine lv_aload_n hx hb dX12_loop_0 rfl (lv_at hl 0 rfl) ?_
  refine rg_75 X hS dX12_loop_1 ?_
  refine lv_aload_n hx hb dX12_loop_4 rfl (lv_at hl 0 rfl) ?_
  refine rg_74 X hS dX12_loop_5 ?_
  refine lv_iconst (v := (-1)) hx hb dX12_loop_8 (by decide) ?_
  obtain ⟨u_1, e_u_1, i_2, h⟩ := wr_of h
  refine rs_75 X hS i_2 e_u_1 dX12_loop_9 (fun H locs hS => ?_)
  refine lv_aload_n hx hb dX12_loop_10 rfl (lv_at hl 0 rfl) ?_
  refine rg_76 X hS dX12_loop_11 ?_
  refine lv_aload_n hx hb dX12_loop_14 rfl (lv_at hl 0 rfl) ?_
  refine rg_74 X hS dX12_loop_15 ?_
  refine lv_iconst (v := (-1)) hx hb dX12_loop_18 (by decide) ?_
  obtain ⟨u_3, e_u_3, i_4, h⟩ := wr_of h
  refine rs_76 X hS i_4 e_u_3 dX12_loop_19 (fun H locs hS => ?_)
  refine lv_aload_n hx hb dX12_loop_20 rfl (lv_at hl 0 rfl) ?_
  refine lv_dup hx hb dX12_loop_21 rfl ?_
  refine rg_74 X hS dX12_loop_22 ?_
  refine lv_iconst (v := 1) hx hb dX12_loop_25 (by decide) ?_
  refine lv_iadd hx hb dX12_loop_26 ?_
  obtain ⟨u_5, e_u_5, h⟩ := pu_of h
  refine rp_74 X hS e_u_5 dX12_loop_27 (fun H locs hS => ?_)
  obtain ⟨-, rfl⟩ := so h
  exact hE _ _ _ _ hS dX12_loop_30
def F_loop (N : Nat) (u : RSt) : Option (Int32 × RSt) := B_loop_0 N u
set_option maxHeartbeats 4000000 in
theorem k_loop (l : Launch) (D : va_G) (kA : Nat → ClassId) (V Z : Nat → Nat) (N : Nat) (u : RSt) (sz : Nat) {r : Int32} {w : RSt} (h : F_loop N u = some (r, w)) : Met l yX12_loop (Cond.code yX12_loop cX12_loop 1 none :: GW) { frames := 0, cells := 0, slots := 0, locals := 0 } (rPc D kA V Z [] u sz) (rQv D kA Z u sz w) 0 0 (va_A (RW kA Z u) sz) := by
  refine Met.ofW (cc := cX12_loop) (maxL := 1) (ret := none) (by decide) rfl ?_
  intro p e s m args below meth c s₁ Bd hml hv
  obtain ⟨rfl, hsz, hP, hK, hD0, hE⟩ := hv
  have hts := atoms_spec (ws := Cond.code yX12_loop cX12_loop 1 none :: GW) Bd.pre
  have hl := lv_entry (.ref (Z 200) :: []) (n := 1) (Nat.le_of_ble_eq_true rfl)
  rw [lg_entry_eq]
  generalize (lg_sl (.ref (Z 200) :: []) ++ List.replicate (1 - (lg_sl (.ref (Z 200) :: [])).length) Slot.unset).toArray = ls at hl ⊢
  have hl : lv_has ls 1 [(0, .ref (Z 200))] := hl
  subst hsz
  have X : RC p s m (.ref (Z 200) :: []).toArray c cX12_loop 1 (Cond.code yX12_loop cX12_loop 1 none) D kA V (va_A (RW kA Z u) s.heap.size) := ⟨⟨Bd.exec, Bd.bytes, hml, findClass_of_methodNamed Bd.named, hts⟩, hK, hE, fun q h => Or.inr h⟩
  exact b_loop_0 X (rend_v (cy := cX12_loop) X Bd.returns Bd.notSynchronized) (Nat.le_refl _) (Nat.le_refl _) h ⟨hP, hD0.self, va_S.rf⟩ (lv_sub hl [0] rfl)
theorem kc_loop {r : Int32} {cc : ByteArray} {pc nL : Nat} {c0 : Cond} {rest : List Value} {u : RSt} (X : RC p s m args c cc nL c0 D kA V A) (hS : RS D kA Z A s u H locs) (h : F_loop N u = some (r, w)) (hF : 0 + 1 ≤ R.frames) (hL : 8 + (1 + 11) + 0 ≤ R.locals) (hl : ls.size = nL) (hc : (rest.map fun v => v.category).sum ≤ 8) (hdg : decode cc pc = .ok (.invokevirtual 527, 3)) (kk : ∀ H locs, RS D kA Z A s w H locs → W p l e R s m args below meth c H locs 0 0 Q (F0 m (pc + 3) ls (rest))) : W p l e R s m args below meth c H locs 0 0 Q (F0 m pc ls (.ref (Z 200) :: rest)) :=
  rcall_v (n := 0) X hS (k_loop l D kA V Z N  u H.size h) (gw_V gw_2544 gw_2546 gs_11_3 gw_16 gw_2547) (by decide +kernel) hF hL rfl hl hc rfl hdg kk
def B_label_59 (N : Nat) (l1 : Int64) (l3 : Int64) (u : RSt) : Option (Int32 × RSt) := bn (F_emit N 36 0 0 u) fun r_2 u_1 => if (u_1.1 69) = (0 : Int32) then (some (0, u_1)) else (if (u_1.1 67) = (0 : Int32) then (wr 16000 r_2 (sB u_1 52 r_2.toNatClampNeg l1) fun u_5 => wr 16000 r_2 (sB u_5 53 r_2.toNatClampNeg l3) fun u_7 => some (0, u_7)) else (some (0, u_1)))
set_option maxHeartbeats 4000000 in
theorem b_label_59 {r : Int32} (X : RC p s m args c cX12_label 6 (Cond.code yX12_label cX12_label 6 none) D kA V A) (hE : REv p l e R s m args below meth c cX12_label D kA Z A Q w) (hF : 3 ≤ R.frames) (hL : 66 ≤ R.locals) {l1 : Int64} {l3 : Int64}  {u : RSt} (h : B_label_59 N l1 l3 u = some (r, w)) (hS : RS D kA Z A s u H locs) (hl : lv_has ls 6 [(0, .ref (Z 200)), (1, .long l1), (3, .long l3)]) : W p l e R s m args below meth c H locs 0 0 Q (F0 m 59 ls []) := by
  obtain ⟨⟨hx, hb, hml, hown, hts⟩, hK, hEV, hA⟩ := id X
  have hG : ∀ w ∈ GW, w.before args s = true := fun w h => hts w (List.mem_cons_of_mem _ h)
  unfold B_label_59 at h
  refine lv_aload_n hx hb dX12_label_59 rfl (lv_at hl 0 rfl) ?_
  refine lv_bipush (v := 36) hx hb dX12_label_60 (by decide) ?_
  refine lv_iconst (v := 0) hx hb dX12_label_62 (by decide) ?_
  refine lv_iconst (v := 0) hx hb dX12_label_63 (by decide) ?_
  obtain ⟨r_2, u_1, h_u_1, h⟩ := bn_of h
  refine kc_emit X hS h_u_1 (Nat.le_trans (Nat.le_of_ble_eq_true rfl) hF) (Nat.le_trans (Nat.le_of_ble_eq_true rfl) hL) hl.1 (Nat.le_of_ble_eq_true rfl) dX12_label_64 (fun H locs hS => ?_)
  refine lv_istore (lv' := [(5, .int r_2), (0, .ref (Z 200)), (1, .long l1), (3, .long l3)]) hx hb dX12_label_67 hl (by decide) rfl (fun ls hl => ?_)
  refine lv_aload_n hx hb dX12_label_69 rfl (lv_at hl 1 rfl) ?_
  refine rg_69 X hS dX12_label_70 ?_
  refine lv_if_eq (tgt := 99) hx hb dX12_label_73 (by decide) (fun c_3 => ?_) (fun c_3 => ?_)
  · have h := ip (c_3) h
    obtain ⟨-, rfl⟩ := so h
    exact hE _ _ _ _ hS dX12_label_99
  · have h := im (c_3) h
    refine lv_aload_n hx hb dX12_label_76 rfl (lv_at hl 1 rfl) ?_
    refine rg_67 X hS dX12_label_77 ?_
    refine lv_if_ne (tgt := 99) hx hb dX12_label_80 (by decide) (fun c_4 => ?_) (fun c_4 => ?_)
    · have h := im (c_4) h
      obtain ⟨-, rfl⟩ := so h
      exact hE _ _ _ _ hS dX12_label_99
    · have h := ip (c_4) h
      refine lv_aload_n hx hb dX12_label_83 rfl (lv_at hl 1 rfl) ?_
      refine rg_52 X hS dX12_label_84 ?_
      refine lv_iload hx hb dX12_label_87 (lv_at hl 0 rfl) ?_
      refine lv_lload_n hx hb dX12_label_89 rfl (lv_at hl 2 rfl) ?_
      obtain ⟨u_5, e_u_5, i_6, h⟩ := wr_of h
      refine rs_52 X hS i_6 e_u_5 dX12_label_90 (fun H locs hS => ?_)
      refine lv_aload_n hx hb dX12_label_91 rfl (lv_at hl 1 rfl) ?_
      refine rg_53 X hS dX12_label_92 ?_
      refine lv_iload hx hb dX12_label_95 (lv_at hl 0 rfl) ?_
      refine lv_lload_n hx hb dX12_label_97 rfl (lv_at hl 3 rfl) ?_
      obtain ⟨u_7, e_u_7, i_8, h⟩ := wr_of h
      refine rs_53 X hS i_8 e_u_7 dX12_label_98 (fun H locs hS => ?_)
      obtain ⟨-, rfl⟩ := so h
      exact hE _ _ _ _ hS dX12_label_99
def B_label_53 (N : Nat) (l1 : Int64) (l3 : Int64) (l5 : Int32) (s1 : Int32) (u : RSt) : Option (Int32 × RSt) := bn (F_wrong N s1 5 l5 u) fun _ u_9 => B_label_59 N l1 l3 u_9
set_option maxHeartbeats 4000000 in
theorem b_label_53 {r : Int32} (X : RC p s m args c cX12_label 6 (Cond.code yX12_label cX12_label 6 none) D kA V A) (hE : REv p l e R s m args below meth c cX12_label D kA Z A Q w) (hF : 3 ≤ R.frames) (hL : 66 ≤ R.locals) {l1 : Int64} {l3 : Int64} {l5 : Int32} {s1 : Int32}  {u : RSt} (h : B_label_53 N l1 l3 l5 s1 u = some (r, w)) (hS : RS D kA Z A s u H locs) (hl : lv_has ls 6 [(0, .ref (Z 200)), (1, .long l1), (3, .long l3), (5, .int l5)]) : W p l e R s m args below meth c H locs 0 0 Q (F0 m 53 ls [.int s1, .ref (Z 200)]) := by
  obtain ⟨⟨hx, hb, hml, hown, hts⟩, hK, hEV, hA⟩ := id X
  have hG : ∀ w ∈ GW, w.before args s = true := fun w h => hts w (List.mem_cons_of_mem _ h)
  unfold B_label_53 at h
  refine lv_iconst (v := 5) hx hb dX12_label_53 (by decide) ?_
  refine lv_iload hx hb dX12_label_54 (lv_at hl 3 rfl) ?_
  obtain ⟨r_u_9, u_9, h_u_9, h⟩ := bn_of h
  refine kc_wrong X hS h_u_9 (Nat.le_trans (Nat.le_of_ble_eq_true rfl) hF) (Nat.le_trans (Nat.le_of_ble_eq_true rfl) hL) hl.1 (Nat.le_of_ble_eq_true rfl) dX12_label_56 (fun H locs hS => ?_)
  exact b_label_59 X hE hF hL  h hS (lv_sub hl [0, 1, 2] rfl)
def B_label_0 (N : Nat) (u : RSt) : Option (Int32 × RSt) := bn (F_constant N u) fun _ u_10 => bn (F_has N 204 u_10) fun r_12 u_11 => if r_12 = (0 : Int32) then (B_label_59 N (u_10.2.1 77) (u_10.2.1 77) u_11) else (rd (u_11.2.2.1 3) 1502 (u_11.1 65) fun v_14 => bn (F_constant N u_11) fun _ u_16 => if (u_10.2.1 77) ≤ (u_16.2.1 77) then (B_label_53 N (u_10.2.1 77) (u_16.2.1 77) v_14 0 u_16) else (B_label_53 N (u_10.2.1 77) (u_16.2.1 77) v_14 1 u_16))
set_option maxHeartbeats 4000000 in
theorem b_label_0 {r : Int32} (X : RC p s m args c cX12_label 6 (Cond.code yX12_label cX12_label 6 none) D kA V A) (hE : REv p l e R s m args below meth c cX12_label D kA Z A Q w) (hF : 3 ≤ R.frames) (hL : 66 ≤ R.locals)  {u : RSt} (h : B_label_0 N u = some (r, w)) (hS : RS D kA Z A s u H locs) (hl : lv_has ls 6 [(0, .ref (Z 200))]) : W p l e R s m args below meth c H locs 0 0 Q (F0 m 0 ls []) := by
  obtain ⟨⟨hx, hb, hml, hown, hts⟩, hK, hEV, hA⟩ := id X
  have hG : ∀ w ∈ GW, w.before args s = true := fun w h => hts w (List.mem_cons_of_mem _ h)
  unfold B_label_0 at h
  refine lv_aload_n hx hb dX12_label_0 rfl (lv_at hl 0 rfl) ?_
  obtain ⟨r_u_10, u_10, h_u_10, h⟩ := bn_of h
  refine kc_constant X hS h_u_10 (Nat.le_trans (Nat.le_of_ble_eq_true rfl) hF) (Nat.le_trans (Nat.le_of_ble_eq_true rfl) hL) hl.1 (Nat.le_of_ble_eq_true rfl) dX12_label_1 (fun H locs hS => ?_)
  refine lv_aload_n hx hb dX12_label_4 rfl (lv_at hl 0 rfl) ?_
  refine rg_77 X hS dX12_label_5 ?_
  refine lv_lstore_n (lv' := [(1, .long (u_10.2.1 77)), (0, .ref (Z 200))]) hx hb dX12_label_8 rfl hl (by decide) rfl (fun ls hl => ?_)
  refine lv_lload_n hx hb dX12_label_9 rfl (lv_at hl 0 rfl) ?_
  refine lv_lstore_n (lv' := [(3, .long (u_10.2.1 77)), (1, .long (u_10.2.1 77)), (0, .ref (Z 200))]) hx hb dX12_label_10 rfl hl (by decide) rfl (fun ls hl => ?_)
  refine lv_aload_n hx hb dX12_label_11 rfl (lv_at hl 2 rfl) ?_
  refine lv_sipush (v := 204) hx hb dX12_label_12 (by decide) ?_
  obtain ⟨r_12, u_11, h_u_11, h⟩ := bn_of h
  refine kc_has X hS h_u_11 (Nat.le_trans (Nat.le_of_ble_eq_true rfl) hF) (Nat.le_trans (Nat.le_of_ble_eq_true rfl) hL) hl.1 (Nat.le_of_ble_eq_true rfl) dX12_label_15 (fun H locs hS => ?_)
  refine lv_if_eq (tgt := 59) hx hb dX12_label_18 (by decide) (fun c_13 => ?_) (fun c_13 => ?_)
  · have h := ip (c_13) h
    exact b_label_59 X hE hF hL  h hS (lv_sub hl [2, 1, 0] rfl)
  · have h := im (c_13) h
    refine lv_aload_n hx hb dX12_label_21 rfl (lv_at hl 2 rfl) ?_
    refine rg_3 X hS dX12_label_22 ?_
    refine lv_aload_n hx hb dX12_label_25 rfl (lv_at hl 2 rfl) ?_
    refine rg_65 X hS dX12_label_26 ?_
    obtain ⟨v_14, e_v_14, i_15, h⟩ := rd_of h
    refine ra_3 X hS i_15 e_v_14 dX12_label_29 ?_
    refine lv_istore (lv' := [(5, .int v_14), (3, .long (u_10.2.1 77)), (1, .long (u_10.2.1 77)), (0, .ref (Z 200))]) hx hb dX12_label_30 hl (by decide) rfl (fun ls hl => ?_)
    refine lv_aload_n hx hb dX12_label_32 rfl (lv_at hl 3 rfl) ?_
    obtain ⟨r_u_16, u_16, h_u_16, h⟩ := bn_of h
    refine kc_constant X hS h_u_16 (Nat.le_trans (Nat.le_of_ble_eq_true rfl) hF) (Nat.le_trans (Nat.le_of_ble_eq_true rfl) hL) hl.1 (Nat.le_of_ble_eq_true rfl) dX12_label_33 (fun H locs hS => ?_)
    refine lv_aload_n hx hb dX12_label_36 rfl (lv_at hl 3 rfl) ?_
    refine rg_77 X hS dX12_label_37 ?_
    refine lv_lstore_n (lv' := [(3, .long (u_16.2.1 77)), (5, .int v_14), (1, .long (u_10.2.1 77)), (0, .ref (Z 200))]) hx hb dX12_label_40 rfl hl (by decide) rfl (fun ls hl => ?_)
    refine lv_aload_n hx hb dX12_label_41 rfl (lv_at hl 3 rfl) ?_
    refine lv_lload_n hx hb dX12_label_42 rfl (lv_at hl 2 rfl) ?_
    refine lv_lload_n hx hb dX12_label_43 rfl (lv_at hl 0 rfl) ?_
    refine W.lcmp hx hb dX12_label_44 ?_
    refine lv_if_le (tgt := 52) hx hb dX12_label_45 (by decide) (fun c_17 => ?_) (fun c_17 => ?_)
    · have h := ip ((lg_cmp_le _ _).mp c_17) h
      refine lv_iconst (v := 0) hx hb dX12_label_52 (by decide) ?_
      exact b_label_53 X hE hF hL  h hS (lv_sub hl [3, 2, 0, 1] rfl)
    · have h := im (mt (lg_cmp_le _ _).mpr c_17) h
      refine lv_iconst (v := 1) hx hb dX12_label_48 (by decide) ?_
      refine lv_goto (tgt := 53) hx hb dX12_label_49 (by decide) ?_
      exact b_label_53 X hE hF hL  h hS (lv_sub hl [3, 2, 0, 1] rfl)
def F_label (N : Nat) (u : RSt) : Option (Int32 × RSt) := B_label_0 N u
set_option maxHeartbeats 4000000 in
theorem k_label (l : Launch) (D : va_G) (kA : Nat → ClassId) (V Z : Nat → Nat) (N : Nat) (u : RSt) (sz : Nat) {r : Int32} {w : RSt} (h : F_label N u = some (r, w)) : Met l yX12_label (Cond.code yX12_label cX12_label 6 none :: GW) { frames := 3, cells := 0, slots := 0, locals := 66 } (rPc D kA V Z [] u sz) (rQv D kA Z u sz w) 0 0 (va_A (RW kA Z u) sz) := by
  refine Met.ofW (cc := cX12_label) (maxL := 6) (ret := none) (by decide) rfl ?_
  intro p e s m args below meth c s₁ Bd hml hv
  obtain ⟨rfl, hsz, hP, hK, hD0, hE⟩ := hv
  have hts := atoms_spec (ws := Cond.code yX12_label cX12_label 6 none :: GW) Bd.pre
  have hl := lv_entry (.ref (Z 200) :: []) (n := 6) (Nat.le_of_ble_eq_true rfl)
  rw [lg_entry_eq]
  generalize (lg_sl (.ref (Z 200) :: []) ++ List.replicate (6 - (lg_sl (.ref (Z 200) :: [])).length) Slot.unset).toArray = ls at hl ⊢
  have hl : lv_has ls 6 [(0, .ref (Z 200))] := hl
  subst hsz
  have X : RC p s m (.ref (Z 200) :: []).toArray c cX12_label 6 (Cond.code yX12_label cX12_label 6 none) D kA V (va_A (RW kA Z u) s.heap.size) := ⟨⟨Bd.exec, Bd.bytes, hml, findClass_of_methodNamed Bd.named, hts⟩, hK, hE, fun q h => Or.inr h⟩
  exact b_label_0 X (rend_v (cy := cX12_label) X Bd.returns Bd.notSynchronized) (Nat.le_refl _) (Nat.le_refl _) h ⟨hP, hD0.self, va_S.rf⟩ (lv_sub hl [0] rfl)
theorem kc_label {r : Int32} {cc : ByteArray} {pc nL : Nat} {c0 : Cond} {rest : List Value} {u : RSt} (X : RC p s m args c cc nL c0 D kA V A) (hS : RS D kA Z A s u H locs) (h : F_label N u = some (r, w)) (hF : 3 + 1 ≤ R.frames) (hL : 8 + (6 + 11) + 66 ≤ R.locals) (hl : ls.size = nL) (hc : (rest.map fun v => v.category).sum ≤ 8) (hdg : decode cc pc = .ok (.invokevirtual 530, 3)) (kk : ∀ H locs, RS D kA Z A s w H locs → W p l e R s m args below meth c H locs 0 0 Q (F0 m (pc + 3) ls (rest))) : W p l e R s m args below meth c H locs 0 0 Q (F0 m pc ls (.ref (Z 200) :: rest)) :=
  rcall_v (n := 0) X hS (k_label l D kA V Z N  u H.size h) (gw_V gw_2556 gw_2558 gs_11_6 gw_16 gw_2559) (by decide +kernel) hF hL rfl hl hc rfl hdg kk
def B_leaves_94 (N : Nat) (u : RSt) : Option (Int32 × RSt) := bn (F_take N 229 u) fun _ u_1 => some (0, u_1)
set_option maxHeartbeats 4000000 in
theorem b_leaves_94 {r : Int32} (X : RC p s m args c cX12_leaves 5 (Cond.code yX12_leaves cX12_leaves 5 none) D kA V A) (hE : REv p l e R s m args below meth c cX12_leaves D kA Z A Q w) (hF : 3 ≤ R.frames) (hL : 63 ≤ R.locals)  {u : RSt} (h : B_leaves_94 N u = some (r, w)) (hS : RS D kA Z A s u H locs) (hl : lv_has ls 5 [(0, .ref (Z 200))]) : W p l e R s m args below meth c H locs 0 0 Q (F0 m 94 ls []) := by
  obtain ⟨⟨hx, hb, hml, hown, hts⟩, hK, hEV, hA⟩ := id X
  have hG : ∀ w ∈ GW, w.before args s = true := fun w h => hts w (List.mem_cons_of_mem _ h)
  unfold B_leaves_94 at h
  refine lv_aload_n hx hb dX12_leaves_94 rfl (lv_at hl 0 rfl) ?_
  refine lv_sipush (v := 229) hx hb dX12_leaves_95 (by decide) ?_
  obtain ⟨r_u_1, u_1, h_u_1, h⟩ := bn_of h
  refine kc_take X hS h_u_1 (Nat.le_trans (Nat.le_of_ble_eq_true rfl) hF) (Nat.le_trans (Nat.le_of_ble_eq_true rfl) hL) hl.1 (Nat.le_of_ble_eq_true rfl) dX12_leaves_98 (fun H locs hS => ?_)
  obtain ⟨-, rfl⟩ := so h
  exact hE _ _ _ _ hS dX12_leaves_101
def B_leaves_63 (N : Nat) (l1 : Int32) (l3 : Int32) (s1 : Int32) (s2 : Int32) (u : RSt) : Option (Int32 × RSt) := bn (F_emit N s1 s2 0 u) fun r_3 u_2 => if l1 = (124 : Int32) then (wr 30 l3 (sA u_2 75 l3.toNatClampNeg r_3) fun u_7 => B_leaves_94 N u_7) else (wr 30 l3 (sA u_2 76 l3.toNatClampNeg r_3) fun u_5 => B_leaves_94 N u_5)
set_option maxHeartbeats 4000000 in
theorem b_leaves_63 {r : Int32} (X : RC p s m args c cX12_leaves 5 (Cond.code yX12_leaves cX12_leaves 5 none) D kA V A) (hE : REv p l e R s m args below meth c cX12_leaves D kA Z A Q w) (hF : 3 ≤ R.frames) (hL : 63 ≤ R.locals) {l1 : Int32} {l3 : Int32} {s1 : Int32} {s2 : Int32}  {u : RSt} (h : B_leaves_63 N l1 l3 s1 s2 u = some (r, w)) (hS : RS D kA Z A s u H locs) (hl : lv_has ls 5 [(0, .ref (Z 200)), (1, .int l1), (3, .int l3)]) : W p l e R s m args below meth c H locs 0 0 Q (F0 m 63 ls [.int s2, .int s1, .ref (Z 200)]) := by
  obtain ⟨⟨hx, hb, hml, hown, hts⟩, hK, hEV, hA⟩ := id X
  have hG : ∀ w ∈ GW, w.before args s = true := fun w h => hts w (List.mem_cons_of_mem _ h)
  unfold B_leaves_63 at h
  refine lv_iconst (v := 0) hx hb dX12_leaves_63 (by decide) ?_
  obtain ⟨r_3, u_2, h_u_2, h⟩ := bn_of h
  refine kc_emit X hS h_u_2 (Nat.le_trans (Nat.le_of_ble_eq_true rfl) hF) (Nat.le_trans (Nat.le_of_ble_eq_true rfl) hL) hl.1 (Nat.le_of_ble_eq_true rfl) dX12_leaves_64 (fun H locs hS => ?_)
  refine lv_istore (lv' := [(4, .int r_3), (0, .ref (Z 200)), (1, .int l1), (3, .int l3)]) hx hb dX12_leaves_67 hl (by decide) rfl (fun ls hl => ?_)
  refine lv_iload_n hx hb dX12_leaves_69 rfl (lv_at hl 2 rfl) ?_
  refine lv_bipush (v := 124) hx hb dX12_leaves_70 (by decide) ?_
  refine lv_icmp_ne (tgt := 86) hx hb dX12_leaves_72 (by decide) (fun c_4 => ?_) (fun c_4 => ?_)
  · have h := im (c_4) h
    refine lv_aload_n hx hb dX12_leaves_86 rfl (lv_at hl 1 rfl) ?_
    refine rg_76 X hS dX12_leaves_87 ?_
    refine lv_iload_n hx hb dX12_leaves_90 rfl (lv_at hl 3 rfl) ?_
    refine lv_iload hx hb dX12_leaves_91 (lv_at hl 0 rfl) ?_
    obtain ⟨u_5, e_u_5, i_6, h⟩ := wr_of h
    refine rs_76 X hS i_6 e_u_5 dX12_leaves_93 (fun H locs hS => ?_)
    exact b_leaves_94 X hE hF hL  h hS (lv_sub hl [1] rfl)
  · have h := ip (c_4) h
    refine lv_aload_n hx hb dX12_leaves_75 rfl (lv_at hl 1 rfl) ?_
    refine rg_75 X hS dX12_leaves_76 ?_
    refine lv_iload_n hx hb dX12_leaves_79 rfl (lv_at hl 3 rfl) ?_
    refine lv_iload hx hb dX12_leaves_80 (lv_at hl 0 rfl) ?_
    obtain ⟨u_7, e_u_7, i_8, h⟩ := wr_of h
    refine rs_75 X hS i_8 e_u_7 dX12_leaves_82 (fun H locs hS => ?_)
    refine lv_goto (tgt := 94) hx hb dX12_leaves_83 (by decide) ?_
    exact b_leaves_94 X hE hF hL  h hS (lv_sub hl [1] rfl)
def B_leaves_13 (N : Nat) (l1 : Int32) (l2 : Int32) (s1 : Int32) (u : RSt) : Option (Int32 × RSt) := bn (F_wrong N s1 3 l2 u) fun _ u_9 => if (u_9.1 69) = (0 : Int32) then (B_leaves_94 N u_9) else (if (u_9.1 67) = (0 : Int32) then (if l1 = (124 : Int32) then (rd (u_9.2.2.1 75) 30 ((u_9.1 74) - 1) fun v_15 => B_leaves_63 N l1 ((u_9.1 74) - 1) 28 v_15 u_9) else (rd (u_9.2.2.1 76) 30 ((u_9.1 74) - 1) fun v_13 => B_leaves_63 N l1 ((u_9.1 74) - 1) 28 v_13 u_9)) else (B_leaves_94 N u_9))
set_option maxHeartbeats 4000000 in
theorem b_leaves_13 {r : Int32} (X : RC p s m args c cX12_leaves 5 (Cond.code yX12_leaves cX12_leaves 5 none) D kA V A) (hE : REv p l e R s m args below meth c cX12_leaves D kA Z A Q w) (hF : 3 ≤ R.frames) (hL : 63 ≤ R.locals) {l1 : Int32} {l2 : Int32} {s1 : Int32}  {u : RSt} (h : B_leaves_13 N l1 l2 s1 u = some (r, w)) (hS : RS D kA Z A s u H locs) (hl : lv_has ls 5 [(0, .ref (Z 200)), (1, .int l1), (2, .int l2)]) : W p l e R s m args below meth c H locs 0 0 Q (F0 m 13 ls [.int s1, .ref (Z 200)]) := by
  obtain ⟨⟨hx, hb, hml, hown, hts⟩, hK, hEV, hA⟩ := id X
  have hG : ∀ w ∈ GW, w.before args s = true := fun w h => hts w (List.mem_cons_of_mem _ h)
  unfold B_leaves_13 at h
  refine lv_iconst (v := 3) hx hb dX12_leaves_13 (by decide) ?_
  refine lv_iload_n hx hb dX12_leaves_14 rfl (lv_at hl 2 rfl) ?_
  obtain ⟨r_u_9, u_9, h_u_9, h⟩ := bn_of h
  refine kc_wrong X hS h_u_9 (Nat.le_trans (Nat.le_of_ble_eq_true rfl) hF) (Nat.le_trans (Nat.le_of_ble_eq_true rfl) hL) hl.1 (Nat.le_of_ble_eq_true rfl) dX12_leaves_15 (fun H locs hS => ?_)
  refine lv_aload_n hx hb dX12_leaves_18 rfl (lv_at hl 0 rfl) ?_
  refine rg_69 X hS dX12_leaves_19 ?_
  refine lv_if_eq (tgt := 94) hx hb dX12_leaves_22 (by decide) (fun c_10 => ?_) (fun c_10 => ?_)
  · have h := ip (c_10) h
    exact b_leaves_94 X hE hF hL  h hS (lv_sub hl [0] rfl)
  · have h := im (c_10) h
    refine lv_aload_n hx hb dX12_leaves_25 rfl (lv_at hl 0 rfl) ?_
    refine rg_67 X hS dX12_leaves_26 ?_
    refine lv_if_ne (tgt := 94) hx hb dX12_leaves_29 (by decide) (fun c_11 => ?_) (fun c_11 => ?_)
    · have h := im (c_11) h
      exact b_leaves_94 X hE hF hL  h hS (lv_sub hl [0] rfl)
    · have h := ip (c_11) h
      refine lv_aload_n hx hb dX12_leaves_32 rfl (lv_at hl 0 rfl) ?_
      refine rg_74 X hS dX12_leaves_33 ?_
      refine lv_iconst (v := 1) hx hb dX12_leaves_36 (by decide) ?_
      refine lv_isub hx hb dX12_leaves_37 ?_
      refine lv_istore_n (lv' := [(3, .int ((u_9.1 74) - 1)), (0, .ref (Z 200)), (1, .int l1), (2, .int l2)]) hx hb dX12_leaves_38 rfl hl (by decide) rfl (fun ls hl => ?_)
      refine lv_aload_n hx hb dX12_leaves_39 rfl (lv_at hl 1 rfl) ?_
      refine lv_bipush (v := 28) hx hb dX12_leaves_40 (by decide) ?_
      refine lv_iload_n hx hb dX12_leaves_42 rfl (lv_at hl 2 rfl) ?_
      refine lv_bipush (v := 124) hx hb dX12_leaves_43 (by decide) ?_
      refine lv_icmp_ne (tgt := 57) hx hb dX12_leaves_45 (by decide) (fun c_12 => ?_) (fun c_12 => ?_)
      · have h := im (c_12) h
        refine lv_aload_n hx hb dX12_leaves_57 rfl (lv_at hl 1 rfl) ?_
        refine rg_76 X hS dX12_leaves_58 ?_
        refine lv_iload_n hx hb dX12_leaves_61 rfl (lv_at hl 0 rfl) ?_
        obtain ⟨v_13, e_v_13, i_14, h⟩ := rd_of h
        refine ra_76 X hS i_14 e_v_13 dX12_leaves_62 ?_
        exact b_leaves_63 X hE hF hL  h hS (lv_sub hl [1, 2, 0] rfl)
      · have h := ip (c_12) h
        refine lv_aload_n hx hb dX12_leaves_48 rfl (lv_at hl 1 rfl) ?_
        refine rg_75 X hS dX12_leaves_49 ?_
        refine lv_iload_n hx hb dX12_leaves_52 rfl (lv_at hl 0 rfl) ?_
        obtain ⟨v_15, e_v_15, i_16, h⟩ := rd_of h
        refine ra_75 X hS i_16 e_v_15 dX12_leaves_53 ?_
        refine lv_goto (tgt := 63) hx hb dX12_leaves_54 (by decide) ?_
        exact b_leaves_63 X hE hF hL  h hS (lv_sub hl [1, 2, 0] rfl)
def B_leaves_0 (N : Nat) (l1 : Int32) (l2 : Int32) (u : RSt) : Option (Int32 × RSt) := if (u.1 74) = (0 : Int32) then (B_leaves_13 N l1 l2 1 u) else (B_leaves_13 N l1 l2 0 u)
set_option maxHeartbeats 4000000 in
theorem b_leaves_0 {r : Int32} (X : RC p s m args c cX12_leaves 5 (Cond.code yX12_leaves cX12_leaves 5 none) D kA V A) (hE : REv p l e R s m args below meth c cX12_leaves D kA Z A Q w) (hF : 3 ≤ R.frames) (hL : 63 ≤ R.locals) {l1 : Int32} {l2 : Int32}  {u : RSt} (h : B_leaves_0 N l1 l2 u = some (r, w)) (hS : RS D kA Z A s u H locs) (hl : lv_has ls 5 [(0, .ref (Z 200)), (1, .int l1), (2, .int l2)]) : W p l e R s m args below meth c H locs 0 0 Q (F0 m 0 ls []) := by
  obtain ⟨⟨hx, hb, hml, hown, hts⟩, hK, hEV, hA⟩ := id X
  have hG : ∀ w ∈ GW, w.before args s = true := fun w h => hts w (List.mem_cons_of_mem _ h)
  unfold B_leaves_0 at h
  refine lv_aload_n hx hb dX12_leaves_0 rfl (lv_at hl 0 rfl) ?_
  refine lv_aload_n hx hb dX12_leaves_1 rfl (lv_at hl 0 rfl) ?_
  refine rg_74 X hS dX12_leaves_2 ?_
  refine lv_if_ne (tgt := 12) hx hb dX12_leaves_5 (by decide) (fun c_17 => ?_) (fun c_17 => ?_)
  · have h := im (c_17) h
    refine lv_iconst (v := 0) hx hb dX12_leaves_12 (by decide) ?_
    exact b_leaves_13 X hE hF hL  h hS (lv_sub hl [0, 1, 2] rfl)
  · have h := ip (c_17) h
    refine lv_iconst (v := 1) hx hb dX12_leaves_8 (by decide) ?_
    refine lv_goto (tgt := 13) hx hb dX12_leaves_9 (by decide) ?_
    exact b_leaves_13 X hE hF hL  h hS (lv_sub hl [0, 1, 2] rfl)
def F_leaves (N : Nat) (l1 : Int32) (l2 : Int32) (u : RSt) : Option (Int32 × RSt) := B_leaves_0 N l1 l2 u
set_option maxHeartbeats 4000000 in
theorem k_leaves (l : Launch) (D : va_G) (kA : Nat → ClassId) (V Z : Nat → Nat) (N : Nat) (l1 : Int32) (l2 : Int32) (u : RSt) (sz : Nat) {r : Int32} {w : RSt} (h : F_leaves N l1 l2 u = some (r, w)) : Met l yX12_leaves (Cond.code yX12_leaves cX12_leaves 5 none :: GW) { frames := 3, cells := 0, slots := 0, locals := 63 } (rPc D kA V Z [.int l1, .int l2] u sz) (rQv D kA Z u sz w) 0 0 (va_A (RW kA Z u) sz) := by
  refine Met.ofW (cc := cX12_leaves) (maxL := 5) (ret := none) (by decide) rfl ?_
  intro p e s m args below meth c s₁ Bd hml hv
  obtain ⟨rfl, hsz, hP, hK, hD0, hE⟩ := hv
  have hts := atoms_spec (ws := Cond.code yX12_leaves cX12_leaves 5 none :: GW) Bd.pre
  have hl := lv_entry (.ref (Z 200) :: [.int l1, .int l2]) (n := 5) (Nat.le_of_ble_eq_true rfl)
  rw [lg_entry_eq]
  generalize (lg_sl (.ref (Z 200) :: [.int l1, .int l2]) ++ List.replicate (5 - (lg_sl (.ref (Z 200) :: [.int l1, .int l2])).length) Slot.unset).toArray = ls at hl ⊢
  have hl : lv_has ls 5 [(0, .ref (Z 200)), (1, .int l1), (2, .int l2)] := hl
  subst hsz
  have X : RC p s m (.ref (Z 200) :: [.int l1, .int l2]).toArray c cX12_leaves 5 (Cond.code yX12_leaves cX12_leaves 5 none) D kA V (va_A (RW kA Z u) s.heap.size) := ⟨⟨Bd.exec, Bd.bytes, hml, findClass_of_methodNamed Bd.named, hts⟩, hK, hE, fun q h => Or.inr h⟩
  exact b_leaves_0 X (rend_v (cy := cX12_leaves) X Bd.returns Bd.notSynchronized) (Nat.le_refl _) (Nat.le_refl _) h ⟨hP, hD0.self, va_S.rf⟩ (lv_sub hl [0, 1, 2] rfl)
theorem kc_leaves {r : Int32} {cc : ByteArray} {pc nL : Nat} {c0 : Cond} {rest : List Value} {l1 : Int32} {l2 : Int32} {u : RSt} (X : RC p s m args c cc nL c0 D kA V A) (hS : RS D kA Z A s u H locs) (h : F_leaves N l1 l2 u = some (r, w)) (hF : 3 + 1 ≤ R.frames) (hL : 8 + (5 + 11) + 63 ≤ R.locals) (hl : ls.size = nL) (hc : (rest.map fun v => v.category).sum ≤ 8) (hdg : decode cc pc = .ok (.invokevirtual 512, 3)) (kk : ∀ H locs, RS D kA Z A s w H locs → W p l e R s m args below meth c H locs 0 0 Q (F0 m (pc + 3) ls (rest))) : W p l e R s m args below meth c H locs 0 0 Q (F0 m pc ls (.int l2 :: .int l1 :: .ref (Z 200) :: rest)) :=
  rcall_v (n := 2) X hS (k_leaves l D kA V Z N l1 l2 u H.size h) (gw_V gw_2560 gw_2562 gs_11_7 gw_16 gw_2563) (by decide +kernel) hF hL rfl hl hc rfl hdg kk
end JudgeRows
