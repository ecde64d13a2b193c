abbrev cX12_expression : ByteArray := prog_14_method_56_code
def yX12_expression : MethodName := ⟨RX12, "expression", "()I"⟩
def yX12_two : MethodName := ⟨RX12, "two", "(I)I"⟩
def yX12_call : MethodName := ⟨RX12, "call", "()I"⟩
abbrev cX12_call : ByteArray := prog_14_method_62_code
def yX12_cast : MethodName := ⟨RX12, "cast", "()I"⟩
abbrev cX12_cast : ByteArray := prog_14_method_61_code
def yX12_operand : MethodName := ⟨RX12, "operand", "()I"⟩
def yX12_index : MethodName := ⟨RX12, "index", "(II)V"⟩
abbrev cX12_index : ByteArray := prog_14_method_64_code
def yX12_inner : MethodName := ⟨RX12, "inner", "()I"⟩
abbrev cX12_inner : ByteArray := prog_14_method_63_code
abbrev cX12_operand : ByteArray := prog_14_method_59_code
def yX12_signed : MethodName := ⟨RX12, "signed", "(I)I"⟩
def yX12_spot : MethodName := ⟨RX12, "spot", "(Z)V"⟩
abbrev cX12_signed : ByteArray := prog_14_method_60_code
abbrev cX12_spot : ByteArray := prog_14_method_65_code
abbrev cX12_two : ByteArray := prog_14_method_57_code
theorem dX12_expression_0 : decode cX12_expression 0 = .ok (.aload_n 0, 1) := by decide +kernel
theorem dX12_expression_1 : decode cX12_expression 1 = .ok (.iconst 1, 1) := by decide +kernel
theorem dX12_expression_2 : decode cX12_expression 2 = .ok (.invokevirtual 438, 3) := by decide +kernel
theorem dX12_expression_5 : decode cX12_expression 5 = .ok (.istore_n 1, 1) := by decide +kernel
theorem dX12_expression_6 : decode cX12_expression 6 = .ok (.aload_n 0, 1) := by decide +kernel
theorem dX12_expression_7 : decode cX12_expression 7 = .ok (.sipush 232, 3) := by decide +kernel
theorem dX12_expression_10 : decode cX12_expression 10 = .ok (.invokevirtual 112, 3) := by decide +kernel
theorem dX12_expression_13 : decode cX12_expression 13 = .ok (.ifCond .ne 5, 3) := by decide +kernel
theorem dX12_expression_16 : decode cX12_expression 16 = .ok (.iload_n 1, 1) := by decide +kernel
theorem dX12_expression_17 : decode cX12_expression 17 = .ok (.ireturn, 1) := by decide +kernel
theorem dX12_expression_18 : decode cX12_expression 18 = .ok (.aload_n 0, 1) := by decide +kernel
theorem dX12_expression_19 : decode cX12_expression 19 = .ok (.invokevirtual 122, 3) := by decide +kernel
theorem dX12_expression_22 : decode cX12_expression 22 = .ok (.aload_n 0, 1) := by decide +kernel
theorem dX12_expression_23 : decode cX12_expression 23 = .ok (.aload_n 0, 1) := by decide +kernel
theorem dX12_expression_24 : decode cX12_expression 24 = .ok (.getfield 35, 3) := by decide +kernel
theorem dX12_expression_27 : decode cX12_expression 27 = .ok (.aload_n 0, 1) := by decide +kernel
theorem dX12_expression_28 : decode cX12_expression 28 = .ok (.getfield 109, 3) := by decide +kernel
theorem dX12_expression_31 : decode cX12_expression 31 = .ok (.iaload, 1) := by decide +kernel
theorem dX12_expression_32 : decode cX12_expression 32 = .ok (.invokevirtual 441, 3) := by decide +kernel
theorem dX12_expression_35 : decode cX12_expression 35 = .ok (.aload_n 0, 1) := by decide +kernel
theorem dX12_expression_36 : decode cX12_expression 36 = .ok (.dup, 1) := by decide +kernel
theorem dX12_expression_37 : decode cX12_expression 37 = .ok (.getfield 109, 3) := by decide +kernel
theorem dX12_expression_40 : decode cX12_expression 40 = .ok (.iconst 1, 1) := by decide +kernel
theorem dX12_expression_41 : decode cX12_expression 41 = .ok (.iadd, 1) := by decide +kernel
theorem dX12_expression_42 : decode cX12_expression 42 = .ok (.putfield 109, 3) := by decide +kernel
theorem dX12_expression_45 : decode cX12_expression 45 = .ok (.aload_n 0, 1) := by decide +kernel
theorem dX12_expression_46 : decode cX12_expression 46 = .ok (.bipush 26, 2) := by decide +kernel
theorem dX12_expression_48 : decode cX12_expression 48 = .ok (.iconst 0, 1) := by decide +kernel
theorem dX12_expression_49 : decode cX12_expression 49 = .ok (.iconst 0, 1) := by decide +kernel
theorem dX12_expression_50 : decode cX12_expression 50 = .ok (.invokevirtual 144, 3) := by decide +kernel
theorem dX12_expression_53 : decode cX12_expression 53 = .ok (.istore_n 2, 1) := by decide +kernel
theorem dX12_expression_54 : decode cX12_expression 54 = .ok (.aload_n 0, 1) := by decide +kernel
theorem dX12_expression_55 : decode cX12_expression 55 = .ok (.invokevirtual 444, 3) := by decide +kernel
theorem dX12_expression_58 : decode cX12_expression 58 = .ok (.istore_n 3, 1) := by decide +kernel
theorem dX12_expression_59 : decode cX12_expression 59 = .ok (.aload_n 0, 1) := by decide +kernel
theorem dX12_expression_60 : decode cX12_expression 60 = .ok (.bipush 28, 2) := by decide +kernel
theorem dX12_expression_62 : decode cX12_expression 62 = .ok (.iconst 0, 1) := by decide +kernel
theorem dX12_expression_63 : decode cX12_expression 63 = .ok (.iconst 0, 1) := by decide +kernel
theorem dX12_expression_64 : decode cX12_expression 64 = .ok (.invokevirtual 144, 3) := by decide +kernel
theorem dX12_expression_67 : decode cX12_expression 67 = .ok (.istore 4, 2) := by decide +kernel
theorem dX12_expression_69 : decode cX12_expression 69 = .ok (.aload_n 0, 1) := by decide +kernel
theorem dX12_expression_70 : decode cX12_expression 70 = .ok (.iload_n 2, 1) := by decide +kernel
theorem dX12_expression_71 : decode cX12_expression 71 = .ok (.invokevirtual 447, 3) := by decide +kernel
theorem dX12_expression_74 : decode cX12_expression 74 = .ok (.aload_n 0, 1) := by decide +kernel
theorem dX12_expression_75 : decode cX12_expression 75 = .ok (.sipush 233, 3) := by decide +kernel
theorem dX12_expression_78 : decode cX12_expression 78 = .ok (.invokevirtual 125, 3) := by decide +kernel
theorem dX12_expression_81 : decode cX12_expression 81 = .ok (.aload_n 0, 1) := by decide +kernel
theorem dX12_expression_82 : decode cX12_expression 82 = .ok (.invokevirtual 444, 3) := by decide +kernel
theorem dX12_expression_85 : decode cX12_expression 85 = .ok (.istore 5, 2) := by decide +kernel
theorem dX12_expression_87 : decode cX12_expression 87 = .ok (.aload_n 0, 1) := by decide +kernel
theorem dX12_expression_88 : decode cX12_expression 88 = .ok (.iload 4, 2) := by decide +kernel
theorem dX12_expression_90 : decode cX12_expression 90 = .ok (.invokevirtual 447, 3) := by decide +kernel
theorem dX12_expression_93 : decode cX12_expression 93 = .ok (.aload_n 0, 1) := by decide +kernel
theorem dX12_expression_94 : decode cX12_expression 94 = .ok (.dup, 1) := by decide +kernel
theorem dX12_expression_95 : decode cX12_expression 95 = .ok (.getfield 119, 3) := by decide +kernel
theorem dX12_expression_98 : decode cX12_expression 98 = .ok (.iconst 1, 1) := by decide +kernel
theorem dX12_expression_99 : decode cX12_expression 99 = .ok (.isub, 1) := by decide +kernel
theorem dX12_expression_100 : decode cX12_expression 100 = .ok (.putfield 119, 3) := by decide +kernel
theorem dX12_expression_103 : decode cX12_expression 103 = .ok (.aload_n 0, 1) := by decide +kernel
theorem dX12_expression_104 : decode cX12_expression 104 = .ok (.iconst 0, 1) := by decide +kernel
theorem dX12_expression_105 : decode cX12_expression 105 = .ok (.putfield 432, 3) := by decide +kernel
theorem dX12_expression_108 : decode cX12_expression 108 = .ok (.iload_n 3, 1) := by decide +kernel
theorem dX12_expression_109 : decode cX12_expression 109 = .ok (.iconst 4, 1) := by decide +kernel
theorem dX12_expression_110 : decode cX12_expression 110 = .ok (.if_icmp .eq 9, 3) := by decide +kernel
theorem dX12_expression_113 : decode cX12_expression 113 = .ok (.iload 5, 2) := by decide +kernel
theorem dX12_expression_115 : decode cX12_expression 115 = .ok (.iconst 4, 1) := by decide +kernel
theorem dX12_expression_116 : decode cX12_expression 116 = .ok (.if_icmp .ne 7, 3) := by decide +kernel
theorem dX12_expression_119 : decode cX12_expression 119 = .ok (.iconst 4, 1) := by decide +kernel
theorem dX12_expression_120 : decode cX12_expression 120 = .ok (.goto 4, 3) := by decide +kernel
theorem dX12_expression_123 : decode cX12_expression 123 = .ok (.iconst 3, 1) := by decide +kernel
theorem dX12_expression_124 : decode cX12_expression 124 = .ok (.ireturn, 1) := by decide +kernel
theorem dX12_two_0 : decode cX12_two 0 = .ok (.aload_n 0, 1) := by decide +kernel
theorem dX12_two_1 : decode cX12_two 1 = .ok (.invokevirtual 450, 3) := by decide +kernel
theorem dX12_two_4 : decode cX12_two 4 = .ok (.istore_n 2, 1) := by decide +kernel
theorem dX12_two_5 : decode cX12_two 5 = .ok (.aload_n 0, 1) := by decide +kernel
theorem dX12_two_6 : decode cX12_two 6 = .ok (.invokevirtual 453, 3) := by decide +kernel
theorem dX12_two_9 : decode cX12_two 9 = .ok (.istore_n 3, 1) := by decide +kernel
theorem dX12_two_10 : decode cX12_two 10 = .ok (.iload_n 3, 1) := by decide +kernel
theorem dX12_two_11 : decode cX12_two 11 = .ok (.iload_n 1, 1) := by decide +kernel
theorem dX12_two_12 : decode cX12_two 12 = .ok (.if_icmp .lt 160, 3) := by decide +kernel
theorem dX12_two_15 : decode cX12_two 15 = .ok (.aload_n 0, 1) := by decide +kernel
theorem dX12_two_16 : decode cX12_two 16 = .ok (.getfield 38, 3) := by decide +kernel
theorem dX12_two_19 : decode cX12_two 19 = .ok (.aload_n 0, 1) := by decide +kernel
theorem dX12_two_20 : decode cX12_two 20 = .ok (.getfield 109, 3) := by decide +kernel
theorem dX12_two_23 : decode cX12_two 23 = .ok (.iaload, 1) := by decide +kernel
theorem dX12_two_24 : decode cX12_two 24 = .ok (.istore 4, 2) := by decide +kernel
theorem dX12_two_26 : decode cX12_two 26 = .ok (.aload_n 0, 1) := by decide +kernel
theorem dX12_two_27 : decode cX12_two 27 = .ok (.getfield 35, 3) := by decide +kernel
theorem dX12_two_30 : decode cX12_two 30 = .ok (.aload_n 0, 1) := by decide +kernel
theorem dX12_two_31 : decode cX12_two 31 = .ok (.getfield 109, 3) := by decide +kernel
theorem dX12_two_34 : decode cX12_two 34 = .ok (.iaload, 1) := by decide +kernel
theorem dX12_two_35 : decode cX12_two 35 = .ok (.istore 5, 2) := by decide +kernel
theorem dX12_two_37 : decode cX12_two 37 = .ok (.aload_n 0, 1) := by decide +kernel
theorem dX12_two_38 : decode cX12_two 38 = .ok (.dup, 1) := by decide +kernel
theorem dX12_two_39 : decode cX12_two 39 = .ok (.getfield 109, 3) := by decide +kernel
theorem dX12_two_42 : decode cX12_two 42 = .ok (.iconst 1, 1) := by decide +kernel
theorem dX12_two_43 : decode cX12_two 43 = .ok (.iadd, 1) := by decide +kernel
theorem dX12_two_44 : decode cX12_two 44 = .ok (.putfield 109, 3) := by decide +kernel
theorem dX12_two_47 : decode cX12_two 47 = .ok (.aload_n 0, 1) := by decide +kernel
theorem dX12_two_48 : decode cX12_two 48 = .ok (.iload 5, 2) := by decide +kernel
theorem dX12_two_50 : decode cX12_two 50 = .ok (.invokevirtual 441, 3) := by decide +kernel
theorem dX12_two_53 : decode cX12_two 53 = .ok (.iload_n 3, 1) := by decide +kernel
theorem dX12_two_54 : decode cX12_two 54 = .ok (.iconst 3, 1) := by decide +kernel
theorem dX12_two_55 : decode cX12_two 55 = .ok (.if_icmp .ge 83, 3) := by decide +kernel
theorem dX12_two_58 : decode cX12_two 58 = .ok (.aload_n 0, 1) := by decide +kernel
theorem dX12_two_59 : decode cX12_two 59 = .ok (.iload_n 3, 1) := by decide +kernel
theorem dX12_two_60 : decode cX12_two 60 = .ok (.iconst 2, 1) := by decide +kernel
theorem dX12_two_61 : decode cX12_two 61 = .ok (.if_icmp .ne 8, 3) := by decide +kernel
theorem dX12_two_64 : decode cX12_two 64 = .ok (.bipush 26, 2) := by decide +kernel
theorem dX12_two_66 : decode cX12_two 66 = .ok (.goto 5, 3) := by decide +kernel
theorem dX12_two_69 : decode cX12_two 69 = .ok (.bipush 27, 2) := by decide +kernel
theorem dX12_two_71 : decode cX12_two 71 = .ok (.iconst 0, 1) := by decide +kernel
theorem dX12_two_72 : decode cX12_two 72 = .ok (.iconst 0, 1) := by decide +kernel
theorem dX12_two_73 : decode cX12_two 73 = .ok (.invokevirtual 144, 3) := by decide +kernel
theorem dX12_two_76 : decode cX12_two 76 = .ok (.istore 6, 2) := by decide +kernel
theorem dX12_two_78 : decode cX12_two 78 = .ok (.aload_n 0, 1) := by decide +kernel
theorem dX12_two_79 : decode cX12_two 79 = .ok (.iload_n 3, 1) := by decide +kernel
theorem dX12_two_80 : decode cX12_two 80 = .ok (.iconst 1, 1) := by decide +kernel
theorem dX12_two_81 : decode cX12_two 81 = .ok (.iadd, 1) := by decide +kernel
theorem dX12_two_82 : decode cX12_two 82 = .ok (.invokevirtual 438, 3) := by decide +kernel
theorem dX12_two_85 : decode cX12_two 85 = .ok (.istore 7, 2) := by decide +kernel
theorem dX12_two_87 : decode cX12_two 87 = .ok (.aload_n 0, 1) := by decide +kernel
theorem dX12_two_88 : decode cX12_two 88 = .ok (.bipush 29, 2) := by decide +kernel
theorem dX12_two_90 : decode cX12_two 90 = .ok (.iconst 0, 1) := by decide +kernel
theorem dX12_two_91 : decode cX12_two 91 = .ok (.iconst 0, 1) := by decide +kernel
theorem dX12_two_92 : decode cX12_two 92 = .ok (.invokevirtual 144, 3) := by decide +kernel
theorem dX12_two_95 : decode cX12_two 95 = .ok (.istore 7, 2) := by decide +kernel
theorem dX12_two_97 : decode cX12_two 97 = .ok (.aload_n 0, 1) := by decide +kernel
theorem dX12_two_98 : decode cX12_two 98 = .ok (.bipush 28, 2) := by decide +kernel
theorem dX12_two_100 : decode cX12_two 100 = .ok (.iconst 0, 1) := by decide +kernel
theorem dX12_two_101 : decode cX12_two 101 = .ok (.iconst 0, 1) := by decide +kernel
theorem dX12_two_102 : decode cX12_two 102 = .ok (.invokevirtual 144, 3) := by decide +kernel
theorem dX12_two_105 : decode cX12_two 105 = .ok (.istore 8, 2) := by decide +kernel
theorem dX12_two_107 : decode cX12_two 107 = .ok (.aload_n 0, 1) := by decide +kernel
theorem dX12_two_108 : decode cX12_two 108 = .ok (.iload 6, 2) := by decide +kernel
theorem dX12_two_110 : decode cX12_two 110 = .ok (.invokevirtual 447, 3) := by decide +kernel
theorem dX12_two_113 : decode cX12_two 113 = .ok (.aload_n 0, 1) := by decide +kernel
theorem dX12_two_114 : decode cX12_two 114 = .ok (.iload_n 3, 1) := by decide +kernel
theorem dX12_two_115 : decode cX12_two 115 = .ok (.iconst 2, 1) := by decide +kernel
theorem dX12_two_116 : decode cX12_two 116 = .ok (.if_icmp .ne 7, 3) := by decide +kernel
theorem dX12_two_119 : decode cX12_two 119 = .ok (.lconst 0, 1) := by decide +kernel
theorem dX12_two_120 : decode cX12_two 120 = .ok (.goto 4, 3) := by decide +kernel
theorem dX12_two_123 : decode cX12_two 123 = .ok (.lconst 1, 1) := by decide +kernel
theorem dX12_two_124 : decode cX12_two 124 = .ok (.invokevirtual 374, 3) := by decide +kernel
theorem dX12_two_127 : decode cX12_two 127 = .ok (.aload_n 0, 1) := by decide +kernel
theorem dX12_two_128 : decode cX12_two 128 = .ok (.iload 8, 2) := by decide +kernel
theorem dX12_two_130 : decode cX12_two 130 = .ok (.invokevirtual 447, 3) := by decide +kernel
theorem dX12_two_133 : decode cX12_two 133 = .ok (.iconst 3, 1) := by decide +kernel
theorem dX12_two_134 : decode cX12_two 134 = .ok (.istore_n 2, 1) := by decide +kernel
theorem dX12_two_135 : decode cX12_two 135 = .ok (.goto 24, 3) := by decide +kernel
theorem dX12_two_138 : decode cX12_two 138 = .ok (.aload_n 0, 1) := by decide +kernel
theorem dX12_two_139 : decode cX12_two 139 = .ok (.iload_n 3, 1) := by decide +kernel
theorem dX12_two_140 : decode cX12_two 140 = .ok (.iconst 1, 1) := by decide +kernel
theorem dX12_two_141 : decode cX12_two 141 = .ok (.iadd, 1) := by decide +kernel
theorem dX12_two_142 : decode cX12_two 142 = .ok (.invokevirtual 438, 3) := by decide +kernel
theorem dX12_two_145 : decode cX12_two 145 = .ok (.istore 6, 2) := by decide +kernel
theorem dX12_two_147 : decode cX12_two 147 = .ok (.aload_n 0, 1) := by decide +kernel
theorem dX12_two_148 : decode cX12_two 148 = .ok (.iload 4, 2) := by decide +kernel
theorem dX12_two_150 : decode cX12_two 150 = .ok (.iload 5, 2) := by decide +kernel
theorem dX12_two_152 : decode cX12_two 152 = .ok (.iload_n 2, 1) := by decide +kernel
theorem dX12_two_153 : decode cX12_two 153 = .ok (.iload 6, 2) := by decide +kernel
theorem dX12_two_155 : decode cX12_two 155 = .ok (.invokevirtual 456, 3) := by decide +kernel
theorem dX12_two_158 : decode cX12_two 158 = .ok (.istore_n 2, 1) := by decide +kernel
theorem dX12_two_159 : decode cX12_two 159 = .ok (.aload_n 0, 1) := by decide +kernel
theorem dX12_two_160 : decode cX12_two 160 = .ok (.iconst 0, 1) := by decide +kernel
theorem dX12_two_161 : decode cX12_two 161 = .ok (.putfield 432, 3) := by decide +kernel
theorem dX12_two_164 : decode cX12_two 164 = .ok (.aload_n 0, 1) := by decide +kernel
theorem dX12_two_165 : decode cX12_two 165 = .ok (.invokevirtual 453, 3) := by decide +kernel
theorem dX12_two_168 : decode cX12_two 168 = .ok (.istore_n 3, 1) := by decide +kernel
theorem dX12_two_169 : decode cX12_two 169 = .ok (.goto (-159), 3) := by decide +kernel
theorem dX12_two_172 : decode cX12_two 172 = .ok (.iload_n 2, 1) := by decide +kernel
theorem dX12_two_173 : decode cX12_two 173 = .ok (.ireturn, 1) := by decide +kernel
theorem dX12_operand_0 : decode cX12_operand 0 = .ok (.aload_n 0, 1) := by decide +kernel
theorem dX12_operand_1 : decode cX12_operand 1 = .ok (.getfield 95, 3) := by decide +kernel
theorem dX12_operand_4 : decode cX12_operand 4 = .ok (.ifCond .eq 5, 3) := by decide +kernel
theorem dX12_operand_7 : decode cX12_operand 7 = .ok (.iconst 3, 1) := by decide +kernel
theorem dX12_operand_8 : decode cX12_operand 8 = .ok (.ireturn, 1) := by decide +kernel
theorem dX12_operand_9 : decode cX12_operand 9 = .ok (.aload_n 0, 1) := by decide +kernel
theorem dX12_operand_10 : decode cX12_operand 10 = .ok (.getfield 38, 3) := by decide +kernel
theorem dX12_operand_13 : decode cX12_operand 13 = .ok (.aload_n 0, 1) := by decide +kernel
theorem dX12_operand_14 : decode cX12_operand 14 = .ok (.getfield 109, 3) := by decide +kernel
theorem dX12_operand_17 : decode cX12_operand 17 = .ok (.iaload, 1) := by decide +kernel
theorem dX12_operand_18 : decode cX12_operand 18 = .ok (.istore_n 1, 1) := by decide +kernel
theorem dX12_operand_19 : decode cX12_operand 19 = .ok (.iload_n 1, 1) := by decide +kernel
theorem dX12_operand_20 : decode cX12_operand 20 = .ok (.sipush 241, 3) := by decide +kernel
theorem dX12_operand_23 : decode cX12_operand 23 = .ok (.if_icmp .eq 17, 3) := by decide +kernel
theorem dX12_operand_26 : decode cX12_operand 26 = .ok (.iload_n 1, 1) := by decide +kernel
theorem dX12_operand_27 : decode cX12_operand 27 = .ok (.sipush 245, 3) := by decide +kernel
theorem dX12_operand_30 : decode cX12_operand 30 = .ok (.if_icmp .eq 10, 3) := by decide +kernel
theorem dX12_operand_33 : decode cX12_operand 33 = .ok (.iload_n 1, 1) := by decide +kernel
theorem dX12_operand_34 : decode cX12_operand 34 = .ok (.sipush 246, 3) := by decide +kernel
theorem dX12_operand_37 : decode cX12_operand 37 = .ok (.if_icmp .ne 9, 3) := by decide +kernel
theorem dX12_operand_40 : decode cX12_operand 40 = .ok (.aload_n 0, 1) := by decide +kernel
theorem dX12_operand_41 : decode cX12_operand 41 = .ok (.iload_n 1, 1) := by decide +kernel
theorem dX12_operand_42 : decode cX12_operand 42 = .ok (.invokevirtual 460, 3) := by decide +kernel
theorem dX12_operand_45 : decode cX12_operand 45 = .ok (.ireturn, 1) := by decide +kernel
theorem dX12_operand_46 : decode cX12_operand 46 = .ok (.iload_n 1, 1) := by decide +kernel
theorem dX12_operand_47 : decode cX12_operand 47 = .ok (.sipush 223, 3) := by decide +kernel
theorem dX12_operand_50 : decode cX12_operand 50 = .ok (.if_icmp .ne 21, 3) := by decide +kernel
theorem dX12_operand_53 : decode cX12_operand 53 = .ok (.aload_n 0, 1) := by decide +kernel
theorem dX12_operand_54 : decode cX12_operand 54 = .ok (.aload_n 0, 1) := by decide +kernel
theorem dX12_operand_55 : decode cX12_operand 55 = .ok (.getfield 109, 3) := by decide +kernel
theorem dX12_operand_58 : decode cX12_operand 58 = .ok (.iconst 1, 1) := by decide +kernel
theorem dX12_operand_59 : decode cX12_operand 59 = .ok (.iadd, 1) := by decide +kernel
theorem dX12_operand_60 : decode cX12_operand 60 = .ok (.invokevirtual 463, 3) := by decide +kernel
theorem dX12_operand_63 : decode cX12_operand 63 = .ok (.ifCond .eq 8, 3) := by decide +kernel
theorem dX12_operand_66 : decode cX12_operand 66 = .ok (.aload_n 0, 1) := by decide +kernel
theorem dX12_operand_67 : decode cX12_operand 67 = .ok (.invokevirtual 466, 3) := by decide +kernel
theorem dX12_operand_70 : decode cX12_operand 70 = .ok (.ireturn, 1) := by decide +kernel
theorem dX12_operand_71 : decode cX12_operand 71 = .ok (.iload_n 1, 1) := by decide +kernel
theorem dX12_operand_72 : decode cX12_operand 72 = .ok (.sipush 223, 3) := by decide +kernel
theorem dX12_operand_75 : decode cX12_operand 75 = .ok (.if_icmp .ne 40, 3) := by decide +kernel
theorem dX12_operand_78 : decode cX12_operand 78 = .ok (.aload_n 0, 1) := by decide +kernel
theorem dX12_operand_79 : decode cX12_operand 79 = .ok (.sipush 223, 3) := by decide +kernel
theorem dX12_operand_82 : decode cX12_operand 82 = .ok (.invokevirtual 307, 3) := by decide +kernel
theorem dX12_operand_85 : decode cX12_operand 85 = .ok (.aload_n 0, 1) := by decide +kernel
theorem dX12_operand_86 : decode cX12_operand 86 = .ok (.invokevirtual 444, 3) := by decide +kernel
theorem dX12_operand_89 : decode cX12_operand 89 = .ok (.istore_n 2, 1) := by decide +kernel
theorem dX12_operand_90 : decode cX12_operand 90 = .ok (.aload_n 0, 1) := by decide +kernel
theorem dX12_operand_91 : decode cX12_operand 91 = .ok (.sipush 224, 3) := by decide +kernel
theorem dX12_operand_94 : decode cX12_operand 94 = .ok (.invokevirtual 314, 3) := by decide +kernel
theorem dX12_operand_97 : decode cX12_operand 97 = .ok (.aload_n 0, 1) := by decide +kernel
theorem dX12_operand_98 : decode cX12_operand 98 = .ok (.aload_n 0, 1) := by decide +kernel
theorem dX12_operand_99 : decode cX12_operand 99 = .ok (.getfield 432, 3) := by decide +kernel
theorem dX12_operand_102 : decode cX12_operand 102 = .ok (.ifCond .le 7, 3) := by decide +kernel
theorem dX12_operand_105 : decode cX12_operand 105 = .ok (.iconst 2, 1) := by decide +kernel
theorem dX12_operand_106 : decode cX12_operand 106 = .ok (.goto 4, 3) := by decide +kernel
theorem dX12_operand_109 : decode cX12_operand 109 = .ok (.iconst 0, 1) := by decide +kernel
theorem dX12_operand_110 : decode cX12_operand 110 = .ok (.putfield 432, 3) := by decide +kernel
theorem dX12_operand_113 : decode cX12_operand 113 = .ok (.iload_n 2, 1) := by decide +kernel
theorem dX12_operand_114 : decode cX12_operand 114 = .ok (.ireturn, 1) := by decide +kernel
theorem dX12_operand_115 : decode cX12_operand 115 = .ok (.iload_n 1, 1) := by decide +kernel
theorem dX12_operand_116 : decode cX12_operand 116 = .ok (.iconst 2, 1) := by decide +kernel
theorem dX12_operand_117 : decode cX12_operand 117 = .ok (.if_icmp .eq 13, 3) := by decide +kernel
theorem dX12_operand_120 : decode cX12_operand 120 = .ok (.iload_n 1, 1) := by decide +kernel
theorem dX12_operand_121 : decode cX12_operand 121 = .ok (.iconst 3, 1) := by decide +kernel
theorem dX12_operand_122 : decode cX12_operand 122 = .ok (.if_icmp .eq 8, 3) := by decide +kernel
theorem dX12_operand_125 : decode cX12_operand 125 = .ok (.iload_n 1, 1) := by decide +kernel
theorem dX12_operand_126 : decode cX12_operand 126 = .ok (.iconst 4, 1) := by decide +kernel
theorem dX12_operand_127 : decode cX12_operand 127 = .ok (.if_icmp .ne 101, 3) := by decide +kernel
theorem dX12_operand_130 : decode cX12_operand 130 = .ok (.aload_n 0, 1) := by decide +kernel
theorem dX12_operand_131 : decode cX12_operand 131 = .ok (.iload_n 1, 1) := by decide +kernel
theorem dX12_operand_132 : decode cX12_operand 132 = .ok (.iconst 3, 1) := by decide +kernel
theorem dX12_operand_133 : decode cX12_operand 133 = .ok (.if_icmp .ne 7, 3) := by decide +kernel
theorem dX12_operand_136 : decode cX12_operand 136 = .ok (.iconst 1, 1) := by decide +kernel
theorem dX12_operand_137 : decode cX12_operand 137 = .ok (.goto 4, 3) := by decide +kernel
theorem dX12_operand_140 : decode cX12_operand 140 = .ok (.iconst 0, 1) := by decide +kernel
theorem dX12_operand_141 : decode cX12_operand 141 = .ok (.iconst 5, 1) := by decide +kernel
theorem dX12_operand_142 : decode cX12_operand 142 = .ok (.aload_n 0, 1) := by decide +kernel
theorem dX12_operand_143 : decode cX12_operand 143 = .ok (.getfield 35, 3) := by decide +kernel
theorem dX12_operand_146 : decode cX12_operand 146 = .ok (.aload_n 0, 1) := by decide +kernel
theorem dX12_operand_147 : decode cX12_operand 147 = .ok (.getfield 109, 3) := by decide +kernel
theorem dX12_operand_150 : decode cX12_operand 150 = .ok (.iaload, 1) := by decide +kernel
theorem dX12_operand_151 : decode cX12_operand 151 = .ok (.invokevirtual 202, 3) := by decide +kernel
theorem dX12_operand_154 : decode cX12_operand 154 = .ok (.aload_n 0, 1) := by decide +kernel
theorem dX12_operand_155 : decode cX12_operand 155 = .ok (.aload_n 0, 1) := by decide +kernel
theorem dX12_operand_156 : decode cX12_operand 156 = .ok (.getfield 35, 3) := by decide +kernel
theorem dX12_operand_159 : decode cX12_operand 159 = .ok (.aload_n 0, 1) := by decide +kernel
theorem dX12_operand_160 : decode cX12_operand 160 = .ok (.getfield 109, 3) := by decide +kernel
theorem dX12_operand_163 : decode cX12_operand 163 = .ok (.iaload, 1) := by decide +kernel
theorem dX12_operand_164 : decode cX12_operand 164 = .ok (.invokevirtual 441, 3) := by decide +kernel
theorem dX12_operand_167 : decode cX12_operand 167 = .ok (.aload_n 0, 1) := by decide +kernel
theorem dX12_operand_168 : decode cX12_operand 168 = .ok (.aload_n 0, 1) := by decide +kernel
theorem dX12_operand_169 : decode cX12_operand 169 = .ok (.getfield 45, 3) := by decide +kernel
theorem dX12_operand_172 : decode cX12_operand 172 = .ok (.aload_n 0, 1) := by decide +kernel
theorem dX12_operand_173 : decode cX12_operand 173 = .ok (.getfield 109, 3) := by decide +kernel
theorem dX12_operand_176 : decode cX12_operand 176 = .ok (.laload, 1) := by decide +kernel
theorem dX12_operand_177 : decode cX12_operand 177 = .ok (.invokevirtual 374, 3) := by decide +kernel
theorem dX12_operand_180 : decode cX12_operand 180 = .ok (.aload_n 0, 1) := by decide +kernel
theorem dX12_operand_181 : decode cX12_operand 181 = .ok (.iconst 1, 1) := by decide +kernel
theorem dX12_operand_182 : decode cX12_operand 182 = .ok (.putfield 432, 3) := by decide +kernel
theorem dX12_operand_185 : decode cX12_operand 185 = .ok (.aload_n 0, 1) := by decide +kernel
theorem dX12_operand_186 : decode cX12_operand 186 = .ok (.aload_n 0, 1) := by decide +kernel
theorem dX12_operand_187 : decode cX12_operand 187 = .ok (.getfield 45, 3) := by decide +kernel
theorem dX12_operand_190 : decode cX12_operand 190 = .ok (.aload_n 0, 1) := by decide +kernel
theorem dX12_operand_191 : decode cX12_operand 191 = .ok (.getfield 109, 3) := by decide +kernel
theorem dX12_operand_194 : decode cX12_operand 194 = .ok (.laload, 1) := by decide +kernel
theorem dX12_operand_195 : decode cX12_operand 195 = .ok (.putfield 435, 3) := by decide +kernel
theorem dX12_operand_198 : decode cX12_operand 198 = .ok (.aload_n 0, 1) := by decide +kernel
theorem dX12_operand_199 : decode cX12_operand 199 = .ok (.dup, 1) := by decide +kernel
theorem dX12_operand_200 : decode cX12_operand 200 = .ok (.getfield 109, 3) := by decide +kernel
theorem dX12_operand_203 : decode cX12_operand 203 = .ok (.iconst 1, 1) := by decide +kernel
theorem dX12_operand_204 : decode cX12_operand 204 = .ok (.iadd, 1) := by decide +kernel
theorem dX12_operand_205 : decode cX12_operand 205 = .ok (.putfield 109, 3) := by decide +kernel
theorem dX12_operand_208 : decode cX12_operand 208 = .ok (.aload_n 0, 1) := by decide +kernel
theorem dX12_operand_209 : decode cX12_operand 209 = .ok (.getfield 41, 3) := by decide +kernel
theorem dX12_operand_212 : decode cX12_operand 212 = .ok (.aload_n 0, 1) := by decide +kernel
theorem dX12_operand_213 : decode cX12_operand 213 = .ok (.getfield 109, 3) := by decide +kernel
theorem dX12_operand_216 : decode cX12_operand 216 = .ok (.iconst 1, 1) := by decide +kernel
theorem dX12_operand_217 : decode cX12_operand 217 = .ok (.isub, 1) := by decide +kernel
theorem dX12_operand_218 : decode cX12_operand 218 = .ok (.baload, 1) := by decide +kernel
theorem dX12_operand_219 : decode cX12_operand 219 = .ok (.ifCond .eq 7, 3) := by decide +kernel
theorem dX12_operand_222 : decode cX12_operand 222 = .ok (.iconst 4, 1) := by decide +kernel
theorem dX12_operand_223 : decode cX12_operand 223 = .ok (.goto 4, 3) := by decide +kernel
theorem dX12_operand_226 : decode cX12_operand 226 = .ok (.iconst 3, 1) := by decide +kernel
theorem dX12_operand_227 : decode cX12_operand 227 = .ok (.ireturn, 1) := by decide +kernel
theorem dX12_operand_228 : decode cX12_operand 228 = .ok (.aload_n 0, 1) := by decide +kernel
theorem dX12_operand_229 : decode cX12_operand 229 = .ok (.iconst 0, 1) := by decide +kernel
theorem dX12_operand_230 : decode cX12_operand 230 = .ok (.putfield 432, 3) := by decide +kernel
theorem dX12_operand_233 : decode cX12_operand 233 = .ok (.iload_n 1, 1) := by decide +kernel
theorem dX12_operand_234 : decode cX12_operand 234 = .ok (.sipush 128, 3) := by decide +kernel
theorem dX12_operand_237 : decode cX12_operand 237 = .ok (.if_icmp .ne 36, 3) := by decide +kernel
theorem dX12_operand_240 : decode cX12_operand 240 = .ok (.aload_n 0, 1) := by decide +kernel
theorem dX12_operand_241 : decode cX12_operand 241 = .ok (.aload_n 0, 1) := by decide +kernel
theorem dX12_operand_242 : decode cX12_operand 242 = .ok (.getfield 35, 3) := by decide +kernel
theorem dX12_operand_245 : decode cX12_operand 245 = .ok (.aload_n 0, 1) := by decide +kernel
theorem dX12_operand_246 : decode cX12_operand 246 = .ok (.getfield 109, 3) := by decide +kernel
theorem dX12_operand_249 : decode cX12_operand 249 = .ok (.iaload, 1) := by decide +kernel
theorem dX12_operand_250 : decode cX12_operand 250 = .ok (.invokevirtual 441, 3) := by decide +kernel
theorem dX12_operand_253 : decode cX12_operand 253 = .ok (.aload_n 0, 1) := by decide +kernel
theorem dX12_operand_254 : decode cX12_operand 254 = .ok (.iconst 3, 1) := by decide +kernel
theorem dX12_operand_255 : decode cX12_operand 255 = .ok (.iconst 0, 1) := by decide +kernel
theorem dX12_operand_256 : decode cX12_operand 256 = .ok (.iconst 0, 1) := by decide +kernel
theorem dX12_operand_257 : decode cX12_operand 257 = .ok (.invokevirtual 144, 3) := by decide +kernel
theorem dX12_operand_260 : decode cX12_operand 260 = .ok (.istore_n 2, 1) := by decide +kernel
theorem dX12_operand_261 : decode cX12_operand 261 = .ok (.aload_n 0, 1) := by decide +kernel
theorem dX12_operand_262 : decode cX12_operand 262 = .ok (.dup, 1) := by decide +kernel
theorem dX12_operand_263 : decode cX12_operand 263 = .ok (.getfield 109, 3) := by decide +kernel
theorem dX12_operand_266 : decode cX12_operand 266 = .ok (.iconst 1, 1) := by decide +kernel
theorem dX12_operand_267 : decode cX12_operand 267 = .ok (.iadd, 1) := by decide +kernel
theorem dX12_operand_268 : decode cX12_operand 268 = .ok (.putfield 109, 3) := by decide +kernel
theorem dX12_operand_271 : decode cX12_operand 271 = .ok (.iconst 3, 1) := by decide +kernel
theorem dX12_operand_272 : decode cX12_operand 272 = .ok (.ireturn, 1) := by decide +kernel
theorem dX12_operand_273 : decode cX12_operand 273 = .ok (.iload_n 1, 1) := by decide +kernel
theorem dX12_operand_274 : decode cX12_operand 274 = .ok (.iconst 1, 1) := by decide +kernel
theorem dX12_operand_275 : decode cX12_operand 275 = .ok (.if_icmp .eq 9, 3) := by decide +kernel
theorem dX12_operand_278 : decode cX12_operand 278 = .ok (.aload_n 0, 1) := by decide +kernel
theorem dX12_operand_279 : decode cX12_operand 279 = .ok (.invokevirtual 115, 3) := by decide +kernel
theorem dX12_operand_282 : decode cX12_operand 282 = .ok (.iconst 3, 1) := by decide +kernel
theorem dX12_operand_283 : decode cX12_operand 283 = .ok (.ireturn, 1) := by decide +kernel
theorem dX12_operand_284 : decode cX12_operand 284 = .ok (.aload_n 0, 1) := by decide +kernel
theorem dX12_operand_285 : decode cX12_operand 285 = .ok (.sipush 223, 3) := by decide +kernel
theorem dX12_operand_288 : decode cX12_operand 288 = .ok (.invokevirtual 469, 3) := by decide +kernel
theorem dX12_operand_291 : decode cX12_operand 291 = .ok (.ifCond .eq 8, 3) := by decide +kernel
theorem dX12_operand_294 : decode cX12_operand 294 = .ok (.aload_n 0, 1) := by decide +kernel
theorem dX12_operand_295 : decode cX12_operand 295 = .ok (.invokevirtual 472, 3) := by decide +kernel
theorem dX12_operand_298 : decode cX12_operand 298 = .ok (.ireturn, 1) := by decide +kernel
theorem dX12_operand_299 : decode cX12_operand 299 = .ok (.aload_n 0, 1) := by decide +kernel
theorem dX12_operand_300 : decode cX12_operand 300 = .ok (.sipush 231, 3) := by decide +kernel
theorem dX12_operand_303 : decode cX12_operand 303 = .ok (.invokevirtual 469, 3) := by decide +kernel
theorem dX12_operand_306 : decode cX12_operand 306 = .ok (.ifCond .eq 23, 3) := by decide +kernel
theorem dX12_operand_309 : decode cX12_operand 309 = .ok (.aload_n 0, 1) := by decide +kernel
theorem dX12_operand_310 : decode cX12_operand 310 = .ok (.getfield 38, 3) := by decide +kernel
theorem dX12_operand_313 : decode cX12_operand 313 = .ok (.aload_n 0, 1) := by decide +kernel
theorem dX12_operand_314 : decode cX12_operand 314 = .ok (.getfield 109, 3) := by decide +kernel
theorem dX12_operand_317 : decode cX12_operand 317 = .ok (.iconst 2, 1) := by decide +kernel
theorem dX12_operand_318 : decode cX12_operand 318 = .ok (.iadd, 1) := by decide +kernel
theorem dX12_operand_319 : decode cX12_operand 319 = .ok (.iaload, 1) := by decide +kernel
theorem dX12_operand_320 : decode cX12_operand 320 = .ok (.iconst 1, 1) := by decide +kernel
theorem dX12_operand_321 : decode cX12_operand 321 = .ok (.if_icmp .ne 8, 3) := by decide +kernel
theorem dX12_operand_324 : decode cX12_operand 324 = .ok (.aload_n 0, 1) := by decide +kernel
theorem dX12_operand_325 : decode cX12_operand 325 = .ok (.invokevirtual 475, 3) := by decide +kernel
theorem dX12_operand_328 : decode cX12_operand 328 = .ok (.ireturn, 1) := by decide +kernel
theorem dX12_operand_329 : decode cX12_operand 329 = .ok (.aload_n 0, 1) := by decide +kernel
theorem dX12_operand_330 : decode cX12_operand 330 = .ok (.iconst 0, 1) := by decide +kernel
theorem dX12_operand_331 : decode cX12_operand 331 = .ok (.invokevirtual 478, 3) := by decide +kernel
theorem dX12_operand_334 : decode cX12_operand 334 = .ok (.aload_n 0, 1) := by decide +kernel
theorem dX12_operand_335 : decode cX12_operand 335 = .ok (.bipush 16, 2) := by decide +kernel
theorem dX12_operand_337 : decode cX12_operand 337 = .ok (.aload_n 0, 1) := by decide +kernel
theorem dX12_operand_338 : decode cX12_operand 338 = .ok (.getfield 481, 3) := by decide +kernel
theorem dX12_operand_341 : decode cX12_operand 341 = .ok (.iconst 0, 1) := by decide +kernel
theorem dX12_operand_342 : decode cX12_operand 342 = .ok (.invokevirtual 144, 3) := by decide +kernel
theorem dX12_operand_345 : decode cX12_operand 345 = .ok (.istore_n 2, 1) := by decide +kernel
theorem dX12_operand_346 : decode cX12_operand 346 = .ok (.aload_n 0, 1) := by decide +kernel
theorem dX12_operand_347 : decode cX12_operand 347 = .ok (.getfield 484, 3) := by decide +kernel
theorem dX12_operand_350 : decode cX12_operand 350 = .ok (.iconst (-1), 1) := by decide +kernel
theorem dX12_operand_351 : decode cX12_operand 351 = .ok (.if_icmp .eq 15, 3) := by decide +kernel
theorem dX12_operand_354 : decode cX12_operand 354 = .ok (.aload_n 0, 1) := by decide +kernel
theorem dX12_operand_355 : decode cX12_operand 355 = .ok (.bipush 20, 2) := by decide +kernel
theorem dX12_operand_357 : decode cX12_operand 357 = .ok (.aload_n 0, 1) := by decide +kernel
theorem dX12_operand_358 : decode cX12_operand 358 = .ok (.getfield 484, 3) := by decide +kernel
theorem dX12_operand_361 : decode cX12_operand 361 = .ok (.iconst 0, 1) := by decide +kernel
theorem dX12_operand_362 : decode cX12_operand 362 = .ok (.invokevirtual 144, 3) := by decide +kernel
theorem dX12_operand_365 : decode cX12_operand 365 = .ok (.istore_n 2, 1) := by decide +kernel
theorem dX12_operand_366 : decode cX12_operand 366 = .ok (.aload_n 0, 1) := by decide +kernel
theorem dX12_operand_367 : decode cX12_operand 367 = .ok (.iconst 0, 1) := by decide +kernel
theorem dX12_operand_368 : decode cX12_operand 368 = .ok (.putfield 432, 3) := by decide +kernel
theorem dX12_operand_371 : decode cX12_operand 371 = .ok (.aload_n 0, 1) := by decide +kernel
theorem dX12_operand_372 : decode cX12_operand 372 = .ok (.getfield 484, 3) := by decide +kernel
theorem dX12_operand_375 : decode cX12_operand 375 = .ok (.iconst (-1), 1) := by decide +kernel
theorem dX12_operand_376 : decode cX12_operand 376 = .ok (.if_icmp .eq 7, 3) := by decide +kernel
theorem dX12_operand_379 : decode cX12_operand 379 = .ok (.iconst 3, 1) := by decide +kernel
theorem dX12_operand_380 : decode cX12_operand 380 = .ok (.goto 7, 3) := by decide +kernel
theorem dX12_operand_383 : decode cX12_operand 383 = .ok (.aload_n 0, 1) := by decide +kernel
theorem dX12_operand_384 : decode cX12_operand 384 = .ok (.getfield 481, 3) := by decide +kernel
theorem dX12_operand_387 : decode cX12_operand 387 = .ok (.ireturn, 1) := by decide +kernel
theorem dX12_signed_0 : decode cX12_signed 0 = .ok (.aload_n 0, 1) := by decide +kernel
theorem dX12_signed_1 : decode cX12_signed 1 = .ok (.invokevirtual 122, 3) := by decide +kernel
theorem dX12_signed_4 : decode cX12_signed 4 = .ok (.aload_n 0, 1) := by decide +kernel
theorem dX12_signed_5 : decode cX12_signed 5 = .ok (.aload_n 0, 1) := by decide +kernel
theorem dX12_signed_6 : decode cX12_signed 6 = .ok (.getfield 35, 3) := by decide +kernel
theorem dX12_signed_9 : decode cX12_signed 9 = .ok (.aload_n 0, 1) := by decide +kernel
theorem dX12_signed_10 : decode cX12_signed 10 = .ok (.getfield 109, 3) := by decide +kernel
theorem dX12_signed_13 : decode cX12_signed 13 = .ok (.iaload, 1) := by decide +kernel
theorem dX12_signed_14 : decode cX12_signed 14 = .ok (.invokevirtual 441, 3) := by decide +kernel
theorem dX12_signed_17 : decode cX12_signed 17 = .ok (.aload_n 0, 1) := by decide +kernel
theorem dX12_signed_18 : decode cX12_signed 18 = .ok (.dup, 1) := by decide +kernel
theorem dX12_signed_19 : decode cX12_signed 19 = .ok (.getfield 109, 3) := by decide +kernel
theorem dX12_signed_22 : decode cX12_signed 22 = .ok (.iconst 1, 1) := by decide +kernel
theorem dX12_signed_23 : decode cX12_signed 23 = .ok (.iadd, 1) := by decide +kernel
theorem dX12_signed_24 : decode cX12_signed 24 = .ok (.putfield 109, 3) := by decide +kernel
theorem dX12_signed_27 : decode cX12_signed 27 = .ok (.aload_n 0, 1) := by decide +kernel
theorem dX12_signed_28 : decode cX12_signed 28 = .ok (.invokevirtual 221, 3) := by decide +kernel
theorem dX12_signed_31 : decode cX12_signed 31 = .ok (.ifCond .ne 11, 3) := by decide +kernel
theorem dX12_signed_34 : decode cX12_signed 34 = .ok (.aload_n 0, 1) := by decide +kernel
theorem dX12_signed_35 : decode cX12_signed 35 = .ok (.iconst 4, 1) := by decide +kernel
theorem dX12_signed_36 : decode cX12_signed 36 = .ok (.invokevirtual 112, 3) := by decide +kernel
theorem dX12_signed_39 : decode cX12_signed 39 = .ok (.ifCond .eq 7, 3) := by decide +kernel
theorem dX12_signed_42 : decode cX12_signed 42 = .ok (.iconst 1, 1) := by decide +kernel
theorem dX12_signed_43 : decode cX12_signed 43 = .ok (.goto 4, 3) := by decide +kernel
theorem dX12_signed_46 : decode cX12_signed 46 = .ok (.iconst 0, 1) := by decide +kernel
theorem dX12_signed_47 : decode cX12_signed 47 = .ok (.istore_n 2, 1) := by decide +kernel
theorem dX12_signed_48 : decode cX12_signed 48 = .ok (.aload_n 0, 1) := by decide +kernel
theorem dX12_signed_49 : decode cX12_signed 49 = .ok (.invokevirtual 450, 3) := by decide +kernel
theorem dX12_signed_52 : decode cX12_signed 52 = .ok (.istore_n 3, 1) := by decide +kernel
theorem dX12_signed_53 : decode cX12_signed 53 = .ok (.iload_n 3, 1) := by decide +kernel
theorem dX12_signed_54 : decode cX12_signed 54 = .ok (.iconst 4, 1) := by decide +kernel
theorem dX12_signed_55 : decode cX12_signed 55 = .ok (.if_icmp .ne 7, 3) := by decide +kernel
theorem dX12_signed_58 : decode cX12_signed 58 = .ok (.iconst 1, 1) := by decide +kernel
theorem dX12_signed_59 : decode cX12_signed 59 = .ok (.goto 4, 3) := by decide +kernel
theorem dX12_signed_62 : decode cX12_signed 62 = .ok (.iconst 0, 1) := by decide +kernel
theorem dX12_signed_63 : decode cX12_signed 63 = .ok (.istore 4, 2) := by decide +kernel
theorem dX12_signed_65 : decode cX12_signed 65 = .ok (.aload_n 0, 1) := by decide +kernel
theorem dX12_signed_66 : decode cX12_signed 66 = .ok (.iload_n 1, 1) := by decide +kernel
theorem dX12_signed_67 : decode cX12_signed 67 = .ok (.sipush 241, 3) := by decide +kernel
theorem dX12_signed_70 : decode cX12_signed 70 = .ok (.if_icmp .ne 8, 3) := by decide +kernel
theorem dX12_signed_73 : decode cX12_signed 73 = .ok (.bipush 22, 2) := by decide +kernel
theorem dX12_signed_75 : decode cX12_signed 75 = .ok (.goto 17, 3) := by decide +kernel
theorem dX12_signed_78 : decode cX12_signed 78 = .ok (.iload_n 1, 1) := by decide +kernel
theorem dX12_signed_79 : decode cX12_signed 79 = .ok (.sipush 245, 3) := by decide +kernel
theorem dX12_signed_82 : decode cX12_signed 82 = .ok (.if_icmp .ne 8, 3) := by decide +kernel
theorem dX12_signed_85 : decode cX12_signed 85 = .ok (.bipush 23, 2) := by decide +kernel
theorem dX12_signed_87 : decode cX12_signed 87 = .ok (.goto 5, 3) := by decide +kernel
theorem dX12_signed_90 : decode cX12_signed 90 = .ok (.bipush 24, 2) := by decide +kernel
theorem dX12_signed_92 : decode cX12_signed 92 = .ok (.iload 4, 2) := by decide +kernel
theorem dX12_signed_94 : decode cX12_signed 94 = .ok (.ifCond .eq 7, 3) := by decide +kernel
theorem dX12_signed_97 : decode cX12_signed 97 = .ok (.iconst 1, 1) := by decide +kernel
theorem dX12_signed_98 : decode cX12_signed 98 = .ok (.goto 4, 3) := by decide +kernel
theorem dX12_signed_101 : decode cX12_signed 101 = .ok (.iconst 0, 1) := by decide +kernel
theorem dX12_signed_102 : decode cX12_signed 102 = .ok (.iconst 0, 1) := by decide +kernel
theorem dX12_signed_103 : decode cX12_signed 103 = .ok (.invokevirtual 144, 3) := by decide +kernel
theorem dX12_signed_106 : decode cX12_signed 106 = .ok (.istore 5, 2) := by decide +kernel
theorem dX12_signed_108 : decode cX12_signed 108 = .ok (.aload_n 0, 1) := by decide +kernel
theorem dX12_signed_109 : decode cX12_signed 109 = .ok (.dup, 1) := by decide +kernel
theorem dX12_signed_110 : decode cX12_signed 110 = .ok (.getfield 119, 3) := by decide +kernel
theorem dX12_signed_113 : decode cX12_signed 113 = .ok (.iconst 1, 1) := by decide +kernel
theorem dX12_signed_114 : decode cX12_signed 114 = .ok (.isub, 1) := by decide +kernel
theorem dX12_signed_115 : decode cX12_signed 115 = .ok (.putfield 119, 3) := by decide +kernel
theorem dX12_signed_118 : decode cX12_signed 118 = .ok (.aload_n 0, 1) := by decide +kernel
theorem dX12_signed_119 : decode cX12_signed 119 = .ok (.iload_n 1, 1) := by decide +kernel
theorem dX12_signed_120 : decode cX12_signed 120 = .ok (.sipush 241, 3) := by decide +kernel
theorem dX12_signed_123 : decode cX12_signed 123 = .ok (.if_icmp .ne 19, 3) := by decide +kernel
theorem dX12_signed_126 : decode cX12_signed 126 = .ok (.iload_n 2, 1) := by decide +kernel
theorem dX12_signed_127 : decode cX12_signed 127 = .ok (.ifCond .eq 15, 3) := by decide +kernel
theorem dX12_signed_130 : decode cX12_signed 130 = .ok (.aload_n 0, 1) := by decide +kernel
theorem dX12_signed_131 : decode cX12_signed 131 = .ok (.getfield 432, 3) := by decide +kernel
theorem dX12_signed_134 : decode cX12_signed 134 = .ok (.iconst 1, 1) := by decide +kernel
theorem dX12_signed_135 : decode cX12_signed 135 = .ok (.if_icmp .ne 7, 3) := by decide +kernel
theorem dX12_signed_138 : decode cX12_signed 138 = .ok (.iconst 2, 1) := by decide +kernel
theorem dX12_signed_139 : decode cX12_signed 139 = .ok (.goto 4, 3) := by decide +kernel
theorem dX12_signed_142 : decode cX12_signed 142 = .ok (.iconst 0, 1) := by decide +kernel
theorem dX12_signed_143 : decode cX12_signed 143 = .ok (.putfield 432, 3) := by decide +kernel
theorem dX12_signed_146 : decode cX12_signed 146 = .ok (.aload_n 0, 1) := by decide +kernel
theorem dX12_signed_147 : decode cX12_signed 147 = .ok (.iload 4, 2) := by decide +kernel
theorem dX12_signed_149 : decode cX12_signed 149 = .ok (.aload_n 0, 1) := by decide +kernel
theorem dX12_signed_150 : decode cX12_signed 150 = .ok (.getfield 435, 3) := by decide +kernel
theorem dX12_signed_153 : decode cX12_signed 153 = .ok (.lneg, 1) := by decide +kernel
theorem dX12_signed_154 : decode cX12_signed 154 = .ok (.invokestatic 225, 3) := by decide +kernel
theorem dX12_signed_157 : decode cX12_signed 157 = .ok (.putfield 435, 3) := by decide +kernel
theorem dX12_signed_160 : decode cX12_signed 160 = .ok (.iload 4, 2) := by decide +kernel
theorem dX12_signed_162 : decode cX12_signed 162 = .ok (.ifCond .eq 14, 3) := by decide +kernel
theorem dX12_signed_165 : decode cX12_signed 165 = .ok (.iload_n 1, 1) := by decide +kernel
theorem dX12_signed_166 : decode cX12_signed 166 = .ok (.sipush 246, 3) := by decide +kernel
theorem dX12_signed_169 : decode cX12_signed 169 = .ok (.if_icmp .eq 7, 3) := by decide +kernel
theorem dX12_signed_172 : decode cX12_signed 172 = .ok (.iconst 4, 1) := by decide +kernel
theorem dX12_signed_173 : decode cX12_signed 173 = .ok (.goto 4, 3) := by decide +kernel
theorem dX12_signed_176 : decode cX12_signed 176 = .ok (.iconst 3, 1) := by decide +kernel
theorem dX12_signed_177 : decode cX12_signed 177 = .ok (.ireturn, 1) := by decide +kernel
theorem dX12_cast_0 : decode cX12_cast 0 = .ok (.aload_n 0, 1) := by decide +kernel
theorem dX12_cast_1 : decode cX12_cast 1 = .ok (.invokevirtual 122, 3) := by decide +kernel
theorem dX12_cast_4 : decode cX12_cast 4 = .ok (.aload_n 0, 1) := by decide +kernel
theorem dX12_cast_5 : decode cX12_cast 5 = .ok (.aload_n 0, 1) := by decide +kernel
theorem dX12_cast_6 : decode cX12_cast 6 = .ok (.getfield 35, 3) := by decide +kernel
theorem dX12_cast_9 : decode cX12_cast 9 = .ok (.aload_n 0, 1) := by decide +kernel
theorem dX12_cast_10 : decode cX12_cast 10 = .ok (.getfield 109, 3) := by decide +kernel
theorem dX12_cast_13 : decode cX12_cast 13 = .ok (.iaload, 1) := by decide +kernel
theorem dX12_cast_14 : decode cX12_cast 14 = .ok (.invokevirtual 441, 3) := by decide +kernel
theorem dX12_cast_17 : decode cX12_cast 17 = .ok (.aload_n 0, 1) := by decide +kernel
theorem dX12_cast_18 : decode cX12_cast 18 = .ok (.dup, 1) := by decide +kernel
theorem dX12_cast_19 : decode cX12_cast 19 = .ok (.getfield 109, 3) := by decide +kernel
theorem dX12_cast_22 : decode cX12_cast 22 = .ok (.iconst 1, 1) := by decide +kernel
theorem dX12_cast_23 : decode cX12_cast 23 = .ok (.iadd, 1) := by decide +kernel
theorem dX12_cast_24 : decode cX12_cast 24 = .ok (.putfield 109, 3) := by decide +kernel
theorem dX12_cast_27 : decode cX12_cast 27 = .ok (.aload_n 0, 1) := by decide +kernel
theorem dX12_cast_28 : decode cX12_cast 28 = .ok (.invokevirtual 331, 3) := by decide +kernel
theorem dX12_cast_31 : decode cX12_cast 31 = .ok (.istore_n 1, 1) := by decide +kernel
theorem dX12_cast_32 : decode cX12_cast 32 = .ok (.aload_n 0, 1) := by decide +kernel
theorem dX12_cast_33 : decode cX12_cast 33 = .ok (.sipush 224, 3) := by decide +kernel
theorem dX12_cast_36 : decode cX12_cast 36 = .ok (.invokevirtual 125, 3) := by decide +kernel
theorem dX12_cast_39 : decode cX12_cast 39 = .ok (.aload_n 0, 1) := by decide +kernel
theorem dX12_cast_40 : decode cX12_cast 40 = .ok (.invokevirtual 450, 3) := by decide +kernel
theorem dX12_cast_43 : decode cX12_cast 43 = .ok (.istore_n 2, 1) := by decide +kernel
theorem dX12_cast_44 : decode cX12_cast 44 = .ok (.aload_n 0, 1) := by decide +kernel
theorem dX12_cast_45 : decode cX12_cast 45 = .ok (.bipush 25, 2) := by decide +kernel
theorem dX12_cast_47 : decode cX12_cast 47 = .ok (.iload_n 1, 1) := by decide +kernel
theorem dX12_cast_48 : decode cX12_cast 48 = .ok (.iconst 0, 1) := by decide +kernel
theorem dX12_cast_49 : decode cX12_cast 49 = .ok (.invokevirtual 144, 3) := by decide +kernel
theorem dX12_cast_52 : decode cX12_cast 52 = .ok (.istore_n 2, 1) := by decide +kernel
theorem dX12_cast_53 : decode cX12_cast 53 = .ok (.aload_n 0, 1) := by decide +kernel
theorem dX12_cast_54 : decode cX12_cast 54 = .ok (.dup, 1) := by decide +kernel
theorem dX12_cast_55 : decode cX12_cast 55 = .ok (.getfield 119, 3) := by decide +kernel
theorem dX12_cast_58 : decode cX12_cast 58 = .ok (.iconst 1, 1) := by decide +kernel
theorem dX12_cast_59 : decode cX12_cast 59 = .ok (.isub, 1) := by decide +kernel
theorem dX12_cast_60 : decode cX12_cast 60 = .ok (.putfield 119, 3) := by decide +kernel
theorem dX12_cast_63 : decode cX12_cast 63 = .ok (.aload_n 0, 1) := by decide +kernel
theorem dX12_cast_64 : decode cX12_cast 64 = .ok (.iconst 0, 1) := by decide +kernel
theorem dX12_cast_65 : decode cX12_cast 65 = .ok (.putfield 432, 3) := by decide +kernel
theorem dX12_cast_68 : decode cX12_cast 68 = .ok (.iload_n 1, 1) := by decide +kernel
theorem dX12_cast_69 : decode cX12_cast 69 = .ok (.ireturn, 1) := by decide +kernel
theorem dX12_call_0 : decode cX12_call 0 = .ok (.aload_n 0, 1) := by decide +kernel
theorem dX12_call_1 : decode cX12_call 1 = .ok (.getfield 109, 3) := by decide +kernel
theorem dX12_call_4 : decode cX12_call 4 = .ok (.istore_n 1, 1) := by decide +kernel
theorem dX12_call_5 : decode cX12_call 5 = .ok (.aload_n 0, 1) := by decide +kernel
theorem dX12_call_6 : decode cX12_call 6 = .ok (.iconst 4, 1) := by decide +kernel
theorem dX12_call_7 : decode cX12_call 7 = .ok (.invokevirtual 378, 3) := by decide +kernel
theorem dX12_call_10 : decode cX12_call 10 = .ok (.istore_n 2, 1) := by decide +kernel
theorem dX12_call_11 : decode cX12_call 11 = .ok (.aload_n 0, 1) := by decide +kernel
theorem dX12_call_12 : decode cX12_call 12 = .ok (.iconst 5, 1) := by decide +kernel
theorem dX12_call_13 : decode cX12_call 13 = .ok (.invokevirtual 378, 3) := by decide +kernel
theorem dX12_call_16 : decode cX12_call 16 = .ok (.istore_n 3, 1) := by decide +kernel
theorem dX12_call_17 : decode cX12_call 17 = .ok (.aload_n 0, 1) := by decide +kernel
theorem dX12_call_18 : decode cX12_call 18 = .ok (.iload_n 2, 1) := by decide +kernel
theorem dX12_call_19 : decode cX12_call 19 = .ok (.iconst (-1), 1) := by decide +kernel
theorem dX12_call_20 : decode cX12_call 20 = .ok (.if_icmp .ne 12, 3) := by decide +kernel
theorem dX12_call_23 : decode cX12_call 23 = .ok (.iload_n 3, 1) := by decide +kernel
theorem dX12_call_24 : decode cX12_call 24 = .ok (.iconst (-1), 1) := by decide +kernel
theorem dX12_call_25 : decode cX12_call 25 = .ok (.if_icmp .ne 7, 3) := by decide +kernel
theorem dX12_call_28 : decode cX12_call 28 = .ok (.iconst 1, 1) := by decide +kernel
theorem dX12_call_29 : decode cX12_call 29 = .ok (.goto 4, 3) := by decide +kernel
theorem dX12_call_32 : decode cX12_call 32 = .ok (.iconst 0, 1) := by decide +kernel
theorem dX12_call_33 : decode cX12_call 33 = .ok (.iconst 3, 1) := by decide +kernel
theorem dX12_call_34 : decode cX12_call 34 = .ok (.aload_n 0, 1) := by decide +kernel
theorem dX12_call_35 : decode cX12_call 35 = .ok (.getfield 35, 3) := by decide +kernel
theorem dX12_call_38 : decode cX12_call 38 = .ok (.aload_n 0, 1) := by decide +kernel
theorem dX12_call_39 : decode cX12_call 39 = .ok (.getfield 109, 3) := by decide +kernel
theorem dX12_call_42 : decode cX12_call 42 = .ok (.iaload, 1) := by decide +kernel
theorem dX12_call_43 : decode cX12_call 43 = .ok (.invokevirtual 202, 3) := by decide +kernel
theorem dX12_call_46 : decode cX12_call 46 = .ok (.aload_n 0, 1) := by decide +kernel
theorem dX12_call_47 : decode cX12_call 47 = .ok (.aload_n 0, 1) := by decide +kernel
theorem dX12_call_48 : decode cX12_call 48 = .ok (.getfield 35, 3) := by decide +kernel
theorem dX12_call_51 : decode cX12_call 51 = .ok (.aload_n 0, 1) := by decide +kernel
theorem dX12_call_52 : decode cX12_call 52 = .ok (.getfield 109, 3) := by decide +kernel
theorem dX12_call_55 : decode cX12_call 55 = .ok (.iaload, 1) := by decide +kernel
theorem dX12_call_56 : decode cX12_call 56 = .ok (.invokevirtual 441, 3) := by decide +kernel
theorem dX12_call_59 : decode cX12_call 59 = .ok (.aload_n 0, 1) := by decide +kernel
theorem dX12_call_60 : decode cX12_call 60 = .ok (.dup, 1) := by decide +kernel
theorem dX12_call_61 : decode cX12_call 61 = .ok (.getfield 109, 3) := by decide +kernel
theorem dX12_call_64 : decode cX12_call 64 = .ok (.iconst 1, 1) := by decide +kernel
theorem dX12_call_65 : decode cX12_call 65 = .ok (.iadd, 1) := by decide +kernel
theorem dX12_call_66 : decode cX12_call 66 = .ok (.putfield 109, 3) := by decide +kernel
theorem dX12_call_69 : decode cX12_call 69 = .ok (.bipush 24, 2) := by decide +kernel
theorem dX12_call_71 : decode cX12_call 71 = .ok (.aload_n 0, 1) := by decide +kernel
theorem dX12_call_72 : decode cX12_call 72 = .ok (.getfield 129, 3) := by decide +kernel
theorem dX12_call_75 : decode cX12_call 75 = .ok (.imul, 1) := by decide +kernel
theorem dX12_call_76 : decode cX12_call 76 = .ok (.bipush 8, 2) := by decide +kernel
theorem dX12_call_78 : decode cX12_call 78 = .ok (.iadd, 1) := by decide +kernel
theorem dX12_call_79 : decode cX12_call 79 = .ok (.iload_n 2, 1) := by decide +kernel
theorem dX12_call_80 : decode cX12_call 80 = .ok (.iadd, 1) := by decide +kernel
theorem dX12_call_81 : decode cX12_call 81 = .ok (.istore 4, 2) := by decide +kernel
theorem dX12_call_83 : decode cX12_call 83 = .ok (.iconst 0, 1) := by decide +kernel
theorem dX12_call_84 : decode cX12_call 84 = .ok (.istore 5, 2) := by decide +kernel
theorem dX12_call_86 : decode cX12_call 86 = .ok (.iconst 3, 1) := by decide +kernel
theorem dX12_call_87 : decode cX12_call 87 = .ok (.istore 6, 2) := by decide +kernel
theorem dX12_call_89 : decode cX12_call 89 = .ok (.iconst 3, 1) := by decide +kernel
theorem dX12_call_90 : decode cX12_call 90 = .ok (.istore 7, 2) := by decide +kernel
theorem dX12_call_92 : decode cX12_call 92 = .ok (.aload_n 0, 1) := by decide +kernel
theorem dX12_call_93 : decode cX12_call 93 = .ok (.sipush 223, 3) := by decide +kernel
theorem dX12_call_96 : decode cX12_call 96 = .ok (.invokevirtual 307, 3) := by decide +kernel
theorem dX12_call_99 : decode cX12_call 99 = .ok (.aload_n 0, 1) := by decide +kernel
theorem dX12_call_100 : decode cX12_call 100 = .ok (.getfield 95, 3) := by decide +kernel
theorem dX12_call_103 : decode cX12_call 103 = .ok (.ifCond .ne 17, 3) := by decide +kernel
theorem dX12_call_106 : decode cX12_call 106 = .ok (.aload_n 0, 1) := by decide +kernel
theorem dX12_call_107 : decode cX12_call 107 = .ok (.sipush 224, 3) := by decide +kernel
theorem dX12_call_110 : decode cX12_call 110 = .ok (.invokevirtual 112, 3) := by decide +kernel
theorem dX12_call_113 : decode cX12_call 113 = .ok (.ifCond .ne 7, 3) := by decide +kernel
theorem dX12_call_116 : decode cX12_call 116 = .ok (.iconst 1, 1) := by decide +kernel
theorem dX12_call_117 : decode cX12_call 117 = .ok (.goto 4, 3) := by decide +kernel
theorem dX12_call_120 : decode cX12_call 120 = .ok (.iconst 0, 1) := by decide +kernel
theorem dX12_call_121 : decode cX12_call 121 = .ok (.istore 8, 2) := by decide +kernel
theorem dX12_call_123 : decode cX12_call 123 = .ok (.iload 8, 2) := by decide +kernel
theorem dX12_call_125 : decode cX12_call 125 = .ok (.ifCond .eq 112, 3) := by decide +kernel
theorem dX12_call_128 : decode cX12_call 128 = .ok (.aload_n 0, 1) := by decide +kernel
theorem dX12_call_129 : decode cX12_call 129 = .ok (.getfield 35, 3) := by decide +kernel
theorem dX12_call_132 : decode cX12_call 132 = .ok (.aload_n 0, 1) := by decide +kernel
theorem dX12_call_133 : decode cX12_call 133 = .ok (.getfield 109, 3) := by decide +kernel
theorem dX12_call_136 : decode cX12_call 136 = .ok (.iaload, 1) := by decide +kernel
theorem dX12_call_137 : decode cX12_call 137 = .ok (.istore 9, 2) := by decide +kernel
theorem dX12_call_139 : decode cX12_call 139 = .ok (.aload_n 0, 1) := by decide +kernel
theorem dX12_call_140 : decode cX12_call 140 = .ok (.invokevirtual 444, 3) := by decide +kernel
theorem dX12_call_143 : decode cX12_call 143 = .ok (.istore 10, 2) := by decide +kernel
theorem dX12_call_145 : decode cX12_call 145 = .ok (.aload_n 0, 1) := by decide +kernel
theorem dX12_call_146 : decode cX12_call 146 = .ok (.getfield 101, 3) := by decide +kernel
theorem dX12_call_149 : decode cX12_call 149 = .ok (.ifCond .eq 57, 3) := by decide +kernel
theorem dX12_call_152 : decode cX12_call 152 = .ok (.iload_n 2, 1) := by decide +kernel
theorem dX12_call_153 : decode cX12_call 153 = .ok (.iconst (-1), 1) := by decide +kernel
theorem dX12_call_154 : decode cX12_call 154 = .ok (.if_icmp .eq 52, 3) := by decide +kernel
theorem dX12_call_157 : decode cX12_call 157 = .ok (.iload 5, 2) := by decide +kernel
theorem dX12_call_159 : decode cX12_call 159 = .ok (.aload_n 0, 1) := by decide +kernel
theorem dX12_call_160 : decode cX12_call 160 = .ok (.getfield 233, 3) := by decide +kernel
theorem dX12_call_163 : decode cX12_call 163 = .ok (.iload 4, 2) := by decide +kernel
theorem dX12_call_165 : decode cX12_call 165 = .ok (.iaload, 1) := by decide +kernel
theorem dX12_call_166 : decode cX12_call 166 = .ok (.if_icmp .ge 40, 3) := by decide +kernel
theorem dX12_call_169 : decode cX12_call 169 = .ok (.aload_n 0, 1) := by decide +kernel
theorem dX12_call_170 : decode cX12_call 170 = .ok (.aload_n 0, 1) := by decide +kernel
theorem dX12_call_171 : decode cX12_call 171 = .ok (.iload 10, 2) := by decide +kernel
theorem dX12_call_173 : decode cX12_call 173 = .ok (.aload_n 0, 1) := by decide +kernel
theorem dX12_call_174 : decode cX12_call 174 = .ok (.getfield 242, 3) := by decide +kernel
theorem dX12_call_177 : decode cX12_call 177 = .ok (.sipush 160, 3) := by decide +kernel
theorem dX12_call_180 : decode cX12_call 180 = .ok (.aload_n 0, 1) := by decide +kernel
theorem dX12_call_181 : decode cX12_call 181 = .ok (.getfield 129, 3) := by decide +kernel
theorem dX12_call_184 : decode cX12_call 184 = .ok (.imul, 1) := by decide +kernel
theorem dX12_call_185 : decode cX12_call 185 = .ok (.aload_n 0, 1) := by decide +kernel
theorem dX12_call_186 : decode cX12_call 186 = .ok (.getfield 358, 3) := by decide +kernel
theorem dX12_call_189 : decode cX12_call 189 = .ok (.iload 4, 2) := by decide +kernel
theorem dX12_call_191 : decode cX12_call 191 = .ok (.iaload, 1) := by decide +kernel
theorem dX12_call_192 : decode cX12_call 192 = .ok (.iadd, 1) := by decide +kernel
theorem dX12_call_193 : decode cX12_call 193 = .ok (.iload 5, 2) := by decide +kernel
theorem dX12_call_195 : decode cX12_call 195 = .ok (.iadd, 1) := by decide +kernel
theorem dX12_call_196 : decode cX12_call 196 = .ok (.iaload, 1) := by decide +kernel
theorem dX12_call_197 : decode cX12_call 197 = .ok (.invokevirtual 487, 3) := by decide +kernel
theorem dX12_call_200 : decode cX12_call 200 = .ok (.iconst 4, 1) := by decide +kernel
theorem dX12_call_201 : decode cX12_call 201 = .ok (.iload 9, 2) := by decide +kernel
theorem dX12_call_203 : decode cX12_call 203 = .ok (.invokevirtual 202, 3) := by decide +kernel
theorem dX12_call_206 : decode cX12_call 206 = .ok (.iload 5, 2) := by decide +kernel
theorem dX12_call_208 : decode cX12_call 208 = .ok (.ifCond .ne 10, 3) := by decide +kernel
theorem dX12_call_211 : decode cX12_call 211 = .ok (.iload 10, 2) := by decide +kernel
theorem dX12_call_213 : decode cX12_call 213 = .ok (.istore 6, 2) := by decide +kernel
theorem dX12_call_215 : decode cX12_call 215 = .ok (.goto 7, 3) := by decide +kernel
theorem dX12_call_218 : decode cX12_call 218 = .ok (.iload 10, 2) := by decide +kernel
theorem dX12_call_220 : decode cX12_call 220 = .ok (.istore 7, 2) := by decide +kernel
theorem dX12_call_222 : decode cX12_call 222 = .ok (.iinc 5 1, 3) := by decide +kernel
theorem dX12_call_225 : decode cX12_call 225 = .ok (.aload_n 0, 1) := by decide +kernel
theorem dX12_call_226 : decode cX12_call 226 = .ok (.sipush 230, 3) := by decide +kernel
theorem dX12_call_229 : decode cX12_call 229 = .ok (.invokevirtual 218, 3) := by decide +kernel
theorem dX12_call_232 : decode cX12_call 232 = .ok (.istore 8, 2) := by decide +kernel
theorem dX12_call_234 : decode cX12_call 234 = .ok (.goto (-111), 3) := by decide +kernel
theorem dX12_call_237 : decode cX12_call 237 = .ok (.aload_n 0, 1) := by decide +kernel
theorem dX12_call_238 : decode cX12_call 238 = .ok (.sipush 224, 3) := by decide +kernel
theorem dX12_call_241 : decode cX12_call 241 = .ok (.invokevirtual 314, 3) := by decide +kernel
theorem dX12_call_244 : decode cX12_call 244 = .ok (.aload_n 0, 1) := by decide +kernel
theorem dX12_call_245 : decode cX12_call 245 = .ok (.iconst 0, 1) := by decide +kernel
theorem dX12_call_246 : decode cX12_call 246 = .ok (.putfield 432, 3) := by decide +kernel
theorem dX12_call_249 : decode cX12_call 249 = .ok (.aload_n 0, 1) := by decide +kernel
theorem dX12_call_250 : decode cX12_call 250 = .ok (.getfield 101, 3) := by decide +kernel
theorem dX12_call_253 : decode cX12_call 253 = .ok (.ifCond .eq 10, 3) := by decide +kernel
theorem dX12_call_256 : decode cX12_call 256 = .ok (.aload_n 0, 1) := by decide +kernel
theorem dX12_call_257 : decode cX12_call 257 = .ok (.getfield 95, 3) := by decide +kernel
theorem dX12_call_260 : decode cX12_call 260 = .ok (.ifCond .eq 5, 3) := by decide +kernel
theorem dX12_call_263 : decode cX12_call 263 = .ok (.iconst 3, 1) := by decide +kernel
theorem dX12_call_264 : decode cX12_call 264 = .ok (.ireturn, 1) := by decide +kernel
theorem dX12_call_265 : decode cX12_call 265 = .ok (.iload_n 2, 1) := by decide +kernel
theorem dX12_call_266 : decode cX12_call 266 = .ok (.iconst (-1), 1) := by decide +kernel
theorem dX12_call_267 : decode cX12_call 267 = .ok (.if_icmp .eq 55, 3) := by decide +kernel
theorem dX12_call_270 : decode cX12_call 270 = .ok (.aload_n 0, 1) := by decide +kernel
theorem dX12_call_271 : decode cX12_call 271 = .ok (.iload 5, 2) := by decide +kernel
theorem dX12_call_273 : decode cX12_call 273 = .ok (.aload_n 0, 1) := by decide +kernel
theorem dX12_call_274 : decode cX12_call 274 = .ok (.getfield 233, 3) := by decide +kernel
theorem dX12_call_277 : decode cX12_call 277 = .ok (.iload 4, 2) := by decide +kernel
theorem dX12_call_279 : decode cX12_call 279 = .ok (.iaload, 1) := by decide +kernel
theorem dX12_call_280 : decode cX12_call 280 = .ok (.if_icmp .eq 7, 3) := by decide +kernel
theorem dX12_call_283 : decode cX12_call 283 = .ok (.iconst 1, 1) := by decide +kernel
theorem dX12_call_284 : decode cX12_call 284 = .ok (.goto 4, 3) := by decide +kernel
theorem dX12_call_287 : decode cX12_call 287 = .ok (.iconst 0, 1) := by decide +kernel
theorem dX12_call_288 : decode cX12_call 288 = .ok (.iconst 4, 1) := by decide +kernel
theorem dX12_call_289 : decode cX12_call 289 = .ok (.aload_n 0, 1) := by decide +kernel
theorem dX12_call_290 : decode cX12_call 290 = .ok (.getfield 35, 3) := by decide +kernel
theorem dX12_call_293 : decode cX12_call 293 = .ok (.iload_n 1, 1) := by decide +kernel
theorem dX12_call_294 : decode cX12_call 294 = .ok (.iaload, 1) := by decide +kernel
theorem dX12_call_295 : decode cX12_call 295 = .ok (.invokevirtual 202, 3) := by decide +kernel
theorem dX12_call_298 : decode cX12_call 298 = .ok (.aload_n 0, 1) := by decide +kernel
theorem dX12_call_299 : decode cX12_call 299 = .ok (.bipush 31, 2) := by decide +kernel
theorem dX12_call_301 : decode cX12_call 301 = .ok (.iload 4, 2) := by decide +kernel
theorem dX12_call_303 : decode cX12_call 303 = .ok (.aload_n 0, 1) := by decide +kernel
theorem dX12_call_304 : decode cX12_call 304 = .ok (.getfield 35, 3) := by decide +kernel
theorem dX12_call_307 : decode cX12_call 307 = .ok (.iload_n 1, 1) := by decide +kernel
theorem dX12_call_308 : decode cX12_call 308 = .ok (.iaload, 1) := by decide +kernel
theorem dX12_call_309 : decode cX12_call 309 = .ok (.invokevirtual 144, 3) := by decide +kernel
theorem dX12_call_312 : decode cX12_call 312 = .ok (.istore 9, 2) := by decide +kernel
theorem dX12_call_314 : decode cX12_call 314 = .ok (.aload_n 0, 1) := by decide +kernel
theorem dX12_call_315 : decode cX12_call 315 = .ok (.getfield 355, 3) := by decide +kernel
theorem dX12_call_318 : decode cX12_call 318 = .ok (.iload 4, 2) := by decide +kernel
theorem dX12_call_320 : decode cX12_call 320 = .ok (.iaload, 1) := by decide +kernel
theorem dX12_call_321 : decode cX12_call 321 = .ok (.ireturn, 1) := by decide +kernel
theorem dX12_call_322 : decode cX12_call 322 = .ok (.aload_n 0, 1) := by decide +kernel
theorem dX12_call_323 : decode cX12_call 323 = .ok (.iload 5, 2) := by decide +kernel
theorem dX12_call_325 : decode cX12_call 325 = .ok (.iload_n 3, 1) := by decide +kernel
theorem dX12_call_326 : decode cX12_call 326 = .ok (.ifCond .eq 8, 3) := by decide +kernel
theorem dX12_call_329 : decode cX12_call 329 = .ok (.iload_n 3, 1) := by decide +kernel
theorem dX12_call_330 : decode cX12_call 330 = .ok (.iconst 4, 1) := by decide +kernel
theorem dX12_call_331 : decode cX12_call 331 = .ok (.if_icmp .le 7, 3) := by decide +kernel
theorem dX12_call_334 : decode cX12_call 334 = .ok (.iconst 1, 1) := by decide +kernel
theorem dX12_call_335 : decode cX12_call 335 = .ok (.goto 4, 3) := by decide +kernel
theorem dX12_call_338 : decode cX12_call 338 = .ok (.iconst 2, 1) := by decide +kernel
theorem dX12_call_339 : decode cX12_call 339 = .ok (.if_icmp .eq 7, 3) := by decide +kernel
theorem dX12_call_342 : decode cX12_call 342 = .ok (.iconst 1, 1) := by decide +kernel
theorem dX12_call_343 : decode cX12_call 343 = .ok (.goto 4, 3) := by decide +kernel
theorem dX12_call_346 : decode cX12_call 346 = .ok (.iconst 0, 1) := by decide +kernel
theorem dX12_call_347 : decode cX12_call 347 = .ok (.iconst 4, 1) := by decide +kernel
theorem dX12_call_348 : decode cX12_call 348 = .ok (.aload_n 0, 1) := by decide +kernel
theorem dX12_call_349 : decode cX12_call 349 = .ok (.getfield 35, 3) := by decide +kernel
theorem dX12_call_352 : decode cX12_call 352 = .ok (.iload_n 1, 1) := by decide +kernel
theorem dX12_call_353 : decode cX12_call 353 = .ok (.iaload, 1) := by decide +kernel
theorem dX12_call_354 : decode cX12_call 354 = .ok (.invokevirtual 202, 3) := by decide +kernel
theorem dX12_call_357 : decode cX12_call 357 = .ok (.iload 6, 2) := by decide +kernel
theorem dX12_call_359 : decode cX12_call 359 = .ok (.iconst 4, 1) := by decide +kernel
theorem dX12_call_360 : decode cX12_call 360 = .ok (.if_icmp .eq 19, 3) := by decide +kernel
theorem dX12_call_363 : decode cX12_call 363 = .ok (.iload_n 3, 1) := by decide +kernel
theorem dX12_call_364 : decode cX12_call 364 = .ok (.iconst 1, 1) := by decide +kernel
theorem dX12_call_365 : decode cX12_call 365 = .ok (.if_icmp .eq 8, 3) := by decide +kernel
theorem dX12_call_368 : decode cX12_call 368 = .ok (.iload_n 3, 1) := by decide +kernel
theorem dX12_call_369 : decode cX12_call 369 = .ok (.iconst 2, 1) := by decide +kernel
theorem dX12_call_370 : decode cX12_call 370 = .ok (.if_icmp .ne 13, 3) := by decide +kernel
theorem dX12_call_373 : decode cX12_call 373 = .ok (.iload 7, 2) := by decide +kernel
theorem dX12_call_375 : decode cX12_call 375 = .ok (.iconst 4, 1) := by decide +kernel
theorem dX12_call_376 : decode cX12_call 376 = .ok (.if_icmp .ne 7, 3) := by decide +kernel
theorem dX12_call_379 : decode cX12_call 379 = .ok (.iconst 1, 1) := by decide +kernel
theorem dX12_call_380 : decode cX12_call 380 = .ok (.goto 4, 3) := by decide +kernel
theorem dX12_call_383 : decode cX12_call 383 = .ok (.iconst 0, 1) := by decide +kernel
theorem dX12_call_384 : decode cX12_call 384 = .ok (.istore 9, 2) := by decide +kernel
theorem dX12_call_386 : decode cX12_call 386 = .ok (.aload_n 0, 1) := by decide +kernel
theorem dX12_call_387 : decode cX12_call 387 = .ok (.bipush 30, 2) := by decide +kernel
theorem dX12_call_389 : decode cX12_call 389 = .ok (.iload_n 3, 1) := by decide +kernel
theorem dX12_call_390 : decode cX12_call 390 = .ok (.iload 9, 2) := by decide +kernel
theorem dX12_call_392 : decode cX12_call 392 = .ok (.ifCond .eq 7, 3) := by decide +kernel
theorem dX12_call_395 : decode cX12_call 395 = .ok (.iconst 1, 1) := by decide +kernel
theorem dX12_call_396 : decode cX12_call 396 = .ok (.goto 4, 3) := by decide +kernel
theorem dX12_call_399 : decode cX12_call 399 = .ok (.iconst 0, 1) := by decide +kernel
theorem dX12_call_400 : decode cX12_call 400 = .ok (.invokevirtual 144, 3) := by decide +kernel
theorem dX12_call_403 : decode cX12_call 403 = .ok (.istore 10, 2) := by decide +kernel
theorem dX12_call_405 : decode cX12_call 405 = .ok (.iload 9, 2) := by decide +kernel
theorem dX12_call_407 : decode cX12_call 407 = .ok (.ifCond .eq 13, 3) := by decide +kernel
theorem dX12_call_410 : decode cX12_call 410 = .ok (.iload_n 3, 1) := by decide +kernel
theorem dX12_call_411 : decode cX12_call 411 = .ok (.bipush 6, 2) := by decide +kernel
theorem dX12_call_413 : decode cX12_call 413 = .ok (.if_icmp .ge 7, 3) := by decide +kernel
theorem dX12_call_416 : decode cX12_call 416 = .ok (.iconst 4, 1) := by decide +kernel
theorem dX12_call_417 : decode cX12_call 417 = .ok (.goto 4, 3) := by decide +kernel
theorem dX12_call_420 : decode cX12_call 420 = .ok (.iconst 3, 1) := by decide +kernel
theorem dX12_call_421 : decode cX12_call 421 = .ok (.ireturn, 1) := by decide +kernel
theorem dX12_inner_0 : decode cX12_inner 0 = .ok (.aload_n 0, 1) := by decide +kernel
theorem dX12_inner_1 : decode cX12_inner 1 = .ok (.iconst 1, 1) := by decide +kernel
theorem dX12_inner_2 : decode cX12_inner 2 = .ok (.invokevirtual 378, 3) := by decide +kernel
theorem dX12_inner_5 : decode cX12_inner 5 = .ok (.istore_n 1, 1) := by decide +kernel
theorem dX12_inner_6 : decode cX12_inner 6 = .ok (.aload_n 0, 1) := by decide +kernel
theorem dX12_inner_7 : decode cX12_inner 7 = .ok (.iload_n 1, 1) := by decide +kernel
theorem dX12_inner_8 : decode cX12_inner 8 = .ok (.iconst (-1), 1) := by decide +kernel
theorem dX12_inner_9 : decode cX12_inner 9 = .ok (.if_icmp .ne 7, 3) := by decide +kernel
theorem dX12_inner_12 : decode cX12_inner 12 = .ok (.iconst 1, 1) := by decide +kernel
theorem dX12_inner_13 : decode cX12_inner 13 = .ok (.goto 4, 3) := by decide +kernel
theorem dX12_inner_16 : decode cX12_inner 16 = .ok (.iconst 0, 1) := by decide +kernel
theorem dX12_inner_17 : decode cX12_inner 17 = .ok (.iconst 3, 1) := by decide +kernel
theorem dX12_inner_18 : decode cX12_inner 18 = .ok (.aload_n 0, 1) := by decide +kernel
theorem dX12_inner_19 : decode cX12_inner 19 = .ok (.getfield 35, 3) := by decide +kernel
theorem dX12_inner_22 : decode cX12_inner 22 = .ok (.aload_n 0, 1) := by decide +kernel
theorem dX12_inner_23 : decode cX12_inner 23 = .ok (.getfield 109, 3) := by decide +kernel
theorem dX12_inner_26 : decode cX12_inner 26 = .ok (.iaload, 1) := by decide +kernel
theorem dX12_inner_27 : decode cX12_inner 27 = .ok (.invokevirtual 202, 3) := by decide +kernel
theorem dX12_inner_30 : decode cX12_inner 30 = .ok (.aload_n 0, 1) := by decide +kernel
theorem dX12_inner_31 : decode cX12_inner 31 = .ok (.aload_n 0, 1) := by decide +kernel
theorem dX12_inner_32 : decode cX12_inner 32 = .ok (.getfield 35, 3) := by decide +kernel
theorem dX12_inner_35 : decode cX12_inner 35 = .ok (.aload_n 0, 1) := by decide +kernel
theorem dX12_inner_36 : decode cX12_inner 36 = .ok (.getfield 109, 3) := by decide +kernel
theorem dX12_inner_39 : decode cX12_inner 39 = .ok (.iaload, 1) := by decide +kernel
theorem dX12_inner_40 : decode cX12_inner 40 = .ok (.invokevirtual 441, 3) := by decide +kernel
theorem dX12_inner_43 : decode cX12_inner 43 = .ok (.aload_n 0, 1) := by decide +kernel
theorem dX12_inner_44 : decode cX12_inner 44 = .ok (.dup, 1) := by decide +kernel
theorem dX12_inner_45 : decode cX12_inner 45 = .ok (.getfield 109, 3) := by decide +kernel
theorem dX12_inner_48 : decode cX12_inner 48 = .ok (.iconst 2, 1) := by decide +kernel
theorem dX12_inner_49 : decode cX12_inner 49 = .ok (.iadd, 1) := by decide +kernel
theorem dX12_inner_50 : decode cX12_inner 50 = .ok (.putfield 109, 3) := by decide +kernel
theorem dX12_inner_53 : decode cX12_inner 53 = .ok (.aload_n 0, 1) := by decide +kernel
theorem dX12_inner_54 : decode cX12_inner 54 = .ok (.getfield 35, 3) := by decide +kernel
theorem dX12_inner_57 : decode cX12_inner 57 = .ok (.aload_n 0, 1) := by decide +kernel
theorem dX12_inner_58 : decode cX12_inner 58 = .ok (.getfield 109, 3) := by decide +kernel
theorem dX12_inner_61 : decode cX12_inner 61 = .ok (.iaload, 1) := by decide +kernel
theorem dX12_inner_62 : decode cX12_inner 62 = .ok (.istore_n 2, 1) := by decide +kernel
theorem dX12_inner_63 : decode cX12_inner 63 = .ok (.iconst (-1), 1) := by decide +kernel
theorem dX12_inner_64 : decode cX12_inner 64 = .ok (.istore_n 3, 1) := by decide +kernel
theorem dX12_inner_65 : decode cX12_inner 65 = .ok (.aload_n 0, 1) := by decide +kernel
theorem dX12_inner_66 : decode cX12_inner 66 = .ok (.getfield 101, 3) := by decide +kernel
theorem dX12_inner_69 : decode cX12_inner 69 = .ok (.ifCond .eq 27, 3) := by decide +kernel
theorem dX12_inner_72 : decode cX12_inner 72 = .ok (.aload_n 0, 1) := by decide +kernel
theorem dX12_inner_73 : decode cX12_inner 73 = .ok (.getfield 95, 3) := by decide +kernel
theorem dX12_inner_76 : decode cX12_inner 76 = .ok (.ifCond .ne 20, 3) := by decide +kernel
theorem dX12_inner_79 : decode cX12_inner 79 = .ok (.aload_n 0, 1) := by decide +kernel
theorem dX12_inner_80 : decode cX12_inner 80 = .ok (.getfield 387, 3) := by decide +kernel
theorem dX12_inner_83 : decode cX12_inner 83 = .ok (.bipush 24, 2) := by decide +kernel
theorem dX12_inner_85 : decode cX12_inner 85 = .ok (.aload_n 0, 1) := by decide +kernel
theorem dX12_inner_86 : decode cX12_inner 86 = .ok (.getfield 129, 3) := by decide +kernel
theorem dX12_inner_89 : decode cX12_inner 89 = .ok (.imul, 1) := by decide +kernel
theorem dX12_inner_90 : decode cX12_inner 90 = .ok (.iload_n 1, 1) := by decide +kernel
theorem dX12_inner_91 : decode cX12_inner 91 = .ok (.iadd, 1) := by decide +kernel
theorem dX12_inner_92 : decode cX12_inner 92 = .ok (.iaload, 1) := by decide +kernel
theorem dX12_inner_93 : decode cX12_inner 93 = .ok (.goto 4, 3) := by decide +kernel
theorem dX12_inner_96 : decode cX12_inner 96 = .ok (.iconst 0, 1) := by decide +kernel
theorem dX12_inner_97 : decode cX12_inner 97 = .ok (.istore 4, 2) := by decide +kernel
theorem dX12_inner_99 : decode cX12_inner 99 = .ok (.iconst 0, 1) := by decide +kernel
theorem dX12_inner_100 : decode cX12_inner 100 = .ok (.istore 5, 2) := by decide +kernel
theorem dX12_inner_102 : decode cX12_inner 102 = .ok (.aload_n 0, 1) := by decide +kernel
theorem dX12_inner_103 : decode cX12_inner 103 = .ok (.getfield 101, 3) := by decide +kernel
theorem dX12_inner_106 : decode cX12_inner 106 = .ok (.ifCond .eq 92, 3) := by decide +kernel
theorem dX12_inner_109 : decode cX12_inner 109 = .ok (.aload_n 0, 1) := by decide +kernel
theorem dX12_inner_110 : decode cX12_inner 110 = .ok (.getfield 95, 3) := by decide +kernel
theorem dX12_inner_113 : decode cX12_inner 113 = .ok (.ifCond .ne 85, 3) := by decide +kernel
theorem dX12_inner_116 : decode cX12_inner 116 = .ok (.iload 5, 2) := by decide +kernel
theorem dX12_inner_118 : decode cX12_inner 118 = .ok (.aload_n 0, 1) := by decide +kernel
theorem dX12_inner_119 : decode cX12_inner 119 = .ok (.getfield 257, 3) := by decide +kernel
theorem dX12_inner_122 : decode cX12_inner 122 = .ok (.iload 4, 2) := by decide +kernel
theorem dX12_inner_124 : decode cX12_inner 124 = .ok (.iaload, 1) := by decide +kernel
theorem dX12_inner_125 : decode cX12_inner 125 = .ok (.if_icmp .ge 73, 3) := by decide +kernel
theorem dX12_inner_128 : decode cX12_inner 128 = .ok (.sipush 160, 3) := by decide +kernel
theorem dX12_inner_131 : decode cX12_inner 131 = .ok (.aload_n 0, 1) := by decide +kernel
theorem dX12_inner_132 : decode cX12_inner 132 = .ok (.getfield 129, 3) := by decide +kernel
theorem dX12_inner_135 : decode cX12_inner 135 = .ok (.imul, 1) := by decide +kernel
theorem dX12_inner_136 : decode cX12_inner 136 = .ok (.aload_n 0, 1) := by decide +kernel
theorem dX12_inner_137 : decode cX12_inner 137 = .ok (.getfield 358, 3) := by decide +kernel
theorem dX12_inner_140 : decode cX12_inner 140 = .ok (.iload 4, 2) := by decide +kernel
theorem dX12_inner_142 : decode cX12_inner 142 = .ok (.iaload, 1) := by decide +kernel
theorem dX12_inner_143 : decode cX12_inner 143 = .ok (.iadd, 1) := by decide +kernel
theorem dX12_inner_144 : decode cX12_inner 144 = .ok (.iload 5, 2) := by decide +kernel
theorem dX12_inner_146 : decode cX12_inner 146 = .ok (.iadd, 1) := by decide +kernel
theorem dX12_inner_147 : decode cX12_inner 147 = .ok (.istore 6, 2) := by decide +kernel
theorem dX12_inner_149 : decode cX12_inner 149 = .ok (.aload_n 0, 1) := by decide +kernel
theorem dX12_inner_150 : decode cX12_inner 150 = .ok (.getfield 192, 3) := by decide +kernel
theorem dX12_inner_153 : decode cX12_inner 153 = .ok (.iload 6, 2) := by decide +kernel
theorem dX12_inner_155 : decode cX12_inner 155 = .ok (.laload, 1) := by decide +kernel
theorem dX12_inner_156 : decode cX12_inner 156 = .ok (.aload_n 0, 1) := by decide +kernel
theorem dX12_inner_157 : decode cX12_inner 157 = .ok (.getfield 66, 3) := by decide +kernel
theorem dX12_inner_160 : decode cX12_inner 160 = .ok (.aload_n 0, 1) := by decide +kernel
theorem dX12_inner_161 : decode cX12_inner 161 = .ok (.getfield 109, 3) := by decide +kernel
theorem dX12_inner_164 : decode cX12_inner 164 = .ok (.laload, 1) := by decide +kernel
theorem dX12_inner_165 : decode cX12_inner 165 = .ok (.lcmp, 1) := by decide +kernel
theorem dX12_inner_166 : decode cX12_inner 166 = .ok (.ifCond .ne 26, 3) := by decide +kernel
theorem dX12_inner_169 : decode cX12_inner 169 = .ok (.aload_n 0, 1) := by decide +kernel
theorem dX12_inner_170 : decode cX12_inner 170 = .ok (.getfield 195, 3) := by decide +kernel
theorem dX12_inner_173 : decode cX12_inner 173 = .ok (.iload 6, 2) := by decide +kernel
theorem dX12_inner_175 : decode cX12_inner 175 = .ok (.laload, 1) := by decide +kernel
theorem dX12_inner_176 : decode cX12_inner 176 = .ok (.aload_n 0, 1) := by decide +kernel
theorem dX12_inner_177 : decode cX12_inner 177 = .ok (.getfield 73, 3) := by decide +kernel
theorem dX12_inner_180 : decode cX12_inner 180 = .ok (.aload_n 0, 1) := by decide +kernel
theorem dX12_inner_181 : decode cX12_inner 181 = .ok (.getfield 109, 3) := by decide +kernel
theorem dX12_inner_184 : decode cX12_inner 184 = .ok (.laload, 1) := by decide +kernel
theorem dX12_inner_185 : decode cX12_inner 185 = .ok (.lcmp, 1) := by decide +kernel
theorem dX12_inner_186 : decode cX12_inner 186 = .ok (.ifCond .ne 6, 3) := by decide +kernel
theorem dX12_inner_189 : decode cX12_inner 189 = .ok (.iload 6, 2) := by decide +kernel
theorem dX12_inner_191 : decode cX12_inner 191 = .ok (.istore_n 3, 1) := by decide +kernel
theorem dX12_inner_192 : decode cX12_inner 192 = .ok (.iinc 5 1, 3) := by decide +kernel
theorem dX12_inner_195 : decode cX12_inner 195 = .ok (.goto (-93), 3) := by decide +kernel
theorem dX12_inner_198 : decode cX12_inner 198 = .ok (.aload_n 0, 1) := by decide +kernel
theorem dX12_inner_199 : decode cX12_inner 199 = .ok (.iload_n 3, 1) := by decide +kernel
theorem dX12_inner_200 : decode cX12_inner 200 = .ok (.iconst (-1), 1) := by decide +kernel
theorem dX12_inner_201 : decode cX12_inner 201 = .ok (.if_icmp .ne 7, 3) := by decide +kernel
theorem dX12_inner_204 : decode cX12_inner 204 = .ok (.iconst 1, 1) := by decide +kernel
theorem dX12_inner_205 : decode cX12_inner 205 = .ok (.goto 4, 3) := by decide +kernel
theorem dX12_inner_208 : decode cX12_inner 208 = .ok (.iconst 0, 1) := by decide +kernel
theorem dX12_inner_209 : decode cX12_inner 209 = .ok (.iconst 3, 1) := by decide +kernel
theorem dX12_inner_210 : decode cX12_inner 210 = .ok (.iload_n 2, 1) := by decide +kernel
theorem dX12_inner_211 : decode cX12_inner 211 = .ok (.invokevirtual 202, 3) := by decide +kernel
theorem dX12_inner_214 : decode cX12_inner 214 = .ok (.aload_n 0, 1) := by decide +kernel
theorem dX12_inner_215 : decode cX12_inner 215 = .ok (.sipush 227, 3) := by decide +kernel
theorem dX12_inner_218 : decode cX12_inner 218 = .ok (.invokevirtual 469, 3) := by decide +kernel
theorem dX12_inner_221 : decode cX12_inner 221 = .ok (.istore 5, 2) := by decide +kernel
theorem dX12_inner_223 : decode cX12_inner 223 = .ok (.aload_n 0, 1) := by decide +kernel
theorem dX12_inner_224 : decode cX12_inner 224 = .ok (.getfield 101, 3) := by decide +kernel
theorem dX12_inner_227 : decode cX12_inner 227 = .ok (.ifCond .eq 14, 3) := by decide +kernel
theorem dX12_inner_230 : decode cX12_inner 230 = .ok (.aload_n 0, 1) := by decide +kernel
theorem dX12_inner_231 : decode cX12_inner 231 = .ok (.getfield 95, 3) := by decide +kernel
theorem dX12_inner_234 : decode cX12_inner 234 = .ok (.ifCond .ne 7, 3) := by decide +kernel
theorem dX12_inner_237 : decode cX12_inner 237 = .ok (.iconst 1, 1) := by decide +kernel
theorem dX12_inner_238 : decode cX12_inner 238 = .ok (.goto 4, 3) := by decide +kernel
theorem dX12_inner_241 : decode cX12_inner 241 = .ok (.iconst 0, 1) := by decide +kernel
theorem dX12_inner_242 : decode cX12_inner 242 = .ok (.istore 6, 2) := by decide +kernel
theorem dX12_inner_244 : decode cX12_inner 244 = .ok (.aload_n 0, 1) := by decide +kernel
theorem dX12_inner_245 : decode cX12_inner 245 = .ok (.iload 6, 2) := by decide +kernel
theorem dX12_inner_247 : decode cX12_inner 247 = .ok (.ifCond .eq 27, 3) := by decide +kernel
theorem dX12_inner_250 : decode cX12_inner 250 = .ok (.aload_n 0, 1) := by decide +kernel
theorem dX12_inner_251 : decode cX12_inner 251 = .ok (.getfield 248, 3) := by decide +kernel
theorem dX12_inner_254 : decode cX12_inner 254 = .ok (.iload 6, 2) := by decide +kernel
theorem dX12_inner_256 : decode cX12_inner 256 = .ok (.ifCond .eq 7, 3) := by decide +kernel
theorem dX12_inner_259 : decode cX12_inner 259 = .ok (.iload_n 3, 1) := by decide +kernel
theorem dX12_inner_260 : decode cX12_inner 260 = .ok (.goto 4, 3) := by decide +kernel
theorem dX12_inner_263 : decode cX12_inner 263 = .ok (.iconst 0, 1) := by decide +kernel
theorem dX12_inner_264 : decode cX12_inner 264 = .ok (.baload, 1) := by decide +kernel
theorem dX12_inner_265 : decode cX12_inner 265 = .ok (.iload 5, 2) := by decide +kernel
theorem dX12_inner_267 : decode cX12_inner 267 = .ok (.if_icmp .eq 7, 3) := by decide +kernel
theorem dX12_inner_270 : decode cX12_inner 270 = .ok (.iconst 1, 1) := by decide +kernel
theorem dX12_inner_271 : decode cX12_inner 271 = .ok (.goto 4, 3) := by decide +kernel
theorem dX12_inner_274 : decode cX12_inner 274 = .ok (.iconst 0, 1) := by decide +kernel
theorem dX12_inner_275 : decode cX12_inner 275 = .ok (.iconst 4, 1) := by decide +kernel
theorem dX12_inner_276 : decode cX12_inner 276 = .ok (.iload_n 2, 1) := by decide +kernel
theorem dX12_inner_277 : decode cX12_inner 277 = .ok (.invokevirtual 202, 3) := by decide +kernel
theorem dX12_inner_280 : decode cX12_inner 280 = .ok (.aload_n 0, 1) := by decide +kernel
theorem dX12_inner_281 : decode cX12_inner 281 = .ok (.dup, 1) := by decide +kernel
theorem dX12_inner_282 : decode cX12_inner 282 = .ok (.getfield 109, 3) := by decide +kernel
theorem dX12_inner_285 : decode cX12_inner 285 = .ok (.iconst 1, 1) := by decide +kernel
theorem dX12_inner_286 : decode cX12_inner 286 = .ok (.iadd, 1) := by decide +kernel
theorem dX12_inner_287 : decode cX12_inner 287 = .ok (.putfield 109, 3) := by decide +kernel
theorem dX12_inner_290 : decode cX12_inner 290 = .ok (.iload 5, 2) := by decide +kernel
theorem dX12_inner_292 : decode cX12_inner 292 = .ok (.ifCond .eq 23, 3) := by decide +kernel
theorem dX12_inner_295 : decode cX12_inner 295 = .ok (.aload_n 0, 1) := by decide +kernel
theorem dX12_inner_296 : decode cX12_inner 296 = .ok (.iload 6, 2) := by decide +kernel
theorem dX12_inner_298 : decode cX12_inner 298 = .ok (.ifCond .eq 12, 3) := by decide +kernel
theorem dX12_inner_301 : decode cX12_inner 301 = .ok (.aload_n 0, 1) := by decide +kernel
theorem dX12_inner_302 : decode cX12_inner 302 = .ok (.getfield 245, 3) := by decide +kernel
theorem dX12_inner_305 : decode cX12_inner 305 = .ok (.iload_n 3, 1) := by decide +kernel
theorem dX12_inner_306 : decode cX12_inner 306 = .ok (.iaload, 1) := by decide +kernel
theorem dX12_inner_307 : decode cX12_inner 307 = .ok (.goto 4, 3) := by decide +kernel
theorem dX12_inner_310 : decode cX12_inner 310 = .ok (.iconst 1, 1) := by decide +kernel
theorem dX12_inner_311 : decode cX12_inner 311 = .ok (.iload_n 2, 1) := by decide +kernel
theorem dX12_inner_312 : decode cX12_inner 312 = .ok (.invokevirtual 491, 3) := by decide +kernel
theorem dX12_inner_315 : decode cX12_inner 315 = .ok (.aload_n 0, 1) := by decide +kernel
theorem dX12_inner_316 : decode cX12_inner 316 = .ok (.bipush 10, 2) := by decide +kernel
theorem dX12_inner_318 : decode cX12_inner 318 = .ok (.iload 6, 2) := by decide +kernel
theorem dX12_inner_320 : decode cX12_inner 320 = .ok (.ifCond .eq 27, 3) := by decide +kernel
theorem dX12_inner_323 : decode cX12_inner 323 = .ok (.aload_n 0, 1) := by decide +kernel
theorem dX12_inner_324 : decode cX12_inner 324 = .ok (.getfield 390, 3) := by decide +kernel
theorem dX12_inner_327 : decode cX12_inner 327 = .ok (.bipush 24, 2) := by decide +kernel
theorem dX12_inner_329 : decode cX12_inner 329 = .ok (.aload_n 0, 1) := by decide +kernel
theorem dX12_inner_330 : decode cX12_inner 330 = .ok (.getfield 129, 3) := by decide +kernel
theorem dX12_inner_333 : decode cX12_inner 333 = .ok (.imul, 1) := by decide +kernel
theorem dX12_inner_334 : decode cX12_inner 334 = .ok (.iload_n 1, 1) := by decide +kernel
theorem dX12_inner_335 : decode cX12_inner 335 = .ok (.iadd, 1) := by decide +kernel
theorem dX12_inner_336 : decode cX12_inner 336 = .ok (.iaload, 1) := by decide +kernel
theorem dX12_inner_337 : decode cX12_inner 337 = .ok (.aload_n 0, 1) := by decide +kernel
theorem dX12_inner_338 : decode cX12_inner 338 = .ok (.getfield 251, 3) := by decide +kernel
theorem dX12_inner_341 : decode cX12_inner 341 = .ok (.iload_n 3, 1) := by decide +kernel
theorem dX12_inner_342 : decode cX12_inner 342 = .ok (.iaload, 1) := by decide +kernel
theorem dX12_inner_343 : decode cX12_inner 343 = .ok (.iadd, 1) := by decide +kernel
theorem dX12_inner_344 : decode cX12_inner 344 = .ok (.goto 4, 3) := by decide +kernel
theorem dX12_inner_347 : decode cX12_inner 347 = .ok (.iconst 0, 1) := by decide +kernel
theorem dX12_inner_348 : decode cX12_inner 348 = .ok (.iconst 0, 1) := by decide +kernel
theorem dX12_inner_349 : decode cX12_inner 349 = .ok (.invokevirtual 144, 3) := by decide +kernel
theorem dX12_inner_352 : decode cX12_inner 352 = .ok (.istore 7, 2) := by decide +kernel
theorem dX12_inner_354 : decode cX12_inner 354 = .ok (.iload 5, 2) := by decide +kernel
theorem dX12_inner_356 : decode cX12_inner 356 = .ok (.ifCond .eq 13, 3) := by decide +kernel
theorem dX12_inner_359 : decode cX12_inner 359 = .ok (.aload_n 0, 1) := by decide +kernel
theorem dX12_inner_360 : decode cX12_inner 360 = .ok (.bipush 14, 2) := by decide +kernel
theorem dX12_inner_362 : decode cX12_inner 362 = .ok (.iconst 0, 1) := by decide +kernel
theorem dX12_inner_363 : decode cX12_inner 363 = .ok (.iconst 0, 1) := by decide +kernel
theorem dX12_inner_364 : decode cX12_inner 364 = .ok (.invokevirtual 144, 3) := by decide +kernel
theorem dX12_inner_367 : decode cX12_inner 367 = .ok (.istore 7, 2) := by decide +kernel
theorem dX12_inner_369 : decode cX12_inner 369 = .ok (.aload_n 0, 1) := by decide +kernel
theorem dX12_inner_370 : decode cX12_inner 370 = .ok (.bipush 16, 2) := by decide +kernel
theorem dX12_inner_372 : decode cX12_inner 372 = .ok (.iload 6, 2) := by decide +kernel
theorem dX12_inner_374 : decode cX12_inner 374 = .ok (.ifCond .eq 12, 3) := by decide +kernel
theorem dX12_inner_377 : decode cX12_inner 377 = .ok (.aload_n 0, 1) := by decide +kernel
theorem dX12_inner_378 : decode cX12_inner 378 = .ok (.getfield 242, 3) := by decide +kernel
theorem dX12_inner_381 : decode cX12_inner 381 = .ok (.iload_n 3, 1) := by decide +kernel
theorem dX12_inner_382 : decode cX12_inner 382 = .ok (.iaload, 1) := by decide +kernel
theorem dX12_inner_383 : decode cX12_inner 383 = .ok (.goto 4, 3) := by decide +kernel
theorem dX12_inner_386 : decode cX12_inner 386 = .ok (.iconst 3, 1) := by decide +kernel
theorem dX12_inner_387 : decode cX12_inner 387 = .ok (.iconst 0, 1) := by decide +kernel
theorem dX12_inner_388 : decode cX12_inner 388 = .ok (.invokevirtual 144, 3) := by decide +kernel
theorem dX12_inner_391 : decode cX12_inner 391 = .ok (.istore 7, 2) := by decide +kernel
theorem dX12_inner_393 : decode cX12_inner 393 = .ok (.aload_n 0, 1) := by decide +kernel
theorem dX12_inner_394 : decode cX12_inner 394 = .ok (.iconst 0, 1) := by decide +kernel
theorem dX12_inner_395 : decode cX12_inner 395 = .ok (.putfield 432, 3) := by decide +kernel
theorem dX12_inner_398 : decode cX12_inner 398 = .ok (.iload 6, 2) := by decide +kernel
theorem dX12_inner_400 : decode cX12_inner 400 = .ok (.ifCond .eq 12, 3) := by decide +kernel
theorem dX12_inner_403 : decode cX12_inner 403 = .ok (.aload_n 0, 1) := by decide +kernel
theorem dX12_inner_404 : decode cX12_inner 404 = .ok (.getfield 242, 3) := by decide +kernel
theorem dX12_inner_407 : decode cX12_inner 407 = .ok (.iload_n 3, 1) := by decide +kernel
theorem dX12_inner_408 : decode cX12_inner 408 = .ok (.iaload, 1) := by decide +kernel
theorem dX12_inner_409 : decode cX12_inner 409 = .ok (.goto 4, 3) := by decide +kernel
theorem dX12_inner_412 : decode cX12_inner 412 = .ok (.iconst 3, 1) := by decide +kernel
theorem dX12_inner_413 : decode cX12_inner 413 = .ok (.ireturn, 1) := by decide +kernel
theorem dX12_index_0 : decode cX12_index 0 = .ok (.aload_n 0, 1) := by decide +kernel
theorem dX12_index_1 : decode cX12_index 1 = .ok (.sipush 227, 3) := by decide +kernel
theorem dX12_index_4 : decode cX12_index 4 = .ok (.invokevirtual 307, 3) := by decide +kernel
theorem dX12_index_7 : decode cX12_index 7 = .ok (.aload_n 0, 1) := by decide +kernel
theorem dX12_index_8 : decode cX12_index 8 = .ok (.getfield 35, 3) := by decide +kernel
theorem dX12_index_11 : decode cX12_index 11 = .ok (.aload_n 0, 1) := by decide +kernel
theorem dX12_index_12 : decode cX12_index 12 = .ok (.getfield 109, 3) := by decide +kernel
theorem dX12_index_15 : decode cX12_index 15 = .ok (.iaload, 1) := by decide +kernel
theorem dX12_index_16 : decode cX12_index 16 = .ok (.istore_n 3, 1) := by decide +kernel
theorem dX12_index_17 : decode cX12_index 17 = .ok (.aload_n 0, 1) := by decide +kernel
theorem dX12_index_18 : decode cX12_index 18 = .ok (.invokevirtual 444, 3) := by decide +kernel
theorem dX12_index_21 : decode cX12_index 21 = .ok (.istore 4, 2) := by decide +kernel
theorem dX12_index_23 : decode cX12_index 23 = .ok (.aload_n 0, 1) := by decide +kernel
theorem dX12_index_24 : decode cX12_index 24 = .ok (.iload 4, 2) := by decide +kernel
theorem dX12_index_26 : decode cX12_index 26 = .ok (.iconst 4, 1) := by decide +kernel
theorem dX12_index_27 : decode cX12_index 27 = .ok (.if_icmp .ne 7, 3) := by decide +kernel
theorem dX12_index_30 : decode cX12_index 30 = .ok (.iconst 1, 1) := by decide +kernel
theorem dX12_index_31 : decode cX12_index 31 = .ok (.goto 4, 3) := by decide +kernel
theorem dX12_index_34 : decode cX12_index 34 = .ok (.iconst 0, 1) := by decide +kernel
theorem dX12_index_35 : decode cX12_index 35 = .ok (.iconst 4, 1) := by decide +kernel
theorem dX12_index_36 : decode cX12_index 36 = .ok (.iload_n 3, 1) := by decide +kernel
theorem dX12_index_37 : decode cX12_index 37 = .ok (.invokevirtual 202, 3) := by decide +kernel
theorem dX12_index_40 : decode cX12_index 40 = .ok (.aload_n 0, 1) := by decide +kernel
theorem dX12_index_41 : decode cX12_index 41 = .ok (.bipush 15, 2) := by decide +kernel
theorem dX12_index_43 : decode cX12_index 43 = .ok (.iload_n 1, 1) := by decide +kernel
theorem dX12_index_44 : decode cX12_index 44 = .ok (.iload_n 2, 1) := by decide +kernel
theorem dX12_index_45 : decode cX12_index 45 = .ok (.invokevirtual 144, 3) := by decide +kernel
theorem dX12_index_48 : decode cX12_index 48 = .ok (.istore 5, 2) := by decide +kernel
theorem dX12_index_50 : decode cX12_index 50 = .ok (.aload_n 0, 1) := by decide +kernel
theorem dX12_index_51 : decode cX12_index 51 = .ok (.sipush 228, 3) := by decide +kernel
theorem dX12_index_54 : decode cX12_index 54 = .ok (.invokevirtual 314, 3) := by decide +kernel
theorem dX12_index_57 : decode cX12_index 57 = .ok (.return_, 1) := by decide +kernel
theorem dX12_spot_0 : decode cX12_spot 0 = .ok (.aload_n 0, 1) := by decide +kernel
theorem dX12_spot_1 : decode cX12_spot 1 = .ok (.getfield 35, 3) := by decide +kernel
theorem dX12_spot_4 : decode cX12_spot 4 = .ok (.aload_n 0, 1) := by decide +kernel
theorem dX12_spot_5 : decode cX12_spot 5 = .ok (.getfield 109, 3) := by decide +kernel
theorem dX12_spot_8 : decode cX12_spot 8 = .ok (.iaload, 1) := by decide +kernel
theorem dX12_spot_9 : decode cX12_spot 9 = .ok (.istore_n 2, 1) := by decide +kernel
theorem dX12_spot_10 : decode cX12_spot 10 = .ok (.aload_n 0, 1) := by decide +kernel
theorem dX12_spot_11 : decode cX12_spot 11 = .ok (.getfield 101, 3) := by decide +kernel
theorem dX12_spot_14 : decode cX12_spot 14 = .ok (.ifCond .eq 28, 3) := by decide +kernel
theorem dX12_spot_17 : decode cX12_spot 17 = .ok (.aload_n 0, 1) := by decide +kernel
theorem dX12_spot_18 : decode cX12_spot 18 = .ok (.aload_n 0, 1) := by decide +kernel
theorem dX12_spot_19 : decode cX12_spot 19 = .ok (.getfield 66, 3) := by decide +kernel
theorem dX12_spot_22 : decode cX12_spot 22 = .ok (.aload_n 0, 1) := by decide +kernel
theorem dX12_spot_23 : decode cX12_spot 23 = .ok (.getfield 109, 3) := by decide +kernel
theorem dX12_spot_26 : decode cX12_spot 26 = .ok (.laload, 1) := by decide +kernel
theorem dX12_spot_27 : decode cX12_spot 27 = .ok (.aload_n 0, 1) := by decide +kernel
theorem dX12_spot_28 : decode cX12_spot 28 = .ok (.getfield 73, 3) := by decide +kernel
theorem dX12_spot_31 : decode cX12_spot 31 = .ok (.aload_n 0, 1) := by decide +kernel
theorem dX12_spot_32 : decode cX12_spot 32 = .ok (.getfield 109, 3) := by decide +kernel
theorem dX12_spot_35 : decode cX12_spot 35 = .ok (.laload, 1) := by decide +kernel
theorem dX12_spot_36 : decode cX12_spot 36 = .ok (.invokevirtual 215, 3) := by decide +kernel
theorem dX12_spot_39 : decode cX12_spot 39 = .ok (.goto 4, 3) := by decide +kernel
theorem dX12_spot_42 : decode cX12_spot 42 = .ok (.iconst (-1), 1) := by decide +kernel
theorem dX12_spot_43 : decode cX12_spot 43 = .ok (.istore_n 3, 1) := by decide +kernel
theorem dX12_spot_44 : decode cX12_spot 44 = .ok (.iload_n 3, 1) := by decide +kernel
theorem dX12_spot_45 : decode cX12_spot 45 = .ok (.iconst (-1), 1) := by decide +kernel
theorem dX12_spot_46 : decode cX12_spot 46 = .ok (.if_icmp .ne 18, 3) := by decide +kernel
theorem dX12_spot_49 : decode cX12_spot 49 = .ok (.aload_n 0, 1) := by decide +kernel
theorem dX12_spot_50 : decode cX12_spot 50 = .ok (.getfield 101, 3) := by decide +kernel
theorem dX12_spot_53 : decode cX12_spot 53 = .ok (.ifCond .eq 11, 3) := by decide +kernel
theorem dX12_spot_56 : decode cX12_spot 56 = .ok (.aload_n 0, 1) := by decide +kernel
theorem dX12_spot_57 : decode cX12_spot 57 = .ok (.iconst 0, 1) := by decide +kernel
theorem dX12_spot_58 : decode cX12_spot 58 = .ok (.invokevirtual 378, 3) := by decide +kernel
theorem dX12_spot_61 : decode cX12_spot 61 = .ok (.goto 4, 3) := by decide +kernel
theorem dX12_spot_64 : decode cX12_spot 64 = .ok (.iconst (-1), 1) := by decide +kernel
theorem dX12_spot_65 : decode cX12_spot 65 = .ok (.istore 4, 2) := by decide +kernel
theorem dX12_spot_67 : decode cX12_spot 67 = .ok (.aload_n 0, 1) := by decide +kernel
theorem dX12_spot_68 : decode cX12_spot 68 = .ok (.iload_n 3, 1) := by decide +kernel
theorem dX12_spot_69 : decode cX12_spot 69 = .ok (.iconst (-1), 1) := by decide +kernel
theorem dX12_spot_70 : decode cX12_spot 70 = .ok (.if_icmp .ne 13, 3) := by decide +kernel
theorem dX12_spot_73 : decode cX12_spot 73 = .ok (.iload 4, 2) := by decide +kernel
theorem dX12_spot_75 : decode cX12_spot 75 = .ok (.iconst (-1), 1) := by decide +kernel
theorem dX12_spot_76 : decode cX12_spot 76 = .ok (.if_icmp .ne 7, 3) := by decide +kernel
theorem dX12_spot_79 : decode cX12_spot 79 = .ok (.iconst 1, 1) := by decide +kernel
theorem dX12_spot_80 : decode cX12_spot 80 = .ok (.goto 4, 3) := by decide +kernel
theorem dX12_spot_83 : decode cX12_spot 83 = .ok (.iconst 0, 1) := by decide +kernel
theorem dX12_spot_84 : decode cX12_spot 84 = .ok (.iconst 3, 1) := by decide +kernel
theorem dX12_spot_85 : decode cX12_spot 85 = .ok (.iload_n 2, 1) := by decide +kernel
theorem dX12_spot_86 : decode cX12_spot 86 = .ok (.invokevirtual 202, 3) := by decide +kernel
theorem dX12_spot_89 : decode cX12_spot 89 = .ok (.aload_n 0, 1) := by decide +kernel
theorem dX12_spot_90 : decode cX12_spot 90 = .ok (.getfield 101, 3) := by decide +kernel
theorem dX12_spot_93 : decode cX12_spot 93 = .ok (.ifCond .eq 14, 3) := by decide +kernel
theorem dX12_spot_96 : decode cX12_spot 96 = .ok (.aload_n 0, 1) := by decide +kernel
theorem dX12_spot_97 : decode cX12_spot 97 = .ok (.getfield 95, 3) := by decide +kernel
theorem dX12_spot_100 : decode cX12_spot 100 = .ok (.ifCond .ne 7, 3) := by decide +kernel
theorem dX12_spot_103 : decode cX12_spot 103 = .ok (.iconst 1, 1) := by decide +kernel
theorem dX12_spot_104 : decode cX12_spot 104 = .ok (.goto 4, 3) := by decide +kernel
theorem dX12_spot_107 : decode cX12_spot 107 = .ok (.iconst 0, 1) := by decide +kernel
theorem dX12_spot_108 : decode cX12_spot 108 = .ok (.istore 5, 2) := by decide +kernel
theorem dX12_spot_110 : decode cX12_spot 110 = .ok (.sipush 160, 3) := by decide +kernel
theorem dX12_spot_113 : decode cX12_spot 113 = .ok (.aload_n 0, 1) := by decide +kernel
theorem dX12_spot_114 : decode cX12_spot 114 = .ok (.getfield 129, 3) := by decide +kernel
theorem dX12_spot_117 : decode cX12_spot 117 = .ok (.imul, 1) := by decide +kernel
theorem dX12_spot_118 : decode cX12_spot 118 = .ok (.iload 4, 2) := by decide +kernel
theorem dX12_spot_120 : decode cX12_spot 120 = .ok (.iadd, 1) := by decide +kernel
theorem dX12_spot_121 : decode cX12_spot 121 = .ok (.istore 6, 2) := by decide +kernel
theorem dX12_spot_123 : decode cX12_spot 123 = .ok (.iload 5, 2) := by decide +kernel
theorem dX12_spot_125 : decode cX12_spot 125 = .ok (.ifCond .ne 7, 3) := by decide +kernel
theorem dX12_spot_128 : decode cX12_spot 128 = .ok (.iconst 3, 1) := by decide +kernel
theorem dX12_spot_129 : decode cX12_spot 129 = .ok (.goto 24, 3) := by decide +kernel
theorem dX12_spot_132 : decode cX12_spot 132 = .ok (.iload_n 3, 1) := by decide +kernel
theorem dX12_spot_133 : decode cX12_spot 133 = .ok (.iconst (-1), 1) := by decide +kernel
theorem dX12_spot_134 : decode cX12_spot 134 = .ok (.if_icmp .eq 12, 3) := by decide +kernel
theorem dX12_spot_137 : decode cX12_spot 137 = .ok (.aload_n 0, 1) := by decide +kernel
theorem dX12_spot_138 : decode cX12_spot 138 = .ok (.getfield 242, 3) := by decide +kernel
theorem dX12_spot_141 : decode cX12_spot 141 = .ok (.iload_n 3, 1) := by decide +kernel
theorem dX12_spot_142 : decode cX12_spot 142 = .ok (.iaload, 1) := by decide +kernel
theorem dX12_spot_143 : decode cX12_spot 143 = .ok (.goto 10, 3) := by decide +kernel
theorem dX12_spot_146 : decode cX12_spot 146 = .ok (.aload_n 0, 1) := by decide +kernel
theorem dX12_spot_147 : decode cX12_spot 147 = .ok (.getfield 269, 3) := by decide +kernel
theorem dX12_spot_150 : decode cX12_spot 150 = .ok (.iload 6, 2) := by decide +kernel
theorem dX12_spot_152 : decode cX12_spot 152 = .ok (.iaload, 1) := by decide +kernel
theorem dX12_spot_153 : decode cX12_spot 153 = .ok (.istore 7, 2) := by decide +kernel
theorem dX12_spot_155 : decode cX12_spot 155 = .ok (.iload 5, 2) := by decide +kernel
theorem dX12_spot_157 : decode cX12_spot 157 = .ok (.ifCond .ne 7, 3) := by decide +kernel
theorem dX12_spot_160 : decode cX12_spot 160 = .ok (.iconst 1, 1) := by decide +kernel
theorem dX12_spot_161 : decode cX12_spot 161 = .ok (.goto 24, 3) := by decide +kernel
theorem dX12_spot_164 : decode cX12_spot 164 = .ok (.iload_n 3, 1) := by decide +kernel
theorem dX12_spot_165 : decode cX12_spot 165 = .ok (.iconst (-1), 1) := by decide +kernel
theorem dX12_spot_166 : decode cX12_spot 166 = .ok (.if_icmp .eq 12, 3) := by decide +kernel
theorem dX12_spot_169 : decode cX12_spot 169 = .ok (.aload_n 0, 1) := by decide +kernel
theorem dX12_spot_170 : decode cX12_spot 170 = .ok (.getfield 245, 3) := by decide +kernel
theorem dX12_spot_173 : decode cX12_spot 173 = .ok (.iload_n 3, 1) := by decide +kernel
theorem dX12_spot_174 : decode cX12_spot 174 = .ok (.iaload, 1) := by decide +kernel
theorem dX12_spot_175 : decode cX12_spot 175 = .ok (.goto 10, 3) := by decide +kernel
theorem dX12_spot_178 : decode cX12_spot 178 = .ok (.aload_n 0, 1) := by decide +kernel
theorem dX12_spot_179 : decode cX12_spot 179 = .ok (.getfield 275, 3) := by decide +kernel
theorem dX12_spot_182 : decode cX12_spot 182 = .ok (.iload 6, 2) := by decide +kernel
theorem dX12_spot_184 : decode cX12_spot 184 = .ok (.iaload, 1) := by decide +kernel
theorem dX12_spot_185 : decode cX12_spot 185 = .ok (.istore 8, 2) := by decide +kernel
theorem dX12_spot_187 : decode cX12_spot 187 = .ok (.aload_n 0, 1) := by decide +kernel
theorem dX12_spot_188 : decode cX12_spot 188 = .ok (.sipush 227, 3) := by decide +kernel
theorem dX12_spot_191 : decode cX12_spot 191 = .ok (.invokevirtual 469, 3) := by decide +kernel
theorem dX12_spot_194 : decode cX12_spot 194 = .ok (.istore 9, 2) := by decide +kernel
theorem dX12_spot_196 : decode cX12_spot 196 = .ok (.aload_n 0, 1) := by decide +kernel
theorem dX12_spot_197 : decode cX12_spot 197 = .ok (.iload 5, 2) := by decide +kernel
theorem dX12_spot_199 : decode cX12_spot 199 = .ok (.ifCond .eq 33, 3) := by decide +kernel
theorem dX12_spot_202 : decode cX12_spot 202 = .ok (.iload_n 3, 1) := by decide +kernel
theorem dX12_spot_203 : decode cX12_spot 203 = .ok (.iconst (-1), 1) := by decide +kernel
theorem dX12_spot_204 : decode cX12_spot 204 = .ok (.if_icmp .eq 12, 3) := by decide +kernel
theorem dX12_spot_207 : decode cX12_spot 207 = .ok (.aload_n 0, 1) := by decide +kernel
theorem dX12_spot_208 : decode cX12_spot 208 = .ok (.getfield 248, 3) := by decide +kernel
theorem dX12_spot_211 : decode cX12_spot 211 = .ok (.iload_n 3, 1) := by decide +kernel
theorem dX12_spot_212 : decode cX12_spot 212 = .ok (.baload, 1) := by decide +kernel
theorem dX12_spot_213 : decode cX12_spot 213 = .ok (.goto 10, 3) := by decide +kernel
theorem dX12_spot_216 : decode cX12_spot 216 = .ok (.aload_n 0, 1) := by decide +kernel
theorem dX12_spot_217 : decode cX12_spot 217 = .ok (.getfield 278, 3) := by decide +kernel
theorem dX12_spot_220 : decode cX12_spot 220 = .ok (.iload 6, 2) := by decide +kernel
theorem dX12_spot_222 : decode cX12_spot 222 = .ok (.baload, 1) := by decide +kernel
theorem dX12_spot_223 : decode cX12_spot 223 = .ok (.iload 9, 2) := by decide +kernel
theorem dX12_spot_225 : decode cX12_spot 225 = .ok (.if_icmp .eq 7, 3) := by decide +kernel
theorem dX12_spot_228 : decode cX12_spot 228 = .ok (.iconst 1, 1) := by decide +kernel
theorem dX12_spot_229 : decode cX12_spot 229 = .ok (.goto 4, 3) := by decide +kernel
theorem dX12_spot_232 : decode cX12_spot 232 = .ok (.iconst 0, 1) := by decide +kernel
theorem dX12_spot_233 : decode cX12_spot 233 = .ok (.iconst 4, 1) := by decide +kernel
theorem dX12_spot_234 : decode cX12_spot 234 = .ok (.iload_n 2, 1) := by decide +kernel
theorem dX12_spot_235 : decode cX12_spot 235 = .ok (.invokevirtual 202, 3) := by decide +kernel
theorem dX12_spot_238 : decode cX12_spot 238 = .ok (.aload_n 0, 1) := by decide +kernel
theorem dX12_spot_239 : decode cX12_spot 239 = .ok (.iload 5, 2) := by decide +kernel
theorem dX12_spot_241 : decode cX12_spot 241 = .ok (.ifCond .eq 27, 3) := by decide +kernel
theorem dX12_spot_244 : decode cX12_spot 244 = .ok (.iload_n 1, 1) := by decide +kernel
theorem dX12_spot_245 : decode cX12_spot 245 = .ok (.ifCond .eq 23, 3) := by decide +kernel
theorem dX12_spot_248 : decode cX12_spot 248 = .ok (.iload_n 3, 1) := by decide +kernel
theorem dX12_spot_249 : decode cX12_spot 249 = .ok (.iconst (-1), 1) := by decide +kernel
theorem dX12_spot_250 : decode cX12_spot 250 = .ok (.if_icmp .ne 18, 3) := by decide +kernel
theorem dX12_spot_253 : decode cX12_spot 253 = .ok (.aload_n 0, 1) := by decide +kernel
theorem dX12_spot_254 : decode cX12_spot 254 = .ok (.getfield 272, 3) := by decide +kernel
theorem dX12_spot_257 : decode cX12_spot 257 = .ok (.iload 6, 2) := by decide +kernel
theorem dX12_spot_259 : decode cX12_spot 259 = .ok (.iaload, 1) := by decide +kernel
theorem dX12_spot_260 : decode cX12_spot 260 = .ok (.iconst 2, 1) := by decide +kernel
theorem dX12_spot_261 : decode cX12_spot 261 = .ok (.if_icmp .ne 7, 3) := by decide +kernel
theorem dX12_spot_264 : decode cX12_spot 264 = .ok (.iconst 1, 1) := by decide +kernel
theorem dX12_spot_265 : decode cX12_spot 265 = .ok (.goto 4, 3) := by decide +kernel
theorem dX12_spot_268 : decode cX12_spot 268 = .ok (.iconst 0, 1) := by decide +kernel
theorem dX12_spot_269 : decode cX12_spot 269 = .ok (.iconst 4, 1) := by decide +kernel
theorem dX12_spot_270 : decode cX12_spot 270 = .ok (.iload_n 2, 1) := by decide +kernel
theorem dX12_spot_271 : decode cX12_spot 271 = .ok (.invokevirtual 202, 3) := by decide +kernel
theorem dX12_spot_274 : decode cX12_spot 274 = .ok (.iload_n 1, 1) := by decide +kernel
theorem dX12_spot_275 : decode cX12_spot 275 = .ok (.ifCond .ne 8, 3) := by decide +kernel
theorem dX12_spot_278 : decode cX12_spot 278 = .ok (.aload_n 0, 1) := by decide +kernel
theorem dX12_spot_279 : decode cX12_spot 279 = .ok (.iload_n 2, 1) := by decide +kernel
theorem dX12_spot_280 : decode cX12_spot 280 = .ok (.invokevirtual 441, 3) := by decide +kernel
theorem dX12_spot_283 : decode cX12_spot 283 = .ok (.aload_n 0, 1) := by decide +kernel
theorem dX12_spot_284 : decode cX12_spot 284 = .ok (.dup, 1) := by decide +kernel
theorem dX12_spot_285 : decode cX12_spot 285 = .ok (.getfield 109, 3) := by decide +kernel
theorem dX12_spot_288 : decode cX12_spot 288 = .ok (.iconst 1, 1) := by decide +kernel
theorem dX12_spot_289 : decode cX12_spot 289 = .ok (.iadd, 1) := by decide +kernel
theorem dX12_spot_290 : decode cX12_spot 290 = .ok (.putfield 109, 3) := by decide +kernel
theorem dX12_spot_293 : decode cX12_spot 293 = .ok (.iload 9, 2) := by decide +kernel
theorem dX12_spot_295 : decode cX12_spot 295 = .ok (.ifCond .eq 10, 3) := by decide +kernel
theorem dX12_spot_298 : decode cX12_spot 298 = .ok (.aload_n 0, 1) := by decide +kernel
theorem dX12_spot_299 : decode cX12_spot 299 = .ok (.iload 8, 2) := by decide +kernel
theorem dX12_spot_301 : decode cX12_spot 301 = .ok (.iload_n 2, 1) := by decide +kernel
theorem dX12_spot_302 : decode cX12_spot 302 = .ok (.invokevirtual 491, 3) := by decide +kernel
theorem dX12_spot_305 : decode cX12_spot 305 = .ok (.aload_n 0, 1) := by decide +kernel
theorem dX12_spot_306 : decode cX12_spot 306 = .ok (.iload_n 3, 1) := by decide +kernel
theorem dX12_spot_307 : decode cX12_spot 307 = .ok (.iconst (-1), 1) := by decide +kernel
theorem dX12_spot_308 : decode cX12_spot 308 = .ok (.if_icmp .ne 8, 3) := by decide +kernel
theorem dX12_spot_311 : decode cX12_spot 311 = .ok (.bipush 10, 2) := by decide +kernel
theorem dX12_spot_313 : decode cX12_spot 313 = .ok (.goto 18, 3) := by decide +kernel
theorem dX12_spot_316 : decode cX12_spot 316 = .ok (.aload_n 0, 1) := by decide +kernel
theorem dX12_spot_317 : decode cX12_spot 317 = .ok (.getfield 186, 3) := by decide +kernel
theorem dX12_spot_320 : decode cX12_spot 320 = .ok (.iconst 2, 1) := by decide +kernel
theorem dX12_spot_321 : decode cX12_spot 321 = .ok (.if_icmp .ne 8, 3) := by decide +kernel
theorem dX12_spot_324 : decode cX12_spot 324 = .ok (.bipush 11, 2) := by decide +kernel
theorem dX12_spot_326 : decode cX12_spot 326 = .ok (.goto 5, 3) := by decide +kernel
theorem dX12_spot_329 : decode cX12_spot 329 = .ok (.bipush 12, 2) := by decide +kernel
theorem dX12_spot_331 : decode cX12_spot 331 = .ok (.iload 5, 2) := by decide +kernel
theorem dX12_spot_333 : decode cX12_spot 333 = .ok (.ifCond .ne 7, 3) := by decide +kernel
theorem dX12_spot_336 : decode cX12_spot 336 = .ok (.iconst 0, 1) := by decide +kernel
theorem dX12_spot_337 : decode cX12_spot 337 = .ok (.goto 24, 3) := by decide +kernel
theorem dX12_spot_340 : decode cX12_spot 340 = .ok (.iload_n 3, 1) := by decide +kernel
theorem dX12_spot_341 : decode cX12_spot 341 = .ok (.iconst (-1), 1) := by decide +kernel
theorem dX12_spot_342 : decode cX12_spot 342 = .ok (.if_icmp .eq 12, 3) := by decide +kernel
theorem dX12_spot_345 : decode cX12_spot 345 = .ok (.aload_n 0, 1) := by decide +kernel
theorem dX12_spot_346 : decode cX12_spot 346 = .ok (.getfield 251, 3) := by decide +kernel
theorem dX12_spot_349 : decode cX12_spot 349 = .ok (.iload_n 3, 1) := by decide +kernel
theorem dX12_spot_350 : decode cX12_spot 350 = .ok (.iaload, 1) := by decide +kernel
theorem dX12_spot_351 : decode cX12_spot 351 = .ok (.goto 10, 3) := by decide +kernel
theorem dX12_spot_354 : decode cX12_spot 354 = .ok (.aload_n 0, 1) := by decide +kernel
theorem dX12_spot_355 : decode cX12_spot 355 = .ok (.getfield 293, 3) := by decide +kernel
theorem dX12_spot_358 : decode cX12_spot 358 = .ok (.iload 6, 2) := by decide +kernel
theorem dX12_spot_360 : decode cX12_spot 360 = .ok (.iaload, 1) := by decide +kernel
theorem dX12_spot_361 : decode cX12_spot 361 = .ok (.iconst 0, 1) := by decide +kernel
theorem dX12_spot_362 : decode cX12_spot 362 = .ok (.invokevirtual 144, 3) := by decide +kernel
theorem dX12_spot_365 : decode cX12_spot 365 = .ok (.istore 10, 2) := by decide +kernel
theorem dX12_spot_367 : decode cX12_spot 367 = .ok (.iload 9, 2) := by decide +kernel
theorem dX12_spot_369 : decode cX12_spot 369 = .ok (.ifCond .eq 13, 3) := by decide +kernel
theorem dX12_spot_372 : decode cX12_spot 372 = .ok (.aload_n 0, 1) := by decide +kernel
theorem dX12_spot_373 : decode cX12_spot 373 = .ok (.bipush 14, 2) := by decide +kernel
theorem dX12_spot_375 : decode cX12_spot 375 = .ok (.iconst 0, 1) := by decide +kernel
theorem dX12_spot_376 : decode cX12_spot 376 = .ok (.iconst 0, 1) := by decide +kernel
theorem dX12_spot_377 : decode cX12_spot 377 = .ok (.invokevirtual 144, 3) := by decide +kernel
theorem dX12_spot_380 : decode cX12_spot 380 = .ok (.istore 10, 2) := by decide +kernel
theorem dX12_spot_382 : decode cX12_spot 382 = .ok (.iconst (-1), 1) := by decide +kernel
theorem dX12_spot_383 : decode cX12_spot 383 = .ok (.istore 11, 2) := by decide +kernel
theorem dX12_spot_385 : decode cX12_spot 385 = .ok (.aload_n 0, 1) := by decide +kernel
theorem dX12_spot_386 : decode cX12_spot 386 = .ok (.sipush 231, 3) := by decide +kernel
theorem dX12_spot_389 : decode cX12_spot 389 = .ok (.invokevirtual 218, 3) := by decide +kernel
theorem dX12_spot_392 : decode cX12_spot 392 = .ok (.ifCond .eq 17, 3) := by decide +kernel
theorem dX12_spot_395 : decode cX12_spot 395 = .ok (.aload_n 0, 1) := by decide +kernel
theorem dX12_spot_396 : decode cX12_spot 396 = .ok (.iconst 0, 1) := by decide +kernel
theorem dX12_spot_397 : decode cX12_spot 397 = .ok (.iload 7, 2) := by decide +kernel
theorem dX12_spot_399 : decode cX12_spot 399 = .ok (.invokestatic 337, 3) := by decide +kernel
theorem dX12_spot_402 : decode cX12_spot 402 = .ok (.iconst 1, 1) := by decide +kernel
theorem dX12_spot_403 : decode cX12_spot 403 = .ok (.isub, 1) := by decide +kernel
theorem dX12_spot_404 : decode cX12_spot 404 = .ok (.invokevirtual 310, 3) := by decide +kernel
theorem dX12_spot_407 : decode cX12_spot 407 = .ok (.istore 11, 2) := by decide +kernel
theorem dX12_spot_409 : decode cX12_spot 409 = .ok (.aload_n 0, 1) := by decide +kernel
theorem dX12_spot_410 : decode cX12_spot 410 = .ok (.iload 7, 2) := by decide +kernel
theorem dX12_spot_412 : decode cX12_spot 412 = .ok (.putfield 481, 3) := by decide +kernel
theorem dX12_spot_415 : decode cX12_spot 415 = .ok (.aload_n 0, 1) := by decide +kernel
theorem dX12_spot_416 : decode cX12_spot 416 = .ok (.iload 11, 2) := by decide +kernel
theorem dX12_spot_418 : decode cX12_spot 418 = .ok (.putfield 484, 3) := by decide +kernel
theorem dX12_spot_421 : decode cX12_spot 421 = .ok (.return_, 1) := by decide +kernel
theorem gs_10_0 : Cond.selects "SoftControllerModel" ⟨"SoftControllerModel", "two", "(I)I"⟩ ⟨"SoftControllerModel", "two", "(I)I"⟩ ∈ GW := gw_s (List.mem_map.mpr ⟨_, pin_10 _ (List.mem_of_getElem? (i := 0) rfl), rfl⟩) rfl
theorem gs_10_1 : Cond.selects "SoftControllerModel" ⟨"SoftControllerModel", "operand", "()I"⟩ ⟨"SoftControllerModel", "operand", "()I"⟩ ∈ GW := gw_s (List.mem_map.mpr ⟨_, pin_10 _ (List.mem_of_getElem? (i := 1) rfl), rfl⟩) rfl
theorem gs_10_10 : Cond.selects "SoftControllerModel" ⟨"SoftControllerModel", "spot", "(Z)V"⟩ ⟨"SoftControllerModel", "spot", "(Z)V"⟩ ∈ GW := gw_s (List.mem_map.mpr ⟨_, pin_10 _ (List.mem_of_getElem? (i := 10) rfl), rfl⟩) rfl
theorem gs_10_2 : Cond.selects "SoftControllerModel" ⟨"SoftControllerModel", "signed", "(I)I"⟩ ⟨"SoftControllerModel", "signed", "(I)I"⟩ ∈ GW := gw_s (List.mem_map.mpr ⟨_, pin_10 _ (List.mem_of_getElem? (i := 2) rfl), rfl⟩) rfl
theorem gs_10_4 : Cond.selects "SoftControllerModel" ⟨"SoftControllerModel", "cast", "()I"⟩ ⟨"SoftControllerModel", "cast", "()I"⟩ ∈ GW := gw_s (List.mem_map.mpr ⟨_, pin_10 _ (List.mem_of_getElem? (i := 4) rfl), rfl⟩) rfl
theorem gs_10_6 : Cond.selects "SoftControllerModel" ⟨"SoftControllerModel", "call", "()I"⟩ ⟨"SoftControllerModel", "call", "()I"⟩ ∈ GW := gw_s (List.mem_map.mpr ⟨_, pin_10 _ (List.mem_of_getElem? (i := 6) rfl), rfl⟩) rfl
theorem gs_10_8 : Cond.selects "SoftControllerModel" ⟨"SoftControllerModel", "inner", "()I"⟩ ⟨"SoftControllerModel", "inner", "()I"⟩ ∈ GW := gw_s (List.mem_map.mpr ⟨_, pin_10 _ (List.mem_of_getElem? (i := 8) rfl), rfl⟩) rfl
theorem gs_10_9 : Cond.selects "SoftControllerModel" ⟨"SoftControllerModel", "index", "(II)V"⟩ ⟨"SoftControllerModel", "index", "(II)V"⟩ ∈ GW := gw_s (List.mem_map.mpr ⟨_, pin_10 _ (List.mem_of_getElem? (i := 9) rfl), rfl⟩) rfl
theorem gs_9_15 : Cond.selects "SoftControllerModel" ⟨"SoftControllerModel", "expression", "()I"⟩ ⟨"SoftControllerModel", "expression", "()I"⟩ ∈ GW := gw_s (List.mem_map.mpr ⟨_, pin_9 _ (List.mem_of_getElem? (i := 15) rfl), rfl⟩) rfl
theorem gw_2425 : (Jvm.Cond.methodLink "SoftControllerModel" (337 : Nat) ({ cls := "SoftControllerModel", name := "bitsOf", desc := "(I)I" } : Jvm.MethodName)) ∈ GW := gw_t (tin_11 _ (List.mem_of_getElem? (i := 25) rfl)) rfl
theorem gw_2426 : (Jvm.Cond.static ({ cls := "SoftControllerModel", name := "bitsOf", desc := "(I)I" } : Jvm.MethodName)) ∈ GW := gw_t (tin_11 _ (List.mem_of_getElem? (i := 26) rfl)) rfl
theorem gw_2464 : (Jvm.Cond.methodLink "SoftControllerModel" (444 : Nat) ({ cls := "SoftControllerModel", name := "expression", desc := "()I" } : Jvm.MethodName)) ∈ GW := gw_t (tin_11 _ (List.mem_of_getElem? (i := 64) rfl)) rfl
theorem gw_2466 : (Jvm.Cond.instanceMethod ({ cls := "SoftControllerModel", name := "expression", desc := "()I" } : Jvm.MethodName)) ∈ GW := gw_t (tin_11 _ (List.mem_of_getElem? (i := 66) rfl)) rfl
theorem gw_2467 : (Jvm.Cond.code ({ cls := "SoftControllerModel", name := "expression", desc := "()I" } : Jvm.MethodName) prog_14_method_56_code (6 : Nat) (Option.some Jvm.ClassFile.FieldType.int)) ∈ GW := gw_t (tin_11 _ (List.mem_of_getElem? (i := 67) rfl)) rfl
theorem gw_2468 : (Jvm.Cond.methodLink "SoftControllerModel" (438 : Nat) ({ cls := "SoftControllerModel", name := "two", desc := "(I)I" } : Jvm.MethodName)) ∈ GW := gw_t (tin_11 _ (List.mem_of_getElem? (i := 68) rfl)) rfl
theorem gw_2470 : (Jvm.Cond.instanceMethod ({ cls := "SoftControllerModel", name := "two", desc := "(I)I" } : Jvm.MethodName)) ∈ GW := gw_t (tin_11 _ (List.mem_of_getElem? (i := 70) rfl)) rfl
theorem gw_2471 : (Jvm.Cond.code ({ cls := "SoftControllerModel", name := "two", desc := "(I)I" } : Jvm.MethodName) prog_14_method_57_code (9 : Nat) (Option.some Jvm.ClassFile.FieldType.int)) ∈ GW := gw_t (tin_11 _ (List.mem_of_getElem? (i := 71) rfl)) rfl
theorem gw_2472 : (Jvm.Cond.methodLink "SoftControllerModel" (450 : Nat) ({ cls := "SoftControllerModel", name := "operand", desc := "()I" } : Jvm.MethodName)) ∈ GW := gw_t (tin_11 _ (List.mem_of_getElem? (i := 72) rfl)) rfl
theorem gw_2474 : (Jvm.Cond.instanceMethod ({ cls := "SoftControllerModel", name := "operand", desc := "()I" } : Jvm.MethodName)) ∈ GW := gw_t (tin_11 _ (List.mem_of_getElem? (i := 74) rfl)) rfl
theorem gw_2475 : (Jvm.Cond.code ({ cls := "SoftControllerModel", name := "operand", desc := "()I" } : Jvm.MethodName) prog_14_method_59_code (3 : Nat) (Option.some Jvm.ClassFile.FieldType.int)) ∈ GW := gw_t (tin_11 _ (List.mem_of_getElem? (i := 75) rfl)) rfl
theorem gw_2476 : (Jvm.Cond.methodLink "SoftControllerModel" (460 : Nat) ({ cls := "SoftControllerModel", name := "signed", desc := "(I)I" } : Jvm.MethodName)) ∈ GW := gw_t (tin_11 _ (List.mem_of_getElem? (i := 76) rfl)) rfl
theorem gw_2478 : (Jvm.Cond.instanceMethod ({ cls := "SoftControllerModel", name := "signed", desc := "(I)I" } : Jvm.MethodName)) ∈ GW := gw_t (tin_11 _ (List.mem_of_getElem? (i := 78) rfl)) rfl
theorem gw_2479 : (Jvm.Cond.code ({ cls := "SoftControllerModel", name := "signed", desc := "(I)I" } : Jvm.MethodName) prog_14_method_60_code (6 : Nat) (Option.some Jvm.ClassFile.FieldType.int)) ∈ GW := gw_t (tin_11 _ (List.mem_of_getElem? (i := 79) rfl)) rfl
theorem gw_2484 : (Jvm.Cond.methodLink "SoftControllerModel" (466 : Nat) ({ cls := "SoftControllerModel", name := "cast", desc := "()I" } : Jvm.MethodName)) ∈ GW := gw_t (tin_11 _ (List.mem_of_getElem? (i := 84) rfl)) rfl
theorem gw_2486 : (Jvm.Cond.instanceMethod ({ cls := "SoftControllerModel", name := "cast", desc := "()I" } : Jvm.MethodName)) ∈ GW := gw_t (tin_11 _ (List.mem_of_getElem? (i := 86) rfl)) rfl
theorem gw_2487 : (Jvm.Cond.code ({ cls := "SoftControllerModel", name := "cast", desc := "()I" } : Jvm.MethodName) prog_14_method_61_code (3 : Nat) (Option.some Jvm.ClassFile.FieldType.int)) ∈ GW := gw_t (tin_11 _ (List.mem_of_getElem? (i := 87) rfl)) rfl
theorem gw_2492 : (Jvm.Cond.methodLink "SoftControllerModel" (472 : Nat) ({ cls := "SoftControllerModel", name := "call", desc := "()I" } : Jvm.MethodName)) ∈ GW := gw_t (tin_11 _ (List.mem_of_getElem? (i := 92) rfl)) rfl
theorem gw_2494 : (Jvm.Cond.instanceMethod ({ cls := "SoftControllerModel", name := "call", desc := "()I" } : Jvm.MethodName)) ∈ GW := gw_t (tin_11 _ (List.mem_of_getElem? (i := 94) rfl)) rfl
theorem gw_2495 : (Jvm.Cond.code ({ cls := "SoftControllerModel", name := "call", desc := "()I" } : Jvm.MethodName) prog_14_method_62_code (11 : Nat) (Option.some Jvm.ClassFile.FieldType.int)) ∈ GW := gw_t (tin_11 _ (List.mem_of_getElem? (i := 95) rfl)) rfl
theorem gw_2500 : (Jvm.Cond.methodLink "SoftControllerModel" (475 : Nat) ({ cls := "SoftControllerModel", name := "inner", desc := "()I" } : Jvm.MethodName)) ∈ GW := gw_t (tin_11 _ (List.mem_of_getElem? (i := 100) rfl)) rfl
theorem gw_2502 : (Jvm.Cond.instanceMethod ({ cls := "SoftControllerModel", name := "inner", desc := "()I" } : Jvm.MethodName)) ∈ GW := gw_t (tin_11 _ (List.mem_of_getElem? (i := 102) rfl)) rfl
theorem gw_2503 : (Jvm.Cond.code ({ cls := "SoftControllerModel", name := "inner", desc := "()I" } : Jvm.MethodName) prog_14_method_63_code (8 : Nat) (Option.some Jvm.ClassFile.FieldType.int)) ∈ GW := gw_t (tin_11 _ (List.mem_of_getElem? (i := 103) rfl)) rfl
theorem gw_2504 : (Jvm.Cond.methodLink "SoftControllerModel" (491 : Nat) ({ cls := "SoftControllerModel", name := "index", desc := "(II)V" } : Jvm.MethodName)) ∈ GW := gw_t (tin_11 _ (List.mem_of_getElem? (i := 104) rfl)) rfl
theorem gw_2506 : (Jvm.Cond.instanceMethod ({ cls := "SoftControllerModel", name := "index", desc := "(II)V" } : Jvm.MethodName)) ∈ GW := gw_t (tin_11 _ (List.mem_of_getElem? (i := 106) rfl)) rfl
theorem gw_2507 : (Jvm.Cond.code ({ cls := "SoftControllerModel", name := "index", desc := "(II)V" } : Jvm.MethodName) prog_14_method_64_code (6 : Nat) (Option.none : Option Jvm.ClassFile.FieldType)) ∈ GW := gw_t (tin_11 _ (List.mem_of_getElem? (i := 107) rfl)) rfl
theorem gw_2508 : (Jvm.Cond.methodLink "SoftControllerModel" (478 : Nat) ({ cls := "SoftControllerModel", name := "spot", desc := "(Z)V" } : Jvm.MethodName)) ∈ GW := gw_t (tin_11 _ (List.mem_of_getElem? (i := 108) rfl)) rfl
theorem gw_2510 : (Jvm.Cond.instanceMethod ({ cls := "SoftControllerModel", name := "spot", desc := "(Z)V" } : Jvm.MethodName)) ∈ GW := gw_t (tin_11 _ (List.mem_of_getElem? (i := 110) rfl)) rfl
theorem gw_2511 : (Jvm.Cond.code ({ cls := "SoftControllerModel", name := "spot", desc := "(Z)V" } : Jvm.MethodName) prog_14_method_65_code (12 : Nat) (Option.none : Option Jvm.ClassFile.FieldType)) ∈ GW := gw_t (tin_11 _ (List.mem_of_getElem? (i := 111) rfl)) rfl
theorem gwp_X12_bitsOf : ∀ w ∈ wsX12_bitsOf, w ∈ GW := gwl [2427] (by decide +kernel) (by decide +kernel)
section ExprRows
variable {p : Program} {l : Launch} {e : Env} {R : Room} {s : State} {m : MethodId} {args : Array Value} {below : List Frame} {meth : Method} {c : Code} {H : Heap} {locs : List Loc} {Q : State → Prop}
variable {ls : Array Slot} {D : va_G} {kA : Nat → ClassId} {V Z : Nat → Nat} {A : Nat → Prop} {N d : Nat} {w : RSt}
/-- the contracts of the group, at a depth -/
def RecOK_E (l : Launch) (D : va_G) (kA : Nat → ClassId) (V Z : Nat → Nat) (d : Nat) (ro : Nat → Int32 → Int32 → RSt → Option (Int32 × RSt)) : Prop := (∀ (u : RSt) (sz : Nat) (r : Int32) (w : RSt), ro 0 0 0 u = some (r, w) → Met l yX12_expression (Cond.code yX12_expression cX12_expression 6 (some .int) :: GW) { frames := d + 12, cells := 0, slots := 0, locals := 60 * d + 500 } (rPc D kA V Z [] u sz) (rQi D kA Z u sz r w) 0 0 (va_A (RW kA Z u) sz)) ∧ (∀ (l1 : Int32) (u : RSt) (sz : Nat) (r : Int32) (w : RSt), ro 1 l1 0 u = some (r, w) → Met l yX12_two (Cond.code yX12_two cX12_two 9 (some .int) :: GW) { frames := d + 12, cells := 0, slots := 0, locals := 60 * d + 500 } (rPc D kA V Z [.int l1] u sz) (rQi D kA Z u sz r w) 0 0 (va_A (RW kA Z u) sz)) ∧ (∀ (u : RSt) (sz : Nat) (r : Int32) (w : RSt), ro 2 0 0 u = some (r, w) → Met l yX12_operand (Cond.code yX12_operand cX12_operand 3 (some .int) :: GW) { frames := d + 12, cells := 0, slots := 0, locals := 60 * d + 500 } (rPc D kA V Z [] u sz) (rQi D kA Z u sz r w) 0 0 (va_A (RW kA Z u) sz)) ∧ (∀ (l1 : Int32) (u : RSt) (sz : Nat) (r : Int32) (w : RSt), ro 3 l1 0 u = some (r, w) → Met l yX12_signed (Cond.code yX12_signed cX12_signed 6 (some .int) :: GW) { frames := d + 12, cells := 0, slots := 0, locals := 60 * d + 500 } (rPc D kA V Z [.int l1] u sz) (rQi D kA Z u sz r w) 0 0 (va_A (RW kA Z u) sz)) ∧ (∀ (u : RSt) (sz : Nat) (r : Int32) (w : RSt), ro 4 0 0 u = some (r, w) → Met l yX12_cast (Cond.code yX12_cast cX12_cast 3 (some .int) :: GW) { frames := d + 12, cells := 0, slots := 0, locals := 60 * d + 500 } (rPc D kA V Z [] u sz) (rQi D kA Z u sz r w) 0 0 (va_A (RW kA Z u) sz)) ∧ (∀ (u : RSt) (sz : Nat) (r : Int32) (w : RSt), ro 5 0 0 u = some (r, w) → Met l yX12_call (Cond.code yX12_call cX12_call 11 (some .int) :: GW) { frames := d + 12, cells := 0, slots := 0, locals := 60 * d + 500 } (rPc D kA V Z [] u sz) (rQi D kA Z u sz r w) 0 0 (va_A (RW kA Z u) sz)) ∧ (∀ (u : RSt) (sz : Nat) (r : Int32) (w : RSt), ro 6 0 0 u = some (r, w) → Met l yX12_inner (Cond.code yX12_inner cX12_inner 8 (some .int) :: GW) { frames := d + 12, cells := 0, slots := 0, locals := 60 * d + 500 } (rPc D kA V Z [] u sz) (rQi D kA Z u sz r w) 0 0 (va_A (RW kA Z u) sz)) ∧ (∀ (l1 : Int32) (l2 : Int32) (u : RSt) (sz : Nat) (r : Int32) (w : RSt), ro 7 l1 l2 u = some (r, w) → Met l yX12_index (Cond.code yX12_index cX12_index 6 none :: GW) { frames := d + 12, cells := 0, slots := 0, locals := 60 * d + 500 } (rPc D kA V Z [.int l1, .int l2] u sz) (rQv D kA Z u sz w) 0 0 (va_A (RW kA Z u) sz)) ∧ (∀ (l1 : Int32) (u : RSt) (sz : Nat) (r : Int32) (w : RSt), ro 8 l1 0 u = some (r, w) → Met l yX12_spot (Cond.code yX12_spot cX12_spot 12 none :: GW) { frames := d + 12, cells := 0, slots := 0, locals := 60 * d + 500 } (rPc D kA V Z [.int l1] u sz) (rQv D kA Z u sz w) 0 0 (va_A (RW kA Z u) sz))
theorem kc_expression {r : Int32} {cc : ByteArray} {pc nL : Nat} {c0 : Cond} {rest : List Value} {ro : Nat → Int32 → Int32 → RSt → Option (Int32 × RSt)} {u : RSt} (X : RC p s m args c cc nL c0 D kA V A) (hrec : RecOK_E l D kA V Z d ro) (hS : RS D kA Z A s u H locs) (h : ro 0 0 0 u = some (r, w)) (hF : d + 1 + 12 ≤ R.frames) (hL : 60 * (d + 1) + 500 ≤ R.locals) (hl : ls.size = nL) (hc : (rest.map fun v => v.category).sum ≤ 8) (hdg : decode cc pc = .ok (.invokevirtual 444, 3)) (kk : ∀ H locs, RS D kA Z A s w H locs → W p l e R s m args below meth c H locs 0 0 Q (F0 m (pc + 3) ls (.int r :: rest))) : W p l e R s m args below meth c H locs 0 0 Q (F0 m pc ls (.ref (Z 200) :: rest)) :=
  rcall_i (n := 0) X hS (hrec.1 u H.size _ _ h) (gw_V gw_2464 gw_2466 gs_9_15 gw_16 gw_2467) (by decide +kernel) (rc_fr hF) (rc_lo hL (Nat.le_of_ble_eq_true rfl)) rfl hl hc rfl hdg kk
theorem kc_two {r : Int32} {cc : ByteArray} {pc nL : Nat} {c0 : Cond} {rest : List Value} {ro : Nat → Int32 → Int32 → RSt → Option (Int32 × RSt)} {l1 : Int32} {u : RSt} (X : RC p s m args c cc nL c0 D kA V A) (hrec : RecOK_E l D kA V Z d ro) (hS : RS D kA Z A s u H locs) (h : ro 1 l1 0 u = some (r, w)) (hF : d + 1 + 12 ≤ R.frames) (hL : 60 * (d + 1) + 500 ≤ R.locals) (hl : ls.size = nL) (hc : (rest.map fun v => v.category).sum ≤ 8) (hdg : decode cc pc = .ok (.invokevirtual 438, 3)) (kk : ∀ H locs, RS D kA Z A s w H locs → W p l e R s m args below meth c H locs 0 0 Q (F0 m (pc + 3) ls (.int r :: rest))) : W p l e R s m args below meth c H locs 0 0 Q (F0 m pc ls (.int l1 :: .ref (Z 200) :: rest)) :=
  rcall_i (n := 1) X hS (hrec.2.1 l1 u H.size _ _ h) (gw_V gw_2468 gw_2470 gs_10_0 gw_16 gw_2471) (by decide +kernel) (rc_fr hF) (rc_lo hL (Nat.le_of_ble_eq_true rfl)) rfl hl hc rfl hdg kk
theorem kc_operand {r : Int32} {cc : ByteArray} {pc nL : Nat} {c0 : Cond} {rest : List Value} {ro : Nat → Int32 → Int32 → RSt → Option (Int32 × RSt)} {u : RSt} (X : RC p s m args c cc nL c0 D kA V A) (hrec : RecOK_E l D kA V Z d ro) (hS : RS D kA Z A s u H locs) (h : ro 2 0 0 u = some (r, w)) (hF : d + 1 + 12 ≤ R.frames) (hL : 60 * (d + 1) + 500 ≤ R.locals) (hl : ls.size = nL) (hc : (rest.map fun v => v.category).sum ≤ 8) (hdg : decode cc pc = .ok (.invokevirtual 450, 3)) (kk : ∀ H locs, RS D kA Z A s w H locs → W p l e R s m args below meth c H locs 0 0 Q (F0 m (pc + 3) ls (.int r :: rest))) : W p l e R s m args below meth c H locs 0 0 Q (F0 m pc ls (.ref (Z 200) :: rest)) :=
  rcall_i (n := 0) X hS (hrec.2.2.1 u H.size _ _ h) (gw_V gw_2472 gw_2474 gs_10_1 gw_16 gw_2475) (by decide +kernel) (rc_fr hF) (rc_lo hL (Nat.le_of_ble_eq_true rfl)) rfl hl hc rfl hdg kk
theorem kc_signed {r : Int32} {cc : ByteArray} {pc nL : Nat} {c0 : Cond} {rest : List Value} {ro : Nat → Int32 → Int32 → RSt → Option (Int32 × RSt)} {l1 : Int32} {u : RSt} (X : RC p s m args c cc nL c0 D kA V A) (hrec : RecOK_E l D kA V Z d ro) (hS : RS D kA Z A s u H locs) (h : ro 3 l1 0 u = some (r, w)) (hF : d + 1 + 12 ≤ R.frames) (hL : 60 * (d + 1) + 500 ≤ R.locals) (hl : ls.size = nL) (hc : (rest.map fun v => v.category).sum ≤ 8) (hdg : decode cc pc = .ok (.invokevirtual 460, 3)) (kk : ∀ H locs, RS D kA Z A s w H locs → W p l e R s m args below meth c H locs 0 0 Q (F0 m (pc + 3) ls (.int r :: rest))) : W p l e R s m args below meth c H locs 0 0 Q (F0 m pc ls (.int l1 :: .ref (Z 200) :: rest)) :=
  rcall_i (n := 1) X hS (hrec.2.2.2.1 l1 u H.size _ _ h) (gw_V gw_2476 gw_2478 gs_10_2 gw_16 gw_2479) (by decide +kernel) (rc_fr hF) (rc_lo hL (Nat.le_of_ble_eq_true rfl)) rfl hl hc rfl hdg kk
theorem kc_cast {r : Int32} {cc : ByteArray} {pc nL : Nat} {c0 : Cond} {rest : List Value} {ro : Nat → Int32 → Int32 → RSt → Option (Int32 × RSt)} {u : RSt} (X : RC p s m args c cc nL c0 D kA V A) (hrec : RecOK_E l D kA V Z d ro) (hS : RS D kA Z A s u H locs) (h : ro 4 0 0 u = some (r, w)) (hF : d + 1 + 12 ≤ R.frames) (hL : 60 * (d + 1) + 500 ≤ R.locals) (hl : ls.size = nL) (hc : (rest.map fun v => v.category).sum ≤ 8) (hdg : decode cc pc = .ok (.invokevirtual 466, 3)) (kk : ∀ H locs, RS D kA Z A s w H locs → W p l e R s m args below meth c H locs 0 0 Q (F0 m (pc + 3) ls (.int r :: rest))) : W p l e R s m args below meth c H locs 0 0 Q (F0 m pc ls (.ref (Z 200) :: rest)) :=
  rcall_i (n := 0) X hS (hrec.2.2.2.2.1 u H.size _ _ h) (gw_V gw_2484 gw_2486 gs_10_4 gw_16 gw_2487) (by decide +kernel) (rc_fr hF) (rc_lo hL (Nat.le_of_ble_eq_true rfl)) rfl hl hc rfl hdg kk
theorem kc_call {r : Int32} {cc : ByteArray} {pc nL : Nat} {c0 : Cond} {rest : List Value} {ro : Nat → Int32 → Int32 → RSt → Option (Int32 × RSt)} {u : RSt} (X : RC p s m args c cc nL c0 D kA V A) (hrec : RecOK_E l D kA V Z d ro) (hS : RS D kA Z A s u H locs) (h : ro 5 0 0 u = some (r, w)) (hF : d + 1 + 12 ≤ R.frames) (hL : 60 * (d + 1) + 500 ≤ R.locals) (hl : ls.size = nL) (hc : (rest.map fun v => v.category).sum ≤ 8) (hdg : decode cc pc = .ok (.invokevirtual 472, 3)) (kk : ∀ H locs, RS D kA Z A s w H locs → W p l e R s m args below meth c H locs 0 0 Q (F0 m (pc + 3) ls (.int r :: rest))) : W p l e R s m args below meth c H locs 0 0 Q (F0 m pc ls (.ref (Z 200) :: rest)) :=
  rcall_i (n := 0) X hS (hrec.2.2.2.2.2.1 u H.size _ _ h) (gw_V gw_2492 gw_2494 gs_10_6 gw_16 gw_2495) (by decide +kernel) (rc_fr hF) (rc_lo hL (Nat.le_of_ble_eq_true rfl)) rfl hl hc rfl hdg kk
theorem kc_inner {r : Int32} {cc : ByteArray} {pc nL : Nat} {c0 : Cond} {rest : List Value} {ro : Nat → Int32 → Int32 → RSt → Option (Int32 × RSt)} {u : RSt} (X : RC p s m args c cc nL c0 D kA V A) (hrec : RecOK_E l D kA V Z d ro) (hS : RS D kA Z A s u H locs) (h : ro 6 0 0 u = some (r, w)) (hF : d + 1 + 12 ≤ R.frames) (hL : 60 * (d + 1) + 500 ≤ R.locals) (hl : ls.size = nL) (hc : (rest.map fun v => v.category).sum ≤ 8) (hdg : decode cc pc = .ok (.invokevirtual 475, 3)) (kk : ∀ H locs, RS D kA Z A s w H locs → W p l e R s m args below meth c H locs 0 0 Q (F0 m (pc + 3) ls (.int r :: rest))) : W p l e R s m args below meth c H locs 0 0 Q (F0 m pc ls (.ref (Z 200) :: rest)) :=
  rcall_i (n := 0) X hS (hrec.2.2.2.2.2.2.1 u H.size _ _ h) (gw_V gw_2500 gw_2502 gs_10_8 gw_16 gw_2503) (by decide +kernel) (rc_fr hF) (rc_lo hL (Nat.le_of_ble_eq_true rfl)) rfl hl hc rfl hdg kk
theorem kc_index {r : Int32} {cc : ByteArray} {pc nL : Nat} {c0 : Cond} {rest : List Value} {ro : Nat → Int32 → Int32 → RSt → Option (Int32 × RSt)} {l1 : Int32} {l2 : Int32} {u : RSt} (X : RC p s m args c cc nL c0 D kA V A) (hrec : RecOK_E l D kA V Z d ro) (hS : RS D kA Z A s u H locs) (h : ro 7 l1 l2 u = some (r, w)) (hF : d + 1 + 12 ≤ R.frames) (hL : 60 * (d + 1) + 500 ≤ R.locals) (hl : ls.size = nL) (hc : (rest.map fun v => v.category).sum ≤ 8) (hdg : decode cc pc = .ok (.invokevirtual 491, 3)) (kk : ∀ H locs, RS D kA Z A s w H locs → W p l e R s m args below meth c H locs 0 0 Q (F0 m (pc + 3) ls (rest))) : W p l e R s m args below meth c H locs 0 0 Q (F0 m pc ls (.int l2 :: .int l1 :: .ref (Z 200) :: rest)) :=
  rcall_v (n := 2) X hS (hrec.2.2.2.2.2.2.2.1 l1 l2 u H.size _ _ h) (gw_V gw_2504 gw_2506 gs_10_9 gw_16 gw_2507) (by decide +kernel) (rc_fr hF) (rc_lo hL (Nat.le_of_ble_eq_true rfl)) rfl hl hc rfl hdg kk
theorem kc_spot {r : Int32} {cc : ByteArray} {pc nL : Nat} {c0 : Cond} {rest : List Value} {ro : Nat → Int32 → Int32 → RSt → Option (Int32 × RSt)} {l1 : Int32} {u : RSt} (X : RC p s m args c cc nL c0 D kA V A) (hrec : RecOK_E l D kA V Z d ro) (hS : RS D kA Z A s u H locs) (h : ro 8 l1 0 u = some (r, w)) (hF : d + 1 + 12 ≤ R.frames) (hL : 60 * (d + 1) + 500 ≤ R.locals) (hl : ls.size = nL) (hc : (rest.map fun v => v.category).sum ≤ 8) (hdg : decode cc pc = .ok (.invokevirtual 478, 3)) (kk : ∀ H locs, RS D kA Z A s w H locs → W p l e R s m args below meth c H locs 0 0 Q (F0 m (pc + 3) ls (rest))) : W p l e R s m args below meth c H locs 0 0 Q (F0 m pc ls (.int l1 :: .ref (Z 200) :: rest)) :=
  rcall_v (n := 1) X hS (hrec.2.2.2.2.2.2.2.2 l1 u H.size _ _ h) (gw_V gw_2508 gw_2510 gs_10_10 gw_16 gw_2511) (by decide +kernel) (rc_fr hF) (rc_lo hL (Nat.le_of_ble_eq_true rfl)) rfl hl hc rfl hdg kk
def B_expression_119 (N : Nat) (ro : Nat → Int32 → Int32 → RSt → Option (Int32 × RSt)) (u : RSt) : Option (Int32 × RSt) := some (4, u)
set_option maxHeartbeats 4000000 in
theorem b_expression_119 {r : Int32} {ro : Nat → Int32 → Int32 → RSt → Option (Int32 × RSt)} (X : RC p s m args c cX12_expression 6 (Cond.code yX12_expression cX12_expression 6 (some .int)) D kA V A) (hE : REi p l e R s m args below meth c cX12_expression D kA Z A Q r w) (hF : 3 ≤ R.frames) (hL : 63 ≤ R.locals) (hrec : RecOK_E l D kA V Z d ro) (hFd : d + 1 + 12 ≤ R.frames) (hLd : 60 * (d + 1) + 500 ≤ R.locals)  {u : RSt} (h : B_expression_119 N ro u = some (r, w)) (hS : RS D kA Z A s u H locs) (hl : lv_has ls 6 []) : W p l e R s m args below meth c H locs 0 0 Q (F0 m 119 ls []) := by
  obtain ⟨⟨hx, hb, hml, hown, hts⟩, hK, hEV, hA⟩ := id X
  have hG : ∀ w ∈ GW, w.before args s = true := fun w h => hts w (List.mem_cons_of_mem _ h)
  unfold B_expression_119 at h
  refine lv_iconst (v := 4) hx hb dX12_expression_119 (by decide) ?_
  refine lv_goto (tgt := 124) hx hb dX12_expression_120 (by decide) ?_
  obtain ⟨rfl, rfl⟩ := so h
  exact hE _ _ _ _ hS dX12_expression_124
def B_expression_0 (N : Nat) (ro : Nat → Int32 → Int32 → RSt → Option (Int32 × RSt)) (u : RSt) : Option (Int32 × RSt) := bn (ro 1 1 0 u) fun r_2 u_1 => bn (F_is N 232 u_1) fun r_4 u_3 => if r_4 = (0 : Int32) then (some (r_2, u_3)) else (bn (F_opens N u_3) fun _ u_6 => rd (u_6.2.2.1 3) 1502 (u_6.1 65) fun v_7 => bn (F_cost N v_7 u_6) fun _ u_9 => pu (sI u_9 65 ((u_9.1 65) + 1)) fun u_10 => bn (F_emit N 26 0 0 u_10) fun r_12 u_11 => bn (ro 0 0 0 u_11) fun r_14 u_13 => bn (F_emit N 28 0 0 u_13) fun r_16 u_15 => bn (F_lead N r_12 u_15) fun _ u_17 => bn (F_take N 233 u_17) fun _ u_18 => bn (ro 0 0 0 u_18) fun r_20 u_19 => bn (F_lead N r_16 u_19) fun _ u_21 => pu (sI u_21 66 ((u_21.1 66) - 1)) fun u_22 => pu (sI u_22 78 0) fun u_23 => if r_14 = (4 : Int32) then (B_expression_119 N ro u_23) else (if r_20 = (4 : Int32) then (B_expression_119 N ro u_23) else (some (3, u_23))))
set_option maxHeartbeats 4000000 in
theorem b_expression_0 {r : Int32} {ro : Nat → Int32 → Int32 → RSt → Option (Int32 × RSt)} (X : RC p s m args c cX12_expression 6 (Cond.code yX12_expression cX12_expression 6 (some .int)) D kA V A) (hE : REi p l e R s m args below meth c cX12_expression D kA Z A Q r w) (hF : 3 ≤ R.frames) (hL : 63 ≤ R.locals) (hrec : RecOK_E l D kA V Z d ro) (hFd : d + 1 + 12 ≤ R.frames) (hLd : 60 * (d + 1) + 500 ≤ R.locals)  {u : RSt} (h : B_expression_0 N ro u = some (r, w)) (hS : RS D kA Z A s u H locs) (hl : lv_has ls 6 [(0, .ref (Z 200))]) : W p l e R s m args below meth c H locs 0 0 Q (F0 m 0 ls []) := by
  obtain ⟨⟨hx, hb, hml, hown, hts⟩, hK, hEV, hA⟩ := id X
  have hG : ∀ w ∈ GW, w.before args s = true := fun w h => hts w (List.mem_cons_of_mem _ h)
  unfold B_expression_0 at h
  refine lv_aload_n hx hb dX12_expression_0 rfl (lv_at hl 0 rfl) ?_
  refine lv_iconst (v := 1) hx hb dX12_expression_1 (by decide) ?_
  obtain ⟨r_2, u_1, h_u_1, h⟩ := bn_of h
  refine kc_two X hrec hS h_u_1 hFd hLd hl.1 (Nat.le_of_ble_eq_true rfl) dX12_expression_2 (fun H locs hS => ?_)
  refine lv_istore_n (lv' := [(1, .int r_2), (0, .ref (Z 200))]) hx hb dX12_expression_5 rfl hl (by decide) rfl (fun ls hl => ?_)
  refine lv_aload_n hx hb dX12_expression_6 rfl (lv_at hl 1 rfl) ?_
  refine lv_sipush (v := 232) hx hb dX12_expression_7 (by decide) ?_
  obtain ⟨r_4, u_3, h_u_3, h⟩ := bn_of h
  refine kc_is X hS h_u_3 (Nat.le_trans (Nat.le_of_ble_eq_true rfl) hF) (Nat.le_trans (Nat.le_of_ble_eq_true rfl) hL) hl.1 (Nat.le_of_ble_eq_true rfl) dX12_expression_10 (fun H locs hS => ?_)
  refine lv_if_ne (tgt := 18) hx hb dX12_expression_13 (by decide) (fun c_5 => ?_) (fun c_5 => ?_)
  · have h := im (c_5) h
    refine lv_aload_n hx hb dX12_expression_18 rfl (lv_at hl 1 rfl) ?_
    obtain ⟨r_u_6, u_6, h_u_6, h⟩ := bn_of h
    refine kc_opens X hS h_u_6 (Nat.le_trans (Nat.le_of_ble_eq_true rfl) hF) (Nat.le_trans (Nat.le_of_ble_eq_true rfl) hL) hl.1 (Nat.le_of_ble_eq_true rfl) dX12_expression_19 (fun H locs hS => ?_)
    refine lv_aload_n hx hb dX12_expression_22 rfl (lv_at hl 1 rfl) ?_
    refine lv_aload_n hx hb dX12_expression_23 rfl (lv_at hl 1 rfl) ?_
    refine rg_3 X hS dX12_expression_24 ?_
    refine lv_aload_n hx hb dX12_expression_27 rfl (lv_at hl 1 rfl) ?_
    refine rg_65 X hS dX12_expression_28 ?_
    obtain ⟨v_7, e_v_7, i_8, h⟩ := rd_of h
    refine ra_3 X hS i_8 e_v_7 dX12_expression_31 ?_
    obtain ⟨r_u_9, u_9, h_u_9, h⟩ := bn_of h
    refine kc_cost X hS h_u_9 (Nat.le_trans (Nat.le_of_ble_eq_true rfl) hF) (Nat.le_trans (Nat.le_of_ble_eq_true rfl) hL) hl.1 (Nat.le_of_ble_eq_true rfl) dX12_expression_32 (fun H locs hS => ?_)
    refine lv_aload_n hx hb dX12_expression_35 rfl (lv_at hl 1 rfl) ?_
    refine lv_dup hx hb dX12_expression_36 rfl ?_
    refine rg_65 X hS dX12_expression_37 ?_
    refine lv_iconst (v := 1) hx hb dX12_expression_40 (by decide) ?_
    refine lv_iadd hx hb dX12_expression_41 ?_
    obtain ⟨u_10, e_u_10, h⟩ := pu_of h
    refine rp_65 X hS e_u_10 dX12_expression_42 (fun H locs hS => ?_)
    refine lv_aload_n hx hb dX12_expression_45 rfl (lv_at hl 1 rfl) ?_
    refine lv_bipush (v := 26) hx hb dX12_expression_46 (by decide) ?_
    refine lv_iconst (v := 0) hx hb dX12_expression_48 (by decide) ?_
    refine lv_iconst (v := 0) hx hb dX12_expression_49 (by decide) ?_
    obtain ⟨r_12, u_11, h_u_11, h⟩ := bn_of h
    refine kc_emit X hS h_u_11 (Nat.le_trans (Nat.le_of_ble_eq_true rfl) hF) (Nat.le_trans (Nat.le_of_ble_eq_true rfl) hL) hl.1 (Nat.le_of_ble_eq_true rfl) dX12_expression_50 (fun H locs hS => ?_)
    refine lv_istore_n (lv' := [(2, .int r_12), (1, .int r_2), (0, .ref (Z 200))]) hx hb dX12_expression_53 rfl hl (by decide) rfl (fun ls hl => ?_)
    refine lv_aload_n hx hb dX12_expression_54 rfl (lv_at hl 2 rfl) ?_
    obtain ⟨r_14, u_13, h_u_13, h⟩ := bn_of h
    refine kc_expression X hrec hS h_u_13 hFd hLd hl.1 (Nat.le_of_ble_eq_true rfl) dX12_expression_55 (fun H locs hS => ?_)
    refine lv_istore_n (lv' := [(3, .int r_14), (2, .int r_12), (1, .int r_2), (0, .ref (Z 200))]) hx hb dX12_expression_58 rfl hl (by decide) rfl (fun ls hl => ?_)
    refine lv_aload_n hx hb dX12_expression_59 rfl (lv_at hl 3 rfl) ?_
    refine lv_bipush (v := 28) hx hb dX12_expression_60 (by decide) ?_
    refine lv_iconst (v := 0) hx hb dX12_expression_62 (by decide) ?_
    refine lv_iconst (v := 0) hx hb dX12_expression_63 (by decide) ?_
    obtain ⟨r_16, u_15, h_u_15, h⟩ := bn_of h
    refine kc_emit X hS h_u_15 (Nat.le_trans (Nat.le_of_ble_eq_true rfl) hF) (Nat.le_trans (Nat.le_of_ble_eq_true rfl) hL) hl.1 (Nat.le_of_ble_eq_true rfl) dX12_expression_64 (fun H locs hS => ?_)
    refine lv_istore (lv' := [(4, .int r_16), (3, .int r_14), (2, .int r_12), (1, .int r_2), (0, .ref (Z 200))]) hx hb dX12_expression_67 hl (by decide) rfl (fun ls hl => ?_)
    refine lv_aload_n hx hb dX12_expression_69 rfl (lv_at hl 4 rfl) ?_
    refine lv_iload_n hx hb dX12_expression_70 rfl (lv_at hl 2 rfl) ?_
    obtain ⟨r_u_17, u_17, h_u_17, h⟩ := bn_of h
    refine kc_lead X hS h_u_17 (Nat.le_trans (Nat.le_of_ble_eq_true rfl) hF) (Nat.le_trans (Nat.le_of_ble_eq_true rfl) hL) hl.1 (Nat.le_of_ble_eq_true rfl) dX12_expression_71 (fun H locs hS => ?_)
    refine lv_aload_n hx hb dX12_expression_74 rfl (lv_at hl 4 rfl) ?_
    refine lv_sipush (v := 233) hx hb dX12_expression_75 (by decide) ?_
    obtain ⟨r_u_18, u_18, h_u_18, h⟩ := bn_of h
    refine kc_take X hS h_u_18 (Nat.le_trans (Nat.le_of_ble_eq_true rfl) hF) (Nat.le_trans (Nat.le_of_ble_eq_true rfl) hL) hl.1 (Nat.le_of_ble_eq_true rfl) dX12_expression_78 (fun H locs hS => ?_)
    refine lv_aload_n hx hb dX12_expression_81 rfl (lv_at hl 4 rfl) ?_
    obtain ⟨r_20, u_19, h_u_19, h⟩ := bn_of h
    refine kc_expression X hrec hS h_u_19 hFd hLd hl.1 (Nat.le_of_ble_eq_true rfl) dX12_expression_82 (fun H locs hS => ?_)
    refine lv_istore (lv' := [(5, .int r_20), (4, .int r_16), (3, .int r_14), (2, .int r_12), (1, .int r_2), (0, .ref (Z 200))]) hx hb dX12_expression_85 hl (by decide) rfl (fun ls hl => ?_)
    refine lv_aload_n hx hb dX12_expression_87 rfl (lv_at hl 5 rfl) ?_
    refine lv_iload hx hb dX12_expression_88 (lv_at hl 1 rfl) ?_
    obtain ⟨r_u_21, u_21, h_u_21, h⟩ := bn_of h
    refine kc_lead X hS h_u_21 (Nat.le_trans (Nat.le_of_ble_eq_true rfl) hF) (Nat.le_trans (Nat.le_of_ble_eq_true rfl) hL) hl.1 (Nat.le_of_ble_eq_true rfl) dX12_expression_90 (fun H locs hS => ?_)
    refine lv_aload_n hx hb dX12_expression_93 rfl (lv_at hl 5 rfl) ?_
    refine lv_dup hx hb dX12_expression_94 rfl ?_
    refine rg_66 X hS dX12_expression_95 ?_
    refine lv_iconst (v := 1) hx hb dX12_expression_98 (by decide) ?_
    refine lv_isub hx hb dX12_expression_99 ?_
    obtain ⟨u_22, e_u_22, h⟩ := pu_of h
    refine rp_66 X hS e_u_22 dX12_expression_100 (fun H locs hS => ?_)
    refine lv_aload_n hx hb dX12_expression_103 rfl (lv_at hl 5 rfl) ?_
    refine lv_iconst (v := 0) hx hb dX12_expression_104 (by decide) ?_
    obtain ⟨u_23, e_u_23, h⟩ := pu_of h
    refine rp_78 X hS e_u_23 dX12_expression_105 (fun H locs hS => ?_)
    refine lv_iload_n hx hb dX12_expression_108 rfl (lv_at hl 2 rfl) ?_
    refine lv_iconst (v := 4) hx hb dX12_expression_109 (by decide) ?_
    refine lv_icmp_eq (tgt := 119) hx hb dX12_expression_110 (by decide) (fun c_24 => ?_) (fun c_24 => ?_)
    · have h := ip (c_24) h
      exact b_expression_119 X hE hF hL hrec hFd hLd h hS (lv_sub hl [] rfl)
    · have h := im (c_24) h
      refine lv_iload hx hb dX12_expression_113 (lv_at hl 0 rfl) ?_
      refine lv_iconst (v := 4) hx hb dX12_expression_115 (by decide) ?_
      refine lv_icmp_ne (tgt := 123) hx hb dX12_expression_116 (by decide) (fun c_25 => ?_) (fun c_25 => ?_)
      · have h := im (c_25) h
        refine lv_iconst (v := 3) hx hb dX12_expression_123 (by decide) ?_
        obtain ⟨rfl, rfl⟩ := so h
        exact hE _ _ _ _ hS dX12_expression_124
      · have h := ip (c_25) h
        exact b_expression_119 X hE hF hL hrec hFd hLd h hS (lv_sub hl [] rfl)
  · have h := ip (c_5) h
    refine lv_iload_n hx hb dX12_expression_16 rfl (lv_at hl 0 rfl) ?_
    obtain ⟨rfl, rfl⟩ := so h
    exact hE _ _ _ _ hS dX12_expression_17
def F_expression (N : Nat) (ro : Nat → Int32 → Int32 → RSt → Option (Int32 × RSt)) (u : RSt) : Option (Int32 × RSt) := B_expression_0 N ro u
set_option maxHeartbeats 4000000 in
theorem k_expression (l : Launch) (D : va_G) (kA : Nat → ClassId) (V Z : Nat → Nat) (N : Nat) {d : Nat} (ro : Nat → Int32 → Int32 → RSt → Option (Int32 × RSt)) (hrec : RecOK_E l D kA V Z d ro) (u : RSt) (sz : Nat) {r : Int32} {w : RSt} (h : F_expression N ro u = some (r, w)) : Met l yX12_expression (Cond.code yX12_expression cX12_expression 6 (some .int) :: GW) { frames := d + 1 + 12, cells := 0, slots := 0, locals := 60 * (d + 1) + 500 } (rPc D kA V Z [] u sz) (rQi D kA Z u sz r w) 0 0 (va_A (RW kA Z u) sz) := by
  refine Met.ofW (cc := cX12_expression) (maxL := 6) (ret := (some .int)) (by decide) rfl ?_
  intro p e s m args below meth c s₁ Bd hml hv
  obtain ⟨rfl, hsz, hP, hK, hD0, hE⟩ := hv
  have hts := atoms_spec (ws := Cond.code yX12_expression cX12_expression 6 (some .int) :: GW) Bd.pre
  have hl := lv_entry (.ref (Z 200) :: []) (n := 6) (Nat.le_of_ble_eq_true rfl)
  rw [lg_entry_eq]
  generalize (lg_sl (.ref (Z 200) :: []) ++ List.replicate (6 - (lg_sl (.ref (Z 200) :: [])).length) Slot.unset).toArray = ls at hl ⊢
  have hl : lv_has ls 6 [(0, .ref (Z 200))] := hl
  subst hsz
  have X : RC p s m (.ref (Z 200) :: []).toArray c cX12_expression 6 (Cond.code yX12_expression cX12_expression 6 (some .int)) D kA V (va_A (RW kA Z u) s.heap.size) := ⟨⟨Bd.exec, Bd.bytes, hml, findClass_of_methodNamed Bd.named, hts⟩, hK, hE, fun q h => Or.inr h⟩
  exact b_expression_0 X (rend_i (cy := cX12_expression) X Bd.returns Bd.notSynchronized) (Nat.le_trans (Nat.le_of_ble_eq_true rfl) (Nat.le_add_left 12 _)) (Nat.le_trans (Nat.le_of_ble_eq_true rfl) (Nat.le_add_left 500 _)) hrec (Nat.le_refl _) (Nat.le_refl _) h ⟨hP, hD0.self, va_S.rf⟩ (lv_sub hl [0] rfl)
def B_two_159 (N : Nat) (ro : Nat → Int32 → Int32 → RSt → Option (Int32 × RSt)) (R_10 : Int32 × Int32 × Int32 × RSt → Option (Int32 × RSt)) (l1 : Int32) (l2 : Int32) (u : RSt) : Option (Int32 × RSt) := pu (sI u 78 0) fun u_1 => bn (F_strength N u_1) fun r_3 u_2 => R_10 (l1, l2, r_3, u_2)
set_option maxHeartbeats 4000000 in
theorem b_two_159 {r : Int32} {ro : Nat → Int32 → Int32 → RSt → Option (Int32 × RSt)} (X : RC p s m args c cX12_two 9 (Cond.code yX12_two cX12_two 9 (some .int)) D kA V A) (hE : REi p l e R s m args below meth c cX12_two D kA Z A Q r w) (hF : 2 ≤ R.frames) (hL : 52 ≤ R.locals) (hrec : RecOK_E l D kA V Z d ro) (hFd : d + 1 + 12 ≤ R.frames) (hLd : 60 * (d + 1) + 500 ≤ R.locals) {R_10 : Int32 × Int32 × Int32 × RSt → Option (Int32 × RSt)} {l1 : Int32} {l2 : Int32} (hR_10 : ∀ (l1 : Int32) (l2 : Int32) (l3 : Int32) (u : RSt), R_10 (l1, l2, l3, u) = some (r, w) → ∀ (H : Heap) (locs : List Loc) (ls : Array Slot), RS D kA Z A s u H locs → lv_has ls 9 [(0, .ref (Z 200)), (1, .int l1), (2, .int l2), (3, .int l3)] → W p l e R s m args below meth c H locs 0 0 Q (F0 m 10 ls [])) {u : RSt} (h : B_two_159 N ro R_10 l1 l2 u = some (r, w)) (hS : RS D kA Z A s u H locs) (hl : lv_has ls 9 [(0, .ref (Z 200)), (1, .int l1), (2, .int l2)]) : W p l e R s m args below meth c H locs 0 0 Q (F0 m 159 ls []) := by
  obtain ⟨⟨hx, hb, hml, hown, hts⟩, hK, hEV, hA⟩ := id X
  have hG : ∀ w ∈ GW, w.before args s = true := fun w h => hts w (List.mem_cons_of_mem _ h)
  unfold B_two_159 at h
  refine lv_aload_n hx hb dX12_two_159 rfl (lv_at hl 0 rfl) ?_
  refine lv_iconst (v := 0) hx hb dX12_two_160 (by decide) ?_
  obtain ⟨u_1, e_u_1, h⟩ := pu_of h
  refine rp_78 X hS e_u_1 dX12_two_161 (fun H locs hS => ?_)
  refine lv_aload_n hx hb dX12_two_164 rfl (lv_at hl 0 rfl) ?_
  obtain ⟨r_3, u_2, h_u_2, h⟩ := bn_of h
  refine kc_strength X hS h_u_2 (Nat.le_trans (Nat.le_of_ble_eq_true rfl) hF) (Nat.le_trans (Nat.le_of_ble_eq_true rfl) hL) hl.1 (Nat.le_of_ble_eq_true rfl) dX12_two_165 (fun H locs hS => ?_)
  refine lv_istore_n (lv' := [(3, .int r_3), (0, .ref (Z 200)), (1, .int l1), (2, .int l2)]) hx hb dX12_two_168 rfl hl (by decide) rfl (fun ls hl => ?_)
  refine lv_goto (tgt := 10) hx hb dX12_two_169 (by decide) ?_
  exact hR_10 _ _ _ _ h _ _ _ hS (lv_sub hl [1, 2, 3, 0] rfl)
def B_two_124 (N : Nat) (ro : Nat → Int32 → Int32 → RSt → Option (Int32 × RSt)) (R_10 : Int32 × Int32 × Int32 × RSt → Option (Int32 × RSt)) (l1 : Int32) (l8 : Int32) (s1 : Int64) (u : RSt) : Option (Int32 × RSt) := bn (F_push N s1 u) fun _ u_4 => bn (F_lead N l8 u_4) fun _ u_5 => B_two_159 N ro R_10 l1 3 u_5
set_option maxHeartbeats 4000000 in
theorem b_two_124 {r : Int32} {ro : Nat → Int32 → Int32 → RSt → Option (Int32 × RSt)} (X : RC p s m args c cX12_two 9 (Cond.code yX12_two cX12_two 9 (some .int)) D kA V A) (hE : REi p l e R s m args below meth c cX12_two D kA Z A Q r w) (hF : 2 ≤ R.frames) (hL : 52 ≤ R.locals) (hrec : RecOK_E l D kA V Z d ro) (hFd : d + 1 + 12 ≤ R.frames) (hLd : 60 * (d + 1) + 500 ≤ R.locals) {R_10 : Int32 × Int32 × Int32 × RSt → Option (Int32 × RSt)} {l1 : Int32} {l8 : Int32} {s1 : Int64} (hR_10 : ∀ (l1 : Int32) (l2 : Int32) (l3 : Int32) (u : RSt), R_10 (l1, l2, l3, u) = some (r, w) → ∀ (H : Heap) (locs : List Loc) (ls : Array Slot), RS D kA Z A s u H locs → lv_has ls 9 [(0, .ref (Z 200)), (1, .int l1), (2, .int l2), (3, .int l3)] → W p l e R s m args below meth c H locs 0 0 Q (F0 m 10 ls [])) {u : RSt} (h : B_two_124 N ro R_10 l1 l8 s1 u = some (r, w)) (hS : RS D kA Z A s u H locs) (hl : lv_has ls 9 [(0, .ref (Z 200)), (1, .int l1), (8, .int l8)]) : W p l e R s m args below meth c H locs 0 0 Q (F0 m 124 ls [.long s1, .ref (Z 200)]) := by
  obtain ⟨⟨hx, hb, hml, hown, hts⟩, hK, hEV, hA⟩ := id X
  have hG : ∀ w ∈ GW, w.before args s = true := fun w h => hts w (List.mem_cons_of_mem _ h)
  unfold B_two_124 at h
  obtain ⟨r_u_4, u_4, h_u_4, h⟩ := bn_of h
  refine kc_push X hS h_u_4 (Nat.le_trans (Nat.le_of_ble_eq_true rfl) hF) (Nat.le_trans (Nat.le_of_ble_eq_true rfl) hL) hl.1 (Nat.le_of_ble_eq_true rfl) dX12_two_124 (fun H locs hS => ?_)
  refine lv_aload_n hx hb dX12_two_127 rfl (lv_at hl 0 rfl) ?_
  refine lv_iload hx hb dX12_two_128 (lv_at hl 2 rfl) ?_
  obtain ⟨r_u_5, u_5, h_u_5, h⟩ := bn_of h
  refine kc_lead X hS h_u_5 (Nat.le_trans (Nat.le_of_ble_eq_true rfl) hF) (Nat.le_trans (Nat.le_of_ble_eq_true rfl) hL) hl.1 (Nat.le_of_ble_eq_true rfl) dX12_two_130 (fun H locs hS => ?_)
  refine lv_iconst (v := 3) hx hb dX12_two_133 (by decide) ?_
  refine lv_istore_n (lv' := [(2, .int 3), (0, .ref (Z 200)), (1, .int l1), (8, .int l8)]) hx hb dX12_two_134 rfl hl (by decide) rfl (fun ls hl => ?_)
  refine lv_goto (tgt := 159) hx hb dX12_two_135 (by decide) ?_
  exact b_two_159 X hE hF hL hrec hFd hLd hR_10 h hS (lv_sub hl [1, 2, 0] rfl)
def B_two_71 (N : Nat) (ro : Nat → Int32 → Int32 → RSt → Option (Int32 × RSt)) (R_10 : Int32 × Int32 × Int32 × RSt → Option (Int32 × RSt)) (l1 : Int32) (l3 : Int32) (s1 : Int32) (u : RSt) : Option (Int32 × RSt) := bn (F_emit N s1 0 0 u) fun r_7 u_6 => bn (ro 1 (l3 + 1) 0 u_6) fun r_9 u_8 => bn (F_emit N 29 0 0 u_8) fun r_11 u_10 => bn (F_emit N 28 0 0 u_10) fun r_13 u_12 => bn (F_lead N r_7 u_12) fun _ u_14 => if l3 = (2 : Int32) then (B_two_124 N ro R_10 l1 r_13 0 u_14) else (B_two_124 N ro R_10 l1 r_13 1 u_14)
set_option maxHeartbeats 4000000 in
theorem b_two_71 {r : Int32} {ro : Nat → Int32 → Int32 → RSt → Option (Int32 × RSt)} (X : RC p s m args c cX12_two 9 (Cond.code yX12_two cX12_two 9 (some .int)) D kA V A) (hE : REi p l e R s m args below meth c cX12_two D kA Z A Q r w) (hF : 2 ≤ R.frames) (hL : 52 ≤ R.locals) (hrec : RecOK_E l D kA V Z d ro) (hFd : d + 1 + 12 ≤ R.frames) (hLd : 60 * (d + 1) + 500 ≤ R.locals) {R_10 : Int32 × Int32 × Int32 × RSt → Option (Int32 × RSt)} {l1 : Int32} {l3 : Int32} {s1 : Int32} (hR_10 : ∀ (l1 : Int32) (l2 : Int32) (l3 : Int32) (u : RSt), R_10 (l1, l2, l3, u) = some (r, w) → ∀ (H : Heap) (locs : List Loc) (ls : Array Slot), RS D kA Z A s u H locs → lv_has ls 9 [(0, .ref (Z 200)), (1, .int l1), (2, .int l2), (3, .int l3)] → W p l e R s m args below meth c H locs 0 0 Q (F0 m 10 ls [])) {u : RSt} (h : B_two_71 N ro R_10 l1 l3 s1 u = some (r, w)) (hS : RS D kA Z A s u H locs) (hl : lv_has ls 9 [(0, .ref (Z 200)), (1, .int l1), (3, .int l3)]) : W p l e R s m args below meth c H locs 0 0 Q (F0 m 71 ls [.int s1, .ref (Z 200)]) := by
  obtain ⟨⟨hx, hb, hml, hown, hts⟩, hK, hEV, hA⟩ := id X
  have hG : ∀ w ∈ GW, w.before args s = true := fun w h => hts w (List.mem_cons_of_mem _ h)
  unfold B_two_71 at h
  refine lv_iconst (v := 0) hx hb dX12_two_71 (by decide) ?_
  refine lv_iconst (v := 0) hx hb dX12_two_72 (by decide) ?_
  obtain ⟨r_7, u_6, h_u_6, h⟩ := bn_of h
  refine kc_emit X hS h_u_6 (Nat.le_trans (Nat.le_of_ble_eq_true rfl) hF) (Nat.le_trans (Nat.le_of_ble_eq_true rfl) hL) hl.1 (Nat.le_of_ble_eq_true rfl) dX12_two_73 (fun H locs hS => ?_)
  refine lv_istore (lv' := [(6, .int r_7), (0, .ref (Z 200)), (1, .int l1), (3, .int l3)]) hx hb dX12_two_76 hl (by decide) rfl (fun ls hl => ?_)
  refine lv_aload_n hx hb dX12_two_78 rfl (lv_at hl 1 rfl) ?_
  refine lv_iload_n hx hb dX12_two_79 rfl (lv_at hl 3 rfl) ?_
  refine lv_iconst (v := 1) hx hb dX12_two_80 (by decide) ?_
  refine lv_iadd hx hb dX12_two_81 ?_
  obtain ⟨r_9, u_8, h_u_8, h⟩ := bn_of h
  refine kc_two X hrec hS h_u_8 hFd hLd hl.1 (Nat.le_of_ble_eq_true rfl) dX12_two_82 (fun H locs hS => ?_)
  refine lv_istore (lv' := [(7, .int r_9), (6, .int r_7), (0, .ref (Z 200)), (1, .int l1), (3, .int l3)]) hx hb dX12_two_85 hl (by decide) rfl (fun ls hl => ?_)
  refine lv_aload_n hx hb dX12_two_87 rfl (lv_at hl 2 rfl) ?_
  refine lv_bipush (v := 29) hx hb dX12_two_88 (by decide) ?_
  refine lv_iconst (v := 0) hx hb dX12_two_90 (by decide) ?_
  refine lv_iconst (v := 0) hx hb dX12_two_91 (by decide) ?_
  obtain ⟨r_11, u_10, h_u_10, h⟩ := bn_of h
  refine kc_emit X hS h_u_10 (Nat.le_trans (Nat.le_of_ble_eq_true rfl) hF) (Nat.le_trans (Nat.le_of_ble_eq_true rfl) hL) hl.1 (Nat.le_of_ble_eq_true rfl) dX12_two_92 (fun H locs hS => ?_)
  refine lv_istore (lv' := [(7, .int r_11), (6, .int r_7), (0, .ref (Z 200)), (1, .int l1), (3, .int l3)]) hx hb dX12_two_95 hl (by decide) rfl (fun ls hl => ?_)
  refine lv_aload_n hx hb dX12_two_97 rfl (lv_at hl 2 rfl) ?_
  refine lv_bipush (v := 28) hx hb dX12_two_98 (by decide) ?_
  refine lv_iconst (v := 0) hx hb dX12_two_100 (by decide) ?_
  refine lv_iconst (v := 0) hx hb dX12_two_101 (by decide) ?_
  obtain ⟨r_13, u_12, h_u_12, h⟩ := bn_of h
  refine kc_emit X hS h_u_12 (Nat.le_trans (Nat.le_of_ble_eq_true rfl) hF) (Nat.le_trans (Nat.le_of_ble_eq_true rfl) hL) hl.1 (Nat.le_of_ble_eq_true rfl) dX12_two_102 (fun H locs hS => ?_)
  refine lv_istore (lv' := [(8, .int r_13), (7, .int r_11), (6, .int r_7), (0, .ref (Z 200)), (1, .int l1), (3, .int l3)]) hx hb dX12_two_105 hl (by decide) rfl (fun ls hl => ?_)
  refine lv_aload_n hx hb dX12_two_107 rfl (lv_at hl 3 rfl) ?_
  refine lv_iload hx hb dX12_two_108 (lv_at hl 2 rfl) ?_
  obtain ⟨r_u_14, u_14, h_u_14, h⟩ := bn_of h
  refine kc_lead X hS h_u_14 (Nat.le_trans (Nat.le_of_ble_eq_true rfl) hF) (Nat.le_trans (Nat.le_of_ble_eq_true rfl) hL) hl.1 (Nat.le_of_ble_eq_true rfl) dX12_two_110 (fun H locs hS => ?_)
  refine lv_aload_n hx hb dX12_two_113 rfl (lv_at hl 3 rfl) ?_
  refine lv_iload_n hx hb dX12_two_114 rfl (lv_at hl 5 rfl) ?_
  refine lv_iconst (v := 2) hx hb dX12_two_115 (by decide) ?_
  refine lv_icmp_ne (tgt := 123) hx hb dX12_two_116 (by decide) (fun c_15 => ?_) (fun c_15 => ?_)
  · have h := im (c_15) h
    refine lv_lconst (v := 1) hx hb dX12_two_123 (by decide) ?_
    exact b_two_124 X hE hF hL hrec hFd hLd hR_10 h hS (lv_sub hl [3, 4, 0] rfl)
  · have h := ip (c_15) h
    refine lv_lconst (v := 0) hx hb dX12_two_119 (by decide) ?_
    refine lv_goto (tgt := 124) hx hb dX12_two_120 (by decide) ?_
    exact b_two_124 X hE hF hL hrec hFd hLd hR_10 h hS (lv_sub hl [3, 4, 0] rfl)
def B_two_10 (N : Nat) (ro : Nat → Int32 → Int32 → RSt → Option (Int32 × RSt)) (R_10 : Int32 × Int32 × Int32 × RSt → Option (Int32 × RSt)) (l1 : Int32) (l2 : Int32) (l3 : Int32) (u : RSt) : Option (Int32 × RSt) := if l3 < l1 then (some (l2, u)) else (rd (u.2.2.1 2) 1502 (u.1 65) fun v_17 => rd (u.2.2.1 3) 1502 (u.1 65) fun v_19 => pu (sI u 65 ((u.1 65) + 1)) fun u_21 => bn (F_cost N v_19 u_21) fun _ u_22 => if (3 : Int32) ≤ l3 then (bn (ro 1 (l3 + 1) 0 u_22) fun r_25 u_24 => bn (F_joined N v_17 v_19 l2 r_25 u_24) fun r_27 u_26 => B_two_159 N ro R_10 l1 r_27 u_26) else (if l3 = (2 : Int32) then (B_two_71 N ro R_10 l1 l3 26 u_22) else (B_two_71 N ro R_10 l1 l3 27 u_22)))
set_option maxHeartbeats 4000000 in
theorem b_two_10 {r : Int32} {ro : Nat → Int32 → Int32 → RSt → Option (Int32 × RSt)} (X : RC p s m args c cX12_two 9 (Cond.code yX12_two cX12_two 9 (some .int)) D kA V A) (hE : REi p l e R s m args below meth c cX12_two D kA Z A Q r w) (hF : 2 ≤ R.frames) (hL : 52 ≤ R.locals) (hrec : RecOK_E l D kA V Z d ro) (hFd : d + 1 + 12 ≤ R.frames) (hLd : 60 * (d + 1) + 500 ≤ R.locals) {R_10 : Int32 × Int32 × Int32 × RSt → Option (Int32 × RSt)} {l1 : Int32} {l2 : Int32} {l3 : Int32} (hR_10 : ∀ (l1 : Int32) (l2 : Int32) (l3 : Int32) (u : RSt), R_10 (l1, l2, l3, u) = some (r, w) → ∀ (H : Heap) (locs : List Loc) (ls : Array Slot), RS D kA Z A s u H locs → lv_has ls 9 [(0, .ref (Z 200)), (1, .int l1), (2, .int l2), (3, .int l3)] → W p l e R s m args below meth c H locs 0 0 Q (F0 m 10 ls [])) {u : RSt} (h : B_two_10 N ro R_10 l1 l2 l3 u = some (r, w)) (hS : RS D kA Z A s u H locs) (hl : lv_has ls 9 [(0, .ref (Z 200)), (1, .int l1), (2, .int l2), (3, .int l3)]) : W p l e R s m args below meth c H locs 0 0 Q (F0 m 10 ls []) := by
  obtain ⟨⟨hx, hb, hml, hown, hts⟩, hK, hEV, hA⟩ := id X
  have hG : ∀ w ∈ GW, w.before args s = true := fun w h => hts w (List.mem_cons_of_mem _ h)
  unfold B_two_10 at h
  refine lv_iload_n hx hb dX12_two_10 rfl (lv_at hl 3 rfl) ?_
  refine lv_iload_n hx hb dX12_two_11 rfl (lv_at hl 1 rfl) ?_
  refine lv_icmp_lt (tgt := 172) hx hb dX12_two_12 (by decide) (fun c_16 => ?_) (fun c_16 => ?_)
  · have h := ip (c_16) h
    refine lv_iload_n hx hb dX12_two_172 rfl (lv_at hl 2 rfl) ?_
    obtain ⟨rfl, rfl⟩ := so h
    exact hE _ _ _ _ hS dX12_two_173
  · have h := im (c_16) h
    refine lv_aload_n hx hb dX12_two_15 rfl (lv_at hl 0 rfl) ?_
    refine rg_2 X hS dX12_two_16 ?_
    refine lv_aload_n hx hb dX12_two_19 rfl (lv_at hl 0 rfl) ?_
    refine rg_65 X hS dX12_two_20 ?_
    obtain ⟨v_17, e_v_17, i_18, h⟩ := rd_of h
    refine ra_2 X hS i_18 e_v_17 dX12_two_23 ?_
    refine lv_istore (lv' := [(4, .int v_17), (0, .ref (Z 200)), (1, .int l1), (2, .int l2), (3, .int l3)]) hx hb dX12_two_24 hl (by decide) rfl (fun ls hl => ?_)
    refine lv_aload_n hx hb dX12_two_26 rfl (lv_at hl 1 rfl) ?_
    refine rg_3 X hS dX12_two_27 ?_
    refine lv_aload_n hx hb dX12_two_30 rfl (lv_at hl 1 rfl) ?_
    refine rg_65 X hS dX12_two_31 ?_
    obtain ⟨v_19, e_v_19, i_20, h⟩ := rd_of h
    refine ra_3 X hS i_20 e_v_19 dX12_two_34 ?_
    refine lv_istore (lv' := [(5, .int v_19), (4, .int v_17), (0, .ref (Z 200)), (1, .int l1), (2, .int l2), (3, .int l3)]) hx hb dX12_two_35 hl (by decide) rfl (fun ls hl => ?_)
    refine lv_aload_n hx hb dX12_two_37 rfl (lv_at hl 2 rfl) ?_
    refine lv_dup hx hb dX12_two_38 rfl ?_
    refine rg_65 X hS dX12_two_39 ?_
    refine lv_iconst (v := 1) hx hb dX12_two_42 (by decide) ?_
    refine lv_iadd hx hb dX12_two_43 ?_
    obtain ⟨u_21, e_u_21, h⟩ := pu_of h
    refine rp_65 X hS e_u_21 dX12_two_44 (fun H locs hS => ?_)
    refine lv_aload_n hx hb dX12_two_47 rfl (lv_at hl 2 rfl) ?_
    refine lv_iload hx hb dX12_two_48 (lv_at hl 0 rfl) ?_
    obtain ⟨r_u_22, u_22, h_u_22, h⟩ := bn_of h
    refine kc_cost X hS h_u_22 (Nat.le_trans (Nat.le_of_ble_eq_true rfl) hF) (Nat.le_trans (Nat.le_of_ble_eq_true rfl) hL) hl.1 (Nat.le_of_ble_eq_true rfl) dX12_two_50 (fun H locs hS => ?_)
    refine lv_iload_n hx hb dX12_two_53 rfl (lv_at hl 5 rfl) ?_
    refine lv_iconst (v := 3) hx hb dX12_two_54 (by decide) ?_
    refine lv_icmp_ge (tgt := 138) hx hb dX12_two_55 (by decide) (fun c_23 => ?_) (fun c_23 => ?_)
    · have h := ip (c_23) h
      refine lv_aload_n hx hb dX12_two_138 rfl (lv_at hl 2 rfl) ?_
      refine lv_iload_n hx hb dX12_two_139 rfl (lv_at hl 5 rfl) ?_
      refine lv_iconst (v := 1) hx hb dX12_two_140 (by decide) ?_
      refine lv_iadd hx hb dX12_two_141 ?_
      obtain ⟨r_25, u_24, h_u_24, h⟩ := bn_of h
      refine kc_two X hrec hS h_u_24 hFd hLd hl.1 (Nat.le_of_ble_eq_true rfl) dX12_two_142 (fun H locs hS => ?_)
      refine lv_istore (lv' := [(6, .int r_25), (5, .int v_19), (4, .int v_17), (0, .ref (Z 200)), (1, .int l1), (2, .int l2), (3, .int l3)]) hx hb dX12_two_145 hl (by decide) rfl (fun ls hl => ?_)
      refine lv_aload_n hx hb dX12_two_147 rfl (lv_at hl 3 rfl) ?_
      refine lv_iload hx hb dX12_two_148 (lv_at hl 2 rfl) ?_
      refine lv_iload hx hb dX12_two_150 (lv_at hl 1 rfl) ?_
      refine lv_iload_n hx hb dX12_two_152 rfl (lv_at hl 5 rfl) ?_
      refine lv_iload hx hb dX12_two_153 (lv_at hl 0 rfl) ?_
      obtain ⟨r_27, u_26, h_u_26, h⟩ := bn_of h
      refine kc_joined X hS h_u_26 (Nat.le_trans (Nat.le_of_ble_eq_true rfl) hF) (Nat.le_trans (Nat.le_of_ble_eq_true rfl) hL) hl.1 (Nat.le_of_ble_eq_true rfl) dX12_two_155 (fun H locs hS => ?_)
      refine lv_istore_n (lv' := [(2, .int r_27), (6, .int r_25), (5, .int v_19), (4, .int v_17), (0, .ref (Z 200)), (1, .int l1), (3, .int l3)]) hx hb dX12_two_158 rfl hl (by decide) rfl (fun ls hl => ?_)
      exact b_two_159 X hE hF hL hrec hFd hLd hR_10 h hS (lv_sub hl [4, 5, 0] rfl)
    · have h := im (c_23) h
      refine lv_aload_n hx hb dX12_two_58 rfl (lv_at hl 2 rfl) ?_
      refine lv_iload_n hx hb dX12_two_59 rfl (lv_at hl 5 rfl) ?_
      refine lv_iconst (v := 2) hx hb dX12_two_60 (by decide) ?_
      refine lv_icmp_ne (tgt := 69) hx hb dX12_two_61 (by decide) (fun c_28 => ?_) (fun c_28 => ?_)
      · have h := im (c_28) h
        refine lv_bipush (v := 27) hx hb dX12_two_69 (by decide) ?_
        exact b_two_71 X hE hF hL hrec hFd hLd hR_10 h hS (lv_sub hl [2, 3, 5] rfl)
      · have h := ip (c_28) h
        refine lv_bipush (v := 26) hx hb dX12_two_64 (by decide) ?_
        refine lv_goto (tgt := 71) hx hb dX12_two_66 (by decide) ?_
        exact b_two_71 X hE hF hL hrec hFd hLd hR_10 h hS (lv_sub hl [2, 3, 5] rfl)
def LP_two_10 (N : Nat) (ro : Nat → Int32 → Int32 → RSt → Option (Int32 × RSt)) : Nat → Int32 × Int32 × Int32 × RSt → Option (Int32 × RSt) := lp (fun R a => B_two_10 N ro R a.1 a.2.1 a.2.2.1 a.2.2.2)
theorem bl_two_10 {r : Int32} {ro : Nat → Int32 → Int32 → RSt → Option (Int32 × RSt)} (X : RC p s m args c cX12_two 9 (Cond.code yX12_two cX12_two 9 (some .int)) D kA V A) (hE : REi p l e R s m args below meth c cX12_two D kA Z A Q r w) (hF : 2 ≤ R.frames) (hL : 52 ≤ R.locals) (hrec : RecOK_E l D kA V Z d ro) (hFd : d + 1 + 12 ≤ R.frames) (hLd : 60 * (d + 1) + 500 ≤ R.locals)  : ∀ (n : Nat) (l1 : Int32) (l2 : Int32) (l3 : Int32) (u : RSt), LP_two_10 N ro n (l1, l2, l3, u) = some (r, w) → ∀ (H : Heap) (locs : List Loc) (ls : Array Slot), RS D kA Z A s u H locs → lv_has ls 9 [(0, .ref (Z 200)), (1, .int l1), (2, .int l2), (3, .int l3)] → W p l e R s m args below meth c H locs 0 0 Q (F0 m 10 ls []) := by
  intro n
  induction n with
  | zero => intro l1 l2 l3 u h; exact nomatch h
  | succ n ih => intro l1 l2 l3 u h H locs ls hS hl; exact b_two_10 (N := N) (R_10 := LP_two_10 N ro n) X hE hF hL hrec hFd hLd ih h hS hl
def B_two_0 (N : Nat) (ro : Nat → Int32 → Int32 → RSt → Option (Int32 × RSt)) (l1 : Int32) (u : RSt) : Option (Int32 × RSt) := bn (ro 2 0 0 u) fun r_30 u_29 => bn (F_strength N u_29) fun r_32 u_31 => LP_two_10 N ro N (l1, r_30, r_32, u_31)
set_option maxHeartbeats 4000000 in
theorem b_two_0 {r : Int32} {ro : Nat → Int32 → Int32 → RSt → Option (Int32 × RSt)} (X : RC p s m args c cX12_two 9 (Cond.code yX12_two cX12_two 9 (some .int)) D kA V A) (hE : REi p l e R s m args below meth c cX12_two D kA Z A Q r w) (hF : 2 ≤ R.frames) (hL : 52 ≤ R.locals) (hrec : RecOK_E l D kA V Z d ro) (hFd : d + 1 + 12 ≤ R.frames) (hLd : 60 * (d + 1) + 500 ≤ R.locals) {l1 : Int32}  {u : RSt} (h : B_two_0 N ro l1 u = some (r, w)) (hS : RS D kA Z A s u H locs) (hl : lv_has ls 9 [(0, .ref (Z 200)), (1, .int l1)]) : W p l e R s m args below meth c H locs 0 0 Q (F0 m 0 ls []) := by
  obtain ⟨⟨hx, hb, hml, hown, hts⟩, hK, hEV, hA⟩ := id X
  have hG : ∀ w ∈ GW, w.before args s = true := fun w h => hts w (List.mem_cons_of_mem _ h)
  unfold B_two_0 at h
  refine lv_aload_n hx hb dX12_two_0 rfl (lv_at hl 0 rfl) ?_
  obtain ⟨r_30, u_29, h_u_29, h⟩ := bn_of h
  refine kc_operand X hrec hS h_u_29 hFd hLd hl.1 (Nat.le_of_ble_eq_true rfl) dX12_two_1 (fun H locs hS => ?_)
  refine lv_istore_n (lv' := [(2, .int r_30), (0, .ref (Z 200)), (1, .int l1)]) hx hb dX12_two_4 rfl hl (by decide) rfl (fun ls hl => ?_)
  refine lv_aload_n hx hb dX12_two_5 rfl (lv_at hl 1 rfl) ?_
  obtain ⟨r_32, u_31, h_u_31, h⟩ := bn_of h
  refine kc_strength X hS h_u_31 (Nat.le_trans (Nat.le_of_ble_eq_true rfl) hF) (Nat.le_trans (Nat.le_of_ble_eq_true rfl) hL) hl.1 (Nat.le_of_ble_eq_true rfl) dX12_two_6 (fun H locs hS => ?_)
  refine lv_istore_n (lv' := [(3, .int r_32), (2, .int r_30), (0, .ref (Z 200)), (1, .int l1)]) hx hb dX12_two_9 rfl hl (by decide) rfl (fun ls hl => ?_)
  exact bl_two_10 X hE hF hL hrec hFd hLd _ _ _ _ _ h _ _ _ hS (lv_sub hl [2, 3, 1, 0] rfl)
def F_two (N : Nat) (ro : Nat → Int32 → Int32 → RSt → Option (Int32 × RSt)) (l1 : Int32) (u : RSt) : Option (Int32 × RSt) := B_two_0 N ro l1 u
set_option maxHeartbeats 4000000 in
theorem k_two (l : Launch) (D : va_G) (kA : Nat → ClassId) (V Z : Nat → Nat) (N : Nat) {d : Nat} (ro : Nat → Int32 → Int32 → RSt → Option (Int32 × RSt)) (hrec : RecOK_E l D kA V Z d ro) (l1 : Int32) (u : RSt) (sz : Nat) {r : Int32} {w : RSt} (h : F_two N ro l1 u = some (r, w)) : Met l yX12_two (Cond.code yX12_two cX12_two 9 (some .int) :: GW) { frames := d + 1 + 12, cells := 0, slots := 0, locals := 60 * (d + 1) + 500 } (rPc D kA V Z [.int l1] u sz) (rQi D kA Z u sz r w) 0 0 (va_A (RW kA Z u) sz) := by
  refine Met.ofW (cc := cX12_two) (maxL := 9) (ret := (some .int)) (by decide) rfl ?_
  intro p e s m args below meth c s₁ Bd hml hv
  obtain ⟨rfl, hsz, hP, hK, hD0, hE⟩ := hv
  have hts := atoms_spec (ws := Cond.code yX12_two cX12_two 9 (some .int) :: GW) Bd.pre
  have hl := lv_entry (.ref (Z 200) :: [.int l1]) (n := 9) (Nat.le_of_ble_eq_true rfl)
  rw [lg_entry_eq]
  generalize (lg_sl (.ref (Z 200) :: [.int l1]) ++ List.replicate (9 - (lg_sl (.ref (Z 200) :: [.int l1])).length) Slot.unset).toArray = ls at hl ⊢
  have hl : lv_has ls 9 [(0, .ref (Z 200)), (1, .int l1)] := hl
  subst hsz
  have X : RC p s m (.ref (Z 200) :: [.int l1]).toArray c cX12_two 9 (Cond.code yX12_two cX12_two 9 (some .int)) D kA V (va_A (RW kA Z u) s.heap.size) := ⟨⟨Bd.exec, Bd.bytes, hml, findClass_of_methodNamed Bd.named, hts⟩, hK, hE, fun q h => Or.inr h⟩
  exact b_two_0 X (rend_i (cy := cX12_two) X Bd.returns Bd.notSynchronized) (Nat.le_trans (Nat.le_of_ble_eq_true rfl) (Nat.le_add_left 12 _)) (Nat.le_trans (Nat.le_of_ble_eq_true rfl) (Nat.le_add_left 500 _)) hrec (Nat.le_refl _) (Nat.le_refl _) h ⟨hP, hD0.self, va_S.rf⟩ (lv_sub hl [0, 1] rfl)
def B_operand_40 (N : Nat) (ro : Nat → Int32 → Int32 → RSt → Option (Int32 × RSt)) (l1 : Int32) (u : RSt) : Option (Int32 × RSt) := bn (ro 3 l1 0 u) fun r_2 u_1 => some (r_2, u_1)
set_option maxHeartbeats 4000000 in
theorem b_operand_40 {r : Int32} {ro : Nat → Int32 → Int32 → RSt → Option (Int32 × RSt)} (X : RC p s m args c cX12_operand 3 (Cond.code yX12_operand cX12_operand 3 (some .int)) D kA V A) (hE : REi p l e R s m args below meth c cX12_operand D kA Z A Q r w) (hF : 4 ≤ R.frames) (hL : 84 ≤ R.locals) (hrec : RecOK_E l D kA V Z d ro) (hFd : d + 1 + 12 ≤ R.frames) (hLd : 60 * (d + 1) + 500 ≤ R.locals) {l1 : Int32}  {u : RSt} (h : B_operand_40 N ro l1 u = some (r, w)) (hS : RS D kA Z A s u H locs) (hl : lv_has ls 3 [(0, .ref (Z 200)), (1, .int l1)]) : W p l e R s m args below meth c H locs 0 0 Q (F0 m 40 ls []) := by
  obtain ⟨⟨hx, hb, hml, hown, hts⟩, hK, hEV, hA⟩ := id X
  have hG : ∀ w ∈ GW, w.before args s = true := fun w h => hts w (List.mem_cons_of_mem _ h)
  unfold B_operand_40 at h
  refine lv_aload_n hx hb dX12_operand_40 rfl (lv_at hl 0 rfl) ?_
  refine lv_iload_n hx hb dX12_operand_41 rfl (lv_at hl 1 rfl) ?_
  obtain ⟨r_2, u_1, h_u_1, h⟩ := bn_of h
  refine kc_signed X hrec hS h_u_1 hFd hLd hl.1 (Nat.le_of_ble_eq_true rfl) dX12_operand_42 (fun H locs hS => ?_)
  obtain ⟨rfl, rfl⟩ := so h
  exact hE _ _ _ _ hS dX12_operand_45
def B_operand_141 (N : Nat) (ro : Nat → Int32 → Int32 → RSt → Option (Int32 × RSt)) (s1 : Int32) (u : RSt) : Option (Int32 × RSt) := rd (u.2.2.1 3) 1502 (u.1 65) fun v_3 => bn (F_wrong N s1 5 v_3 u) fun _ u_5 => rd (u_5.2.2.1 3) 1502 (u_5.1 65) fun v_6 => bn (F_cost N v_6 u_5) fun _ u_8 => rd (u_8.2.2.2 4) 1502 (u_8.1 65) fun v_9 => bn (F_push N v_9 u_8) fun _ u_11 => pu (sI u_11 78 1) fun u_12 => rd (u_12.2.2.2 4) 1502 (u_12.1 65) fun v_13 => pu (sL u_12 79 v_13) fun u_15 => pu (sI u_15 65 ((u_15.1 65) + 1)) fun u_16 => rd (u_16.2.2.1 5) 1502 ((u_16.1 65) - 1) fun v_17 => if v_17 = (0 : Int32) then (some (3, u_16)) else (some (4, u_16))
set_option maxHeartbeats 4000000 in
theorem b_operand_141 {r : Int32} {ro : Nat → Int32 → Int32 → RSt → Option (Int32 × RSt)} (X : RC p s m args c cX12_operand 3 (Cond.code yX12_operand cX12_operand 3 (some .int)) D kA V A) (hE : REi p l e R s m args below meth c cX12_operand D kA Z A Q r w) (hF : 4 ≤ R.frames) (hL : 84 ≤ R.locals) (hrec : RecOK_E l D kA V Z d ro) (hFd : d + 1 + 12 ≤ R.frames) (hLd : 60 * (d + 1) + 500 ≤ R.locals) {s1 : Int32}  {u : RSt} (h : B_operand_141 N ro s1 u = some (r, w)) (hS : RS D kA Z A s u H locs) (hl : lv_has ls 3 [(0, .ref (Z 200))]) : W p l e R s m args below meth c H locs 0 0 Q (F0 m 141 ls [.int s1, .ref (Z 200)]) := by
  obtain ⟨⟨hx, hb, hml, hown, hts⟩, hK, hEV, hA⟩ := id X
  have hG : ∀ w ∈ GW, w.before args s = true := fun w h => hts w (List.mem_cons_of_mem _ h)
  unfold B_operand_141 at h
  refine lv_iconst (v := 5) hx hb dX12_operand_141 (by decide) ?_
  refine lv_aload_n hx hb dX12_operand_142 rfl (lv_at hl 0 rfl) ?_
  refine rg_3 X hS dX12_operand_143 ?_
  refine lv_aload_n hx hb dX12_operand_146 rfl (lv_at hl 0 rfl) ?_
  refine rg_65 X hS dX12_operand_147 ?_
  obtain ⟨v_3, e_v_3, i_4, h⟩ := rd_of h
  refine ra_3 X hS i_4 e_v_3 dX12_operand_150 ?_
  obtain ⟨r_u_5, u_5, h_u_5, h⟩ := bn_of h
  refine kc_wrong X hS h_u_5 (Nat.le_trans (Nat.le_of_ble_eq_true rfl) hF) (Nat.le_trans (Nat.le_of_ble_eq_true rfl) hL) hl.1 (Nat.le_of_ble_eq_true rfl) dX12_operand_151 (fun H locs hS => ?_)
  refine lv_aload_n hx hb dX12_operand_154 rfl (lv_at hl 0 rfl) ?_
  refine lv_aload_n hx hb dX12_operand_155 rfl (lv_at hl 0 rfl) ?_
  refine rg_3 X hS dX12_operand_156 ?_
  refine lv_aload_n hx hb dX12_operand_159 rfl (lv_at hl 0 rfl) ?_
  refine rg_65 X hS dX12_operand_160 ?_
  obtain ⟨v_6, e_v_6, i_7, h⟩ := rd_of h
  refine ra_3 X hS i_7 e_v_6 dX12_operand_163 ?_
  obtain ⟨r_u_8, u_8, h_u_8, h⟩ := bn_of h
  refine kc_cost X hS h_u_8 (Nat.le_trans (Nat.le_of_ble_eq_true rfl) hF) (Nat.le_trans (Nat.le_of_ble_eq_true rfl) hL) hl.1 (Nat.le_of_ble_eq_true rfl) dX12_operand_164 (fun H locs hS => ?_)
  refine lv_aload_n hx hb dX12_operand_167 rfl (lv_at hl 0 rfl) ?_
  refine lv_aload_n hx hb dX12_operand_168 rfl (lv_at hl 0 rfl) ?_
  refine rg_4 X hS dX12_operand_169 ?_
  refine lv_aload_n hx hb dX12_operand_172 rfl (lv_at hl 0 rfl) ?_
  refine rg_65 X hS dX12_operand_173 ?_
  obtain ⟨v_9, e_v_9, i_10, h⟩ := rd_of h
  refine ra_4 X hS i_10 e_v_9 dX12_operand_176 ?_
  obtain ⟨r_u_11, u_11, h_u_11, h⟩ := bn_of h
  refine kc_push X hS h_u_11 (Nat.le_trans (Nat.le_of_ble_eq_true rfl) hF) (Nat.le_trans (Nat.le_of_ble_eq_true rfl) hL) hl.1 (Nat.le_of_ble_eq_true rfl) dX12_operand_177 (fun H locs hS => ?_)
  refine lv_aload_n hx hb dX12_operand_180 rfl (lv_at hl 0 rfl) ?_
  refine lv_iconst (v := 1) hx hb dX12_operand_181 (by decide) ?_
  obtain ⟨u_12, e_u_12, h⟩ := pu_of h
  refine rp_78 X hS e_u_12 dX12_operand_182 (fun H locs hS => ?_)
  refine lv_aload_n hx hb dX12_operand_185 rfl (lv_at hl 0 rfl) ?_
  refine lv_aload_n hx hb dX12_operand_186 rfl (lv_at hl 0 rfl) ?_
  refine rg_4 X hS dX12_operand_187 ?_
  refine lv_aload_n hx hb dX12_operand_190 rfl (lv_at hl 0 rfl) ?_
  refine rg_65 X hS dX12_operand_191 ?_
  obtain ⟨v_13, e_v_13, i_14, h⟩ := rd_of h
  refine ra_4 X hS i_14 e_v_13 dX12_operand_194 ?_
  obtain ⟨u_15, e_u_15, h⟩ := pu_of h
  refine rp_79 X hS e_u_15 dX12_operand_195 (fun H locs hS => ?_)
  refine lv_aload_n hx hb dX12_operand_198 rfl (lv_at hl 0 rfl) ?_
  refine lv_dup hx hb dX12_operand_199 rfl ?_
  refine rg_65 X hS dX12_operand_200 ?_
  refine lv_iconst (v := 1) hx hb dX12_operand_203 (by decide) ?_
  refine lv_iadd hx hb dX12_operand_204 ?_
  obtain ⟨u_16, e_u_16, h⟩ := pu_of h
  refine rp_65 X hS e_u_16 dX12_operand_205 (fun H locs hS => ?_)
  refine lv_aload_n hx hb dX12_operand_208 rfl (lv_at hl 0 rfl) ?_
  refine rg_5 X hS dX12_operand_209 ?_
  refine lv_aload_n hx hb dX12_operand_212 rfl (lv_at hl 0 rfl) ?_
  refine rg_65 X hS dX12_operand_213 ?_
  refine lv_iconst (v := 1) hx hb dX12_operand_216 (by decide) ?_
  refine lv_isub hx hb dX12_operand_217 ?_
  obtain ⟨v_17, e_v_17, i_18, h⟩ := rd_of h
  refine ra_5 X hS i_18 e_v_17 dX12_operand_218 ?_
  refine lv_if_eq (tgt := 226) hx hb dX12_operand_219 (by decide) (fun c_19 => ?_) (fun c_19 => ?_)
  · have h := ip (c_19) h
    refine lv_iconst (v := 3) hx hb dX12_operand_226 (by decide) ?_
    obtain ⟨rfl, rfl⟩ := so h
    exact hE _ _ _ _ hS dX12_operand_227
  · have h := im (c_19) h
    refine lv_iconst (v := 4) hx hb dX12_operand_222 (by decide) ?_
    refine lv_goto (tgt := 227) hx hb dX12_operand_223 (by decide) ?_
    obtain ⟨rfl, rfl⟩ := so h
    exact hE _ _ _ _ hS dX12_operand_227
def B_operand_130 (N : Nat) (ro : Nat → Int32 → Int32 → RSt → Option (Int32 × RSt)) (l1 : Int32) (u : RSt) : Option (Int32 × RSt) := if l1 = (3 : Int32) then (B_operand_141 N ro 1 u) else (B_operand_141 N ro 0 u)
set_option maxHeartbeats 4000000 in
theorem b_operand_130 {r : Int32} {ro : Nat → Int32 → Int32 → RSt → Option (Int32 × RSt)} (X : RC p s m args c cX12_operand 3 (Cond.code yX12_operand cX12_operand 3 (some .int)) D kA V A) (hE : REi p l e R s m args below meth c cX12_operand D kA Z A Q r w) (hF : 4 ≤ R.frames) (hL : 84 ≤ R.locals) (hrec : RecOK_E l D kA V Z d ro) (hFd : d + 1 + 12 ≤ R.frames) (hLd : 60 * (d + 1) + 500 ≤ R.locals) {l1 : Int32}  {u : RSt} (h : B_operand_130 N ro l1 u = some (r, w)) (hS : RS D kA Z A s u H locs) (hl : lv_has ls 3 [(0, .ref (Z 200)), (1, .int l1)]) : W p l e R s m args below meth c H locs 0 0 Q (F0 m 130 ls []) := by
  obtain ⟨⟨hx, hb, hml, hown, hts⟩, hK, hEV, hA⟩ := id X
  have hG : ∀ w ∈ GW, w.before args s = true := fun w h => hts w (List.mem_cons_of_mem _ h)
  unfold B_operand_130 at h
  refine lv_aload_n hx hb dX12_operand_130 rfl (lv_at hl 0 rfl) ?_
  refine lv_iload_n hx hb dX12_operand_131 rfl (lv_at hl 1 rfl) ?_
  refine lv_iconst (v := 3) hx hb dX12_operand_132 (by decide) ?_
  refine lv_icmp_ne (tgt := 140) hx hb dX12_operand_133 (by decide) (fun c_20 => ?_) (fun c_20 => ?_)
  · have h := im (c_20) h
    refine lv_iconst (v := 0) hx hb dX12_operand_140 (by decide) ?_
    exact b_operand_141 X hE hF hL hrec hFd hLd h hS (lv_sub hl [0] rfl)
  · have h := ip (c_20) h
    refine lv_iconst (v := 1) hx hb dX12_operand_136 (by decide) ?_
    refine lv_goto (tgt := 141) hx hb dX12_operand_137 (by decide) ?_
    exact b_operand_141 X hE hF hL hrec hFd hLd h hS (lv_sub hl [0] rfl)
def B_operand_366 (N : Nat) (ro : Nat → Int32 → Int32 → RSt → Option (Int32 × RSt)) (u : RSt) : Option (Int32 × RSt) := pu (sI u 78 0) fun u_21 => if (u_21.1 81) = ((-1) : Int32) then (some (u_21.1 80, u_21)) else (some (3, u_21))
set_option maxHeartbeats 4000000 in
theorem b_operand_366 {r : Int32} {ro : Nat → Int32 → Int32 → RSt → Option (Int32 × RSt)} (X : RC p s m args c cX12_operand 3 (Cond.code yX12_operand cX12_operand 3 (some .int)) D kA V A) (hE : REi p l e R s m args below meth c cX12_operand D kA Z A Q r w) (hF : 4 ≤ R.frames) (hL : 84 ≤ R.locals) (hrec : RecOK_E l D kA V Z d ro) (hFd : d + 1 + 12 ≤ R.frames) (hLd : 60 * (d + 1) + 500 ≤ R.locals)  {u : RSt} (h : B_operand_366 N ro u = some (r, w)) (hS : RS D kA Z A s u H locs) (hl : lv_has ls 3 [(0, .ref (Z 200))]) : W p l e R s m args below meth c H locs 0 0 Q (F0 m 366 ls []) := by
  obtain ⟨⟨hx, hb, hml, hown, hts⟩, hK, hEV, hA⟩ := id X
  have hG : ∀ w ∈ GW, w.before args s = true := fun w h => hts w (List.mem_cons_of_mem _ h)
  unfold B_operand_366 at h
  refine lv_aload_n hx hb dX12_operand_366 rfl (lv_at hl 0 rfl) ?_
  refine lv_iconst (v := 0) hx hb dX12_operand_367 (by decide) ?_
  obtain ⟨u_21, e_u_21, h⟩ := pu_of h
  refine rp_78 X hS e_u_21 dX12_operand_368 (fun H locs hS => ?_)
  refine lv_aload_n hx hb dX12_operand_371 rfl (lv_at hl 0 rfl) ?_
  refine rg_81 X hS dX12_operand_372 ?_
  refine lv_iconst (v := (-1)) hx hb dX12_operand_375 (by decide) ?_
  refine lv_icmp_eq (tgt := 383) hx hb dX12_operand_376 (by decide) (fun c_22 => ?_) (fun c_22 => ?_)
  · have h := ip (c_22) h
    refine lv_aload_n hx hb dX12_operand_383 rfl (lv_at hl 0 rfl) ?_
    refine rg_80 X hS dX12_operand_384 ?_
    obtain ⟨rfl, rfl⟩ := so h
    exact hE _ _ _ _ hS dX12_operand_387
  · have h := im (c_22) h
    refine lv_iconst (v := 3) hx hb dX12_operand_379 (by decide) ?_
    refine lv_goto (tgt := 387) hx hb dX12_operand_380 (by decide) ?_
    obtain ⟨rfl, rfl⟩ := so h
    exact hE _ _ _ _ hS dX12_operand_387
def B_operand_329 (N : Nat) (ro : Nat → Int32 → Int32 → RSt → Option (Int32 × RSt)) (u : RSt) : Option (Int32 × RSt) := bn (ro 8 0 0 u) fun _ u_23 => bn (F_emit N 16 (u_23.1 80) 0 u_23) fun r_25 u_24 => if (u_24.1 81) = ((-1) : Int32) then (B_operand_366 N ro u_24) else (bn (F_emit N 20 (u_24.1 81) 0 u_24) fun r_28 u_27 => B_operand_366 N ro u_27)
set_option maxHeartbeats 4000000 in
theorem b_operand_329 {r : Int32} {ro : Nat → Int32 → Int32 → RSt → Option (Int32 × RSt)} (X : RC p s m args c cX12_operand 3 (Cond.code yX12_operand cX12_operand 3 (some .int)) D kA V A) (hE : REi p l e R s m args below meth c cX12_operand D kA Z A Q r w) (hF : 4 ≤ R.frames) (hL : 84 ≤ R.locals) (hrec : RecOK_E l D kA V Z d ro) (hFd : d + 1 + 12 ≤ R.frames) (hLd : 60 * (d + 1) + 500 ≤ R.locals)  {u : RSt} (h : B_operand_329 N ro u = some (r, w)) (hS : RS D kA Z A s u H locs) (hl : lv_has ls 3 [(0, .ref (Z 200))]) : W p l e R s m args below meth c H locs 0 0 Q (F0 m 329 ls []) := by
  obtain ⟨⟨hx, hb, hml, hown, hts⟩, hK, hEV, hA⟩ := id X
  have hG : ∀ w ∈ GW, w.before args s = true := fun w h => hts w (List.mem_cons_of_mem _ h)
  unfold B_operand_329 at h
  refine lv_aload_n hx hb dX12_operand_329 rfl (lv_at hl 0 rfl) ?_
  refine lv_iconst (v := 0) hx hb dX12_operand_330 (by decide) ?_
  obtain ⟨r_u_23, u_23, h_u_23, h⟩ := bn_of h
  refine kc_spot X hrec hS h_u_23 hFd hLd hl.1 (Nat.le_of_ble_eq_true rfl) dX12_operand_331 (fun H locs hS => ?_)
  refine lv_aload_n hx hb dX12_operand_334 rfl (lv_at hl 0 rfl) ?_
  refine lv_bipush (v := 16) hx hb dX12_operand_335 (by decide) ?_
  refine lv_aload_n hx hb dX12_operand_337 rfl (lv_at hl 0 rfl) ?_
  refine rg_80 X hS dX12_operand_338 ?_
  refine lv_iconst (v := 0) hx hb dX12_operand_341 (by decide) ?_
  obtain ⟨r_25, u_24, h_u_24, h⟩ := bn_of h
  refine kc_emit X hS h_u_24 (Nat.le_trans (Nat.le_of_ble_eq_true rfl) hF) (Nat.le_trans (Nat.le_of_ble_eq_true rfl) hL) hl.1 (Nat.le_of_ble_eq_true rfl) dX12_operand_342 (fun H locs hS => ?_)
  refine lv_istore_n (lv' := [(2, .int r_25), (0, .ref (Z 200))]) hx hb dX12_operand_345 rfl hl (by decide) rfl (fun ls hl => ?_)
  refine lv_aload_n hx hb dX12_operand_346 rfl (lv_at hl 1 rfl) ?_
  refine rg_81 X hS dX12_operand_347 ?_
  refine lv_iconst (v := (-1)) hx hb dX12_operand_350 (by decide) ?_
  refine lv_icmp_eq (tgt := 366) hx hb dX12_operand_351 (by decide) (fun c_26 => ?_) (fun c_26 => ?_)
  · have h := ip (c_26) h
    exact b_operand_366 X hE hF hL hrec hFd hLd h hS (lv_sub hl [1] rfl)
  · have h := im (c_26) h
    refine lv_aload_n hx hb dX12_operand_354 rfl (lv_at hl 1 rfl) ?_
    refine lv_bipush (v := 20) hx hb dX12_operand_355 (by decide) ?_
    refine lv_aload_n hx hb dX12_operand_357 rfl (lv_at hl 1 rfl) ?_
    refine rg_81 X hS dX12_operand_358 ?_
    refine lv_iconst (v := 0) hx hb dX12_operand_361 (by decide) ?_
    obtain ⟨r_28, u_27, h_u_27, h⟩ := bn_of h
    refine kc_emit X hS h_u_27 (Nat.le_trans (Nat.le_of_ble_eq_true rfl) hF) (Nat.le_trans (Nat.le_of_ble_eq_true rfl) hL) hl.1 (Nat.le_of_ble_eq_true rfl) dX12_operand_362 (fun H locs hS => ?_)
    refine lv_istore_n (lv' := [(2, .int r_28), (0, .ref (Z 200))]) hx hb dX12_operand_365 rfl hl (by decide) rfl (fun ls hl => ?_)
    exact b_operand_366 X hE hF hL hrec hFd hLd h hS (lv_sub hl [1] rfl)
def B_operand_71 (N : Nat) (ro : Nat → Int32 → Int32 → RSt → Option (Int32 × RSt)) (l1 : Int32) (u : RSt) : Option (Int32 × RSt) := if l1 = (223 : Int32) then (bn (F_begins N 223 u) fun _ u_56 => bn (ro 0 0 0 u_56) fun r_58 u_57 => bn (F_ends N 224 u_57) fun _ u_59 => if (u_59.1 78) ≤ (0 : Int32) then (pu (sI u_59 78 0) fun u_61 => some (r_58, u_61)) else (pu (sI u_59 78 2) fun u_62 => some (r_58, u_62))) else (if l1 = (2 : Int32) then (B_operand_130 N ro l1 u) else (if l1 = (3 : Int32) then (B_operand_130 N ro l1 u) else (if l1 = (4 : Int32) then (B_operand_130 N ro l1 u) else (pu (sI u 78 0) fun u_33 => if l1 = (128 : Int32) then (rd (u_33.2.2.1 3) 1502 (u_33.1 65) fun v_50 => bn (F_cost N v_50 u_33) fun _ u_52 => bn (F_emit N 3 0 0 u_52) fun r_54 u_53 => pu (sI u_53 65 ((u_53.1 65) + 1)) fun u_55 => some (3, u_55)) else (if l1 = (1 : Int32) then (bn (F_isNext N 223 u_33) fun r_37 u_36 => if r_37 = (0 : Int32) then (bn (F_isNext N 231 u_36) fun r_40 u_39 => if r_40 = (0 : Int32) then (B_operand_329 N ro u_39) else (rd (u_39.2.2.1 2) 1502 ((u_39.1 65) + 2) fun v_42 => if v_42 = (1 : Int32) then (bn (ro 6 0 0 u_39) fun r_46 u_45 => some (r_46, u_45)) else (B_operand_329 N ro u_39))) else (bn (ro 5 0 0 u_36) fun r_48 u_47 => some (r_48, u_47))) else (bn (F_stuck N u_33) fun _ u_49 => some (3, u_49)))))))
set_option maxHeartbeats 4000000 in
theorem b_operand_71 {r : Int32} {ro : Nat → Int32 → Int32 → RSt → Option (Int32 × RSt)} (X : RC p s m args c cX12_operand 3 (Cond.code yX12_operand cX12_operand 3 (some .int)) D kA V A) (hE : REi p l e R s m args below meth c cX12_operand D kA Z A Q r w) (hF : 4 ≤ R.frames) (hL : 84 ≤ R.locals) (hrec : RecOK_E l D kA V Z d ro) (hFd : d + 1 + 12 ≤ R.frames) (hLd : 60 * (d + 1) + 500 ≤ R.locals) {l1 : Int32}  {u : RSt} (h : B_operand_71 N ro l1 u = some (r, w)) (hS : RS D kA Z A s u H locs) (hl : lv_has ls 3 [(0, .ref (Z 200)), (1, .int l1)]) : W p l e R s m args below meth c H locs 0 0 Q (F0 m 71 ls []) := by
  obtain ⟨⟨hx, hb, hml, hown, hts⟩, hK, hEV, hA⟩ := id X
  have hG : ∀ w ∈ GW, w.before args s = true := fun w h => hts w (List.mem_cons_of_mem _ h)
  unfold B_operand_71 at h
  refine lv_iload_n hx hb dX12_operand_71 rfl (lv_at hl 1 rfl) ?_
  refine lv_sipush (v := 223) hx hb dX12_operand_72 (by decide) ?_
  refine lv_icmp_ne (tgt := 115) hx hb dX12_operand_75 (by decide) (fun c_29 => ?_) (fun c_29 => ?_)
  · have h := im (c_29) h
    refine lv_iload_n hx hb dX12_operand_115 rfl (lv_at hl 1 rfl) ?_
    refine lv_iconst (v := 2) hx hb dX12_operand_116 (by decide) ?_
    refine lv_icmp_eq (tgt := 130) hx hb dX12_operand_117 (by decide) (fun c_30 => ?_) (fun c_30 => ?_)
    · have h := ip (c_30) h
      exact b_operand_130 X hE hF hL hrec hFd hLd h hS (lv_sub hl [0, 1] rfl)
    · have h := im (c_30) h
      refine lv_iload_n hx hb dX12_operand_120 rfl (lv_at hl 1 rfl) ?_
      refine lv_iconst (v := 3) hx hb dX12_operand_121 (by decide) ?_
      refine lv_icmp_eq (tgt := 130) hx hb dX12_operand_122 (by decide) (fun c_31 => ?_) (fun c_31 => ?_)
      · have h := ip (c_31) h
        exact b_operand_130 X hE hF hL hrec hFd hLd h hS (lv_sub hl [0, 1] rfl)
      · have h := im (c_31) h
        refine lv_iload_n hx hb dX12_operand_125 rfl (lv_at hl 1 rfl) ?_
        refine lv_iconst (v := 4) hx hb dX12_operand_126 (by decide) ?_
        refine lv_icmp_ne (tgt := 228) hx hb dX12_operand_127 (by decide) (fun c_32 => ?_) (fun c_32 => ?_)
        · have h := im (c_32) h
          refine lv_aload_n hx hb dX12_operand_228 rfl (lv_at hl 0 rfl) ?_
          refine lv_iconst (v := 0) hx hb dX12_operand_229 (by decide) ?_
          obtain ⟨u_33, e_u_33, h⟩ := pu_of h
          refine rp_78 X hS e_u_33 dX12_operand_230 (fun H locs hS => ?_)
          refine lv_iload_n hx hb dX12_operand_233 rfl (lv_at hl 1 rfl) ?_
          refine lv_sipush (v := 128) hx hb dX12_operand_234 (by decide) ?_
          refine lv_icmp_ne (tgt := 273) hx hb dX12_operand_237 (by decide) (fun c_34 => ?_) (fun c_34 => ?_)
          · have h := im (c_34) h
            refine lv_iload_n hx hb dX12_operand_273 rfl (lv_at hl 1 rfl) ?_
            refine lv_iconst (v := 1) hx hb dX12_operand_274 (by decide) ?_
            refine lv_icmp_eq (tgt := 284) hx hb dX12_operand_275 (by decide) (fun c_35 => ?_) (fun c_35 => ?_)
            · have h := ip (c_35) h
              refine lv_aload_n hx hb dX12_operand_284 rfl (lv_at hl 0 rfl) ?_
              refine lv_sipush (v := 223) hx hb dX12_operand_285 (by decide) ?_
              obtain ⟨r_37, u_36, h_u_36, h⟩ := bn_of h
              refine kc_isNext X hS h_u_36 (Nat.le_trans (Nat.le_of_ble_eq_true rfl) hF) (Nat.le_trans (Nat.le_of_ble_eq_true rfl) hL) hl.1 (Nat.le_of_ble_eq_true rfl) dX12_operand_288 (fun H locs hS => ?_)
              refine lv_if_eq (tgt := 299) hx hb dX12_operand_291 (by decide) (fun c_38 => ?_) (fun c_38 => ?_)
              · have h := ip (c_38) h
                refine lv_aload_n hx hb dX12_operand_299 rfl (lv_at hl 0 rfl) ?_
                refine lv_sipush (v := 231) hx hb dX12_operand_300 (by decide) ?_
                obtain ⟨r_40, u_39, h_u_39, h⟩ := bn_of h
                refine kc_isNext X hS h_u_39 (Nat.le_trans (Nat.le_of_ble_eq_true rfl) hF) (Nat.le_trans (Nat.le_of_ble_eq_true rfl) hL) hl.1 (Nat.le_of_ble_eq_true rfl) dX12_operand_303 (fun H locs hS => ?_)
                refine lv_if_eq (tgt := 329) hx hb dX12_operand_306 (by decide) (fun c_41 => ?_) (fun c_41 => ?_)
                · have h := ip (c_41) h
                  exact b_operand_329 X hE hF hL hrec hFd hLd h hS (lv_sub hl [0] rfl)
                · have h := im (c_41) h
                  refine lv_aload_n hx hb dX12_operand_309 rfl (lv_at hl 0 rfl) ?_
                  refine rg_2 X hS dX12_operand_310 ?_
                  refine lv_aload_n hx hb dX12_operand_313 rfl (lv_at hl 0 rfl) ?_
                  refine rg_65 X hS dX12_operand_314 ?_
                  refine lv_iconst (v := 2) hx hb dX12_operand_317 (by decide) ?_
                  refine lv_iadd hx hb dX12_operand_318 ?_
                  obtain ⟨v_42, e_v_42, i_43, h⟩ := rd_of h
                  refine ra_2 X hS i_43 e_v_42 dX12_operand_319 ?_
                  refine lv_iconst (v := 1) hx hb dX12_operand_320 (by decide) ?_
                  refine lv_icmp_ne (tgt := 329) hx hb dX12_operand_321 (by decide) (fun c_44 => ?_) (fun c_44 => ?_)
                  · have h := im (c_44) h
                    exact b_operand_329 X hE hF hL hrec hFd hLd h hS (lv_sub hl [0] rfl)
                  · have h := ip (c_44) h
                    refine lv_aload_n hx hb dX12_operand_324 rfl (lv_at hl 0 rfl) ?_
                    obtain ⟨r_46, u_45, h_u_45, h⟩ := bn_of h
                    refine kc_inner X hrec hS h_u_45 hFd hLd hl.1 (Nat.le_of_ble_eq_true rfl) dX12_operand_325 (fun H locs hS => ?_)
                    obtain ⟨rfl, rfl⟩ := so h
                    exact hE _ _ _ _ hS dX12_operand_328
              · have h := im (c_38) h
                refine lv_aload_n hx hb dX12_operand_294 rfl (lv_at hl 0 rfl) ?_
                obtain ⟨r_48, u_47, h_u_47, h⟩ := bn_of h
                refine kc_call X hrec hS h_u_47 hFd hLd hl.1 (Nat.le_of_ble_eq_true rfl) dX12_operand_295 (fun H locs hS => ?_)
                obtain ⟨rfl, rfl⟩ := so h
                exact hE _ _ _ _ hS dX12_operand_298
            · have h := im (c_35) h
              refine lv_aload_n hx hb dX12_operand_278 rfl (lv_at hl 0 rfl) ?_
              obtain ⟨r_u_49, u_49, h_u_49, h⟩ := bn_of h
              refine kc_stuck X hS h_u_49 (Nat.le_trans (Nat.le_of_ble_eq_true rfl) hF) (Nat.le_trans (Nat.le_of_ble_eq_true rfl) hL) hl.1 (Nat.le_of_ble_eq_true rfl) dX12_operand_279 (fun H locs hS => ?_)
              refine lv_iconst (v := 3) hx hb dX12_operand_282 (by decide) ?_
              obtain ⟨rfl, rfl⟩ := so h
              exact hE _ _ _ _ hS dX12_operand_283
          · have h := ip (c_34) h
            refine lv_aload_n hx hb dX12_operand_240 rfl (lv_at hl 0 rfl) ?_
            refine lv_aload_n hx hb dX12_operand_241 rfl (lv_at hl 0 rfl) ?_
            refine rg_3 X hS dX12_operand_242 ?_
            refine lv_aload_n hx hb dX12_operand_245 rfl (lv_at hl 0 rfl) ?_
            refine rg_65 X hS dX12_operand_246 ?_
            obtain ⟨v_50, e_v_50, i_51, h⟩ := rd_of h
            refine ra_3 X hS i_51 e_v_50 dX12_operand_249 ?_
            obtain ⟨r_u_52, u_52, h_u_52, h⟩ := bn_of h
            refine kc_cost X hS h_u_52 (Nat.le_trans (Nat.le_of_ble_eq_true rfl) hF) (Nat.le_trans (Nat.le_of_ble_eq_true rfl) hL) hl.1 (Nat.le_of_ble_eq_true rfl) dX12_operand_250 (fun H locs hS => ?_)
            refine lv_aload_n hx hb dX12_operand_253 rfl (lv_at hl 0 rfl) ?_
            refine lv_iconst (v := 3) hx hb dX12_operand_254 (by decide) ?_
            refine lv_iconst (v := 0) hx hb dX12_operand_255 (by decide) ?_
            refine lv_iconst (v := 0) hx hb dX12_operand_256 (by decide) ?_
            obtain ⟨r_54, u_53, h_u_53, h⟩ := bn_of h
            refine kc_emit X hS h_u_53 (Nat.le_trans (Nat.le_of_ble_eq_true rfl) hF) (Nat.le_trans (Nat.le_of_ble_eq_true rfl) hL) hl.1 (Nat.le_of_ble_eq_true rfl) dX12_operand_257 (fun H locs hS => ?_)
            refine lv_istore_n (lv' := [(2, .int r_54), (0, .ref (Z 200)), (1, .int l1)]) hx hb dX12_operand_260 rfl hl (by decide) rfl (fun ls hl => ?_)
            refine lv_aload_n hx hb dX12_operand_261 rfl (lv_at hl 1 rfl) ?_
            refine lv_dup hx hb dX12_operand_262 rfl ?_
            refine rg_65 X hS dX12_operand_263 ?_
            refine lv_iconst (v := 1) hx hb dX12_operand_266 (by decide) ?_
            refine lv_iadd hx hb dX12_operand_267 ?_
            obtain ⟨u_55, e_u_55, h⟩ := pu_of h
            refine rp_65 X hS e_u_55 dX12_operand_268 (fun H locs hS => ?_)
            refine lv_iconst (v := 3) hx hb dX12_operand_271 (by decide) ?_
            obtain ⟨rfl, rfl⟩ := so h
            exact hE _ _ _ _ hS dX12_operand_272
        · have h := ip (c_32) h
          exact b_operand_130 X hE hF hL hrec hFd hLd h hS (lv_sub hl [0, 1] rfl)
  · have h := ip (c_29) h
    refine lv_aload_n hx hb dX12_operand_78 rfl (lv_at hl 0 rfl) ?_
    refine lv_sipush (v := 223) hx hb dX12_operand_79 (by decide) ?_
    obtain ⟨r_u_56, u_56, h_u_56, h⟩ := bn_of h
    refine kc_begins X hS h_u_56 (Nat.le_trans (Nat.le_of_ble_eq_true rfl) hF) (Nat.le_trans (Nat.le_of_ble_eq_true rfl) hL) hl.1 (Nat.le_of_ble_eq_true rfl) dX12_operand_82 (fun H locs hS => ?_)
    refine lv_aload_n hx hb dX12_operand_85 rfl (lv_at hl 0 rfl) ?_
    obtain ⟨r_58, u_57, h_u_57, h⟩ := bn_of h
    refine kc_expression X hrec hS h_u_57 hFd hLd hl.1 (Nat.le_of_ble_eq_true rfl) dX12_operand_86 (fun H locs hS => ?_)
    refine lv_istore_n (lv' := [(2, .int r_58), (0, .ref (Z 200)), (1, .int l1)]) hx hb dX12_operand_89 rfl hl (by decide) rfl (fun ls hl => ?_)
    refine lv_aload_n hx hb dX12_operand_90 rfl (lv_at hl 1 rfl) ?_
    refine lv_sipush (v := 224) hx hb dX12_operand_91 (by decide) ?_
    obtain ⟨r_u_59, u_59, h_u_59, h⟩ := bn_of h
    refine kc_ends X hS h_u_59 (Nat.le_trans (Nat.le_of_ble_eq_true rfl) hF) (Nat.le_trans (Nat.le_of_ble_eq_true rfl) hL) hl.1 (Nat.le_of_ble_eq_true rfl) dX12_operand_94 (fun H locs hS => ?_)
    refine lv_aload_n hx hb dX12_operand_97 rfl (lv_at hl 1 rfl) ?_
    refine lv_aload_n hx hb dX12_operand_98 rfl (lv_at hl 1 rfl) ?_
    refine rg_78 X hS dX12_operand_99 ?_
    refine lv_if_le (tgt := 109) hx hb dX12_operand_102 (by decide) (fun c_60 => ?_) (fun c_60 => ?_)
    · have h := ip (c_60) h
      refine lv_iconst (v := 0) hx hb dX12_operand_109 (by decide) ?_
      obtain ⟨u_61, e_u_61, h⟩ := pu_of h
      refine rp_78 X hS e_u_61 dX12_operand_110 (fun H locs hS => ?_)
      refine lv_iload_n hx hb dX12_operand_113 rfl (lv_at hl 0 rfl) ?_
      obtain ⟨rfl, rfl⟩ := so h
      exact hE _ _ _ _ hS dX12_operand_114
    · have h := im (c_60) h
      refine lv_iconst (v := 2) hx hb dX12_operand_105 (by decide) ?_
      refine lv_goto (tgt := 110) hx hb dX12_operand_106 (by decide) ?_
      obtain ⟨u_62, e_u_62, h⟩ := pu_of h
      refine rp_78 X hS e_u_62 dX12_operand_110 (fun H locs hS => ?_)
      refine lv_iload_n hx hb dX12_operand_113 rfl (lv_at hl 0 rfl) ?_
      obtain ⟨rfl, rfl⟩ := so h
      exact hE _ _ _ _ hS dX12_operand_114
def B_operand_0 (N : Nat) (ro : Nat → Int32 → Int32 → RSt → Option (Int32 × RSt)) (u : RSt) : Option (Int32 × RSt) := if (u.1 67) = (0 : Int32) then (rd (u.2.2.1 2) 1502 (u.1 65) fun v_64 => if v_64 = (241 : Int32) then (B_operand_40 N ro v_64 u) else (if v_64 = (245 : Int32) then (B_operand_40 N ro v_64 u) else (if v_64 = (246 : Int32) then (B_operand_40 N ro v_64 u) else (if v_64 = (223 : Int32) then (bn (F_isKind N ((u.1 65) + 1) u) fun r_71 u_70 => if r_71 = (0 : Int32) then (B_operand_71 N ro v_64 u_70) else (bn (ro 4 0 0 u_70) fun r_74 u_73 => some (r_74, u_73))) else (B_operand_71 N ro v_64 u))))) else (some (3, u))
set_option maxHeartbeats 4000000 in
theorem b_operand_0 {r : Int32} {ro : Nat → Int32 → Int32 → RSt → Option (Int32 × RSt)} (X : RC p s m args c cX12_operand 3 (Cond.code yX12_operand cX12_operand 3 (some .int)) D kA V A) (hE : REi p l e R s m args below meth c cX12_operand D kA Z A Q r w) (hF : 4 ≤ R.frames) (hL : 84 ≤ R.locals) (hrec : RecOK_E l D kA V Z d ro) (hFd : d + 1 + 12 ≤ R.frames) (hLd : 60 * (d + 1) + 500 ≤ R.locals)  {u : RSt} (h : B_operand_0 N ro u = some (r, w)) (hS : RS D kA Z A s u H locs) (hl : lv_has ls 3 [(0, .ref (Z 200))]) : W p l e R s m args below meth c H locs 0 0 Q (F0 m 0 ls []) := by
  obtain ⟨⟨hx, hb, hml, hown, hts⟩, hK, hEV, hA⟩ := id X
  have hG : ∀ w ∈ GW, w.before args s = true := fun w h => hts w (List.mem_cons_of_mem _ h)
  unfold B_operand_0 at h
  refine lv_aload_n hx hb dX12_operand_0 rfl (lv_at hl 0 rfl) ?_
  refine rg_67 X hS dX12_operand_1 ?_
  refine lv_if_eq (tgt := 9) hx hb dX12_operand_4 (by decide) (fun c_63 => ?_) (fun c_63 => ?_)
  · have h := ip (c_63) h
    refine lv_aload_n hx hb dX12_operand_9 rfl (lv_at hl 0 rfl) ?_
    refine rg_2 X hS dX12_operand_10 ?_
    refine lv_aload_n hx hb dX12_operand_13 rfl (lv_at hl 0 rfl) ?_
    refine rg_65 X hS dX12_operand_14 ?_
    obtain ⟨v_64, e_v_64, i_65, h⟩ := rd_of h
    refine ra_2 X hS i_65 e_v_64 dX12_operand_17 ?_
    refine lv_istore_n (lv' := [(1, .int v_64), (0, .ref (Z 200))]) hx hb dX12_operand_18 rfl hl (by decide) rfl (fun ls hl => ?_)
    refine lv_iload_n hx hb dX12_operand_19 rfl (lv_at hl 0 rfl) ?_
    refine lv_sipush (v := 241) hx hb dX12_operand_20 (by decide) ?_
    refine lv_icmp_eq (tgt := 40) hx hb dX12_operand_23 (by decide) (fun c_66 => ?_) (fun c_66 => ?_)
    · have h := ip (c_66) h
      exact b_operand_40 X hE hF hL hrec hFd hLd h hS (lv_sub hl [1, 0] rfl)
    · have h := im (c_66) h
      refine lv_iload_n hx hb dX12_operand_26 rfl (lv_at hl 0 rfl) ?_
      refine lv_sipush (v := 245) hx hb dX12_operand_27 (by decide) ?_
      refine lv_icmp_eq (tgt := 40) hx hb dX12_operand_30 (by decide) (fun c_67 => ?_) (fun c_67 => ?_)
      · have h := ip (c_67) h
        exact b_operand_40 X hE hF hL hrec hFd hLd h hS (lv_sub hl [1, 0] rfl)
      · have h := im (c_67) h
        refine lv_iload_n hx hb dX12_operand_33 rfl (lv_at hl 0 rfl) ?_
        refine lv_sipush (v := 246) hx hb dX12_operand_34 (by decide) ?_
        refine lv_icmp_ne (tgt := 46) hx hb dX12_operand_37 (by decide) (fun c_68 => ?_) (fun c_68 => ?_)
        · have h := im (c_68) h
          refine lv_iload_n hx hb dX12_operand_46 rfl (lv_at hl 0 rfl) ?_
          refine lv_sipush (v := 223) hx hb dX12_operand_47 (by decide) ?_
          refine lv_icmp_ne (tgt := 71) hx hb dX12_operand_50 (by decide) (fun c_69 => ?_) (fun c_69 => ?_)
          · have h := im (c_69) h
            exact b_operand_71 X hE hF hL hrec hFd hLd h hS (lv_sub hl [1, 0] rfl)
          · have h := ip (c_69) h
            refine lv_aload_n hx hb dX12_operand_53 rfl (lv_at hl 1 rfl) ?_
            refine lv_aload_n hx hb dX12_operand_54 rfl (lv_at hl 1 rfl) ?_
            refine rg_65 X hS dX12_operand_55 ?_
            refine lv_iconst (v := 1) hx hb dX12_operand_58 (by decide) ?_
            refine lv_iadd hx hb dX12_operand_59 ?_
            obtain ⟨r_71, u_70, h_u_70, h⟩ := bn_of h
            refine kc_isKind X hS h_u_70 (Nat.le_trans (Nat.le_of_ble_eq_true rfl) hF) (Nat.le_trans (Nat.le_of_ble_eq_true rfl) hL) hl.1 (Nat.le_of_ble_eq_true rfl) dX12_operand_60 (fun H locs hS => ?_)
            refine lv_if_eq (tgt := 71) hx hb dX12_operand_63 (by decide) (fun c_72 => ?_) (fun c_72 => ?_)
            · have h := ip (c_72) h
              exact b_operand_71 X hE hF hL hrec hFd hLd h hS (lv_sub hl [1, 0] rfl)
            · have h := im (c_72) h
              refine lv_aload_n hx hb dX12_operand_66 rfl (lv_at hl 1 rfl) ?_
              obtain ⟨r_74, u_73, h_u_73, h⟩ := bn_of h
              refine kc_cast X hrec hS h_u_73 hFd hLd hl.1 (Nat.le_of_ble_eq_true rfl) dX12_operand_67 (fun H locs hS => ?_)
              obtain ⟨rfl, rfl⟩ := so h
              exact hE _ _ _ _ hS dX12_operand_70
        · have h := ip (c_68) h
          exact b_operand_40 X hE hF hL hrec hFd hLd h hS (lv_sub hl [1, 0] rfl)
  · have h := im (c_63) h
    refine lv_iconst (v := 3) hx hb dX12_operand_7 (by decide) ?_
    obtain ⟨rfl, rfl⟩ := so h
    exact hE _ _ _ _ hS dX12_operand_8
def F_operand (N : Nat) (ro : Nat → Int32 → Int32 → RSt → Option (Int32 × RSt)) (u : RSt) : Option (Int32 × RSt) := B_operand_0 N ro u
set_option maxHeartbeats 4000000 in
theorem k_operand (l : Launch) (D : va_G) (kA : Nat → ClassId) (V Z : Nat → Nat) (N : Nat) {d : Nat} (ro : Nat → Int32 → Int32 → RSt → Option (Int32 × RSt)) (hrec : RecOK_E l D kA V Z d ro) (u : RSt) (sz : Nat) {r : Int32} {w : RSt} (h : F_operand N ro u = some (r, w)) : Met l yX12_operand (Cond.code yX12_operand cX12_operand 3 (some .int) :: GW) { frames := d + 1 + 12, cells := 0, slots := 0, locals := 60 * (d + 1) + 500 } (rPc D kA V Z [] u sz) (rQi D kA Z u sz r w) 0 0 (va_A (RW kA Z u) sz) := by
  refine Met.ofW (cc := cX12_operand) (maxL := 3) (ret := (some .int)) (by decide) rfl ?_
  intro p e s m args below meth c s₁ Bd hml hv
  obtain ⟨rfl, hsz, hP, hK, hD0, hE⟩ := hv
  have hts := atoms_spec (ws := Cond.code yX12_operand cX12_operand 3 (some .int) :: GW) Bd.pre
  have hl := lv_entry (.ref (Z 200) :: []) (n := 3) (Nat.le_of_ble_eq_true rfl)
  rw [lg_entry_eq]
  generalize (lg_sl (.ref (Z 200) :: []) ++ List.replicate (3 - (lg_sl (.ref (Z 200) :: [])).length) Slot.unset).toArray = ls at hl ⊢
  have hl : lv_has ls 3 [(0, .ref (Z 200))] := hl
  subst hsz
  have X : RC p s m (.ref (Z 200) :: []).toArray c cX12_operand 3 (Cond.code yX12_operand cX12_operand 3 (some .int)) D kA V (va_A (RW kA Z u) s.heap.size) := ⟨⟨Bd.exec, Bd.bytes, hml, findClass_of_methodNamed Bd.named, hts⟩, hK, hE, fun q h => Or.inr h⟩
  exact b_operand_0 X (rend_i (cy := cX12_operand) X Bd.returns Bd.notSynchronized) (Nat.le_trans (Nat.le_of_ble_eq_true rfl) (Nat.le_add_left 12 _)) (Nat.le_trans (Nat.le_of_ble_eq_true rfl) (Nat.le_add_left 500 _)) hrec (Nat.le_refl _) (Nat.le_refl _) h ⟨hP, hD0.self, va_S.rf⟩ (lv_sub hl [0] rfl)
def B_signed_143 (N : Nat) (ro : Nat → Int32 → Int32 → RSt → Option (Int32 × RSt)) (l1 : Int32) (l4 : Int32) (s1 : Int32) (u : RSt) : Option (Int32 × RSt) := pu (sI u 78 s1) fun u_1 => pu (sL u_1 79 (r_worked l4 (-(u_1.2.1 79)))) fun u_4 => if l4 = (0 : Int32) then (some (3, u_4)) else (if l1 = (246 : Int32) then (some (3, u_4)) else (some (4, u_4)))
set_option maxHeartbeats 4000000 in
theorem b_signed_143 {r : Int32} {ro : Nat → Int32 → Int32 → RSt → Option (Int32 × RSt)} (X : RC p s m args c cX12_signed 6 (Cond.code yX12_signed cX12_signed 6 (some .int)) D kA V A) (hE : REi p l e R s m args below meth c cX12_signed D kA Z A Q r w) (hF : 2 ≤ R.frames) (hL : 45 ≤ R.locals) (hrec : RecOK_E l D kA V Z d ro) (hFd : d + 1 + 12 ≤ R.frames) (hLd : 60 * (d + 1) + 500 ≤ R.locals) {l1 : Int32} {l4 : Int32} {s1 : Int32}  {u : RSt} (h : B_signed_143 N ro l1 l4 s1 u = some (r, w)) (hS : RS D kA Z A s u H locs) (hl : lv_has ls 6 [(0, .ref (Z 200)), (1, .int l1), (4, .int l4)]) : W p l e R s m args below meth c H locs 0 0 Q (F0 m 143 ls [.int s1, .ref (Z 200)]) := by
  obtain ⟨⟨hx, hb, hml, hown, hts⟩, hK, hEV, hA⟩ := id X
  have hG : ∀ w ∈ GW, w.before args s = true := fun w h => hts w (List.mem_cons_of_mem _ h)
  unfold B_signed_143 at h
  obtain ⟨u_1, e_u_1, h⟩ := pu_of h
  refine rp_78 X hS e_u_1 dX12_signed_143 (fun H locs hS => ?_)
  refine lv_aload_n hx hb dX12_signed_146 rfl (lv_at hl 0 rfl) ?_
  refine lv_iload hx hb dX12_signed_147 (lv_at hl 2 rfl) ?_
  refine lv_aload_n hx hb dX12_signed_149 rfl (lv_at hl 0 rfl) ?_
  refine rg_79 X hS dX12_signed_150 ?_
  refine lv_lneg hx hb dX12_signed_153 ?_
  refine vp_callSl (W.runS (As := [.int l4, .long (-(u_1.2.1 79))]) (rest := [.ref (Z 200)]) X.1 (c_X12_worked l l4 (-(u_1.2.1 79))) (va_cwS 2 hts (gw_P gw_2396 gw_2397 gw_16 gwp_X12_worked) rfl rfl rfl (by decide +kernel) ⟨Nat.le_trans (Nat.le_of_ble_eq_true rfl) hF, Nat.le_trans (Nat.le_of_ble_eq_true rfl) hL⟩) ⟨fun _ _ _ _ q => q, fun _ _ _ => ⟨rfl, trivial⟩⟩ rfl rfl hl.1 rfl (lv_room (Nat.le_of_ble_eq_true rfl)) dX12_signed_154 ⟨Nat.zero_le _, Nat.zero_le _⟩) (fun r_2 q_3 => ?_)
  subst q_3
  obtain ⟨u_4, e_u_4, h⟩ := pu_of h
  refine rp_79 X hS e_u_4 dX12_signed_157 (fun H locs hS => ?_)
  refine lv_iload hx hb dX12_signed_160 (lv_at hl 2 rfl) ?_
  refine lv_if_eq (tgt := 176) hx hb dX12_signed_162 (by decide) (fun c_5 => ?_) (fun c_5 => ?_)
  · have h := ip (c_5) h
    refine lv_iconst (v := 3) hx hb dX12_signed_176 (by decide) ?_
    obtain ⟨rfl, rfl⟩ := so h
    exact hE _ _ _ _ hS dX12_signed_177
  · have h := im (c_5) h
    refine lv_iload_n hx hb dX12_signed_165 rfl (lv_at hl 1 rfl) ?_
    refine lv_sipush (v := 246) hx hb dX12_signed_166 (by decide) ?_
    refine lv_icmp_eq (tgt := 176) hx hb dX12_signed_169 (by decide) (fun c_6 => ?_) (fun c_6 => ?_)
    · have h := ip (c_6) h
      refine lv_iconst (v := 3) hx hb dX12_signed_176 (by decide) ?_
      obtain ⟨rfl, rfl⟩ := so h
      exact hE _ _ _ _ hS dX12_signed_177
    · have h := im (c_6) h
      refine lv_iconst (v := 4) hx hb dX12_signed_172 (by decide) ?_
      refine lv_goto (tgt := 177) hx hb dX12_signed_173 (by decide) ?_
      obtain ⟨rfl, rfl⟩ := so h
      exact hE _ _ _ _ hS dX12_signed_177
def B_signed_142 (N : Nat) (ro : Nat → Int32 → Int32 → RSt → Option (Int32 × RSt)) (l1 : Int32) (l4 : Int32) (u : RSt) : Option (Int32 × RSt) := B_signed_143 N ro l1 l4 0 u
set_option maxHeartbeats 4000000 in
theorem b_signed_142 {r : Int32} {ro : Nat → Int32 → Int32 → RSt → Option (Int32 × RSt)} (X : RC p s m args c cX12_signed 6 (Cond.code yX12_signed cX12_signed 6 (some .int)) D kA V A) (hE : REi p l e R s m args below meth c cX12_signed D kA Z A Q r w) (hF : 2 ≤ R.frames) (hL : 45 ≤ R.locals) (hrec : RecOK_E l D kA V Z d ro) (hFd : d + 1 + 12 ≤ R.frames) (hLd : 60 * (d + 1) + 500 ≤ R.locals) {l1 : Int32} {l4 : Int32}  {u : RSt} (h : B_signed_142 N ro l1 l4 u = some (r, w)) (hS : RS D kA Z A s u H locs) (hl : lv_has ls 6 [(0, .ref (Z 200)), (1, .int l1), (4, .int l4)]) : W p l e R s m args below meth c H locs 0 0 Q (F0 m 142 ls [.ref (Z 200)]) := by
  obtain ⟨⟨hx, hb, hml, hown, hts⟩, hK, hEV, hA⟩ := id X
  have hG : ∀ w ∈ GW, w.before args s = true := fun w h => hts w (List.mem_cons_of_mem _ h)
  unfold B_signed_142 at h
  refine lv_iconst (v := 0) hx hb dX12_signed_142 (by decide) ?_
  exact b_signed_143 X hE hF hL hrec hFd hLd h hS (lv_sub hl [0, 1, 2] rfl)
def B_signed_102 (N : Nat) (ro : Nat → Int32 → Int32 → RSt → Option (Int32 × RSt)) (l1 : Int32) (l2 : Int32) (l4 : Int32) (s1 : Int32) (s2 : Int32) (u : RSt) : Option (Int32 × RSt) := bn (F_emit N s1 s2 0 u) fun r_8 u_7 => pu (sI u_7 66 ((u_7.1 66) - 1)) fun u_9 => if l1 = (241 : Int32) then (if l2 = (0 : Int32) then (B_signed_142 N ro l1 l4 u_9) else (if (u_9.1 78) = (1 : Int32) then (B_signed_143 N ro l1 l4 2 u_9) else (B_signed_142 N ro l1 l4 u_9))) else (B_signed_142 N ro l1 l4 u_9)
set_option maxHeartbeats 4000000 in
theorem b_signed_102 {r : Int32} {ro : Nat → Int32 → Int32 → RSt → Option (Int32 × RSt)} (X : RC p s m args c cX12_signed 6 (Cond.code yX12_signed cX12_signed 6 (some .int)) D kA V A) (hE : REi p l e R s m args below meth c cX12_signed D kA Z A Q r w) (hF : 2 ≤ R.frames) (hL : 45 ≤ R.locals) (hrec : RecOK_E l D kA V Z d ro) (hFd : d + 1 + 12 ≤ R.frames) (hLd : 60 * (d + 1) + 500 ≤ R.locals) {l1 : Int32} {l2 : Int32} {l4 : Int32} {s1 : Int32} {s2 : Int32}  {u : RSt} (h : B_signed_102 N ro l1 l2 l4 s1 s2 u = some (r, w)) (hS : RS D kA Z A s u H locs) (hl : lv_has ls 6 [(0, .ref (Z 200)), (1, .int l1), (2, .int l2), (4, .int l4)]) : W p l e R s m args below meth c H locs 0 0 Q (F0 m 102 ls [.int s2, .int s1, .ref (Z 200)]) := by
  obtain ⟨⟨hx, hb, hml, hown, hts⟩, hK, hEV, hA⟩ := id X
  have hG : ∀ w ∈ GW, w.before args s = true := fun w h => hts w (List.mem_cons_of_mem _ h)
  unfold B_signed_102 at h
  refine lv_iconst (v := 0) hx hb dX12_signed_102 (by decide) ?_
  obtain ⟨r_8, u_7, h_u_7, h⟩ := bn_of h
  refine kc_emit X hS h_u_7 (Nat.le_trans (Nat.le_of_ble_eq_true rfl) hF) (Nat.le_trans (Nat.le_of_ble_eq_true rfl) hL) hl.1 (Nat.le_of_ble_eq_true rfl) dX12_signed_103 (fun H locs hS => ?_)
  refine lv_istore (lv' := [(5, .int r_8), (0, .ref (Z 200)), (1, .int l1), (2, .int l2), (4, .int l4)]) hx hb dX12_signed_106 hl (by decide) rfl (fun ls hl => ?_)
  refine lv_aload_n hx hb dX12_signed_108 rfl (lv_at hl 1 rfl) ?_
  refine lv_dup hx hb dX12_signed_109 rfl ?_
  refine rg_66 X hS dX12_signed_110 ?_
  refine lv_iconst (v := 1) hx hb dX12_signed_113 (by decide) ?_
  refine lv_isub hx hb dX12_signed_114 ?_
  obtain ⟨u_9, e_u_9, h⟩ := pu_of h
  refine rp_66 X hS e_u_9 dX12_signed_115 (fun H locs hS => ?_)
  refine lv_aload_n hx hb dX12_signed_118 rfl (lv_at hl 1 rfl) ?_
  refine lv_iload_n hx hb dX12_signed_119 rfl (lv_at hl 2 rfl) ?_
  refine lv_sipush (v := 241) hx hb dX12_signed_120 (by decide) ?_
  refine lv_icmp_ne (tgt := 142) hx hb dX12_signed_123 (by decide) (fun c_10 => ?_) (fun c_10 => ?_)
  · have h := im (c_10) h
    exact b_signed_142 X hE hF hL hrec hFd hLd h hS (lv_sub hl [1, 2, 4] rfl)
  · have h := ip (c_10) h
    refine lv_iload_n hx hb dX12_signed_126 rfl (lv_at hl 3 rfl) ?_
    refine lv_if_eq (tgt := 142) hx hb dX12_signed_127 (by decide) (fun c_11 => ?_) (fun c_11 => ?_)
    · have h := ip (c_11) h
      exact b_signed_142 X hE hF hL hrec hFd hLd h hS (lv_sub hl [1, 2, 4] rfl)
    · have h := im (c_11) h
      refine lv_aload_n hx hb dX12_signed_130 rfl (lv_at hl 1 rfl) ?_
      refine rg_78 X hS dX12_signed_131 ?_
      refine lv_iconst (v := 1) hx hb dX12_signed_134 (by decide) ?_
      refine lv_icmp_ne (tgt := 142) hx hb dX12_signed_135 (by decide) (fun c_12 => ?_) (fun c_12 => ?_)
      · have h := im (c_12) h
        exact b_signed_142 X hE hF hL hrec hFd hLd h hS (lv_sub hl [1, 2, 4] rfl)
      · have h := ip (c_12) h
        refine lv_iconst (v := 2) hx hb dX12_signed_138 (by decide) ?_
        refine lv_goto (tgt := 143) hx hb dX12_signed_139 (by decide) ?_
        exact b_signed_143 X hE hF hL hrec hFd hLd h hS (lv_sub hl [1, 2, 4] rfl)
def B_signed_92 (N : Nat) (ro : Nat → Int32 → Int32 → RSt → Option (Int32 × RSt)) (l1 : Int32) (l2 : Int32) (l4 : Int32) (s1 : Int32) (u : RSt) : Option (Int32 × RSt) := if l4 = (0 : Int32) then (B_signed_102 N ro l1 l2 l4 s1 0 u) else (B_signed_102 N ro l1 l2 l4 s1 1 u)
set_option maxHeartbeats 4000000 in
theorem b_signed_92 {r : Int32} {ro : Nat → Int32 → Int32 → RSt → Option (Int32 × RSt)} (X : RC p s m args c cX12_signed 6 (Cond.code yX12_signed cX12_signed 6 (some .int)) D kA V A) (hE : REi p l e R s m args below meth c cX12_signed D kA Z A Q r w) (hF : 2 ≤ R.frames) (hL : 45 ≤ R.locals) (hrec : RecOK_E l D kA V Z d ro) (hFd : d + 1 + 12 ≤ R.frames) (hLd : 60 * (d + 1) + 500 ≤ R.locals) {l1 : Int32} {l2 : Int32} {l4 : Int32} {s1 : Int32}  {u : RSt} (h : B_signed_92 N ro l1 l2 l4 s1 u = some (r, w)) (hS : RS D kA Z A s u H locs) (hl : lv_has ls 6 [(0, .ref (Z 200)), (1, .int l1), (2, .int l2), (4, .int l4)]) : W p l e R s m args below meth c H locs 0 0 Q (F0 m 92 ls [.int s1, .ref (Z 200)]) := by
  obtain ⟨⟨hx, hb, hml, hown, hts⟩, hK, hEV, hA⟩ := id X
  have hG : ∀ w ∈ GW, w.before args s = true := fun w h => hts w (List.mem_cons_of_mem _ h)
  unfold B_signed_92 at h
  refine lv_iload hx hb dX12_signed_92 (lv_at hl 3 rfl) ?_
  refine lv_if_eq (tgt := 101) hx hb dX12_signed_94 (by decide) (fun c_13 => ?_) (fun c_13 => ?_)
  · have h := ip (c_13) h
    refine lv_iconst (v := 0) hx hb dX12_signed_101 (by decide) ?_
    exact b_signed_102 X hE hF hL hrec hFd hLd h hS (lv_sub hl [0, 1, 2, 3] rfl)
  · have h := im (c_13) h
    refine lv_iconst (v := 1) hx hb dX12_signed_97 (by decide) ?_
    refine lv_goto (tgt := 102) hx hb dX12_signed_98 (by decide) ?_
    exact b_signed_102 X hE hF hL hrec hFd hLd h hS (lv_sub hl [0, 1, 2, 3] rfl)
def B_signed_63 (N : Nat) (ro : Nat → Int32 → Int32 → RSt → Option (Int32 × RSt)) (l1 : Int32) (l2 : Int32) (s0 : Int32) (u : RSt) : Option (Int32 × RSt) := if l1 = (241 : Int32) then (B_signed_92 N ro l1 l2 s0 22 u) else (if l1 = (245 : Int32) then (B_signed_92 N ro l1 l2 s0 23 u) else (B_signed_92 N ro l1 l2 s0 24 u))
set_option maxHeartbeats 4000000 in
theorem b_signed_63 {r : Int32} {ro : Nat → Int32 → Int32 → RSt → Option (Int32 × RSt)} (X : RC p s m args c cX12_signed 6 (Cond.code yX12_signed cX12_signed 6 (some .int)) D kA V A) (hE : REi p l e R s m args below meth c cX12_signed D kA Z A Q r w) (hF : 2 ≤ R.frames) (hL : 45 ≤ R.locals) (hrec : RecOK_E l D kA V Z d ro) (hFd : d + 1 + 12 ≤ R.frames) (hLd : 60 * (d + 1) + 500 ≤ R.locals) {l1 : Int32} {l2 : Int32} {s0 : Int32}  {u : RSt} (h : B_signed_63 N ro l1 l2 s0 u = some (r, w)) (hS : RS D kA Z A s u H locs) (hl : lv_has ls 6 [(0, .ref (Z 200)), (1, .int l1), (2, .int l2)]) : W p l e R s m args below meth c H locs 0 0 Q (F0 m 63 ls [.int s0]) := by
  obtain ⟨⟨hx, hb, hml, hown, hts⟩, hK, hEV, hA⟩ := id X
  have hG : ∀ w ∈ GW, w.before args s = true := fun w h => hts w (List.mem_cons_of_mem _ h)
  unfold B_signed_63 at h
  refine lv_istore (lv' := [(4, .int s0), (0, .ref (Z 200)), (1, .int l1), (2, .int l2)]) hx hb dX12_signed_63 hl (by decide) rfl (fun ls hl => ?_)
  refine lv_aload_n hx hb dX12_signed_65 rfl (lv_at hl 1 rfl) ?_
  refine lv_iload_n hx hb dX12_signed_66 rfl (lv_at hl 2 rfl) ?_
  refine lv_sipush (v := 241) hx hb dX12_signed_67 (by decide) ?_
  refine lv_icmp_ne (tgt := 78) hx hb dX12_signed_70 (by decide) (fun c_14 => ?_) (fun c_14 => ?_)
  · have h := im (c_14) h
    refine lv_iload_n hx hb dX12_signed_78 rfl (lv_at hl 2 rfl) ?_
    refine lv_sipush (v := 245) hx hb dX12_signed_79 (by decide) ?_
    refine lv_icmp_ne (tgt := 90) hx hb dX12_signed_82 (by decide) (fun c_15 => ?_) (fun c_15 => ?_)
    · have h := im (c_15) h
      refine lv_bipush (v := 24) hx hb dX12_signed_90 (by decide) ?_
      exact b_signed_92 X hE hF hL hrec hFd hLd h hS (lv_sub hl [1, 2, 3, 0] rfl)
    · have h := ip (c_15) h
      refine lv_bipush (v := 23) hx hb dX12_signed_85 (by decide) ?_
      refine lv_goto (tgt := 92) hx hb dX12_signed_87 (by decide) ?_
      exact b_signed_92 X hE hF hL hrec hFd hLd h hS (lv_sub hl [1, 2, 3, 0] rfl)
  · have h := ip (c_14) h
    refine lv_bipush (v := 22) hx hb dX12_signed_73 (by decide) ?_
    refine lv_goto (tgt := 92) hx hb dX12_signed_75 (by decide) ?_
    exact b_signed_92 X hE hF hL hrec hFd hLd h hS (lv_sub hl [1, 2, 3, 0] rfl)
def B_signed_47 (N : Nat) (ro : Nat → Int32 → Int32 → RSt → Option (Int32 × RSt)) (l1 : Int32) (s0 : Int32) (u : RSt) : Option (Int32 × RSt) := bn (ro 2 0 0 u) fun r_17 u_16 => if r_17 = (4 : Int32) then (B_signed_63 N ro l1 s0 1 u_16) else (B_signed_63 N ro l1 s0 0 u_16)
set_option maxHeartbeats 4000000 in
theorem b_signed_47 {r : Int32} {ro : Nat → Int32 → Int32 → RSt → Option (Int32 × RSt)} (X : RC p s m args c cX12_signed 6 (Cond.code yX12_signed cX12_signed 6 (some .int)) D kA V A) (hE : REi p l e R s m args below meth c cX12_signed D kA Z A Q r w) (hF : 2 ≤ R.frames) (hL : 45 ≤ R.locals) (hrec : RecOK_E l D kA V Z d ro) (hFd : d + 1 + 12 ≤ R.frames) (hLd : 60 * (d + 1) + 500 ≤ R.locals) {l1 : Int32} {s0 : Int32}  {u : RSt} (h : B_signed_47 N ro l1 s0 u = some (r, w)) (hS : RS D kA Z A s u H locs) (hl : lv_has ls 6 [(0, .ref (Z 200)), (1, .int l1)]) : W p l e R s m args below meth c H locs 0 0 Q (F0 m 47 ls [.int s0]) := by
  obtain ⟨⟨hx, hb, hml, hown, hts⟩, hK, hEV, hA⟩ := id X
  have hG : ∀ w ∈ GW, w.before args s = true := fun w h => hts w (List.mem_cons_of_mem _ h)
  unfold B_signed_47 at h
  refine lv_istore_n (lv' := [(2, .int s0), (0, .ref (Z 200)), (1, .int l1)]) hx hb dX12_signed_47 rfl hl (by decide) rfl (fun ls hl => ?_)
  refine lv_aload_n hx hb dX12_signed_48 rfl (lv_at hl 1 rfl) ?_
  obtain ⟨r_17, u_16, h_u_16, h⟩ := bn_of h
  refine kc_operand X hrec hS h_u_16 hFd hLd hl.1 (Nat.le_of_ble_eq_true rfl) dX12_signed_49 (fun H locs hS => ?_)
  refine lv_istore_n (lv' := [(3, .int r_17), (2, .int s0), (0, .ref (Z 200)), (1, .int l1)]) hx hb dX12_signed_52 rfl hl (by decide) rfl (fun ls hl => ?_)
  refine lv_iload_n hx hb dX12_signed_53 rfl (lv_at hl 0 rfl) ?_
  refine lv_iconst (v := 4) hx hb dX12_signed_54 (by decide) ?_
  refine lv_icmp_ne (tgt := 62) hx hb dX12_signed_55 (by decide) (fun c_18 => ?_) (fun c_18 => ?_)
  · have h := im (c_18) h
    refine lv_iconst (v := 0) hx hb dX12_signed_62 (by decide) ?_
    exact b_signed_63 X hE hF hL hrec hFd hLd h hS (lv_sub hl [2, 3, 1] rfl)
  · have h := ip (c_18) h
    refine lv_iconst (v := 1) hx hb dX12_signed_58 (by decide) ?_
    refine lv_goto (tgt := 63) hx hb dX12_signed_59 (by decide) ?_
    exact b_signed_63 X hE hF hL hrec hFd hLd h hS (lv_sub hl [2, 3, 1] rfl)
def B_signed_42 (N : Nat) (ro : Nat → Int32 → Int32 → RSt → Option (Int32 × RSt)) (l1 : Int32) (u : RSt) : Option (Int32 × RSt) := B_signed_47 N ro l1 1 u
set_option maxHeartbeats 4000000 in
theorem b_signed_42 {r : Int32} {ro : Nat → Int32 → Int32 → RSt → Option (Int32 × RSt)} (X : RC p s m args c cX12_signed 6 (Cond.code yX12_signed cX12_signed 6 (some .int)) D kA V A) (hE : REi p l e R s m args below meth c cX12_signed D kA Z A Q r w) (hF : 2 ≤ R.frames) (hL : 45 ≤ R.locals) (hrec : RecOK_E l D kA V Z d ro) (hFd : d + 1 + 12 ≤ R.frames) (hLd : 60 * (d + 1) + 500 ≤ R.locals) {l1 : Int32}  {u : RSt} (h : B_signed_42 N ro l1 u = some (r, w)) (hS : RS D kA Z A s u H locs) (hl : lv_has ls 6 [(0, .ref (Z 200)), (1, .int l1)]) : W p l e R s m args below meth c H locs 0 0 Q (F0 m 42 ls []) := by
  obtain ⟨⟨hx, hb, hml, hown, hts⟩, hK, hEV, hA⟩ := id X
  have hG : ∀ w ∈ GW, w.before args s = true := fun w h => hts w (List.mem_cons_of_mem _ h)
  unfold B_signed_42 at h
  refine lv_iconst (v := 1) hx hb dX12_signed_42 (by decide) ?_
  refine lv_goto (tgt := 47) hx hb dX12_signed_43 (by decide) ?_
  exact b_signed_47 X hE hF hL hrec hFd hLd h hS (lv_sub hl [0, 1] rfl)
def B_signed_0 (N : Nat) (ro : Nat → Int32 → Int32 → RSt → Option (Int32 × RSt)) (l1 : Int32) (u : RSt) : Option (Int32 × RSt) := bn (F_opens N u) fun _ u_19 => rd (u_19.2.2.1 3) 1502 (u_19.1 65) fun v_20 => bn (F_cost N v_20 u_19) fun _ u_22 => pu (sI u_22 65 ((u_22.1 65) + 1)) fun u_23 => bn (F_isNumber N u_23) fun r_25 u_24 => if r_25 = (0 : Int32) then (bn (F_is N 4 u_24) fun r_28 u_27 => if r_28 = (0 : Int32) then (B_signed_47 N ro l1 0 u_27) else (B_signed_42 N ro l1 u_27)) else (B_signed_42 N ro l1 u_24)
set_option maxHeartbeats 4000000 in
theorem b_signed_0 {r : Int32} {ro : Nat → Int32 → Int32 → RSt → Option (Int32 × RSt)} (X : RC p s m args c cX12_signed 6 (Cond.code yX12_signed cX12_signed 6 (some .int)) D kA V A) (hE : REi p l e R s m args below meth c cX12_signed D kA Z A Q r w) (hF : 2 ≤ R.frames) (hL : 45 ≤ R.locals) (hrec : RecOK_E l D kA V Z d ro) (hFd : d + 1 + 12 ≤ R.frames) (hLd : 60 * (d + 1) + 500 ≤ R.locals) {l1 : Int32}  {u : RSt} (h : B_signed_0 N ro l1 u = some (r, w)) (hS : RS D kA Z A s u H locs) (hl : lv_has ls 6 [(0, .ref (Z 200)), (1, .int l1)]) : W p l e R s m args below meth c H locs 0 0 Q (F0 m 0 ls []) := by
  obtain ⟨⟨hx, hb, hml, hown, hts⟩, hK, hEV, hA⟩ := id X
  have hG : ∀ w ∈ GW, w.before args s = true := fun w h => hts w (List.mem_cons_of_mem _ h)
  unfold B_signed_0 at h
  refine lv_aload_n hx hb dX12_signed_0 rfl (lv_at hl 0 rfl) ?_
  obtain ⟨r_u_19, u_19, h_u_19, h⟩ := bn_of h
  refine kc_opens X hS h_u_19 (Nat.le_trans (Nat.le_of_ble_eq_true rfl) hF) (Nat.le_trans (Nat.le_of_ble_eq_true rfl) hL) hl.1 (Nat.le_of_ble_eq_true rfl) dX12_signed_1 (fun H locs hS => ?_)
  refine lv_aload_n hx hb dX12_signed_4 rfl (lv_at hl 0 rfl) ?_
  refine lv_aload_n hx hb dX12_signed_5 rfl (lv_at hl 0 rfl) ?_
  refine rg_3 X hS dX12_signed_6 ?_
  refine lv_aload_n hx hb dX12_signed_9 rfl (lv_at hl 0 rfl) ?_
  refine rg_65 X hS dX12_signed_10 ?_
  obtain ⟨v_20, e_v_20, i_21, h⟩ := rd_of h
  refine ra_3 X hS i_21 e_v_20 dX12_signed_13 ?_
  obtain ⟨r_u_22, u_22, h_u_22, h⟩ := bn_of h
  refine kc_cost X hS h_u_22 (Nat.le_trans (Nat.le_of_ble_eq_true rfl) hF) (Nat.le_trans (Nat.le_of_ble_eq_true rfl) hL) hl.1 (Nat.le_of_ble_eq_true rfl) dX12_signed_14 (fun H locs hS => ?_)
  refine lv_aload_n hx hb dX12_signed_17 rfl (lv_at hl 0 rfl) ?_
  refine lv_dup hx hb dX12_signed_18 rfl ?_
  refine rg_65 X hS dX12_signed_19 ?_
  refine lv_iconst (v := 1) hx hb dX12_signed_22 (by decide) ?_
  refine lv_iadd hx hb dX12_signed_23 ?_
  obtain ⟨u_23, e_u_23, h⟩ := pu_of h
  refine rp_65 X hS e_u_23 dX12_signed_24 (fun H locs hS => ?_)
  refine lv_aload_n hx hb dX12_signed_27 rfl (lv_at hl 0 rfl) ?_
  obtain ⟨r_25, u_24, h_u_24, h⟩ := bn_of h
  refine kc_isNumber X hS h_u_24 (Nat.le_trans (Nat.le_of_ble_eq_true rfl) hF) (Nat.le_trans (Nat.le_of_ble_eq_true rfl) hL) hl.1 (Nat.le_of_ble_eq_true rfl) dX12_signed_28 (fun H locs hS => ?_)
  refine lv_if_ne (tgt := 42) hx hb dX12_signed_31 (by decide) (fun c_26 => ?_) (fun c_26 => ?_)
  · have h := im (c_26) h
    exact b_signed_42 X hE hF hL hrec hFd hLd h hS (lv_sub hl [0, 1] rfl)
  · have h := ip (c_26) h
    refine lv_aload_n hx hb dX12_signed_34 rfl (lv_at hl 0 rfl) ?_
    refine lv_iconst (v := 4) hx hb dX12_signed_35 (by decide) ?_
    obtain ⟨r_28, u_27, h_u_27, h⟩ := bn_of h
    refine kc_is X hS h_u_27 (Nat.le_trans (Nat.le_of_ble_eq_true rfl) hF) (Nat.le_trans (Nat.le_of_ble_eq_true rfl) hL) hl.1 (Nat.le_of_ble_eq_true rfl) dX12_signed_36 (fun H locs hS => ?_)
    refine lv_if_eq (tgt := 46) hx hb dX12_signed_39 (by decide) (fun c_29 => ?_) (fun c_29 => ?_)
    · have h := ip (c_29) h
      refine lv_iconst (v := 0) hx hb dX12_signed_46 (by decide) ?_
      exact b_signed_47 X hE hF hL hrec hFd hLd h hS (lv_sub hl [0, 1] rfl)
    · have h := im (c_29) h
      exact b_signed_42 X hE hF hL hrec hFd hLd h hS (lv_sub hl [0, 1] rfl)
def F_signed (N : Nat) (ro : Nat → Int32 → Int32 → RSt → Option (Int32 × RSt)) (l1 : Int32) (u : RSt) : Option (Int32 × RSt) := B_signed_0 N ro l1 u
set_option maxHeartbeats 4000000 in
theorem k_signed (l : Launch) (D : va_G) (kA : Nat → ClassId) (V Z : Nat → Nat) (N : Nat) {d : Nat} (ro : Nat → Int32 → Int32 → RSt → Option (Int32 × RSt)) (hrec : RecOK_E l D kA V Z d ro) (l1 : Int32) (u : RSt) (sz : Nat) {r : Int32} {w : RSt} (h : F_signed N ro l1 u = some (r, w)) : Met l yX12_signed (Cond.code yX12_signed cX12_signed 6 (some .int) :: GW) { frames := d + 1 + 12, cells := 0, slots := 0, locals := 60 * (d + 1) + 500 } (rPc D kA V Z [.int l1] u sz) (rQi D kA Z u sz r w) 0 0 (va_A (RW kA Z u) sz) := by
  refine Met.ofW (cc := cX12_signed) (maxL := 6) (ret := (some .int)) (by decide) rfl ?_
  intro p e s m args below meth c s₁ Bd hml hv
  obtain ⟨rfl, hsz, hP, hK, hD0, hE⟩ := hv
  have hts := atoms_spec (ws := Cond.code yX12_signed cX12_signed 6 (some .int) :: GW) Bd.pre
  have hl := lv_entry (.ref (Z 200) :: [.int l1]) (n := 6) (Nat.le_of_ble_eq_true rfl)
  rw [lg_entry_eq]
  generalize (lg_sl (.ref (Z 200) :: [.int l1]) ++ List.replicate (6 - (lg_sl (.ref (Z 200) :: [.int l1])).length) Slot.unset).toArray = ls at hl ⊢
  have hl : lv_has ls 6 [(0, .ref (Z 200)), (1, .int l1)] := hl
  subst hsz
  have X : RC p s m (.ref (Z 200) :: [.int l1]).toArray c cX12_signed 6 (Cond.code yX12_signed cX12_signed 6 (some .int)) D kA V (va_A (RW kA Z u) s.heap.size) := ⟨⟨Bd.exec, Bd.bytes, hml, findClass_of_methodNamed Bd.named, hts⟩, hK, hE, fun q h => Or.inr h⟩
  exact b_signed_0 X (rend_i (cy := cX12_signed) X Bd.returns Bd.notSynchronized) (Nat.le_trans (Nat.le_of_ble_eq_true rfl) (Nat.le_add_left 12 _)) (Nat.le_trans (Nat.le_of_ble_eq_true rfl) (Nat.le_add_left 500 _)) hrec (Nat.le_refl _) (Nat.le_refl _) h ⟨hP, hD0.self, va_S.rf⟩ (lv_sub hl [0, 1] rfl)
def B_cast_0 (N : Nat) (ro : Nat → Int32 → Int32 → RSt → Option (Int32 × RSt)) (u : RSt) : Option (Int32 × RSt) := bn (F_opens N u) fun _ u_1 => rd (u_1.2.2.1 3) 1502 (u_1.1 65) fun v_2 => bn (F_cost N v_2 u_1) fun _ u_4 => pu (sI u_4 65 ((u_4.1 65) + 1)) fun u_5 => bn (F_kind N u_5) fun r_7 u_6 => bn (F_take N 224 u_6) fun _ u_8 => bn (ro 2 0 0 u_8) fun r_10 u_9 => bn (F_emit N 25 r_7 0 u_9) fun r_12 u_11 => pu (sI u_11 66 ((u_11.1 66) - 1)) fun u_13 => pu (sI u_13 78 0) fun u_14 => some (r_7, u_14)
set_option maxHeartbeats 4000000 in
theorem b_cast_0 {r : Int32} {ro : Nat → Int32 → Int32 → RSt → Option (Int32 × RSt)} (X : RC p s m args c cX12_cast 3 (Cond.code yX12_cast cX12_cast 3 (some .int)) D kA V A) (hE : REi p l e R s m args below meth c cX12_cast D kA Z A Q r w) (hF : 3 ≤ R.frames) (hL : 63 ≤ R.locals) (hrec : RecOK_E l D kA V Z d ro) (hFd : d + 1 + 12 ≤ R.frames) (hLd : 60 * (d + 1) + 500 ≤ R.locals)  {u : RSt} (h : B_cast_0 N ro u = some (r, w)) (hS : RS D kA Z A s u H locs) (hl : lv_has ls 3 [(0, .ref (Z 200))]) : W p l e R s m args below meth c H locs 0 0 Q (F0 m 0 ls []) := by
  obtain ⟨⟨hx, hb, hml, hown, hts⟩, hK, hEV, hA⟩ := id X
  have hG : ∀ w ∈ GW, w.before args s = true := fun w h => hts w (List.mem_cons_of_mem _ h)
  unfold B_cast_0 at h
  refine lv_aload_n hx hb dX12_cast_0 rfl (lv_at hl 0 rfl) ?_
  obtain ⟨r_u_1, u_1, h_u_1, h⟩ := bn_of h
  refine kc_opens X hS h_u_1 (Nat.le_trans (Nat.le_of_ble_eq_true rfl) hF) (Nat.le_trans (Nat.le_of_ble_eq_true rfl) hL) hl.1 (Nat.le_of_ble_eq_true rfl) dX12_cast_1 (fun H locs hS => ?_)
  refine lv_aload_n hx hb dX12_cast_4 rfl (lv_at hl 0 rfl) ?_
  refine lv_aload_n hx hb dX12_cast_5 rfl (lv_at hl 0 rfl) ?_
  refine rg_3 X hS dX12_cast_6 ?_
  refine lv_aload_n hx hb dX12_cast_9 rfl (lv_at hl 0 rfl) ?_
  refine rg_65 X hS dX12_cast_10 ?_
  obtain ⟨v_2, e_v_2, i_3, h⟩ := rd_of h
  refine ra_3 X hS i_3 e_v_2 dX12_cast_13 ?_
  obtain ⟨r_u_4, u_4, h_u_4, h⟩ := bn_of h
  refine kc_cost X hS h_u_4 (Nat.le_trans (Nat.le_of_ble_eq_true rfl) hF) (Nat.le_trans (Nat.le_of_ble_eq_true rfl) hL) hl.1 (Nat.le_of_ble_eq_true rfl) dX12_cast_14 (fun H locs hS => ?_)
  refine lv_aload_n hx hb dX12_cast_17 rfl (lv_at hl 0 rfl) ?_
  refine lv_dup hx hb dX12_cast_18 rfl ?_
  refine rg_65 X hS dX12_cast_19 ?_
  refine lv_iconst (v := 1) hx hb dX12_cast_22 (by decide) ?_
  refine lv_iadd hx hb dX12_cast_23 ?_
  obtain ⟨u_5, e_u_5, h⟩ := pu_of h
  refine rp_65 X hS e_u_5 dX12_cast_24 (fun H locs hS => ?_)
  refine lv_aload_n hx hb dX12_cast_27 rfl (lv_at hl 0 rfl) ?_
  obtain ⟨r_7, u_6, h_u_6, h⟩ := bn_of h
  refine kc_kind X hS h_u_6 (Nat.le_trans (Nat.le_of_ble_eq_true rfl) hF) (Nat.le_trans (Nat.le_of_ble_eq_true rfl) hL) hl.1 (Nat.le_of_ble_eq_true rfl) dX12_cast_28 (fun H locs hS => ?_)
  refine lv_istore_n (lv' := [(1, .int r_7), (0, .ref (Z 200))]) hx hb dX12_cast_31 rfl hl (by decide) rfl (fun ls hl => ?_)
  refine lv_aload_n hx hb dX12_cast_32 rfl (lv_at hl 1 rfl) ?_
  refine lv_sipush (v := 224) hx hb dX12_cast_33 (by decide) ?_
  obtain ⟨r_u_8, u_8, h_u_8, h⟩ := bn_of h
  refine kc_take X hS h_u_8 (Nat.le_trans (Nat.le_of_ble_eq_true rfl) hF) (Nat.le_trans (Nat.le_of_ble_eq_true rfl) hL) hl.1 (Nat.le_of_ble_eq_true rfl) dX12_cast_36 (fun H locs hS => ?_)
  refine lv_aload_n hx hb dX12_cast_39 rfl (lv_at hl 1 rfl) ?_
  obtain ⟨r_10, u_9, h_u_9, h⟩ := bn_of h
  refine kc_operand X hrec hS h_u_9 hFd hLd hl.1 (Nat.le_of_ble_eq_true rfl) dX12_cast_40 (fun H locs hS => ?_)
  refine lv_istore_n (lv' := [(2, .int r_10), (1, .int r_7), (0, .ref (Z 200))]) hx hb dX12_cast_43 rfl hl (by decide) rfl (fun ls hl => ?_)
  refine lv_aload_n hx hb dX12_cast_44 rfl (lv_at hl 2 rfl) ?_
  refine lv_bipush (v := 25) hx hb dX12_cast_45 (by decide) ?_
  refine lv_iload_n hx hb dX12_cast_47 rfl (lv_at hl 1 rfl) ?_
  refine lv_iconst (v := 0) hx hb dX12_cast_48 (by decide) ?_
  obtain ⟨r_12, u_11, h_u_11, h⟩ := bn_of h
  refine kc_emit X hS h_u_11 (Nat.le_trans (Nat.le_of_ble_eq_true rfl) hF) (Nat.le_trans (Nat.le_of_ble_eq_true rfl) hL) hl.1 (Nat.le_of_ble_eq_true rfl) dX12_cast_49 (fun H locs hS => ?_)
  refine lv_istore_n (lv' := [(2, .int r_12), (1, .int r_7), (0, .ref (Z 200))]) hx hb dX12_cast_52 rfl hl (by decide) rfl (fun ls hl => ?_)
  refine lv_aload_n hx hb dX12_cast_53 rfl (lv_at hl 2 rfl) ?_
  refine lv_dup hx hb dX12_cast_54 rfl ?_
  refine rg_66 X hS dX12_cast_55 ?_
  refine lv_iconst (v := 1) hx hb dX12_cast_58 (by decide) ?_
  refine lv_isub hx hb dX12_cast_59 ?_
  obtain ⟨u_13, e_u_13, h⟩ := pu_of h
  refine rp_66 X hS e_u_13 dX12_cast_60 (fun H locs hS => ?_)
  refine lv_aload_n hx hb dX12_cast_63 rfl (lv_at hl 2 rfl) ?_
  refine lv_iconst (v := 0) hx hb dX12_cast_64 (by decide) ?_
  obtain ⟨u_14, e_u_14, h⟩ := pu_of h
  refine rp_78 X hS e_u_14 dX12_cast_65 (fun H locs hS => ?_)
  refine lv_iload_n hx hb dX12_cast_68 rfl (lv_at hl 1 rfl) ?_
  obtain ⟨rfl, rfl⟩ := so h
  exact hE _ _ _ _ hS dX12_cast_69
def F_cast (N : Nat) (ro : Nat → Int32 → Int32 → RSt → Option (Int32 × RSt)) (u : RSt) : Option (Int32 × RSt) := B_cast_0 N ro u
set_option maxHeartbeats 4000000 in
theorem k_cast (l : Launch) (D : va_G) (kA : Nat → ClassId) (V Z : Nat → Nat) (N : Nat) {d : Nat} (ro : Nat → Int32 → Int32 → RSt → Option (Int32 × RSt)) (hrec : RecOK_E l D kA V Z d ro) (u : RSt) (sz : Nat) {r : Int32} {w : RSt} (h : F_cast N ro u = some (r, w)) : Met l yX12_cast (Cond.code yX12_cast cX12_cast 3 (some .int) :: GW) { frames := d + 1 + 12, cells := 0, slots := 0, locals := 60 * (d + 1) + 500 } (rPc D kA V Z [] u sz) (rQi D kA Z u sz r w) 0 0 (va_A (RW kA Z u) sz) := by
  refine Met.ofW (cc := cX12_cast) (maxL := 3) (ret := (some .int)) (by decide) rfl ?_
  intro p e s m args below meth c s₁ Bd hml hv
  obtain ⟨rfl, hsz, hP, hK, hD0, hE⟩ := hv
  have hts := atoms_spec (ws := Cond.code yX12_cast cX12_cast 3 (some .int) :: GW) Bd.pre
  have hl := lv_entry (.ref (Z 200) :: []) (n := 3) (Nat.le_of_ble_eq_true rfl)
  rw [lg_entry_eq]
  generalize (lg_sl (.ref (Z 200) :: []) ++ List.replicate (3 - (lg_sl (.ref (Z 200) :: [])).length) Slot.unset).toArray = ls at hl ⊢
  have hl : lv_has ls 3 [(0, .ref (Z 200))] := hl
  subst hsz
  have X : RC p s m (.ref (Z 200) :: []).toArray c cX12_cast 3 (Cond.code yX12_cast cX12_cast 3 (some .int)) D kA V (va_A (RW kA Z u) s.heap.size) := ⟨⟨Bd.exec, Bd.bytes, hml, findClass_of_methodNamed Bd.named, hts⟩, hK, hE, fun q h => Or.inr h⟩
  exact b_cast_0 X (rend_i (cy := cX12_cast) X Bd.returns Bd.notSynchronized) (Nat.le_trans (Nat.le_of_ble_eq_true rfl) (Nat.le_add_left 12 _)) (Nat.le_trans (Nat.le_of_ble_eq_true rfl) (Nat.le_add_left 500 _)) hrec (Nat.le_refl _) (Nat.le_refl _) h ⟨hP, hD0.self, va_S.rf⟩ (lv_sub hl [0] rfl)
def B_call_222 (N : Nat) (ro : Nat → Int32 → Int32 → RSt → Option (Int32 × RSt)) (R_123 : Int32 × Int32 × Int32 × Int32 × Int32 × Int32 × Int32 × Int32 × RSt → Option (Int32 × RSt)) (l1 : Int32) (l2 : Int32) (l3 : Int32) (l4 : Int32) (l5 : Int32) (l6 : Int32) (l7 : Int32) (u : RSt) : Option (Int32 × RSt) := bn (F_has N 230 u) fun r_2 u_1 => R_123 (l1, l2, l3, l4, (l5 + 1), l6, l7, r_2, u_1)
set_option maxHeartbeats 4000000 in
theorem b_call_222 {r : Int32} {ro : Nat → Int32 → Int32 → RSt → Option (Int32 × RSt)} (X : RC p s m args c cX12_call 11 (Cond.code yX12_call cX12_call 11 (some .int)) D kA V A) (hE : REi p l e R s m args below meth c cX12_call D kA Z A Q r w) (hF : 4 ≤ R.frames) (hL : 84 ≤ R.locals) (hrec : RecOK_E l D kA V Z d ro) (hFd : d + 1 + 12 ≤ R.frames) (hLd : 60 * (d + 1) + 500 ≤ R.locals) {R_123 : Int32 × Int32 × Int32 × Int32 × Int32 × Int32 × Int32 × Int32 × RSt → Option (Int32 × RSt)} {l1 : Int32} {l2 : Int32} {l3 : Int32} {l4 : Int32} {l5 : Int32} {l6 : Int32} {l7 : Int32} (hR_123 : ∀ (l1 : Int32) (l2 : Int32) (l3 : Int32) (l4 : Int32) (l5 : Int32) (l6 : Int32) (l7 : Int32) (l8 : Int32) (u : RSt), R_123 (l1, l2, l3, l4, l5, l6, l7, l8, u) = some (r, w) → ∀ (H : Heap) (locs : List Loc) (ls : Array Slot), RS D kA Z A s u H locs → lv_has ls 11 [(0, .ref (Z 200)), (1, .int l1), (2, .int l2), (3, .int l3), (4, .int l4), (5, .int l5), (6, .int l6), (7, .int l7), (8, .int l8)] → W p l e R s m args below meth c H locs 0 0 Q (F0 m 123 ls [])) {u : RSt} (h : B_call_222 N ro R_123 l1 l2 l3 l4 l5 l6 l7 u = some (r, w)) (hS : RS D kA Z A s u H locs) (hl : lv_has ls 11 [(0, .ref (Z 200)), (1, .int l1), (2, .int l2), (3, .int l3), (4, .int l4), (5, .int l5), (6, .int l6), (7, .int l7)]) : W p l e R s m args below meth c H locs 0 0 Q (F0 m 222 ls []) := by
  obtain ⟨⟨hx, hb, hml, hown, hts⟩, hK, hEV, hA⟩ := id X
  have hG : ∀ w ∈ GW, w.before args s = true := fun w h => hts w (List.mem_cons_of_mem _ h)
  unfold B_call_222 at h
  refine lv_iinc (v := l5 + 1) (lv' := [(5, .int (l5 + 1)), (0, .ref (Z 200)), (1, .int l1), (2, .int l2), (3, .int l3), (4, .int l4), (6, .int l6), (7, .int l7)]) hx hb dX12_call_222 hl (k := 5) rfl rfl (by decide) rfl (fun ls hl => ?_)
  refine lv_aload_n hx hb dX12_call_225 rfl (lv_at hl 1 rfl) ?_
  refine lv_sipush (v := 230) hx hb dX12_call_226 (by decide) ?_
  obtain ⟨r_2, u_1, h_u_1, h⟩ := bn_of h
  refine kc_has X hS h_u_1 (Nat.le_trans (Nat.le_of_ble_eq_true rfl) hF) (Nat.le_trans (Nat.le_of_ble_eq_true rfl) hL) hl.1 (Nat.le_of_ble_eq_true rfl) dX12_call_229 (fun H locs hS => ?_)
  refine lv_istore (lv' := [(8, .int r_2), (5, .int (l5 + 1)), (0, .ref (Z 200)), (1, .int l1), (2, .int l2), (3, .int l3), (4, .int l4), (6, .int l6), (7, .int l7)]) hx hb dX12_call_232 hl (by decide) rfl (fun ls hl => ?_)
  refine lv_goto (tgt := 123) hx hb dX12_call_234 (by decide) ?_
  exact hR_123 _ _ _ _ _ _ _ _ _ h _ _ _ hS (lv_sub hl [2, 3, 4, 5, 6, 1, 7, 8, 0] rfl)
def B_call_206 (N : Nat) (ro : Nat → Int32 → Int32 → RSt → Option (Int32 × RSt)) (R_123 : Int32 × Int32 × Int32 × Int32 × Int32 × Int32 × Int32 × Int32 × RSt → Option (Int32 × RSt)) (l1 : Int32) (l2 : Int32) (l3 : Int32) (l4 : Int32) (l5 : Int32) (l6 : Int32) (l7 : Int32) (l10 : Int32) (u : RSt) : Option (Int32 × RSt) := if l5 = (0 : Int32) then (B_call_222 N ro R_123 l1 l2 l3 l4 l5 l10 l7 u) else (B_call_222 N ro R_123 l1 l2 l3 l4 l5 l6 l10 u)
set_option maxHeartbeats 4000000 in
theorem b_call_206 {r : Int32} {ro : Nat → Int32 → Int32 → RSt → Option (Int32 × RSt)} (X : RC p s m args c cX12_call 11 (Cond.code yX12_call cX12_call 11 (some .int)) D kA V A) (hE : REi p l e R s m args below meth c cX12_call D kA Z A Q r w) (hF : 4 ≤ R.frames) (hL : 84 ≤ R.locals) (hrec : RecOK_E l D kA V Z d ro) (hFd : d + 1 + 12 ≤ R.frames) (hLd : 60 * (d + 1) + 500 ≤ R.locals) {R_123 : Int32 × Int32 × Int32 × Int32 × Int32 × Int32 × Int32 × Int32 × RSt → Option (Int32 × RSt)} {l1 : Int32} {l2 : Int32} {l3 : Int32} {l4 : Int32} {l5 : Int32} {l6 : Int32} {l7 : Int32} {l10 : Int32} (hR_123 : ∀ (l1 : Int32) (l2 : Int32) (l3 : Int32) (l4 : Int32) (l5 : Int32) (l6 : Int32) (l7 : Int32) (l8 : Int32) (u : RSt), R_123 (l1, l2, l3, l4, l5, l6, l7, l8, u) = some (r, w) → ∀ (H : Heap) (locs : List Loc) (ls : Array Slot), RS D kA Z A s u H locs → lv_has ls 11 [(0, .ref (Z 200)), (1, .int l1), (2, .int l2), (3, .int l3), (4, .int l4), (5, .int l5), (6, .int l6), (7, .int l7), (8, .int l8)] → W p l e R s m args below meth c H locs 0 0 Q (F0 m 123 ls [])) {u : RSt} (h : B_call_206 N ro R_123 l1 l2 l3 l4 l5 l6 l7 l10 u = some (r, w)) (hS : RS D kA Z A s u H locs) (hl : lv_has ls 11 [(0, .ref (Z 200)), (1, .int l1), (2, .int l2), (3, .int l3), (4, .int l4), (5, .int l5), (6, .int l6), (7, .int l7), (10, .int l10)]) : W p l e R s m args below meth c H locs 0 0 Q (F0 m 206 ls []) := by
  obtain ⟨⟨hx, hb, hml, hown, hts⟩, hK, hEV, hA⟩ := id X
  have hG : ∀ w ∈ GW, w.before args s = true := fun w h => hts w (List.mem_cons_of_mem _ h)
  unfold B_call_206 at h
  refine lv_iload hx hb dX12_call_206 (lv_at hl 5 rfl) ?_
  refine lv_if_ne (tgt := 218) hx hb dX12_call_208 (by decide) (fun c_3 => ?_) (fun c_3 => ?_)
  · have h := im (c_3) h
    refine lv_iload hx hb dX12_call_218 (lv_at hl 8 rfl) ?_
    refine lv_istore (lv' := [(7, .int l10), (0, .ref (Z 200)), (1, .int l1), (2, .int l2), (3, .int l3), (4, .int l4), (5, .int l5), (6, .int l6), (10, .int l10)]) hx hb dX12_call_220 hl (by decide) rfl (fun ls hl => ?_)
    exact b_call_222 X hE hF hL hrec hFd hLd hR_123 h hS (lv_sub hl [1, 2, 3, 4, 5, 6, 7, 0] rfl)
  · have h := ip (c_3) h
    refine lv_iload hx hb dX12_call_211 (lv_at hl 8 rfl) ?_
    refine lv_istore (lv' := [(6, .int l10), (0, .ref (Z 200)), (1, .int l1), (2, .int l2), (3, .int l3), (4, .int l4), (5, .int l5), (7, .int l7), (10, .int l10)]) hx hb dX12_call_213 hl (by decide) rfl (fun ls hl => ?_)
    refine lv_goto (tgt := 222) hx hb dX12_call_215 (by decide) ?_
    exact b_call_222 X hE hF hL hrec hFd hLd hR_123 h hS (lv_sub hl [1, 2, 3, 4, 5, 6, 0, 7] rfl)
def B_call_288 (N : Nat) (ro : Nat → Int32 → Int32 → RSt → Option (Int32 × RSt)) (l1 : Int32) (l4 : Int32) (s1 : Int32) (u : RSt) : Option (Int32 × RSt) := rd (u.2.2.1 3) 1502 l1 fun v_4 => bn (F_wrong N s1 4 v_4 u) fun _ u_6 => rd (u_6.2.2.1 3) 1502 l1 fun v_7 => bn (F_emit N 31 l4 v_7 u_6) fun r_10 u_9 => rd (u_9.2.2.1 33) 48 l4 fun v_11 => some (v_11, u_9)
set_option maxHeartbeats 4000000 in
theorem b_call_288 {r : Int32} {ro : Nat → Int32 → Int32 → RSt → Option (Int32 × RSt)} (X : RC p s m args c cX12_call 11 (Cond.code yX12_call cX12_call 11 (some .int)) D kA V A) (hE : REi p l e R s m args below meth c cX12_call D kA Z A Q r w) (hF : 4 ≤ R.frames) (hL : 84 ≤ R.locals) (hrec : RecOK_E l D kA V Z d ro) (hFd : d + 1 + 12 ≤ R.frames) (hLd : 60 * (d + 1) + 500 ≤ R.locals) {l1 : Int32} {l4 : Int32} {s1 : Int32}  {u : RSt} (h : B_call_288 N ro l1 l4 s1 u = some (r, w)) (hS : RS D kA Z A s u H locs) (hl : lv_has ls 11 [(0, .ref (Z 200)), (1, .int l1), (4, .int l4)]) : W p l e R s m args below meth c H locs 0 0 Q (F0 m 288 ls [.int s1, .ref (Z 200)]) := by
  obtain ⟨⟨hx, hb, hml, hown, hts⟩, hK, hEV, hA⟩ := id X
  have hG : ∀ w ∈ GW, w.before args s = true := fun w h => hts w (List.mem_cons_of_mem _ h)
  unfold B_call_288 at h
  refine lv_iconst (v := 4) hx hb dX12_call_288 (by decide) ?_
  refine lv_aload_n hx hb dX12_call_289 rfl (lv_at hl 0 rfl) ?_
  refine rg_3 X hS dX12_call_290 ?_
  refine lv_iload_n hx hb dX12_call_293 rfl (lv_at hl 1 rfl) ?_
  obtain ⟨v_4, e_v_4, i_5, h⟩ := rd_of h
  refine ra_3 X hS i_5 e_v_4 dX12_call_294 ?_
  obtain ⟨r_u_6, u_6, h_u_6, h⟩ := bn_of h
  refine kc_wrong X hS h_u_6 (Nat.le_trans (Nat.le_of_ble_eq_true rfl) hF) (Nat.le_trans (Nat.le_of_ble_eq_true rfl) hL) hl.1 (Nat.le_of_ble_eq_true rfl) dX12_call_295 (fun H locs hS => ?_)
  refine lv_aload_n hx hb dX12_call_298 rfl (lv_at hl 0 rfl) ?_
  refine lv_bipush (v := 31) hx hb dX12_call_299 (by decide) ?_
  refine lv_iload hx hb dX12_call_301 (lv_at hl 2 rfl) ?_
  refine lv_aload_n hx hb dX12_call_303 rfl (lv_at hl 0 rfl) ?_
  refine rg_3 X hS dX12_call_304 ?_
  refine lv_iload_n hx hb dX12_call_307 rfl (lv_at hl 1 rfl) ?_
  obtain ⟨v_7, e_v_7, i_8, h⟩ := rd_of h
  refine ra_3 X hS i_8 e_v_7 dX12_call_308 ?_
  obtain ⟨r_10, u_9, h_u_9, h⟩ := bn_of h
  refine kc_emit X hS h_u_9 (Nat.le_trans (Nat.le_of_ble_eq_true rfl) hF) (Nat.le_trans (Nat.le_of_ble_eq_true rfl) hL) hl.1 (Nat.le_of_ble_eq_true rfl) dX12_call_309 (fun H locs hS => ?_)
  refine lv_istore (lv' := [(9, .int r_10), (0, .ref (Z 200)), (1, .int l1), (4, .int l4)]) hx hb dX12_call_312 hl (by decide) rfl (fun ls hl => ?_)
  refine lv_aload_n hx hb dX12_call_314 rfl (lv_at hl 1 rfl) ?_
  refine rg_33 X hS dX12_call_315 ?_
  refine lv_iload hx hb dX12_call_318 (lv_at hl 3 rfl) ?_
  obtain ⟨v_11, e_v_11, i_12, h⟩ := rd_of h
  refine ra_33 X hS i_12 e_v_11 dX12_call_320 ?_
  obtain ⟨rfl, rfl⟩ := so h
  exact hE _ _ _ _ hS dX12_call_321
def B_call_400 (N : Nat) (ro : Nat → Int32 → Int32 → RSt → Option (Int32 × RSt)) (l3 : Int32) (l9 : Int32) (s1 : Int32) (s2 : Int32) (s3 : Int32) (u : RSt) : Option (Int32 × RSt) := bn (F_emit N s1 s2 s3 u) fun r_14 u_13 => if l9 = (0 : Int32) then (some (3, u_13)) else (if (6 : Int32) ≤ l3 then (some (3, u_13)) else (some (4, u_13)))
set_option maxHeartbeats 4000000 in
theorem b_call_400 {r : Int32} {ro : Nat → Int32 → Int32 → RSt → Option (Int32 × RSt)} (X : RC p s m args c cX12_call 11 (Cond.code yX12_call cX12_call 11 (some .int)) D kA V A) (hE : REi p l e R s m args below meth c cX12_call D kA Z A Q r w) (hF : 4 ≤ R.frames) (hL : 84 ≤ R.locals) (hrec : RecOK_E l D kA V Z d ro) (hFd : d + 1 + 12 ≤ R.frames) (hLd : 60 * (d + 1) + 500 ≤ R.locals) {l3 : Int32} {l9 : Int32} {s1 : Int32} {s2 : Int32} {s3 : Int32}  {u : RSt} (h : B_call_400 N ro l3 l9 s1 s2 s3 u = some (r, w)) (hS : RS D kA Z A s u H locs) (hl : lv_has ls 11 [(3, .int l3), (9, .int l9)]) : W p l e R s m args below meth c H locs 0 0 Q (F0 m 400 ls [.int s3, .int s2, .int s1, .ref (Z 200)]) := by
  obtain ⟨⟨hx, hb, hml, hown, hts⟩, hK, hEV, hA⟩ := id X
  have hG : ∀ w ∈ GW, w.before args s = true := fun w h => hts w (List.mem_cons_of_mem _ h)
  unfold B_call_400 at h
  obtain ⟨r_14, u_13, h_u_13, h⟩ := bn_of h
  refine kc_emit X hS h_u_13 (Nat.le_trans (Nat.le_of_ble_eq_true rfl) hF) (Nat.le_trans (Nat.le_of_ble_eq_true rfl) hL) hl.1 (Nat.le_of_ble_eq_true rfl) dX12_call_400 (fun H locs hS => ?_)
  refine lv_istore (lv' := [(10, .int r_14), (3, .int l3), (9, .int l9)]) hx hb dX12_call_403 hl (by decide) rfl (fun ls hl => ?_)
  refine lv_iload hx hb dX12_call_405 (lv_at hl 2 rfl) ?_
  refine lv_if_eq (tgt := 420) hx hb dX12_call_407 (by decide) (fun c_15 => ?_) (fun c_15 => ?_)
  · have h := ip (c_15) h
    refine lv_iconst (v := 3) hx hb dX12_call_420 (by decide) ?_
    obtain ⟨rfl, rfl⟩ := so h
    exact hE _ _ _ _ hS dX12_call_421
  · have h := im (c_15) h
    refine lv_iload_n hx hb dX12_call_410 rfl (lv_at hl 1 rfl) ?_
    refine lv_bipush (v := 6) hx hb dX12_call_411 (by decide) ?_
    refine lv_icmp_ge (tgt := 420) hx hb dX12_call_413 (by decide) (fun c_16 => ?_) (fun c_16 => ?_)
    · have h := ip (c_16) h
      refine lv_iconst (v := 3) hx hb dX12_call_420 (by decide) ?_
      obtain ⟨rfl, rfl⟩ := so h
      exact hE _ _ _ _ hS dX12_call_421
    · have h := im (c_16) h
      refine lv_iconst (v := 4) hx hb dX12_call_416 (by decide) ?_
      refine lv_goto (tgt := 421) hx hb dX12_call_417 (by decide) ?_
      obtain ⟨rfl, rfl⟩ := so h
      exact hE _ _ _ _ hS dX12_call_421
def B_call_384 (N : Nat) (ro : Nat → Int32 → Int32 → RSt → Option (Int32 × RSt)) (l3 : Int32) (s0 : Int32) (u : RSt) : Option (Int32 × RSt) := if s0 = (0 : Int32) then (B_call_400 N ro l3 s0 30 l3 0 u) else (B_call_400 N ro l3 s0 30 l3 1 u)
set_option maxHeartbeats 4000000 in
theorem b_call_384 {r : Int32} {ro : Nat → Int32 → Int32 → RSt → Option (Int32 × RSt)} (X : RC p s m args c cX12_call 11 (Cond.code yX12_call cX12_call 11 (some .int)) D kA V A) (hE : REi p l e R s m args below meth c cX12_call D kA Z A Q r w) (hF : 4 ≤ R.frames) (hL : 84 ≤ R.locals) (hrec : RecOK_E l D kA V Z d ro) (hFd : d + 1 + 12 ≤ R.frames) (hLd : 60 * (d + 1) + 500 ≤ R.locals) {l3 : Int32} {s0 : Int32}  {u : RSt} (h : B_call_384 N ro l3 s0 u = some (r, w)) (hS : RS D kA Z A s u H locs) (hl : lv_has ls 11 [(0, .ref (Z 200)), (3, .int l3)]) : W p l e R s m args below meth c H locs 0 0 Q (F0 m 384 ls [.int s0]) := by
  obtain ⟨⟨hx, hb, hml, hown, hts⟩, hK, hEV, hA⟩ := id X
  have hG : ∀ w ∈ GW, w.before args s = true := fun w h => hts w (List.mem_cons_of_mem _ h)
  unfold B_call_384 at h
  refine lv_istore (lv' := [(9, .int s0), (0, .ref (Z 200)), (3, .int l3)]) hx hb dX12_call_384 hl (by decide) rfl (fun ls hl => ?_)
  refine lv_aload_n hx hb dX12_call_386 rfl (lv_at hl 1 rfl) ?_
  refine lv_bipush (v := 30) hx hb dX12_call_387 (by decide) ?_
  refine lv_iload_n hx hb dX12_call_389 rfl (lv_at hl 2 rfl) ?_
  refine lv_iload hx hb dX12_call_390 (lv_at hl 0 rfl) ?_
  refine lv_if_eq (tgt := 399) hx hb dX12_call_392 (by decide) (fun c_17 => ?_) (fun c_17 => ?_)
  · have h := ip (c_17) h
    refine lv_iconst (v := 0) hx hb dX12_call_399 (by decide) ?_
    exact b_call_400 X hE hF hL hrec hFd hLd h hS (lv_sub hl [2, 0] rfl)
  · have h := im (c_17) h
    refine lv_iconst (v := 1) hx hb dX12_call_395 (by decide) ?_
    refine lv_goto (tgt := 400) hx hb dX12_call_396 (by decide) ?_
    exact b_call_400 X hE hF hL hrec hFd hLd h hS (lv_sub hl [2, 0] rfl)
def B_call_379 (N : Nat) (ro : Nat → Int32 → Int32 → RSt → Option (Int32 × RSt)) (l3 : Int32) (u : RSt) : Option (Int32 × RSt) := B_call_384 N ro l3 1 u
set_option maxHeartbeats 4000000 in
theorem b_call_379 {r : Int32} {ro : Nat → Int32 → Int32 → RSt → Option (Int32 × RSt)} (X : RC p s m args c cX12_call 11 (Cond.code yX12_call cX12_call 11 (some .int)) D kA V A) (hE : REi p l e R s m args below meth c cX12_call D kA Z A Q r w) (hF : 4 ≤ R.frames) (hL : 84 ≤ R.locals) (hrec : RecOK_E l D kA V Z d ro) (hFd : d + 1 + 12 ≤ R.frames) (hLd : 60 * (d + 1) + 500 ≤ R.locals) {l3 : Int32}  {u : RSt} (h : B_call_379 N ro l3 u = some (r, w)) (hS : RS D kA Z A s u H locs) (hl : lv_has ls 11 [(0, .ref (Z 200)), (3, .int l3)]) : W p l e R s m args below meth c H locs 0 0 Q (F0 m 379 ls []) := by
  obtain ⟨⟨hx, hb, hml, hown, hts⟩, hK, hEV, hA⟩ := id X
  have hG : ∀ w ∈ GW, w.before args s = true := fun w h => hts w (List.mem_cons_of_mem _ h)
  unfold B_call_379 at h
  refine lv_iconst (v := 1) hx hb dX12_call_379 (by decide) ?_
  refine lv_goto (tgt := 384) hx hb dX12_call_380 (by decide) ?_
  exact b_call_384 X hE hF hL hrec hFd hLd h hS (lv_sub hl [0, 1] rfl)
def B_call_383 (N : Nat) (ro : Nat → Int32 → Int32 → RSt → Option (Int32 × RSt)) (l3 : Int32) (u : RSt) : Option (Int32 × RSt) := B_call_384 N ro l3 0 u
set_option maxHeartbeats 4000000 in
theorem b_call_383 {r : Int32} {ro : Nat → Int32 → Int32 → RSt → Option (Int32 × RSt)} (X : RC p s m args c cX12_call 11 (Cond.code yX12_call cX12_call 11 (some .int)) D kA V A) (hE : REi p l e R s m args below meth c cX12_call D kA Z A Q r w) (hF : 4 ≤ R.frames) (hL : 84 ≤ R.locals) (hrec : RecOK_E l D kA V Z d ro) (hFd : d + 1 + 12 ≤ R.frames) (hLd : 60 * (d + 1) + 500 ≤ R.locals) {l3 : Int32}  {u : RSt} (h : B_call_383 N ro l3 u = some (r, w)) (hS : RS D kA Z A s u H locs) (hl : lv_has ls 11 [(0, .ref (Z 200)), (3, .int l3)]) : W p l e R s m args below meth c H locs 0 0 Q (F0 m 383 ls []) := by
  obtain ⟨⟨hx, hb, hml, hown, hts⟩, hK, hEV, hA⟩ := id X
  have hG : ∀ w ∈ GW, w.before args s = true := fun w h => hts w (List.mem_cons_of_mem _ h)
  unfold B_call_383 at h
  refine lv_iconst (v := 0) hx hb dX12_call_383 (by decide) ?_
  exact b_call_384 X hE hF hL hrec hFd hLd h hS (lv_sub hl [0, 1] rfl)
def B_call_373 (N : Nat) (ro : Nat → Int32 → Int32 → RSt → Option (Int32 × RSt)) (l3 : Int32) (l7 : Int32) (u : RSt) : Option (Int32 × RSt) := if l7 = (4 : Int32) then (B_call_379 N ro l3 u) else (B_call_383 N ro l3 u)
set_option maxHeartbeats 4000000 in
theorem b_call_373 {r : Int32} {ro : Nat → Int32 → Int32 → RSt → Option (Int32 × RSt)} (X : RC p s m args c cX12_call 11 (Cond.code yX12_call cX12_call 11 (some .int)) D kA V A) (hE : REi p l e R s m args below meth c cX12_call D kA Z A Q r w) (hF : 4 ≤ R.frames) (hL : 84 ≤ R.locals) (hrec : RecOK_E l D kA V Z d ro) (hFd : d + 1 + 12 ≤ R.frames) (hLd : 60 * (d + 1) + 500 ≤ R.locals) {l3 : Int32} {l7 : Int32}  {u : RSt} (h : B_call_373 N ro l3 l7 u = some (r, w)) (hS : RS D kA Z A s u H locs) (hl : lv_has ls 11 [(0, .ref (Z 200)), (3, .int l3), (7, .int l7)]) : W p l e R s m args below meth c H locs 0 0 Q (F0 m 373 ls []) := by
  obtain ⟨⟨hx, hb, hml, hown, hts⟩, hK, hEV, hA⟩ := id X
  have hG : ∀ w ∈ GW, w.before args s = true := fun w h => hts w (List.mem_cons_of_mem _ h)
  unfold B_call_373 at h
  refine lv_iload hx hb dX12_call_373 (lv_at hl 2 rfl) ?_
  refine lv_iconst (v := 4) hx hb dX12_call_375 (by decide) ?_
  refine lv_icmp_ne (tgt := 383) hx hb dX12_call_376 (by decide) (fun c_18 => ?_) (fun c_18 => ?_)
  · have h := im (c_18) h
    exact b_call_383 X hE hF hL hrec hFd hLd h hS (lv_sub hl [0, 1] rfl)
  · have h := ip (c_18) h
    exact b_call_379 X hE hF hL hrec hFd hLd h hS (lv_sub hl [0, 1] rfl)
def B_call_347 (N : Nat) (ro : Nat → Int32 → Int32 → RSt → Option (Int32 × RSt)) (l1 : Int32) (l3 : Int32) (l6 : Int32) (l7 : Int32) (s1 : Int32) (u : RSt) : Option (Int32 × RSt) := rd (u.2.2.1 3) 1502 l1 fun v_19 => bn (F_wrong N s1 4 v_19 u) fun _ u_21 => if l6 = (4 : Int32) then (B_call_379 N ro l3 u_21) else (if l3 = (1 : Int32) then (B_call_373 N ro l3 l7 u_21) else (if l3 = (2 : Int32) then (B_call_373 N ro l3 l7 u_21) else (B_call_383 N ro l3 u_21)))
set_option maxHeartbeats 4000000 in
theorem b_call_347 {r : Int32} {ro : Nat → Int32 → Int32 → RSt → Option (Int32 × RSt)} (X : RC p s m args c cX12_call 11 (Cond.code yX12_call cX12_call 11 (some .int)) D kA V A) (hE : REi p l e R s m args below meth c cX12_call D kA Z A Q r w) (hF : 4 ≤ R.frames) (hL : 84 ≤ R.locals) (hrec : RecOK_E l D kA V Z d ro) (hFd : d + 1 + 12 ≤ R.frames) (hLd : 60 * (d + 1) + 500 ≤ R.locals) {l1 : Int32} {l3 : Int32} {l6 : Int32} {l7 : Int32} {s1 : Int32}  {u : RSt} (h : B_call_347 N ro l1 l3 l6 l7 s1 u = some (r, w)) (hS : RS D kA Z A s u H locs) (hl : lv_has ls 11 [(0, .ref (Z 200)), (1, .int l1), (3, .int l3), (6, .int l6), (7, .int l7)]) : W p l e R s m args below meth c H locs 0 0 Q (F0 m 347 ls [.int s1, .ref (Z 200)]) := by
  obtain ⟨⟨hx, hb, hml, hown, hts⟩, hK, hEV, hA⟩ := id X
  have hG : ∀ w ∈ GW, w.before args s = true := fun w h => hts w (List.mem_cons_of_mem _ h)
  unfold B_call_347 at h
  refine lv_iconst (v := 4) hx hb dX12_call_347 (by decide) ?_
  refine lv_aload_n hx hb dX12_call_348 rfl (lv_at hl 0 rfl) ?_
  refine rg_3 X hS dX12_call_349 ?_
  refine lv_iload_n hx hb dX12_call_352 rfl (lv_at hl 1 rfl) ?_
  obtain ⟨v_19, e_v_19, i_20, h⟩ := rd_of h
  refine ra_3 X hS i_20 e_v_19 dX12_call_353 ?_
  obtain ⟨r_u_21, u_21, h_u_21, h⟩ := bn_of h
  refine kc_wrong X hS h_u_21 (Nat.le_trans (Nat.le_of_ble_eq_true rfl) hF) (Nat.le_trans (Nat.le_of_ble_eq_true rfl) hL) hl.1 (Nat.le_of_ble_eq_true rfl) dX12_call_354 (fun H locs hS => ?_)
  refine lv_iload hx hb dX12_call_357 (lv_at hl 3 rfl) ?_
  refine lv_iconst (v := 4) hx hb dX12_call_359 (by decide) ?_
  refine lv_icmp_eq (tgt := 379) hx hb dX12_call_360 (by decide) (fun c_22 => ?_) (fun c_22 => ?_)
  · have h := ip (c_22) h
    exact b_call_379 X hE hF hL hrec hFd hLd h hS (lv_sub hl [0, 2] rfl)
  · have h := im (c_22) h
    refine lv_iload_n hx hb dX12_call_363 rfl (lv_at hl 2 rfl) ?_
    refine lv_iconst (v := 1) hx hb dX12_call_364 (by decide) ?_
    refine lv_icmp_eq (tgt := 373) hx hb dX12_call_365 (by decide) (fun c_23 => ?_) (fun c_23 => ?_)
    · have h := ip (c_23) h
      exact b_call_373 X hE hF hL hrec hFd hLd h hS (lv_sub hl [0, 2, 4] rfl)
    · have h := im (c_23) h
      refine lv_iload_n hx hb dX12_call_368 rfl (lv_at hl 2 rfl) ?_
      refine lv_iconst (v := 2) hx hb dX12_call_369 (by decide) ?_
      refine lv_icmp_ne (tgt := 383) hx hb dX12_call_370 (by decide) (fun c_24 => ?_) (fun c_24 => ?_)
      · have h := im (c_24) h
        exact b_call_383 X hE hF hL hrec hFd hLd h hS (lv_sub hl [0, 2] rfl)
      · have h := ip (c_24) h
        exact b_call_373 X hE hF hL hrec hFd hLd h hS (lv_sub hl [0, 2, 4] rfl)
def B_call_339 (N : Nat) (ro : Nat → Int32 → Int32 → RSt → Option (Int32 × RSt)) (l1 : Int32) (l3 : Int32) (l6 : Int32) (l7 : Int32) (s1 : Int32) (s2 : Int32) (u : RSt) : Option (Int32 × RSt) := if s1 = s2 then (B_call_347 N ro l1 l3 l6 l7 0 u) else (B_call_347 N ro l1 l3 l6 l7 1 u)
set_option maxHeartbeats 4000000 in
theorem b_call_339 {r : Int32} {ro : Nat → Int32 → Int32 → RSt → Option (Int32 × RSt)} (X : RC p s m args c cX12_call 11 (Cond.code yX12_call cX12_call 11 (some .int)) D kA V A) (hE : REi p l e R s m args below meth c cX12_call D kA Z A Q r w) (hF : 4 ≤ R.frames) (hL : 84 ≤ R.locals) (hrec : RecOK_E l D kA V Z d ro) (hFd : d + 1 + 12 ≤ R.frames) (hLd : 60 * (d + 1) + 500 ≤ R.locals) {l1 : Int32} {l3 : Int32} {l6 : Int32} {l7 : Int32} {s1 : Int32} {s2 : Int32}  {u : RSt} (h : B_call_339 N ro l1 l3 l6 l7 s1 s2 u = some (r, w)) (hS : RS D kA Z A s u H locs) (hl : lv_has ls 11 [(0, .ref (Z 200)), (1, .int l1), (3, .int l3), (6, .int l6), (7, .int l7)]) : W p l e R s m args below meth c H locs 0 0 Q (F0 m 339 ls [.int s2, .int s1, .ref (Z 200)]) := by
  obtain ⟨⟨hx, hb, hml, hown, hts⟩, hK, hEV, hA⟩ := id X
  have hG : ∀ w ∈ GW, w.before args s = true := fun w h => hts w (List.mem_cons_of_mem _ h)
  unfold B_call_339 at h
  refine lv_icmp_eq (tgt := 346) hx hb dX12_call_339 (by decide) (fun c_25 => ?_) (fun c_25 => ?_)
  · have h := ip (c_25) h
    refine lv_iconst (v := 0) hx hb dX12_call_346 (by decide) ?_
    exact b_call_347 X hE hF hL hrec hFd hLd h hS (lv_sub hl [0, 1, 2, 3, 4] rfl)
  · have h := im (c_25) h
    refine lv_iconst (v := 1) hx hb dX12_call_342 (by decide) ?_
    refine lv_goto (tgt := 347) hx hb dX12_call_343 (by decide) ?_
    exact b_call_347 X hE hF hL hrec hFd hLd h hS (lv_sub hl [0, 1, 2, 3, 4] rfl)
def B_call_334 (N : Nat) (ro : Nat → Int32 → Int32 → RSt → Option (Int32 × RSt)) (l1 : Int32) (l3 : Int32) (l6 : Int32) (l7 : Int32) (s1 : Int32) (u : RSt) : Option (Int32 × RSt) := B_call_339 N ro l1 l3 l6 l7 s1 1 u
set_option maxHeartbeats 4000000 in
theorem b_call_334 {r : Int32} {ro : Nat → Int32 → Int32 → RSt → Option (Int32 × RSt)} (X : RC p s m args c cX12_call 11 (Cond.code yX12_call cX12_call 11 (some .int)) D kA V A) (hE : REi p l e R s m args below meth c cX12_call D kA Z A Q r w) (hF : 4 ≤ R.frames) (hL : 84 ≤ R.locals) (hrec : RecOK_E l D kA V Z d ro) (hFd : d + 1 + 12 ≤ R.frames) (hLd : 60 * (d + 1) + 500 ≤ R.locals) {l1 : Int32} {l3 : Int32} {l6 : Int32} {l7 : Int32} {s1 : Int32}  {u : RSt} (h : B_call_334 N ro l1 l3 l6 l7 s1 u = some (r, w)) (hS : RS D kA Z A s u H locs) (hl : lv_has ls 11 [(0, .ref (Z 200)), (1, .int l1), (3, .int l3), (6, .int l6), (7, .int l7)]) : W p l e R s m args below meth c H locs 0 0 Q (F0 m 334 ls [.int s1, .ref (Z 200)]) := by
  obtain ⟨⟨hx, hb, hml, hown, hts⟩, hK, hEV, hA⟩ := id X
  have hG : ∀ w ∈ GW, w.before args s = true := fun w h => hts w (List.mem_cons_of_mem _ h)
  unfold B_call_334 at h
  refine lv_iconst (v := 1) hx hb dX12_call_334 (by decide) ?_
  refine lv_goto (tgt := 339) hx hb dX12_call_335 (by decide) ?_
  exact b_call_339 X hE hF hL hrec hFd hLd h hS (lv_sub hl [0, 1, 2, 3, 4] rfl)
def B_call_123 (N : Nat) (ro : Nat → Int32 → Int32 → RSt → Option (Int32 × RSt)) (R_123 : Int32 × Int32 × Int32 × Int32 × Int32 × Int32 × Int32 × Int32 × RSt → Option (Int32 × RSt)) (l1 : Int32) (l2 : Int32) (l3 : Int32) (l4 : Int32) (l5 : Int32) (l6 : Int32) (l7 : Int32) (l8 : Int32) (u : RSt) : Option (Int32 × RSt) := if l8 = (0 : Int32) then (bn (F_ends N 224 u) fun _ u_27 => pu (sI u_27 78 0) fun u_28 => if (u_28.1 69) = (0 : Int32) then (some (3, u_28)) else (if (u_28.1 67) = (0 : Int32) then (if l2 = ((-1) : Int32) then (if l3 = (0 : Int32) then (B_call_334 N ro l1 l3 l6 l7 l5 u_28) else (if l3 ≤ (4 : Int32) then (B_call_339 N ro l1 l3 l6 l7 l5 2 u_28) else (B_call_334 N ro l1 l3 l6 l7 l5 u_28))) else (rd (u_28.2.2.1 30) 48 l4 fun v_34 => if l5 = v_34 then (B_call_288 N ro l1 l4 0 u_28) else (B_call_288 N ro l1 l4 1 u_28))) else (some (3, u_28)))) else (rd (u.2.2.1 3) 1502 (u.1 65) fun v_37 => bn (ro 0 0 0 u) fun r_40 u_39 => if (u_39.1 69) = (0 : Int32) then (B_call_206 N ro R_123 l1 l2 l3 l4 l5 l6 l7 r_40 u_39) else (if l2 = ((-1) : Int32) then (B_call_206 N ro R_123 l1 l2 l3 l4 l5 l6 l7 r_40 u_39) else (rd (u_39.2.2.1 30) 48 l4 fun v_43 => if v_43 ≤ l5 then (B_call_206 N ro R_123 l1 l2 l3 l4 l5 l6 l7 r_40 u_39) else (rd (u_39.2.2.1 28) 48 l4 fun v_46 => rd (u_39.2.2.1 20) 320 (((160 * (u_39.1 56)) + v_46) + l5) fun v_48 => bn (F_isTooWide N r_40 v_48 u_39) fun r_51 u_50 => bn (F_wrong N r_51 4 v_37 u_50) fun _ u_52 => B_call_206 N ro R_123 l1 l2 l3 l4 l5 l6 l7 r_40 u_52))))
set_option maxHeartbeats 4000000 in
theorem b_call_123 {r : Int32} {ro : Nat → Int32 → Int32 → RSt → Option (Int32 × RSt)} (X : RC p s m args c cX12_call 11 (Cond.code yX12_call cX12_call 11 (some .int)) D kA V A) (hE : REi p l e R s m args below meth c cX12_call D kA Z A Q r w) (hF : 4 ≤ R.frames) (hL : 84 ≤ R.locals) (hrec : RecOK_E l D kA V Z d ro) (hFd : d + 1 + 12 ≤ R.frames) (hLd : 60 * (d + 1) + 500 ≤ R.locals) {R_123 : Int32 × Int32 × Int32 × Int32 × Int32 × Int32 × Int32 × Int32 × RSt → Option (Int32 × RSt)} {l1 : Int32} {l2 : Int32} {l3 : Int32} {l4 : Int32} {l5 : Int32} {l6 : Int32} {l7 : Int32} {l8 : Int32} (hR_123 : ∀ (l1 : Int32) (l2 : Int32) (l3 : Int32) (l4 : Int32) (l5 : Int32) (l6 : Int32) (l7 : Int32) (l8 : Int32) (u : RSt), R_123 (l1, l2, l3, l4, l5, l6, l7, l8, u) = some (r, w) → ∀ (H : Heap) (locs : List Loc) (ls : Array Slot), RS D kA Z A s u H locs → lv_has ls 11 [(0, .ref (Z 200)), (1, .int l1), (2, .int l2), (3, .int l3), (4, .int l4), (5, .int l5), (6, .int l6), (7, .int l7), (8, .int l8)] → W p l e R s m args below meth c H locs 0 0 Q (F0 m 123 ls [])) {u : RSt} (h : B_call_123 N ro R_123 l1 l2 l3 l4 l5 l6 l7 l8 u = some (r, w)) (hS : RS D kA Z A s u H locs) (hl : lv_has ls 11 [(0, .ref (Z 200)), (1, .int l1), (2, .int l2), (3, .int l3), (4, .int l4), (5, .int l5), (6, .int l6), (7, .int l7), (8, .int l8)]) : W p l e R s m args below meth c H locs 0 0 Q (F0 m 123 ls []) := by
  obtain ⟨⟨hx, hb, hml, hown, hts⟩, hK, hEV, hA⟩ := id X
  have hG : ∀ w ∈ GW, w.before args s = true := fun w h => hts w (List.mem_cons_of_mem _ h)
  unfold B_call_123 at h
  refine lv_iload hx hb dX12_call_123 (lv_at hl 8 rfl) ?_
  refine lv_if_eq (tgt := 237) hx hb dX12_call_125 (by decide) (fun c_26 => ?_) (fun c_26 => ?_)
  · have h := ip (c_26) h
    refine lv_aload_n hx hb dX12_call_237 rfl (lv_at hl 0 rfl) ?_
    refine lv_sipush (v := 224) hx hb dX12_call_238 (by decide) ?_
    obtain ⟨r_u_27, u_27, h_u_27, h⟩ := bn_of h
    refine kc_ends X hS h_u_27 (Nat.le_trans (Nat.le_of_ble_eq_true rfl) hF) (Nat.le_trans (Nat.le_of_ble_eq_true rfl) hL) hl.1 (Nat.le_of_ble_eq_true rfl) dX12_call_241 (fun H locs hS => ?_)
    refine lv_aload_n hx hb dX12_call_244 rfl (lv_at hl 0 rfl) ?_
    refine lv_iconst (v := 0) hx hb dX12_call_245 (by decide) ?_
    obtain ⟨u_28, e_u_28, h⟩ := pu_of h
    refine rp_78 X hS e_u_28 dX12_call_246 (fun H locs hS => ?_)
    refine lv_aload_n hx hb dX12_call_249 rfl (lv_at hl 0 rfl) ?_
    refine rg_69 X hS dX12_call_250 ?_
    refine lv_if_eq (tgt := 263) hx hb dX12_call_253 (by decide) (fun c_29 => ?_) (fun c_29 => ?_)
    · have h := ip (c_29) h
      refine lv_iconst (v := 3) hx hb dX12_call_263 (by decide) ?_
      obtain ⟨rfl, rfl⟩ := so h
      exact hE _ _ _ _ hS dX12_call_264
    · have h := im (c_29) h
      refine lv_aload_n hx hb dX12_call_256 rfl (lv_at hl 0 rfl) ?_
      refine rg_67 X hS dX12_call_257 ?_
      refine lv_if_eq (tgt := 265) hx hb dX12_call_260 (by decide) (fun c_30 => ?_) (fun c_30 => ?_)
      · have h := ip (c_30) h
        refine lv_iload_n hx hb dX12_call_265 rfl (lv_at hl 2 rfl) ?_
        refine lv_iconst (v := (-1)) hx hb dX12_call_266 (by decide) ?_
        refine lv_icmp_eq (tgt := 322) hx hb dX12_call_267 (by decide) (fun c_31 => ?_) (fun c_31 => ?_)
        · have h := ip (c_31) h
          refine lv_aload_n hx hb dX12_call_322 rfl (lv_at hl 0 rfl) ?_
          refine lv_iload hx hb dX12_call_323 (lv_at hl 5 rfl) ?_
          refine lv_iload_n hx hb dX12_call_325 rfl (lv_at hl 3 rfl) ?_
          refine lv_if_eq (tgt := 334) hx hb dX12_call_326 (by decide) (fun c_32 => ?_) (fun c_32 => ?_)
          · have h := ip (c_32) h
            exact b_call_334 X hE hF hL hrec hFd hLd h hS (lv_sub hl [0, 1, 3, 6, 7] rfl)
          · have h := im (c_32) h
            refine lv_iload_n hx hb dX12_call_329 rfl (lv_at hl 3 rfl) ?_
            refine lv_iconst (v := 4) hx hb dX12_call_330 (by decide) ?_
            refine lv_icmp_le (tgt := 338) hx hb dX12_call_331 (by decide) (fun c_33 => ?_) (fun c_33 => ?_)
            · have h := ip (c_33) h
              refine lv_iconst (v := 2) hx hb dX12_call_338 (by decide) ?_
              exact b_call_339 X hE hF hL hrec hFd hLd h hS (lv_sub hl [0, 1, 3, 6, 7] rfl)
            · have h := im (c_33) h
              exact b_call_334 X hE hF hL hrec hFd hLd h hS (lv_sub hl [0, 1, 3, 6, 7] rfl)
        · have h := im (c_31) h
          refine lv_aload_n hx hb dX12_call_270 rfl (lv_at hl 0 rfl) ?_
          refine lv_iload hx hb dX12_call_271 (lv_at hl 5 rfl) ?_
          refine lv_aload_n hx hb dX12_call_273 rfl (lv_at hl 0 rfl) ?_
          refine rg_30 X hS dX12_call_274 ?_
          refine lv_iload hx hb dX12_call_277 (lv_at hl 4 rfl) ?_
          obtain ⟨v_34, e_v_34, i_35, h⟩ := rd_of h
          refine ra_30 X hS i_35 e_v_34 dX12_call_279 ?_
          refine lv_icmp_eq (tgt := 287) hx hb dX12_call_280 (by decide) (fun c_36 => ?_) (fun c_36 => ?_)
          · have h := ip (c_36) h
            refine lv_iconst (v := 0) hx hb dX12_call_287 (by decide) ?_
            exact b_call_288 X hE hF hL hrec hFd hLd h hS (lv_sub hl [0, 1, 4] rfl)
          · have h := im (c_36) h
            refine lv_iconst (v := 1) hx hb dX12_call_283 (by decide) ?_
            refine lv_goto (tgt := 288) hx hb dX12_call_284 (by decide) ?_
            exact b_call_288 X hE hF hL hrec hFd hLd h hS (lv_sub hl [0, 1, 4] rfl)
      · have h := im (c_30) h
        refine lv_iconst (v := 3) hx hb dX12_call_263 (by decide) ?_
        obtain ⟨rfl, rfl⟩ := so h
        exact hE _ _ _ _ hS dX12_call_264
  · have h := im (c_26) h
    refine lv_aload_n hx hb dX12_call_128 rfl (lv_at hl 0 rfl) ?_
    refine rg_3 X hS dX12_call_129 ?_
    refine lv_aload_n hx hb dX12_call_132 rfl (lv_at hl 0 rfl) ?_
    refine rg_65 X hS dX12_call_133 ?_
    obtain ⟨v_37, e_v_37, i_38, h⟩ := rd_of h
    refine ra_3 X hS i_38 e_v_37 dX12_call_136 ?_
    refine lv_istore (lv' := [(9, .int v_37), (0, .ref (Z 200)), (1, .int l1), (2, .int l2), (3, .int l3), (4, .int l4), (5, .int l5), (6, .int l6), (7, .int l7), (8, .int l8)]) hx hb dX12_call_137 hl (by decide) rfl (fun ls hl => ?_)
    refine lv_aload_n hx hb dX12_call_139 rfl (lv_at hl 1 rfl) ?_
    obtain ⟨r_40, u_39, h_u_39, h⟩ := bn_of h
    refine kc_expression X hrec hS h_u_39 hFd hLd hl.1 (Nat.le_of_ble_eq_true rfl) dX12_call_140 (fun H locs hS => ?_)
    refine lv_istore (lv' := [(10, .int r_40), (9, .int v_37), (0, .ref (Z 200)), (1, .int l1), (2, .int l2), (3, .int l3), (4, .int l4), (5, .int l5), (6, .int l6), (7, .int l7), (8, .int l8)]) hx hb dX12_call_143 hl (by decide) rfl (fun ls hl => ?_)
    refine lv_aload_n hx hb dX12_call_145 rfl (lv_at hl 2 rfl) ?_
    refine rg_69 X hS dX12_call_146 ?_
    refine lv_if_eq (tgt := 206) hx hb dX12_call_149 (by decide) (fun c_41 => ?_) (fun c_41 => ?_)
    · have h := ip (c_41) h
      exact b_call_206 X hE hF hL hrec hFd hLd hR_123 h hS (lv_sub hl [2, 3, 4, 5, 6, 7, 8, 9, 0] rfl)
    · have h := im (c_41) h
      refine lv_iload_n hx hb dX12_call_152 rfl (lv_at hl 4 rfl) ?_
      refine lv_iconst (v := (-1)) hx hb dX12_call_153 (by decide) ?_
      refine lv_icmp_eq (tgt := 206) hx hb dX12_call_154 (by decide) (fun c_42 => ?_) (fun c_42 => ?_)
      · have h := ip (c_42) h
        exact b_call_206 X hE hF hL hrec hFd hLd hR_123 h hS (lv_sub hl [2, 3, 4, 5, 6, 7, 8, 9, 0] rfl)
      · have h := im (c_42) h
        refine lv_iload hx hb dX12_call_157 (lv_at hl 7 rfl) ?_
        refine lv_aload_n hx hb dX12_call_159 rfl (lv_at hl 2 rfl) ?_
        refine rg_30 X hS dX12_call_160 ?_
        refine lv_iload hx hb dX12_call_163 (lv_at hl 6 rfl) ?_
        obtain ⟨v_43, e_v_43, i_44, h⟩ := rd_of h
        refine ra_30 X hS i_44 e_v_43 dX12_call_165 ?_
        refine lv_icmp_ge (tgt := 206) hx hb dX12_call_166 (by decide) (fun c_45 => ?_) (fun c_45 => ?_)
        · have h := ip (c_45) h
          exact b_call_206 X hE hF hL hrec hFd hLd hR_123 h hS (lv_sub hl [2, 3, 4, 5, 6, 7, 8, 9, 0] rfl)
        · have h := im (c_45) h
          refine lv_aload_n hx hb dX12_call_169 rfl (lv_at hl 2 rfl) ?_
          refine lv_aload_n hx hb dX12_call_170 rfl (lv_at hl 2 rfl) ?_
          refine lv_iload hx hb dX12_call_171 (lv_at hl 0 rfl) ?_
          refine lv_aload_n hx hb dX12_call_173 rfl (lv_at hl 2 rfl) ?_
          refine rg_20 X hS dX12_call_174 ?_
          refine lv_sipush (v := 160) hx hb dX12_call_177 (by decide) ?_
          refine lv_aload_n hx hb dX12_call_180 rfl (lv_at hl 2 rfl) ?_
          refine rg_56 X hS dX12_call_181 ?_
          refine lv_imul hx hb dX12_call_184 ?_
          refine lv_aload_n hx hb dX12_call_185 rfl (lv_at hl 2 rfl) ?_
          refine rg_28 X hS dX12_call_186 ?_
          refine lv_iload hx hb dX12_call_189 (lv_at hl 6 rfl) ?_
          obtain ⟨v_46, e_v_46, i_47, h⟩ := rd_of h
          refine ra_28 X hS i_47 e_v_46 dX12_call_191 ?_
          refine lv_iadd hx hb dX12_call_192 ?_
          refine lv_iload hx hb dX12_call_193 (lv_at hl 7 rfl) ?_
          refine lv_iadd hx hb dX12_call_195 ?_
          obtain ⟨v_48, e_v_48, i_49, h⟩ := rd_of h
          refine ra_20 X hS i_49 e_v_48 dX12_call_196 ?_
          obtain ⟨r_51, u_50, h_u_50, h⟩ := bn_of h
          refine kc_isTooWide X hS h_u_50 (Nat.le_trans (Nat.le_of_ble_eq_true rfl) hF) (Nat.le_trans (Nat.le_of_ble_eq_true rfl) hL) hl.1 (Nat.le_of_ble_eq_true rfl) dX12_call_197 (fun H locs hS => ?_)
          refine lv_iconst (v := 4) hx hb dX12_call_200 (by decide) ?_
          refine lv_iload hx hb dX12_call_201 (lv_at hl 1 rfl) ?_
          obtain ⟨r_u_52, u_52, h_u_52, h⟩ := bn_of h
          refine kc_wrong X hS h_u_52 (Nat.le_trans (Nat.le_of_ble_eq_true rfl) hF) (Nat.le_trans (Nat.le_of_ble_eq_true rfl) hL) hl.1 (Nat.le_of_ble_eq_true rfl) dX12_call_203 (fun H locs hS => ?_)
          exact b_call_206 X hE hF hL hrec hFd hLd hR_123 h hS (lv_sub hl [2, 3, 4, 5, 6, 7, 8, 9, 0] rfl)
def LP_call_123 (N : Nat) (ro : Nat → Int32 → Int32 → RSt → Option (Int32 × RSt)) : Nat → Int32 × Int32 × Int32 × Int32 × Int32 × Int32 × Int32 × Int32 × RSt → Option (Int32 × RSt) := lp (fun R a => B_call_123 N ro R a.1 a.2.1 a.2.2.1 a.2.2.2.1 a.2.2.2.2.1 a.2.2.2.2.2.1 a.2.2.2.2.2.2.1 a.2.2.2.2.2.2.2.1 a.2.2.2.2.2.2.2.2)
theorem bl_call_123 {r : Int32} {ro : Nat → Int32 → Int32 → RSt → Option (Int32 × RSt)} (X : RC p s m args c cX12_call 11 (Cond.code yX12_call cX12_call 11 (some .int)) D kA V A) (hE : REi p l e R s m args below meth c cX12_call D kA Z A Q r w) (hF : 4 ≤ R.frames) (hL : 84 ≤ R.locals) (hrec : RecOK_E l D kA V Z d ro) (hFd : d + 1 + 12 ≤ R.frames) (hLd : 60 * (d + 1) + 500 ≤ R.locals)  : ∀ (n : Nat) (l1 : Int32) (l2 : Int32) (l3 : Int32) (l4 : Int32) (l5 : Int32) (l6 : Int32) (l7 : Int32) (l8 : Int32) (u : RSt), LP_call_123 N ro n (l1, l2, l3, l4, l5, l6, l7, l8, u) = some (r, w) → ∀ (H : Heap) (locs : List Loc) (ls : Array Slot), RS D kA Z A s u H locs → lv_has ls 11 [(0, .ref (Z 200)), (1, .int l1), (2, .int l2), (3, .int l3), (4, .int l4), (5, .int l5), (6, .int l6), (7, .int l7), (8, .int l8)] → W p l e R s m args below meth c H locs 0 0 Q (F0 m 123 ls []) := by
  intro n
  induction n with
  | zero => intro l1 l2 l3 l4 l5 l6 l7 l8 u h; exact nomatch h
  | succ n ih => intro l1 l2 l3 l4 l5 l6 l7 l8 u h H locs ls hS hl; exact b_call_123 (N := N) (R_123 := LP_call_123 N ro n) X hE hF hL hrec hFd hLd ih h hS hl
def B_call_121 (N : Nat) (ro : Nat → Int32 → Int32 → RSt → Option (Int32 × RSt)) (l1 : Int32) (l2 : Int32) (l3 : Int32) (l4 : Int32) (l5 : Int32) (l6 : Int32) (l7 : Int32) (s0 : Int32) (u : RSt) : Option (Int32 × RSt) := LP_call_123 N ro N (l1, l2, l3, l4, l5, l6, l7, s0, u)
set_option maxHeartbeats 4000000 in
theorem b_call_121 {r : Int32} {ro : Nat → Int32 → Int32 → RSt → Option (Int32 × RSt)} (X : RC p s m args c cX12_call 11 (Cond.code yX12_call cX12_call 11 (some .int)) D kA V A) (hE : REi p l e R s m args below meth c cX12_call D kA Z A Q r w) (hF : 4 ≤ R.frames) (hL : 84 ≤ R.locals) (hrec : RecOK_E l D kA V Z d ro) (hFd : d + 1 + 12 ≤ R.frames) (hLd : 60 * (d + 1) + 500 ≤ R.locals) {l1 : Int32} {l2 : Int32} {l3 : Int32} {l4 : Int32} {l5 : Int32} {l6 : Int32} {l7 : Int32} {s0 : Int32}  {u : RSt} (h : B_call_121 N ro l1 l2 l3 l4 l5 l6 l7 s0 u = some (r, w)) (hS : RS D kA Z A s u H locs) (hl : lv_has ls 11 [(0, .ref (Z 200)), (1, .int l1), (2, .int l2), (3, .int l3), (4, .int l4), (5, .int l5), (6, .int l6), (7, .int l7)]) : W p l e R s m args below meth c H locs 0 0 Q (F0 m 121 ls [.int s0]) := by
  obtain ⟨⟨hx, hb, hml, hown, hts⟩, hK, hEV, hA⟩ := id X
  have hG : ∀ w ∈ GW, w.before args s = true := fun w h => hts w (List.mem_cons_of_mem _ h)
  unfold B_call_121 at h
  refine lv_istore (lv' := [(8, .int s0), (0, .ref (Z 200)), (1, .int l1), (2, .int l2), (3, .int l3), (4, .int l4), (5, .int l5), (6, .int l6), (7, .int l7)]) hx hb dX12_call_121 hl (by decide) rfl (fun ls hl => ?_)
  exact bl_call_123 X hE hF hL hrec hFd hLd _ _ _ _ _ _ _ _ _ _ h _ _ _ hS (lv_sub hl [1, 2, 3, 4, 5, 6, 7, 8, 0] rfl)
def B_call_120 (N : Nat) (ro : Nat → Int32 → Int32 → RSt → Option (Int32 × RSt)) (l1 : Int32) (l2 : Int32) (l3 : Int32) (l4 : Int32) (l5 : Int32) (l6 : Int32) (l7 : Int32) (u : RSt) : Option (Int32 × RSt) := B_call_121 N ro l1 l2 l3 l4 l5 l6 l7 0 u
set_option maxHeartbeats 4000000 in
theorem b_call_120 {r : Int32} {ro : Nat → Int32 → Int32 → RSt → Option (Int32 × RSt)} (X : RC p s m args c cX12_call 11 (Cond.code yX12_call cX12_call 11 (some .int)) D kA V A) (hE : REi p l e R s m args below meth c cX12_call D kA Z A Q r w) (hF : 4 ≤ R.frames) (hL : 84 ≤ R.locals) (hrec : RecOK_E l D kA V Z d ro) (hFd : d + 1 + 12 ≤ R.frames) (hLd : 60 * (d + 1) + 500 ≤ R.locals) {l1 : Int32} {l2 : Int32} {l3 : Int32} {l4 : Int32} {l5 : Int32} {l6 : Int32} {l7 : Int32}  {u : RSt} (h : B_call_120 N ro l1 l2 l3 l4 l5 l6 l7 u = some (r, w)) (hS : RS D kA Z A s u H locs) (hl : lv_has ls 11 [(0, .ref (Z 200)), (1, .int l1), (2, .int l2), (3, .int l3), (4, .int l4), (5, .int l5), (6, .int l6), (7, .int l7)]) : W p l e R s m args below meth c H locs 0 0 Q (F0 m 120 ls []) := by
  obtain ⟨⟨hx, hb, hml, hown, hts⟩, hK, hEV, hA⟩ := id X
  have hG : ∀ w ∈ GW, w.before args s = true := fun w h => hts w (List.mem_cons_of_mem _ h)
  unfold B_call_120 at h
  refine lv_iconst (v := 0) hx hb dX12_call_120 (by decide) ?_
  exact b_call_121 X hE hF hL hrec hFd hLd h hS (lv_sub hl [0, 1, 2, 3, 4, 5, 6, 7] rfl)
def B_call_33 (N : Nat) (ro : Nat → Int32 → Int32 → RSt → Option (Int32 × RSt)) (l1 : Int32) (l2 : Int32) (l3 : Int32) (s1 : Int32) (u : RSt) : Option (Int32 × RSt) := rd (u.2.2.1 3) 1502 (u.1 65) fun v_53 => bn (F_wrong N s1 3 v_53 u) fun _ u_55 => rd (u_55.2.2.1 3) 1502 (u_55.1 65) fun v_56 => bn (F_cost N v_56 u_55) fun _ u_58 => pu (sI u_58 65 ((u_58.1 65) + 1)) fun u_59 => bn (F_begins N 223 u_59) fun _ u_60 => if (u_60.1 67) = (0 : Int32) then (bn (F_is N 224 u_60) fun r_63 u_62 => if r_63 = (0 : Int32) then (B_call_121 N ro l1 l2 l3 (((24 * (u_59.1 56)) + 8) + l2) 0 3 3 1 u_62) else (B_call_120 N ro l1 l2 l3 (((24 * (u_59.1 56)) + 8) + l2) 0 3 3 u_62)) else (B_call_120 N ro l1 l2 l3 (((24 * (u_59.1 56)) + 8) + l2) 0 3 3 u_60)
set_option maxHeartbeats 4000000 in
theorem b_call_33 {r : Int32} {ro : Nat → Int32 → Int32 → RSt → Option (Int32 × RSt)} (X : RC p s m args c cX12_call 11 (Cond.code yX12_call cX12_call 11 (some .int)) D kA V A) (hE : REi p l e R s m args below meth c cX12_call D kA Z A Q r w) (hF : 4 ≤ R.frames) (hL : 84 ≤ R.locals) (hrec : RecOK_E l D kA V Z d ro) (hFd : d + 1 + 12 ≤ R.frames) (hLd : 60 * (d + 1) + 500 ≤ R.locals) {l1 : Int32} {l2 : Int32} {l3 : Int32} {s1 : Int32}  {u : RSt} (h : B_call_33 N ro l1 l2 l3 s1 u = some (r, w)) (hS : RS D kA Z A s u H locs) (hl : lv_has ls 11 [(0, .ref (Z 200)), (1, .int l1), (2, .int l2), (3, .int l3)]) : W p l e R s m args below meth c H locs 0 0 Q (F0 m 33 ls [.int s1, .ref (Z 200)]) := by
  obtain ⟨⟨hx, hb, hml, hown, hts⟩, hK, hEV, hA⟩ := id X
  have hG : ∀ w ∈ GW, w.before args s = true := fun w h => hts w (List.mem_cons_of_mem _ h)
  unfold B_call_33 at h
  refine lv_iconst (v := 3) hx hb dX12_call_33 (by decide) ?_
  refine lv_aload_n hx hb dX12_call_34 rfl (lv_at hl 0 rfl) ?_
  refine rg_3 X hS dX12_call_35 ?_
  refine lv_aload_n hx hb dX12_call_38 rfl (lv_at hl 0 rfl) ?_
  refine rg_65 X hS dX12_call_39 ?_
  obtain ⟨v_53, e_v_53, i_54, h⟩ := rd_of h
  refine ra_3 X hS i_54 e_v_53 dX12_call_42 ?_
  obtain ⟨r_u_55, u_55, h_u_55, h⟩ := bn_of h
  refine kc_wrong X hS h_u_55 (Nat.le_trans (Nat.le_of_ble_eq_true rfl) hF) (Nat.le_trans (Nat.le_of_ble_eq_true rfl) hL) hl.1 (Nat.le_of_ble_eq_true rfl) dX12_call_43 (fun H locs hS => ?_)
  refine lv_aload_n hx hb dX12_call_46 rfl (lv_at hl 0 rfl) ?_
  refine lv_aload_n hx hb dX12_call_47 rfl (lv_at hl 0 rfl) ?_
  refine rg_3 X hS dX12_call_48 ?_
  refine lv_aload_n hx hb dX12_call_51 rfl (lv_at hl 0 rfl) ?_
  refine rg_65 X hS dX12_call_52 ?_
  obtain ⟨v_56, e_v_56, i_57, h⟩ := rd_of h
  refine ra_3 X hS i_57 e_v_56 dX12_call_55 ?_
  obtain ⟨r_u_58, u_58, h_u_58, h⟩ := bn_of h
  refine kc_cost X hS h_u_58 (Nat.le_trans (Nat.le_of_ble_eq_true rfl) hF) (Nat.le_trans (Nat.le_of_ble_eq_true rfl) hL) hl.1 (Nat.le_of_ble_eq_true rfl) dX12_call_56 (fun H locs hS => ?_)
  refine lv_aload_n hx hb dX12_call_59 rfl (lv_at hl 0 rfl) ?_
  refine lv_dup hx hb dX12_call_60 rfl ?_
  refine rg_65 X hS dX12_call_61 ?_
  refine lv_iconst (v := 1) hx hb dX12_call_64 (by decide) ?_
  refine lv_iadd hx hb dX12_call_65 ?_
  obtain ⟨u_59, e_u_59, h⟩ := pu_of h
  refine rp_65 X hS e_u_59 dX12_call_66 (fun H locs hS => ?_)
  refine lv_bipush (v := 24) hx hb dX12_call_69 (by decide) ?_
  refine lv_aload_n hx hb dX12_call_71 rfl (lv_at hl 0 rfl) ?_
  refine rg_56 X hS dX12_call_72 ?_
  refine lv_imul hx hb dX12_call_75 ?_
  refine lv_bipush (v := 8) hx hb dX12_call_76 (by decide) ?_
  refine lv_iadd hx hb dX12_call_78 ?_
  refine lv_iload_n hx hb dX12_call_79 rfl (lv_at hl 2 rfl) ?_
  refine lv_iadd hx hb dX12_call_80 ?_
  refine lv_istore (lv' := [(4, .int (((24 * (u_59.1 56)) + 8) + l2)), (0, .ref (Z 200)), (1, .int l1), (2, .int l2), (3, .int l3)]) hx hb dX12_call_81 hl (by decide) rfl (fun ls hl => ?_)
  refine lv_iconst (v := 0) hx hb dX12_call_83 (by decide) ?_
  refine lv_istore (lv' := [(5, .int 0), (4, .int (((24 * (u_59.1 56)) + 8) + l2)), (0, .ref (Z 200)), (1, .int l1), (2, .int l2), (3, .int l3)]) hx hb dX12_call_84 hl (by decide) rfl (fun ls hl => ?_)
  refine lv_iconst (v := 3) hx hb dX12_call_86 (by decide) ?_
  refine lv_istore (lv' := [(6, .int 3), (5, .int 0), (4, .int (((24 * (u_59.1 56)) + 8) + l2)), (0, .ref (Z 200)), (1, .int l1), (2, .int l2), (3, .int l3)]) hx hb dX12_call_87 hl (by decide) rfl (fun ls hl => ?_)
  refine lv_iconst (v := 3) hx hb dX12_call_89 (by decide) ?_
  refine lv_istore (lv' := [(7, .int 3), (6, .int 3), (5, .int 0), (4, .int (((24 * (u_59.1 56)) + 8) + l2)), (0, .ref (Z 200)), (1, .int l1), (2, .int l2), (3, .int l3)]) hx hb dX12_call_90 hl (by decide) rfl (fun ls hl => ?_)
  refine lv_aload_n hx hb dX12_call_92 rfl (lv_at hl 4 rfl) ?_
  refine lv_sipush (v := 223) hx hb dX12_call_93 (by decide) ?_
  obtain ⟨r_u_60, u_60, h_u_60, h⟩ := bn_of h
  refine kc_begins X hS h_u_60 (Nat.le_trans (Nat.le_of_ble_eq_true rfl) hF) (Nat.le_trans (Nat.le_of_ble_eq_true rfl) hL) hl.1 (Nat.le_of_ble_eq_true rfl) dX12_call_96 (fun H locs hS => ?_)
  refine lv_aload_n hx hb dX12_call_99 rfl (lv_at hl 4 rfl) ?_
  refine rg_67 X hS dX12_call_100 ?_
  refine lv_if_ne (tgt := 120) hx hb dX12_call_103 (by decide) (fun c_61 => ?_) (fun c_61 => ?_)
  · have h := im (c_61) h
    exact b_call_120 X hE hF hL hrec hFd hLd h hS (lv_sub hl [4, 5, 6, 7, 3, 2, 1, 0] rfl)
  · have h := ip (c_61) h
    refine lv_aload_n hx hb dX12_call_106 rfl (lv_at hl 4 rfl) ?_
    refine lv_sipush (v := 224) hx hb dX12_call_107 (by decide) ?_
    obtain ⟨r_63, u_62, h_u_62, h⟩ := bn_of h
    refine kc_is X hS h_u_62 (Nat.le_trans (Nat.le_of_ble_eq_true rfl) hF) (Nat.le_trans (Nat.le_of_ble_eq_true rfl) hL) hl.1 (Nat.le_of_ble_eq_true rfl) dX12_call_110 (fun H locs hS => ?_)
    refine lv_if_ne (tgt := 120) hx hb dX12_call_113 (by decide) (fun c_64 => ?_) (fun c_64 => ?_)
    · have h := im (c_64) h
      exact b_call_120 X hE hF hL hrec hFd hLd h hS (lv_sub hl [4, 5, 6, 7, 3, 2, 1, 0] rfl)
    · have h := ip (c_64) h
      refine lv_iconst (v := 1) hx hb dX12_call_116 (by decide) ?_
      refine lv_goto (tgt := 121) hx hb dX12_call_117 (by decide) ?_
      exact b_call_121 X hE hF hL hrec hFd hLd h hS (lv_sub hl [4, 5, 6, 7, 3, 2, 1, 0] rfl)
def B_call_32 (N : Nat) (ro : Nat → Int32 → Int32 → RSt → Option (Int32 × RSt)) (l1 : Int32) (l2 : Int32) (l3 : Int32) (u : RSt) : Option (Int32 × RSt) := B_call_33 N ro l1 l2 l3 0 u
set_option maxHeartbeats 4000000 in
theorem b_call_32 {r : Int32} {ro : Nat → Int32 → Int32 → RSt → Option (Int32 × RSt)} (X : RC p s m args c cX12_call 11 (Cond.code yX12_call cX12_call 11 (some .int)) D kA V A) (hE : REi p l e R s m args below meth c cX12_call D kA Z A Q r w) (hF : 4 ≤ R.frames) (hL : 84 ≤ R.locals) (hrec : RecOK_E l D kA V Z d ro) (hFd : d + 1 + 12 ≤ R.frames) (hLd : 60 * (d + 1) + 500 ≤ R.locals) {l1 : Int32} {l2 : Int32} {l3 : Int32}  {u : RSt} (h : B_call_32 N ro l1 l2 l3 u = some (r, w)) (hS : RS D kA Z A s u H locs) (hl : lv_has ls 11 [(0, .ref (Z 200)), (1, .int l1), (2, .int l2), (3, .int l3)]) : W p l e R s m args below meth c H locs 0 0 Q (F0 m 32 ls [.ref (Z 200)]) := by
  obtain ⟨⟨hx, hb, hml, hown, hts⟩, hK, hEV, hA⟩ := id X
  have hG : ∀ w ∈ GW, w.before args s = true := fun w h => hts w (List.mem_cons_of_mem _ h)
  unfold B_call_32 at h
  refine lv_iconst (v := 0) hx hb dX12_call_32 (by decide) ?_
  exact b_call_33 X hE hF hL hrec hFd hLd h hS (lv_sub hl [0, 1, 2, 3] rfl)
def B_call_0 (N : Nat) (ro : Nat → Int32 → Int32 → RSt → Option (Int32 × RSt)) (u : RSt) : Option (Int32 × RSt) := bn (F_own N 4 u) fun r_66 u_65 => bn (F_own N 5 u_65) fun r_68 u_67 => if r_66 = ((-1) : Int32) then (if r_68 = ((-1) : Int32) then (B_call_33 N ro (u.1 65) r_66 r_68 1 u_67) else (B_call_32 N ro (u.1 65) r_66 r_68 u_67)) else (B_call_32 N ro (u.1 65) r_66 r_68 u_67)
set_option maxHeartbeats 4000000 in
theorem b_call_0 {r : Int32} {ro : Nat → Int32 → Int32 → RSt → Option (Int32 × RSt)} (X : RC p s m args c cX12_call 11 (Cond.code yX12_call cX12_call 11 (some .int)) D kA V A) (hE : REi p l e R s m args below meth c cX12_call D kA Z A Q r w) (hF : 4 ≤ R.frames) (hL : 84 ≤ R.locals) (hrec : RecOK_E l D kA V Z d ro) (hFd : d + 1 + 12 ≤ R.frames) (hLd : 60 * (d + 1) + 500 ≤ R.locals)  {u : RSt} (h : B_call_0 N ro u = some (r, w)) (hS : RS D kA Z A s u H locs) (hl : lv_has ls 11 [(0, .ref (Z 200))]) : W p l e R s m args below meth c H locs 0 0 Q (F0 m 0 ls []) := by
  obtain ⟨⟨hx, hb, hml, hown, hts⟩, hK, hEV, hA⟩ := id X
  have hG : ∀ w ∈ GW, w.before args s = true := fun w h => hts w (List.mem_cons_of_mem _ h)
  unfold B_call_0 at h
  refine lv_aload_n hx hb dX12_call_0 rfl (lv_at hl 0 rfl) ?_
  refine rg_65 X hS dX12_call_1 ?_
  refine lv_istore_n (lv' := [(1, .int (u.1 65)), (0, .ref (Z 200))]) hx hb dX12_call_4 rfl hl (by decide) rfl (fun ls hl => ?_)
  refine lv_aload_n hx hb dX12_call_5 rfl (lv_at hl 1 rfl) ?_
  refine lv_iconst (v := 4) hx hb dX12_call_6 (by decide) ?_
  obtain ⟨r_66, u_65, h_u_65, h⟩ := bn_of h
  refine kc_own X hS h_u_65 (Nat.le_trans (Nat.le_of_ble_eq_true rfl) hF) (Nat.le_trans (Nat.le_of_ble_eq_true rfl) hL) hl.1 (Nat.le_of_ble_eq_true rfl) dX12_call_7 (fun H locs hS => ?_)
  refine lv_istore_n (lv' := [(2, .int r_66), (1, .int (u.1 65)), (0, .ref (Z 200))]) hx hb dX12_call_10 rfl hl (by decide) rfl (fun ls hl => ?_)
  refine lv_aload_n hx hb dX12_call_11 rfl (lv_at hl 2 rfl) ?_
  refine lv_iconst (v := 5) hx hb dX12_call_12 (by decide) ?_
  obtain ⟨r_68, u_67, h_u_67, h⟩ := bn_of h
  refine kc_own X hS h_u_67 (Nat.le_trans (Nat.le_of_ble_eq_true rfl) hF) (Nat.le_trans (Nat.le_of_ble_eq_true rfl) hL) hl.1 (Nat.le_of_ble_eq_true rfl) dX12_call_13 (fun H locs hS => ?_)
  refine lv_istore_n (lv' := [(3, .int r_68), (2, .int r_66), (1, .int (u.1 65)), (0, .ref (Z 200))]) hx hb dX12_call_16 rfl hl (by decide) rfl (fun ls hl => ?_)
  refine lv_aload_n hx hb dX12_call_17 rfl (lv_at hl 3 rfl) ?_
  refine lv_iload_n hx hb dX12_call_18 rfl (lv_at hl 1 rfl) ?_
  refine lv_iconst (v := (-1)) hx hb dX12_call_19 (by decide) ?_
  refine lv_icmp_ne (tgt := 32) hx hb dX12_call_20 (by decide) (fun c_69 => ?_) (fun c_69 => ?_)
  · have h := im (c_69) h
    exact b_call_32 X hE hF hL hrec hFd hLd h hS (lv_sub hl [3, 2, 1, 0] rfl)
  · have h := ip (c_69) h
    refine lv_iload_n hx hb dX12_call_23 rfl (lv_at hl 0 rfl) ?_
    refine lv_iconst (v := (-1)) hx hb dX12_call_24 (by decide) ?_
    refine lv_icmp_ne (tgt := 32) hx hb dX12_call_25 (by decide) (fun c_70 => ?_) (fun c_70 => ?_)
    · have h := im (c_70) h
      exact b_call_32 X hE hF hL hrec hFd hLd h hS (lv_sub hl [3, 2, 1, 0] rfl)
    · have h := ip (c_70) h
      refine lv_iconst (v := 1) hx hb dX12_call_28 (by decide) ?_
      refine lv_goto (tgt := 33) hx hb dX12_call_29 (by decide) ?_
      exact b_call_33 X hE hF hL hrec hFd hLd h hS (lv_sub hl [3, 2, 1, 0] rfl)
def F_call (N : Nat) (ro : Nat → Int32 → Int32 → RSt → Option (Int32 × RSt)) (u : RSt) : Option (Int32 × RSt) := B_call_0 N ro u
set_option maxHeartbeats 4000000 in
theorem k_call (l : Launch) (D : va_G) (kA : Nat → ClassId) (V Z : Nat → Nat) (N : Nat) {d : Nat} (ro : Nat → Int32 → Int32 → RSt → Option (Int32 × RSt)) (hrec : RecOK_E l D kA V Z d ro) (u : RSt) (sz : Nat) {r : Int32} {w : RSt} (h : F_call N ro u = some (r, w)) : Met l yX12_call (Cond.code yX12_call cX12_call 11 (some .int) :: GW) { frames := d + 1 + 12, cells := 0, slots := 0, locals := 60 * (d + 1) + 500 } (rPc D kA V Z [] u sz) (rQi D kA Z u sz r w) 0 0 (va_A (RW kA Z u) sz) := by
  refine Met.ofW (cc := cX12_call) (maxL := 11) (ret := (some .int)) (by decide) rfl ?_
  intro p e s m args below meth c s₁ Bd hml hv
  obtain ⟨rfl, hsz, hP, hK, hD0, hE⟩ := hv
  have hts := atoms_spec (ws := Cond.code yX12_call cX12_call 11 (some .int) :: GW) Bd.pre
  have hl := lv_entry (.ref (Z 200) :: []) (n := 11) (Nat.le_of_ble_eq_true rfl)
  rw [lg_entry_eq]
  generalize (lg_sl (.ref (Z 200) :: []) ++ List.replicate (11 - (lg_sl (.ref (Z 200) :: [])).length) Slot.unset).toArray = ls at hl ⊢
  have hl : lv_has ls 11 [(0, .ref (Z 200))] := hl
  subst hsz
  have X : RC p s m (.ref (Z 200) :: []).toArray c cX12_call 11 (Cond.code yX12_call cX12_call 11 (some .int)) D kA V (va_A (RW kA Z u) s.heap.size) := ⟨⟨Bd.exec, Bd.bytes, hml, findClass_of_methodNamed Bd.named, hts⟩, hK, hE, fun q h => Or.inr h⟩
  exact b_call_0 X (rend_i (cy := cX12_call) X Bd.returns Bd.notSynchronized) (Nat.le_trans (Nat.le_of_ble_eq_true rfl) (Nat.le_add_left 12 _)) (Nat.le_trans (Nat.le_of_ble_eq_true rfl) (Nat.le_add_left 500 _)) hrec (Nat.le_refl _) (Nat.le_refl _) h ⟨hP, hD0.self, va_S.rf⟩ (lv_sub hl [0] rfl)
def B_inner_192 (N : Nat) (ro : Nat → Int32 → Int32 → RSt → Option (Int32 × RSt)) (R_102 : Int32 × Int32 × Int32 × Int32 × Int32 × RSt → Option (Int32 × RSt)) (l1 : Int32) (l2 : Int32) (l3 : Int32) (l4 : Int32) (l5 : Int32) (u : RSt) : Option (Int32 × RSt) := R_102 (l1, l2, l3, l4, (l5 + 1), u)
set_option maxHeartbeats 4000000 in
theorem b_inner_192 {r : Int32} {ro : Nat → Int32 → Int32 → RSt → Option (Int32 × RSt)} (X : RC p s m args c cX12_inner 8 (Cond.code yX12_inner cX12_inner 8 (some .int)) D kA V A) (hE : REi p l e R s m args below meth c cX12_inner D kA Z A Q r w) (hF : 2 ≤ R.frames) (hL : 47 ≤ R.locals) (hrec : RecOK_E l D kA V Z d ro) (hFd : d + 1 + 12 ≤ R.frames) (hLd : 60 * (d + 1) + 500 ≤ R.locals) {R_102 : Int32 × Int32 × Int32 × Int32 × Int32 × RSt → Option (Int32 × RSt)} {l1 : Int32} {l2 : Int32} {l3 : Int32} {l4 : Int32} {l5 : Int32} (hR_102 : ∀ (l1 : Int32) (l2 : Int32) (l3 : Int32) (l4 : Int32) (l5 : Int32) (u : RSt), R_102 (l1, l2, l3, l4, l5, u) = some (r, w) → ∀ (H : Heap) (locs : List Loc) (ls : Array Slot), RS D kA Z A s u H locs → lv_has ls 8 [(0, .ref (Z 200)), (1, .int l1), (2, .int l2), (3, .int l3), (4, .int l4), (5, .int l5)] → W p l e R s m args below meth c H locs 0 0 Q (F0 m 102 ls [])) {u : RSt} (h : B_inner_192 N ro R_102 l1 l2 l3 l4 l5 u = some (r, w)) (hS : RS D kA Z A s u H locs) (hl : lv_has ls 8 [(0, .ref (Z 200)), (1, .int l1), (2, .int l2), (3, .int l3), (4, .int l4), (5, .int l5)]) : W p l e R s m args below meth c H locs 0 0 Q (F0 m 192 ls []) := by
  obtain ⟨⟨hx, hb, hml, hown, hts⟩, hK, hEV, hA⟩ := id X
  have hG : ∀ w ∈ GW, w.before args s = true := fun w h => hts w (List.mem_cons_of_mem _ h)
  unfold B_inner_192 at h
  refine lv_iinc (v := l5 + 1) (lv' := [(5, .int (l5 + 1)), (0, .ref (Z 200)), (1, .int l1), (2, .int l2), (3, .int l3), (4, .int l4)]) hx hb dX12_inner_192 hl (k := 5) rfl rfl (by decide) rfl (fun ls hl => ?_)
  refine lv_goto (tgt := 102) hx hb dX12_inner_195 (by decide) ?_
  exact hR_102 _ _ _ _ _ _ h _ _ _ hS (lv_sub hl [1, 2, 3, 4, 5, 0] rfl)
def B_inner_387 (N : Nat) (ro : Nat → Int32 → Int32 → RSt → Option (Int32 × RSt)) (l3 : Int32) (l6 : Int32) (s1 : Int32) (s2 : Int32) (u : RSt) : Option (Int32 × RSt) := bn (F_emit N s1 s2 0 u) fun r_2 u_1 => pu (sI u_1 78 0) fun u_3 => if l6 = (0 : Int32) then (some (3, u_3)) else (rd (u_3.2.2.1 20) 320 l3 fun v_5 => some (v_5, u_3))
set_option maxHeartbeats 4000000 in
theorem b_inner_387 {r : Int32} {ro : Nat → Int32 → Int32 → RSt → Option (Int32 × RSt)} (X : RC p s m args c cX12_inner 8 (Cond.code yX12_inner cX12_inner 8 (some .int)) D kA V A) (hE : REi p l e R s m args below meth c cX12_inner D kA Z A Q r w) (hF : 2 ≤ R.frames) (hL : 47 ≤ R.locals) (hrec : RecOK_E l D kA V Z d ro) (hFd : d + 1 + 12 ≤ R.frames) (hLd : 60 * (d + 1) + 500 ≤ R.locals) {l3 : Int32} {l6 : Int32} {s1 : Int32} {s2 : Int32}  {u : RSt} (h : B_inner_387 N ro l3 l6 s1 s2 u = some (r, w)) (hS : RS D kA Z A s u H locs) (hl : lv_has ls 8 [(0, .ref (Z 200)), (3, .int l3), (6, .int l6)]) : W p l e R s m args below meth c H locs 0 0 Q (F0 m 387 ls [.int s2, .int s1, .ref (Z 200)]) := by
  obtain ⟨⟨hx, hb, hml, hown, hts⟩, hK, hEV, hA⟩ := id X
  have hG : ∀ w ∈ GW, w.before args s = true := fun w h => hts w (List.mem_cons_of_mem _ h)
  unfold B_inner_387 at h
  refine lv_iconst (v := 0) hx hb dX12_inner_387 (by decide) ?_
  obtain ⟨r_2, u_1, h_u_1, h⟩ := bn_of h
  refine kc_emit X hS h_u_1 (Nat.le_trans (Nat.le_of_ble_eq_true rfl) hF) (Nat.le_trans (Nat.le_of_ble_eq_true rfl) hL) hl.1 (Nat.le_of_ble_eq_true rfl) dX12_inner_388 (fun H locs hS => ?_)
  refine lv_istore (lv' := [(7, .int r_2), (0, .ref (Z 200)), (3, .int l3), (6, .int l6)]) hx hb dX12_inner_391 hl (by decide) rfl (fun ls hl => ?_)
  refine lv_aload_n hx hb dX12_inner_393 rfl (lv_at hl 1 rfl) ?_
  refine lv_iconst (v := 0) hx hb dX12_inner_394 (by decide) ?_
  obtain ⟨u_3, e_u_3, h⟩ := pu_of h
  refine rp_78 X hS e_u_3 dX12_inner_395 (fun H locs hS => ?_)
  refine lv_iload hx hb dX12_inner_398 (lv_at hl 3 rfl) ?_
  refine lv_if_eq (tgt := 412) hx hb dX12_inner_400 (by decide) (fun c_4 => ?_) (fun c_4 => ?_)
  · have h := ip (c_4) h
    refine lv_iconst (v := 3) hx hb dX12_inner_412 (by decide) ?_
    obtain ⟨rfl, rfl⟩ := so h
    exact hE _ _ _ _ hS dX12_inner_413
  · have h := im (c_4) h
    refine lv_aload_n hx hb dX12_inner_403 rfl (lv_at hl 1 rfl) ?_
    refine rg_20 X hS dX12_inner_404 ?_
    refine lv_iload_n hx hb dX12_inner_407 rfl (lv_at hl 2 rfl) ?_
    obtain ⟨v_5, e_v_5, i_6, h⟩ := rd_of h
    refine ra_20 X hS i_6 e_v_5 dX12_inner_408 ?_
    refine lv_goto (tgt := 413) hx hb dX12_inner_409 (by decide) ?_
    obtain ⟨rfl, rfl⟩ := so h
    exact hE _ _ _ _ hS dX12_inner_413
def B_inner_369 (N : Nat) (ro : Nat → Int32 → Int32 → RSt → Option (Int32 × RSt)) (l3 : Int32) (l6 : Int32) (u : RSt) : Option (Int32 × RSt) := if l6 = (0 : Int32) then (B_inner_387 N ro l3 l6 16 3 u) else (rd (u.2.2.1 20) 320 l3 fun v_8 => B_inner_387 N ro l3 l6 16 v_8 u)
set_option maxHeartbeats 4000000 in
theorem b_inner_369 {r : Int32} {ro : Nat → Int32 → Int32 → RSt → Option (Int32 × RSt)} (X : RC p s m args c cX12_inner 8 (Cond.code yX12_inner cX12_inner 8 (some .int)) D kA V A) (hE : REi p l e R s m args below meth c cX12_inner D kA Z A Q r w) (hF : 2 ≤ R.frames) (hL : 47 ≤ R.locals) (hrec : RecOK_E l D kA V Z d ro) (hFd : d + 1 + 12 ≤ R.frames) (hLd : 60 * (d + 1) + 500 ≤ R.locals) {l3 : Int32} {l6 : Int32}  {u : RSt} (h : B_inner_369 N ro l3 l6 u = some (r, w)) (hS : RS D kA Z A s u H locs) (hl : lv_has ls 8 [(0, .ref (Z 200)), (3, .int l3), (6, .int l6)]) : W p l e R s m args below meth c H locs 0 0 Q (F0 m 369 ls []) := by
  obtain ⟨⟨hx, hb, hml, hown, hts⟩, hK, hEV, hA⟩ := id X
  have hG : ∀ w ∈ GW, w.before args s = true := fun w h => hts w (List.mem_cons_of_mem _ h)
  unfold B_inner_369 at h
  refine lv_aload_n hx hb dX12_inner_369 rfl (lv_at hl 0 rfl) ?_
  refine lv_bipush (v := 16) hx hb dX12_inner_370 (by decide) ?_
  refine lv_iload hx hb dX12_inner_372 (lv_at hl 2 rfl) ?_
  refine lv_if_eq (tgt := 386) hx hb dX12_inner_374 (by decide) (fun c_7 => ?_) (fun c_7 => ?_)
  · have h := ip (c_7) h
    refine lv_iconst (v := 3) hx hb dX12_inner_386 (by decide) ?_
    exact b_inner_387 X hE hF hL hrec hFd hLd h hS (lv_sub hl [0, 1, 2] rfl)
  · have h := im (c_7) h
    refine lv_aload_n hx hb dX12_inner_377 rfl (lv_at hl 0 rfl) ?_
    refine rg_20 X hS dX12_inner_378 ?_
    refine lv_iload_n hx hb dX12_inner_381 rfl (lv_at hl 1 rfl) ?_
    obtain ⟨v_8, e_v_8, i_9, h⟩ := rd_of h
    refine ra_20 X hS i_9 e_v_8 dX12_inner_382 ?_
    refine lv_goto (tgt := 387) hx hb dX12_inner_383 (by decide) ?_
    exact b_inner_387 X hE hF hL hrec hFd hLd h hS (lv_sub hl [0, 1, 2] rfl)
def B_inner_348 (N : Nat) (ro : Nat → Int32 → Int32 → RSt → Option (Int32 × RSt)) (l3 : Int32) (l5 : Int32) (l6 : Int32) (s1 : Int32) (s2 : Int32) (u : RSt) : Option (Int32 × RSt) := bn (F_emit N s1 s2 0 u) fun r_11 u_10 => if l5 = (0 : Int32) then (B_inner_369 N ro l3 l6 u_10) else (bn (F_emit N 14 0 0 u_10) fun r_14 u_13 => B_inner_369 N ro l3 l6 u_13)
set_option maxHeartbeats 4000000 in
theorem b_inner_348 {r : Int32} {ro : Nat → Int32 → Int32 → RSt → Option (Int32 × RSt)} (X : RC p s m args c cX12_inner 8 (Cond.code yX12_inner cX12_inner 8 (some .int)) D kA V A) (hE : REi p l e R s m args below meth c cX12_inner D kA Z A Q r w) (hF : 2 ≤ R.frames) (hL : 47 ≤ R.locals) (hrec : RecOK_E l D kA V Z d ro) (hFd : d + 1 + 12 ≤ R.frames) (hLd : 60 * (d + 1) + 500 ≤ R.locals) {l3 : Int32} {l5 : Int32} {l6 : Int32} {s1 : Int32} {s2 : Int32}  {u : RSt} (h : B_inner_348 N ro l3 l5 l6 s1 s2 u = some (r, w)) (hS : RS D kA Z A s u H locs) (hl : lv_has ls 8 [(0, .ref (Z 200)), (3, .int l3), (5, .int l5), (6, .int l6)]) : W p l e R s m args below meth c H locs 0 0 Q (F0 m 348 ls [.int s2, .int s1, .ref (Z 200)]) := by
  obtain ⟨⟨hx, hb, hml, hown, hts⟩, hK, hEV, hA⟩ := id X
  have hG : ∀ w ∈ GW, w.before args s = true := fun w h => hts w (List.mem_cons_of_mem _ h)
  unfold B_inner_348 at h
  refine lv_iconst (v := 0) hx hb dX12_inner_348 (by decide) ?_
  obtain ⟨r_11, u_10, h_u_10, h⟩ := bn_of h
  refine kc_emit X hS h_u_10 (Nat.le_trans (Nat.le_of_ble_eq_true rfl) hF) (Nat.le_trans (Nat.le_of_ble_eq_true rfl) hL) hl.1 (Nat.le_of_ble_eq_true rfl) dX12_inner_349 (fun H locs hS => ?_)
  refine lv_istore (lv' := [(7, .int r_11), (0, .ref (Z 200)), (3, .int l3), (5, .int l5), (6, .int l6)]) hx hb dX12_inner_352 hl (by decide) rfl (fun ls hl => ?_)
  refine lv_iload hx hb dX12_inner_354 (lv_at hl 3 rfl) ?_
  refine lv_if_eq (tgt := 369) hx hb dX12_inner_356 (by decide) (fun c_12 => ?_) (fun c_12 => ?_)
  · have h := ip (c_12) h
    exact b_inner_369 X hE hF hL hrec hFd hLd h hS (lv_sub hl [1, 2, 4] rfl)
  · have h := im (c_12) h
    refine lv_aload_n hx hb dX12_inner_359 rfl (lv_at hl 1 rfl) ?_
    refine lv_bipush (v := 14) hx hb dX12_inner_360 (by decide) ?_
    refine lv_iconst (v := 0) hx hb dX12_inner_362 (by decide) ?_
    refine lv_iconst (v := 0) hx hb dX12_inner_363 (by decide) ?_
    obtain ⟨r_14, u_13, h_u_13, h⟩ := bn_of h
    refine kc_emit X hS h_u_13 (Nat.le_trans (Nat.le_of_ble_eq_true rfl) hF) (Nat.le_trans (Nat.le_of_ble_eq_true rfl) hL) hl.1 (Nat.le_of_ble_eq_true rfl) dX12_inner_364 (fun H locs hS => ?_)
    refine lv_istore (lv' := [(7, .int r_14), (0, .ref (Z 200)), (3, .int l3), (5, .int l5), (6, .int l6)]) hx hb dX12_inner_367 hl (by decide) rfl (fun ls hl => ?_)
    exact b_inner_369 X hE hF hL hrec hFd hLd h hS (lv_sub hl [1, 2, 4] rfl)
def B_inner_315 (N : Nat) (ro : Nat → Int32 → Int32 → RSt → Option (Int32 × RSt)) (l1 : Int32) (l3 : Int32) (l5 : Int32) (l6 : Int32) (u : RSt) : Option (Int32 × RSt) := if l6 = (0 : Int32) then (B_inner_348 N ro l3 l5 l6 10 0 u) else (rd (u.2.2.1 39) 48 ((24 * (u.1 56)) + l1) fun v_16 => rd (u.2.2.1 23) 320 l3 fun v_18 => B_inner_348 N ro l3 l5 l6 10 (v_16 + v_18) u)
set_option maxHeartbeats 4000000 in
theorem b_inner_315 {r : Int32} {ro : Nat → Int32 → Int32 → RSt → Option (Int32 × RSt)} (X : RC p s m args c cX12_inner 8 (Cond.code yX12_inner cX12_inner 8 (some .int)) D kA V A) (hE : REi p l e R s m args below meth c cX12_inner D kA Z A Q r w) (hF : 2 ≤ R.frames) (hL : 47 ≤ R.locals) (hrec : RecOK_E l D kA V Z d ro) (hFd : d + 1 + 12 ≤ R.frames) (hLd : 60 * (d + 1) + 500 ≤ R.locals) {l1 : Int32} {l3 : Int32} {l5 : Int32} {l6 : Int32}  {u : RSt} (h : B_inner_315 N ro l1 l3 l5 l6 u = some (r, w)) (hS : RS D kA Z A s u H locs) (hl : lv_has ls 8 [(0, .ref (Z 200)), (1, .int l1), (3, .int l3), (5, .int l5), (6, .int l6)]) : W p l e R s m args below meth c H locs 0 0 Q (F0 m 315 ls []) := by
  obtain ⟨⟨hx, hb, hml, hown, hts⟩, hK, hEV, hA⟩ := id X
  have hG : ∀ w ∈ GW, w.before args s = true := fun w h => hts w (List.mem_cons_of_mem _ h)
  unfold B_inner_315 at h
  refine lv_aload_n hx hb dX12_inner_315 rfl (lv_at hl 0 rfl) ?_
  refine lv_bipush (v := 10) hx hb dX12_inner_316 (by decide) ?_
  refine lv_iload hx hb dX12_inner_318 (lv_at hl 4 rfl) ?_
  refine lv_if_eq (tgt := 347) hx hb dX12_inner_320 (by decide) (fun c_15 => ?_) (fun c_15 => ?_)
  · have h := ip (c_15) h
    refine lv_iconst (v := 0) hx hb dX12_inner_347 (by decide) ?_
    exact b_inner_348 X hE hF hL hrec hFd hLd h hS (lv_sub hl [0, 2, 3, 4] rfl)
  · have h := im (c_15) h
    refine lv_aload_n hx hb dX12_inner_323 rfl (lv_at hl 0 rfl) ?_
    refine rg_39 X hS dX12_inner_324 ?_
    refine lv_bipush (v := 24) hx hb dX12_inner_327 (by decide) ?_
    refine lv_aload_n hx hb dX12_inner_329 rfl (lv_at hl 0 rfl) ?_
    refine rg_56 X hS dX12_inner_330 ?_
    refine lv_imul hx hb dX12_inner_333 ?_
    refine lv_iload_n hx hb dX12_inner_334 rfl (lv_at hl 1 rfl) ?_
    refine lv_iadd hx hb dX12_inner_335 ?_
    obtain ⟨v_16, e_v_16, i_17, h⟩ := rd_of h
    refine ra_39 X hS i_17 e_v_16 dX12_inner_336 ?_
    refine lv_aload_n hx hb dX12_inner_337 rfl (lv_at hl 0 rfl) ?_
    refine rg_23 X hS dX12_inner_338 ?_
    refine lv_iload_n hx hb dX12_inner_341 rfl (lv_at hl 2 rfl) ?_
    obtain ⟨v_18, e_v_18, i_19, h⟩ := rd_of h
    refine ra_23 X hS i_19 e_v_18 dX12_inner_342 ?_
    refine lv_iadd hx hb dX12_inner_343 ?_
    refine lv_goto (tgt := 348) hx hb dX12_inner_344 (by decide) ?_
    exact b_inner_348 X hE hF hL hrec hFd hLd h hS (lv_sub hl [0, 2, 3, 4] rfl)
def B_inner_311 (N : Nat) (ro : Nat → Int32 → Int32 → RSt → Option (Int32 × RSt)) (l1 : Int32) (l2 : Int32) (l3 : Int32) (l5 : Int32) (l6 : Int32) (s1 : Int32) (u : RSt) : Option (Int32 × RSt) := bn (ro 7 s1 l2 u) fun _ u_20 => B_inner_315 N ro l1 l3 l5 l6 u_20
set_option maxHeartbeats 4000000 in
theorem b_inner_311 {r : Int32} {ro : Nat → Int32 → Int32 → RSt → Option (Int32 × RSt)} (X : RC p s m args c cX12_inner 8 (Cond.code yX12_inner cX12_inner 8 (some .int)) D kA V A) (hE : REi p l e R s m args below meth c cX12_inner D kA Z A Q r w) (hF : 2 ≤ R.frames) (hL : 47 ≤ R.locals) (hrec : RecOK_E l D kA V Z d ro) (hFd : d + 1 + 12 ≤ R.frames) (hLd : 60 * (d + 1) + 500 ≤ R.locals) {l1 : Int32} {l2 : Int32} {l3 : Int32} {l5 : Int32} {l6 : Int32} {s1 : Int32}  {u : RSt} (h : B_inner_311 N ro l1 l2 l3 l5 l6 s1 u = some (r, w)) (hS : RS D kA Z A s u H locs) (hl : lv_has ls 8 [(0, .ref (Z 200)), (1, .int l1), (2, .int l2), (3, .int l3), (5, .int l5), (6, .int l6)]) : W p l e R s m args below meth c H locs 0 0 Q (F0 m 311 ls [.int s1, .ref (Z 200)]) := by
  obtain ⟨⟨hx, hb, hml, hown, hts⟩, hK, hEV, hA⟩ := id X
  have hG : ∀ w ∈ GW, w.before args s = true := fun w h => hts w (List.mem_cons_of_mem _ h)
  unfold B_inner_311 at h
  refine lv_iload_n hx hb dX12_inner_311 rfl (lv_at hl 2 rfl) ?_
  obtain ⟨r_u_20, u_20, h_u_20, h⟩ := bn_of h
  refine kc_index X hrec hS h_u_20 hFd hLd hl.1 (Nat.le_of_ble_eq_true rfl) dX12_inner_312 (fun H locs hS => ?_)
  exact b_inner_315 X hE hF hL hrec hFd hLd h hS (lv_sub hl [0, 1, 3, 4, 5] rfl)
def B_inner_275 (N : Nat) (ro : Nat → Int32 → Int32 → RSt → Option (Int32 × RSt)) (l1 : Int32) (l2 : Int32) (l3 : Int32) (l5 : Int32) (l6 : Int32) (s1 : Int32) (u : RSt) : Option (Int32 × RSt) := bn (F_wrong N s1 4 l2 u) fun _ u_21 => pu (sI u_21 65 ((u_21.1 65) + 1)) fun u_22 => if l5 = (0 : Int32) then (B_inner_315 N ro l1 l3 l5 l6 u_22) else (if l6 = (0 : Int32) then (B_inner_311 N ro l1 l2 l3 l5 l6 1 u_22) else (rd (u_22.2.2.1 21) 320 l3 fun v_25 => B_inner_311 N ro l1 l2 l3 l5 l6 v_25 u_22))
set_option maxHeartbeats 4000000 in
theorem b_inner_275 {r : Int32} {ro : Nat → Int32 → Int32 → RSt → Option (Int32 × RSt)} (X : RC p s m args c cX12_inner 8 (Cond.code yX12_inner cX12_inner 8 (some .int)) D kA V A) (hE : REi p l e R s m args below meth c cX12_inner D kA Z A Q r w) (hF : 2 ≤ R.frames) (hL : 47 ≤ R.locals) (hrec : RecOK_E l D kA V Z d ro) (hFd : d + 1 + 12 ≤ R.frames) (hLd : 60 * (d + 1) + 500 ≤ R.locals) {l1 : Int32} {l2 : Int32} {l3 : Int32} {l5 : Int32} {l6 : Int32} {s1 : Int32}  {u : RSt} (h : B_inner_275 N ro l1 l2 l3 l5 l6 s1 u = some (r, w)) (hS : RS D kA Z A s u H locs) (hl : lv_has ls 8 [(0, .ref (Z 200)), (1, .int l1), (2, .int l2), (3, .int l3), (5, .int l5), (6, .int l6)]) : W p l e R s m args below meth c H locs 0 0 Q (F0 m 275 ls [.int s1, .ref (Z 200)]) := by
  obtain ⟨⟨hx, hb, hml, hown, hts⟩, hK, hEV, hA⟩ := id X
  have hG : ∀ w ∈ GW, w.before args s = true := fun w h => hts w (List.mem_cons_of_mem _ h)
  unfold B_inner_275 at h
  refine lv_iconst (v := 4) hx hb dX12_inner_275 (by decide) ?_
  refine lv_iload_n hx hb dX12_inner_276 rfl (lv_at hl 2 rfl) ?_
  obtain ⟨r_u_21, u_21, h_u_21, h⟩ := bn_of h
  refine kc_wrong X hS h_u_21 (Nat.le_trans (Nat.le_of_ble_eq_true rfl) hF) (Nat.le_trans (Nat.le_of_ble_eq_true rfl) hL) hl.1 (Nat.le_of_ble_eq_true rfl) dX12_inner_277 (fun H locs hS => ?_)
  refine lv_aload_n hx hb dX12_inner_280 rfl (lv_at hl 0 rfl) ?_
  refine lv_dup hx hb dX12_inner_281 rfl ?_
  refine rg_65 X hS dX12_inner_282 ?_
  refine lv_iconst (v := 1) hx hb dX12_inner_285 (by decide) ?_
  refine lv_iadd hx hb dX12_inner_286 ?_
  obtain ⟨u_22, e_u_22, h⟩ := pu_of h
  refine rp_65 X hS e_u_22 dX12_inner_287 (fun H locs hS => ?_)
  refine lv_iload hx hb dX12_inner_290 (lv_at hl 4 rfl) ?_
  refine lv_if_eq (tgt := 315) hx hb dX12_inner_292 (by decide) (fun c_23 => ?_) (fun c_23 => ?_)
  · have h := ip (c_23) h
    exact b_inner_315 X hE hF hL hrec hFd hLd h hS (lv_sub hl [0, 1, 3, 4, 5] rfl)
  · have h := im (c_23) h
    refine lv_aload_n hx hb dX12_inner_295 rfl (lv_at hl 0 rfl) ?_
    refine lv_iload hx hb dX12_inner_296 (lv_at hl 5 rfl) ?_
    refine lv_if_eq (tgt := 310) hx hb dX12_inner_298 (by decide) (fun c_24 => ?_) (fun c_24 => ?_)
    · have h := ip (c_24) h
      refine lv_iconst (v := 1) hx hb dX12_inner_310 (by decide) ?_
      exact b_inner_311 X hE hF hL hrec hFd hLd h hS (lv_sub hl [0, 1, 2, 3, 4, 5] rfl)
    · have h := im (c_24) h
      refine lv_aload_n hx hb dX12_inner_301 rfl (lv_at hl 0 rfl) ?_
      refine rg_21 X hS dX12_inner_302 ?_
      refine lv_iload_n hx hb dX12_inner_305 rfl (lv_at hl 3 rfl) ?_
      obtain ⟨v_25, e_v_25, i_26, h⟩ := rd_of h
      refine ra_21 X hS i_26 e_v_25 dX12_inner_306 ?_
      refine lv_goto (tgt := 311) hx hb dX12_inner_307 (by decide) ?_
      exact b_inner_311 X hE hF hL hrec hFd hLd h hS (lv_sub hl [0, 1, 2, 3, 4, 5] rfl)
def B_inner_274 (N : Nat) (ro : Nat → Int32 → Int32 → RSt → Option (Int32 × RSt)) (l1 : Int32) (l2 : Int32) (l3 : Int32) (l5 : Int32) (l6 : Int32) (u : RSt) : Option (Int32 × RSt) := B_inner_275 N ro l1 l2 l3 l5 l6 0 u
set_option maxHeartbeats 4000000 in
theorem b_inner_274 {r : Int32} {ro : Nat → Int32 → Int32 → RSt → Option (Int32 × RSt)} (X : RC p s m args c cX12_inner 8 (Cond.code yX12_inner cX12_inner 8 (some .int)) D kA V A) (hE : REi p l e R s m args below meth c cX12_inner D kA Z A Q r w) (hF : 2 ≤ R.frames) (hL : 47 ≤ R.locals) (hrec : RecOK_E l D kA V Z d ro) (hFd : d + 1 + 12 ≤ R.frames) (hLd : 60 * (d + 1) + 500 ≤ R.locals) {l1 : Int32} {l2 : Int32} {l3 : Int32} {l5 : Int32} {l6 : Int32}  {u : RSt} (h : B_inner_274 N ro l1 l2 l3 l5 l6 u = some (r, w)) (hS : RS D kA Z A s u H locs) (hl : lv_has ls 8 [(0, .ref (Z 200)), (1, .int l1), (2, .int l2), (3, .int l3), (5, .int l5), (6, .int l6)]) : W p l e R s m args below meth c H locs 0 0 Q (F0 m 274 ls [.ref (Z 200)]) := by
  obtain ⟨⟨hx, hb, hml, hown, hts⟩, hK, hEV, hA⟩ := id X
  have hG : ∀ w ∈ GW, w.before args s = true := fun w h => hts w (List.mem_cons_of_mem _ h)
  unfold B_inner_274 at h
  refine lv_iconst (v := 0) hx hb dX12_inner_274 (by decide) ?_
  exact b_inner_275 X hE hF hL hrec hFd hLd h hS (lv_sub hl [0, 1, 2, 3, 4, 5] rfl)
def B_inner_264 (N : Nat) (ro : Nat → Int32 → Int32 → RSt → Option (Int32 × RSt)) (l1 : Int32) (l2 : Int32) (l3 : Int32) (l5 : Int32) (l6 : Int32) (s2 : Int32) (u : RSt) : Option (Int32 × RSt) := rd (u.2.2.1 22) 320 s2 fun v_27 => if v_27 = l5 then (B_inner_274 N ro l1 l2 l3 l5 l6 u) else (B_inner_275 N ro l1 l2 l3 l5 l6 1 u)
set_option maxHeartbeats 4000000 in
theorem b_inner_264 {r : Int32} {ro : Nat → Int32 → Int32 → RSt → Option (Int32 × RSt)} (X : RC p s m args c cX12_inner 8 (Cond.code yX12_inner cX12_inner 8 (some .int)) D kA V A) (hE : REi p l e R s m args below meth c cX12_inner D kA Z A Q r w) (hF : 2 ≤ R.frames) (hL : 47 ≤ R.locals) (hrec : RecOK_E l D kA V Z d ro) (hFd : d + 1 + 12 ≤ R.frames) (hLd : 60 * (d + 1) + 500 ≤ R.locals) {l1 : Int32} {l2 : Int32} {l3 : Int32} {l5 : Int32} {l6 : Int32} {s2 : Int32}  {u : RSt} (h : B_inner_264 N ro l1 l2 l3 l5 l6 s2 u = some (r, w)) (hS : RS D kA Z A s u H locs) (hl : lv_has ls 8 [(0, .ref (Z 200)), (1, .int l1), (2, .int l2), (3, .int l3), (5, .int l5), (6, .int l6)]) : W p l e R s m args below meth c H locs 0 0 Q (F0 m 264 ls [.int s2, .ref (Z 22), .ref (Z 200)]) := by
  obtain ⟨⟨hx, hb, hml, hown, hts⟩, hK, hEV, hA⟩ := id X
  have hG : ∀ w ∈ GW, w.before args s = true := fun w h => hts w (List.mem_cons_of_mem _ h)
  unfold B_inner_264 at h
  obtain ⟨v_27, e_v_27, i_28, h⟩ := rd_of h
  refine ra_22 X hS i_28 e_v_27 dX12_inner_264 ?_
  refine lv_iload hx hb dX12_inner_265 (lv_at hl 4 rfl) ?_
  refine lv_icmp_eq (tgt := 274) hx hb dX12_inner_267 (by decide) (fun c_29 => ?_) (fun c_29 => ?_)
  · have h := ip (c_29) h
    exact b_inner_274 X hE hF hL hrec hFd hLd h hS (lv_sub hl [0, 1, 2, 3, 4, 5] rfl)
  · have h := im (c_29) h
    refine lv_iconst (v := 1) hx hb dX12_inner_270 (by decide) ?_
    refine lv_goto (tgt := 275) hx hb dX12_inner_271 (by decide) ?_
    exact b_inner_275 X hE hF hL hrec hFd hLd h hS (lv_sub hl [0, 1, 2, 3, 4, 5] rfl)
def B_inner_242 (N : Nat) (ro : Nat → Int32 → Int32 → RSt → Option (Int32 × RSt)) (l1 : Int32) (l2 : Int32) (l3 : Int32) (l5 : Int32) (s0 : Int32) (u : RSt) : Option (Int32 × RSt) := if s0 = (0 : Int32) then (B_inner_274 N ro l1 l2 l3 l5 s0 u) else (if s0 = (0 : Int32) then (B_inner_264 N ro l1 l2 l3 l5 s0 0 u) else (B_inner_264 N ro l1 l2 l3 l5 s0 l3 u))
set_option maxHeartbeats 4000000 in
theorem b_inner_242 {r : Int32} {ro : Nat → Int32 → Int32 → RSt → Option (Int32 × RSt)} (X : RC p s m args c cX12_inner 8 (Cond.code yX12_inner cX12_inner 8 (some .int)) D kA V A) (hE : REi p l e R s m args below meth c cX12_inner D kA Z A Q r w) (hF : 2 ≤ R.frames) (hL : 47 ≤ R.locals) (hrec : RecOK_E l D kA V Z d ro) (hFd : d + 1 + 12 ≤ R.frames) (hLd : 60 * (d + 1) + 500 ≤ R.locals) {l1 : Int32} {l2 : Int32} {l3 : Int32} {l5 : Int32} {s0 : Int32}  {u : RSt} (h : B_inner_242 N ro l1 l2 l3 l5 s0 u = some (r, w)) (hS : RS D kA Z A s u H locs) (hl : lv_has ls 8 [(0, .ref (Z 200)), (1, .int l1), (2, .int l2), (3, .int l3), (5, .int l5)]) : W p l e R s m args below meth c H locs 0 0 Q (F0 m 242 ls [.int s0]) := by
  obtain ⟨⟨hx, hb, hml, hown, hts⟩, hK, hEV, hA⟩ := id X
  have hG : ∀ w ∈ GW, w.before args s = true := fun w h => hts w (List.mem_cons_of_mem _ h)
  unfold B_inner_242 at h
  refine lv_istore (lv' := [(6, .int s0), (0, .ref (Z 200)), (1, .int l1), (2, .int l2), (3, .int l3), (5, .int l5)]) hx hb dX12_inner_242 hl (by decide) rfl (fun ls hl => ?_)
  refine lv_aload_n hx hb dX12_inner_244 rfl (lv_at hl 1 rfl) ?_
  refine lv_iload hx hb dX12_inner_245 (lv_at hl 0 rfl) ?_
  refine lv_if_eq (tgt := 274) hx hb dX12_inner_247 (by decide) (fun c_30 => ?_) (fun c_30 => ?_)
  · have h := ip (c_30) h
    exact b_inner_274 X hE hF hL hrec hFd hLd h hS (lv_sub hl [1, 2, 3, 4, 5, 0] rfl)
  · have h := im (c_30) h
    refine lv_aload_n hx hb dX12_inner_250 rfl (lv_at hl 1 rfl) ?_
    refine rg_22 X hS dX12_inner_251 ?_
    refine lv_iload hx hb dX12_inner_254 (lv_at hl 0 rfl) ?_
    refine lv_if_eq (tgt := 263) hx hb dX12_inner_256 (by decide) (fun c_31 => ?_) (fun c_31 => ?_)
    · have h := ip (c_31) h
      refine lv_iconst (v := 0) hx hb dX12_inner_263 (by decide) ?_
      exact b_inner_264 X hE hF hL hrec hFd hLd h hS (lv_sub hl [1, 2, 3, 4, 5, 0] rfl)
    · have h := im (c_31) h
      refine lv_iload_n hx hb dX12_inner_259 rfl (lv_at hl 4 rfl) ?_
      refine lv_goto (tgt := 264) hx hb dX12_inner_260 (by decide) ?_
      exact b_inner_264 X hE hF hL hrec hFd hLd h hS (lv_sub hl [1, 2, 3, 4, 5, 0] rfl)
def B_inner_241 (N : Nat) (ro : Nat → Int32 → Int32 → RSt → Option (Int32 × RSt)) (l1 : Int32) (l2 : Int32) (l3 : Int32) (l5 : Int32) (u : RSt) : Option (Int32 × RSt) := B_inner_242 N ro l1 l2 l3 l5 0 u
set_option maxHeartbeats 4000000 in
theorem b_inner_241 {r : Int32} {ro : Nat → Int32 → Int32 → RSt → Option (Int32 × RSt)} (X : RC p s m args c cX12_inner 8 (Cond.code yX12_inner cX12_inner 8 (some .int)) D kA V A) (hE : REi p l e R s m args below meth c cX12_inner D kA Z A Q r w) (hF : 2 ≤ R.frames) (hL : 47 ≤ R.locals) (hrec : RecOK_E l D kA V Z d ro) (hFd : d + 1 + 12 ≤ R.frames) (hLd : 60 * (d + 1) + 500 ≤ R.locals) {l1 : Int32} {l2 : Int32} {l3 : Int32} {l5 : Int32}  {u : RSt} (h : B_inner_241 N ro l1 l2 l3 l5 u = some (r, w)) (hS : RS D kA Z A s u H locs) (hl : lv_has ls 8 [(0, .ref (Z 200)), (1, .int l1), (2, .int l2), (3, .int l3), (5, .int l5)]) : W p l e R s m args below meth c H locs 0 0 Q (F0 m 241 ls []) := by
  obtain ⟨⟨hx, hb, hml, hown, hts⟩, hK, hEV, hA⟩ := id X
  have hG : ∀ w ∈ GW, w.before args s = true := fun w h => hts w (List.mem_cons_of_mem _ h)
  unfold B_inner_241 at h
  refine lv_iconst (v := 0) hx hb dX12_inner_241 (by decide) ?_
  exact b_inner_242 X hE hF hL hrec hFd hLd h hS (lv_sub hl [0, 1, 2, 3, 4] rfl)
def B_inner_209 (N : Nat) (ro : Nat → Int32 → Int32 → RSt → Option (Int32 × RSt)) (l1 : Int32) (l2 : Int32) (l3 : Int32) (s1 : Int32) (u : RSt) : Option (Int32 × RSt) := bn (F_wrong N s1 3 l2 u) fun _ u_32 => bn (F_isNext N 227 u_32) fun r_34 u_33 => if (u_33.1 69) = (0 : Int32) then (B_inner_241 N ro l1 l2 l3 r_34 u_33) else (if (u_33.1 67) = (0 : Int32) then (B_inner_242 N ro l1 l2 l3 r_34 1 u_33) else (B_inner_241 N ro l1 l2 l3 r_34 u_33))
set_option maxHeartbeats 4000000 in
theorem b_inner_209 {r : Int32} {ro : Nat → Int32 → Int32 → RSt → Option (Int32 × RSt)} (X : RC p s m args c cX12_inner 8 (Cond.code yX12_inner cX12_inner 8 (some .int)) D kA V A) (hE : REi p l e R s m args below meth c cX12_inner D kA Z A Q r w) (hF : 2 ≤ R.frames) (hL : 47 ≤ R.locals) (hrec : RecOK_E l D kA V Z d ro) (hFd : d + 1 + 12 ≤ R.frames) (hLd : 60 * (d + 1) + 500 ≤ R.locals) {l1 : Int32} {l2 : Int32} {l3 : Int32} {s1 : Int32}  {u : RSt} (h : B_inner_209 N ro l1 l2 l3 s1 u = some (r, w)) (hS : RS D kA Z A s u H locs) (hl : lv_has ls 8 [(0, .ref (Z 200)), (1, .int l1), (2, .int l2), (3, .int l3)]) : W p l e R s m args below meth c H locs 0 0 Q (F0 m 209 ls [.int s1, .ref (Z 200)]) := by
  obtain ⟨⟨hx, hb, hml, hown, hts⟩, hK, hEV, hA⟩ := id X
  have hG : ∀ w ∈ GW, w.before args s = true := fun w h => hts w (List.mem_cons_of_mem _ h)
  unfold B_inner_209 at h
  refine lv_iconst (v := 3) hx hb dX12_inner_209 (by decide) ?_
  refine lv_iload_n hx hb dX12_inner_210 rfl (lv_at hl 2 rfl) ?_
  obtain ⟨r_u_32, u_32, h_u_32, h⟩ := bn_of h
  refine kc_wrong X hS h_u_32 (Nat.le_trans (Nat.le_of_ble_eq_true rfl) hF) (Nat.le_trans (Nat.le_of_ble_eq_true rfl) hL) hl.1 (Nat.le_of_ble_eq_true rfl) dX12_inner_211 (fun H locs hS => ?_)
  refine lv_aload_n hx hb dX12_inner_214 rfl (lv_at hl 0 rfl) ?_
  refine lv_sipush (v := 227) hx hb dX12_inner_215 (by decide) ?_
  obtain ⟨r_34, u_33, h_u_33, h⟩ := bn_of h
  refine kc_isNext X hS h_u_33 (Nat.le_trans (Nat.le_of_ble_eq_true rfl) hF) (Nat.le_trans (Nat.le_of_ble_eq_true rfl) hL) hl.1 (Nat.le_of_ble_eq_true rfl) dX12_inner_218 (fun H locs hS => ?_)
  refine lv_istore (lv' := [(5, .int r_34), (0, .ref (Z 200)), (1, .int l1), (2, .int l2), (3, .int l3)]) hx hb dX12_inner_221 hl (by decide) rfl (fun ls hl => ?_)
  refine lv_aload_n hx hb dX12_inner_223 rfl (lv_at hl 1 rfl) ?_
  refine rg_69 X hS dX12_inner_224 ?_
  refine lv_if_eq (tgt := 241) hx hb dX12_inner_227 (by decide) (fun c_35 => ?_) (fun c_35 => ?_)
  · have h := ip (c_35) h
    exact b_inner_241 X hE hF hL hrec hFd hLd h hS (lv_sub hl [1, 2, 3, 4, 0] rfl)
  · have h := im (c_35) h
    refine lv_aload_n hx hb dX12_inner_230 rfl (lv_at hl 1 rfl) ?_
    refine rg_67 X hS dX12_inner_231 ?_
    refine lv_if_ne (tgt := 241) hx hb dX12_inner_234 (by decide) (fun c_36 => ?_) (fun c_36 => ?_)
    · have h := im (c_36) h
      exact b_inner_241 X hE hF hL hrec hFd hLd h hS (lv_sub hl [1, 2, 3, 4, 0] rfl)
    · have h := ip (c_36) h
      refine lv_iconst (v := 1) hx hb dX12_inner_237 (by decide) ?_
      refine lv_goto (tgt := 242) hx hb dX12_inner_238 (by decide) ?_
      exact b_inner_242 X hE hF hL hrec hFd hLd h hS (lv_sub hl [1, 2, 3, 4, 0] rfl)
def B_inner_198 (N : Nat) (ro : Nat → Int32 → Int32 → RSt → Option (Int32 × RSt)) (l1 : Int32) (l2 : Int32) (l3 : Int32) (u : RSt) : Option (Int32 × RSt) := if l3 = ((-1) : Int32) then (B_inner_209 N ro l1 l2 l3 1 u) else (B_inner_209 N ro l1 l2 l3 0 u)
set_option maxHeartbeats 4000000 in
theorem b_inner_198 {r : Int32} {ro : Nat → Int32 → Int32 → RSt → Option (Int32 × RSt)} (X : RC p s m args c cX12_inner 8 (Cond.code yX12_inner cX12_inner 8 (some .int)) D kA V A) (hE : REi p l e R s m args below meth c cX12_inner D kA Z A Q r w) (hF : 2 ≤ R.frames) (hL : 47 ≤ R.locals) (hrec : RecOK_E l D kA V Z d ro) (hFd : d + 1 + 12 ≤ R.frames) (hLd : 60 * (d + 1) + 500 ≤ R.locals) {l1 : Int32} {l2 : Int32} {l3 : Int32}  {u : RSt} (h : B_inner_198 N ro l1 l2 l3 u = some (r, w)) (hS : RS D kA Z A s u H locs) (hl : lv_has ls 8 [(0, .ref (Z 200)), (1, .int l1), (2, .int l2), (3, .int l3)]) : W p l e R s m args below meth c H locs 0 0 Q (F0 m 198 ls []) := by
  obtain ⟨⟨hx, hb, hml, hown, hts⟩, hK, hEV, hA⟩ := id X
  have hG : ∀ w ∈ GW, w.before args s = true := fun w h => hts w (List.mem_cons_of_mem _ h)
  unfold B_inner_198 at h
  refine lv_aload_n hx hb dX12_inner_198 rfl (lv_at hl 0 rfl) ?_
  refine lv_iload_n hx hb dX12_inner_199 rfl (lv_at hl 3 rfl) ?_
  refine lv_iconst (v := (-1)) hx hb dX12_inner_200 (by decide) ?_
  refine lv_icmp_ne (tgt := 208) hx hb dX12_inner_201 (by decide) (fun c_37 => ?_) (fun c_37 => ?_)
  · have h := im (c_37) h
    refine lv_iconst (v := 0) hx hb dX12_inner_208 (by decide) ?_
    exact b_inner_209 X hE hF hL hrec hFd hLd h hS (lv_sub hl [0, 1, 2, 3] rfl)
  · have h := ip (c_37) h
    refine lv_iconst (v := 1) hx hb dX12_inner_204 (by decide) ?_
    refine lv_goto (tgt := 209) hx hb dX12_inner_205 (by decide) ?_
    exact b_inner_209 X hE hF hL hrec hFd hLd h hS (lv_sub hl [0, 1, 2, 3] rfl)
def B_inner_102 (N : Nat) (ro : Nat → Int32 → Int32 → RSt → Option (Int32 × RSt)) (R_102 : Int32 × Int32 × Int32 × Int32 × Int32 × RSt → Option (Int32 × RSt)) (l1 : Int32) (l2 : Int32) (l3 : Int32) (l4 : Int32) (l5 : Int32) (u : RSt) : Option (Int32 × RSt) := if (u.1 69) = (0 : Int32) then (B_inner_198 N ro l1 l2 l3 u) else (if (u.1 67) = (0 : Int32) then (rd (u.2.2.1 29) 48 l4 fun v_40 => if v_40 ≤ l5 then (B_inner_198 N ro l1 l2 l3 u) else (rd (u.2.2.1 28) 48 l4 fun v_43 => rd (u.2.2.2 25) 320 (((160 * (u.1 56)) + v_43) + l5) fun v_45 => rd (u.2.2.2 6) 1502 (u.1 65) fun v_47 => if v_45 = v_47 then (rd (u.2.2.2 26) 320 (((160 * (u.1 56)) + v_43) + l5) fun v_50 => rd (u.2.2.2 7) 1502 (u.1 65) fun v_52 => if v_50 = v_52 then (B_inner_192 N ro R_102 l1 l2 (((160 * (u.1 56)) + v_43) + l5) l4 l5 u) else (B_inner_192 N ro R_102 l1 l2 l3 l4 l5 u)) else (B_inner_192 N ro R_102 l1 l2 l3 l4 l5 u))) else (B_inner_198 N ro l1 l2 l3 u))
set_option maxHeartbeats 4000000 in
theorem b_inner_102 {r : Int32} {ro : Nat → Int32 → Int32 → RSt → Option (Int32 × RSt)} (X : RC p s m args c cX12_inner 8 (Cond.code yX12_inner cX12_inner 8 (some .int)) D kA V A) (hE : REi p l e R s m args below meth c cX12_inner D kA Z A Q r w) (hF : 2 ≤ R.frames) (hL : 47 ≤ R.locals) (hrec : RecOK_E l D kA V Z d ro) (hFd : d + 1 + 12 ≤ R.frames) (hLd : 60 * (d + 1) + 500 ≤ R.locals) {R_102 : Int32 × Int32 × Int32 × Int32 × Int32 × RSt → Option (Int32 × RSt)} {l1 : Int32} {l2 : Int32} {l3 : Int32} {l4 : Int32} {l5 : Int32} (hR_102 : ∀ (l1 : Int32) (l2 : Int32) (l3 : Int32) (l4 : Int32) (l5 : Int32) (u : RSt), R_102 (l1, l2, l3, l4, l5, u) = some (r, w) → ∀ (H : Heap) (locs : List Loc) (ls : Array Slot), RS D kA Z A s u H locs → lv_has ls 8 [(0, .ref (Z 200)), (1, .int l1), (2, .int l2), (3, .int l3), (4, .int l4), (5, .int l5)] → W p l e R s m args below meth c H locs 0 0 Q (F0 m 102 ls [])) {u : RSt} (h : B_inner_102 N ro R_102 l1 l2 l3 l4 l5 u = some (r, w)) (hS : RS D kA Z A s u H locs) (hl : lv_has ls 8 [(0, .ref (Z 200)), (1, .int l1), (2, .int l2), (3, .int l3), (4, .int l4), (5, .int l5)]) : W p l e R s m args below meth c H locs 0 0 Q (F0 m 102 ls []) := by
  obtain ⟨⟨hx, hb, hml, hown, hts⟩, hK, hEV, hA⟩ := id X
  have hG : ∀ w ∈ GW, w.before args s = true := fun w h => hts w (List.mem_cons_of_mem _ h)
  unfold B_inner_102 at h
  refine lv_aload_n hx hb dX12_inner_102 rfl (lv_at hl 0 rfl) ?_
  refine rg_69 X hS dX12_inner_103 ?_
  refine lv_if_eq (tgt := 198) hx hb dX12_inner_106 (by decide) (fun c_38 => ?_) (fun c_38 => ?_)
  · have h := ip (c_38) h
    exact b_inner_198 X hE hF hL hrec hFd hLd h hS (lv_sub hl [0, 1, 2, 3] rfl)
  · have h := im (c_38) h
    refine lv_aload_n hx hb dX12_inner_109 rfl (lv_at hl 0 rfl) ?_
    refine rg_67 X hS dX12_inner_110 ?_
    refine lv_if_ne (tgt := 198) hx hb dX12_inner_113 (by decide) (fun c_39 => ?_) (fun c_39 => ?_)
    · have h := im (c_39) h
      exact b_inner_198 X hE hF hL hrec hFd hLd h hS (lv_sub hl [0, 1, 2, 3] rfl)
    · have h := ip (c_39) h
      refine lv_iload hx hb dX12_inner_116 (lv_at hl 5 rfl) ?_
      refine lv_aload_n hx hb dX12_inner_118 rfl (lv_at hl 0 rfl) ?_
      refine rg_29 X hS dX12_inner_119 ?_
      refine lv_iload hx hb dX12_inner_122 (lv_at hl 4 rfl) ?_
      obtain ⟨v_40, e_v_40, i_41, h⟩ := rd_of h
      refine ra_29 X hS i_41 e_v_40 dX12_inner_124 ?_
      refine lv_icmp_ge (tgt := 198) hx hb dX12_inner_125 (by decide) (fun c_42 => ?_) (fun c_42 => ?_)
      · have h := ip (c_42) h
        exact b_inner_198 X hE hF hL hrec hFd hLd h hS (lv_sub hl [0, 1, 2, 3] rfl)
      · have h := im (c_42) h
        refine lv_sipush (v := 160) hx hb dX12_inner_128 (by decide) ?_
        refine lv_aload_n hx hb dX12_inner_131 rfl (lv_at hl 0 rfl) ?_
        refine rg_56 X hS dX12_inner_132 ?_
        refine lv_imul hx hb dX12_inner_135 ?_
        refine lv_aload_n hx hb dX12_inner_136 rfl (lv_at hl 0 rfl) ?_
        refine rg_28 X hS dX12_inner_137 ?_
        refine lv_iload hx hb dX12_inner_140 (lv_at hl 4 rfl) ?_
        obtain ⟨v_43, e_v_43, i_44, h⟩ := rd_of h
        refine ra_28 X hS i_44 e_v_43 dX12_inner_142 ?_
        refine lv_iadd hx hb dX12_inner_143 ?_
        refine lv_iload hx hb dX12_inner_144 (lv_at hl 5 rfl) ?_
        refine lv_iadd hx hb dX12_inner_146 ?_
        refine lv_istore (lv' := [(6, .int (((160 * (u.1 56)) + v_43) + l5)), (0, .ref (Z 200)), (1, .int l1), (2, .int l2), (3, .int l3), (4, .int l4), (5, .int l5)]) hx hb dX12_inner_147 hl (by decide) rfl (fun ls hl => ?_)
        refine lv_aload_n hx hb dX12_inner_149 rfl (lv_at hl 1 rfl) ?_
        refine rg_25 X hS dX12_inner_150 ?_
        refine lv_iload hx hb dX12_inner_153 (lv_at hl 0 rfl) ?_
        obtain ⟨v_45, e_v_45, i_46, h⟩ := rd_of h
        refine ra_25 X hS i_46 e_v_45 dX12_inner_155 ?_
        refine lv_aload_n hx hb dX12_inner_156 rfl (lv_at hl 1 rfl) ?_
        refine rg_6 X hS dX12_inner_157 ?_
        refine lv_aload_n hx hb dX12_inner_160 rfl (lv_at hl 1 rfl) ?_
        refine rg_65 X hS dX12_inner_161 ?_
        obtain ⟨v_47, e_v_47, i_48, h⟩ := rd_of h
        refine ra_6 X hS i_48 e_v_47 dX12_inner_164 ?_
        refine W.lcmp hx hb dX12_inner_165 ?_
        refine lv_if_ne (tgt := 192) hx hb dX12_inner_166 (by decide) (fun c_49 => ?_) (fun c_49 => ?_)
        · have h := im (mt (lg_cmp_eq _ _).mpr c_49) h
          exact b_inner_192 X hE hF hL hrec hFd hLd hR_102 h hS (lv_sub hl [1, 2, 3, 4, 5, 6] rfl)
        · have h := ip ((lg_cmp_eq _ _).mp c_49) h
          refine lv_aload_n hx hb dX12_inner_169 rfl (lv_at hl 1 rfl) ?_
          refine rg_26 X hS dX12_inner_170 ?_
          refine lv_iload hx hb dX12_inner_173 (lv_at hl 0 rfl) ?_
          obtain ⟨v_50, e_v_50, i_51, h⟩ := rd_of h
          refine ra_26 X hS i_51 e_v_50 dX12_inner_175 ?_
          refine lv_aload_n hx hb dX12_inner_176 rfl (lv_at hl 1 rfl) ?_
          refine rg_7 X hS dX12_inner_177 ?_
          refine lv_aload_n hx hb dX12_inner_180 rfl (lv_at hl 1 rfl) ?_
          refine rg_65 X hS dX12_inner_181 ?_
          obtain ⟨v_52, e_v_52, i_53, h⟩ := rd_of h
          refine ra_7 X hS i_53 e_v_52 dX12_inner_184 ?_
          refine W.lcmp hx hb dX12_inner_185 ?_
          refine lv_if_ne (tgt := 192) hx hb dX12_inner_186 (by decide) (fun c_54 => ?_) (fun c_54 => ?_)
          · have h := im (mt (lg_cmp_eq _ _).mpr c_54) h
            exact b_inner_192 X hE hF hL hrec hFd hLd hR_102 h hS (lv_sub hl [1, 2, 3, 4, 5, 6] rfl)
          · have h := ip ((lg_cmp_eq _ _).mp c_54) h
            refine lv_iload hx hb dX12_inner_189 (lv_at hl 0 rfl) ?_
            refine lv_istore_n (lv' := [(3, .int (((160 * (u.1 56)) + v_43) + l5)), (6, .int (((160 * (u.1 56)) + v_43) + l5)), (0, .ref (Z 200)), (1, .int l1), (2, .int l2), (4, .int l4), (5, .int l5)]) hx hb dX12_inner_191 rfl hl (by decide) rfl (fun ls hl => ?_)
            exact b_inner_192 X hE hF hL hrec hFd hLd hR_102 h hS (lv_sub hl [2, 3, 4, 0, 5, 6] rfl)
def LP_inner_102 (N : Nat) (ro : Nat → Int32 → Int32 → RSt → Option (Int32 × RSt)) : Nat → Int32 × Int32 × Int32 × Int32 × Int32 × RSt → Option (Int32 × RSt) := lp (fun R a => B_inner_102 N ro R a.1 a.2.1 a.2.2.1 a.2.2.2.1 a.2.2.2.2.1 a.2.2.2.2.2)
theorem bl_inner_102 {r : Int32} {ro : Nat → Int32 → Int32 → RSt → Option (Int32 × RSt)} (X : RC p s m args c cX12_inner 8 (Cond.code yX12_inner cX12_inner 8 (some .int)) D kA V A) (hE : REi p l e R s m args below meth c cX12_inner D kA Z A Q r w) (hF : 2 ≤ R.frames) (hL : 47 ≤ R.locals) (hrec : RecOK_E l D kA V Z d ro) (hFd : d + 1 + 12 ≤ R.frames) (hLd : 60 * (d + 1) + 500 ≤ R.locals)  : ∀ (n : Nat) (l1 : Int32) (l2 : Int32) (l3 : Int32) (l4 : Int32) (l5 : Int32) (u : RSt), LP_inner_102 N ro n (l1, l2, l3, l4, l5, u) = some (r, w) → ∀ (H : Heap) (locs : List Loc) (ls : Array Slot), RS D kA Z A s u H locs → lv_has ls 8 [(0, .ref (Z 200)), (1, .int l1), (2, .int l2), (3, .int l3), (4, .int l4), (5, .int l5)] → W p l e R s m args below meth c H locs 0 0 Q (F0 m 102 ls []) := by
  intro n
  induction n with
  | zero => intro l1 l2 l3 l4 l5 u h; exact nomatch h
  | succ n ih => intro l1 l2 l3 l4 l5 u h H locs ls hS hl; exact b_inner_102 (N := N) (R_102 := LP_inner_102 N ro n) X hE hF hL hrec hFd hLd ih h hS hl
def B_inner_97 (N : Nat) (ro : Nat → Int32 → Int32 → RSt → Option (Int32 × RSt)) (l1 : Int32) (l2 : Int32) (l3 : Int32) (s0 : Int32) (u : RSt) : Option (Int32 × RSt) := LP_inner_102 N ro N (l1, l2, l3, s0, 0, u)
set_option maxHeartbeats 4000000 in
theorem b_inner_97 {r : Int32} {ro : Nat → Int32 → Int32 → RSt → Option (Int32 × RSt)} (X : RC p s m args c cX12_inner 8 (Cond.code yX12_inner cX12_inner 8 (some .int)) D kA V A) (hE : REi p l e R s m args below meth c cX12_inner D kA Z A Q r w) (hF : 2 ≤ R.frames) (hL : 47 ≤ R.locals) (hrec : RecOK_E l D kA V Z d ro) (hFd : d + 1 + 12 ≤ R.frames) (hLd : 60 * (d + 1) + 500 ≤ R.locals) {l1 : Int32} {l2 : Int32} {l3 : Int32} {s0 : Int32}  {u : RSt} (h : B_inner_97 N ro l1 l2 l3 s0 u = some (r, w)) (hS : RS D kA Z A s u H locs) (hl : lv_has ls 8 [(0, .ref (Z 200)), (1, .int l1), (2, .int l2), (3, .int l3)]) : W p l e R s m args below meth c H locs 0 0 Q (F0 m 97 ls [.int s0]) := by
  obtain ⟨⟨hx, hb, hml, hown, hts⟩, hK, hEV, hA⟩ := id X
  have hG : ∀ w ∈ GW, w.before args s = true := fun w h => hts w (List.mem_cons_of_mem _ h)
  unfold B_inner_97 at h
  refine lv_istore (lv' := [(4, .int s0), (0, .ref (Z 200)), (1, .int l1), (2, .int l2), (3, .int l3)]) hx hb dX12_inner_97 hl (by decide) rfl (fun ls hl => ?_)
  refine lv_iconst (v := 0) hx hb dX12_inner_99 (by decide) ?_
  refine lv_istore (lv' := [(5, .int 0), (4, .int s0), (0, .ref (Z 200)), (1, .int l1), (2, .int l2), (3, .int l3)]) hx hb dX12_inner_100 hl (by decide) rfl (fun ls hl => ?_)
  exact bl_inner_102 X hE hF hL hrec hFd hLd _ _ _ _ _ _ _ h _ _ _ hS (lv_sub hl [2, 3, 4, 5, 1, 0] rfl)
def B_inner_96 (N : Nat) (ro : Nat → Int32 → Int32 → RSt → Option (Int32 × RSt)) (l1 : Int32) (l2 : Int32) (l3 : Int32) (u : RSt) : Option (Int32 × RSt) := B_inner_97 N ro l1 l2 l3 0 u
set_option maxHeartbeats 4000000 in
theorem b_inner_96 {r : Int32} {ro : Nat → Int32 → Int32 → RSt → Option (Int32 × RSt)} (X : RC p s m args c cX12_inner 8 (Cond.code yX12_inner cX12_inner 8 (some .int)) D kA V A) (hE : REi p l e R s m args below meth c cX12_inner D kA Z A Q r w) (hF : 2 ≤ R.frames) (hL : 47 ≤ R.locals) (hrec : RecOK_E l D kA V Z d ro) (hFd : d + 1 + 12 ≤ R.frames) (hLd : 60 * (d + 1) + 500 ≤ R.locals) {l1 : Int32} {l2 : Int32} {l3 : Int32}  {u : RSt} (h : B_inner_96 N ro l1 l2 l3 u = some (r, w)) (hS : RS D kA Z A s u H locs) (hl : lv_has ls 8 [(0, .ref (Z 200)), (1, .int l1), (2, .int l2), (3, .int l3)]) : W p l e R s m args below meth c H locs 0 0 Q (F0 m 96 ls []) := by
  obtain ⟨⟨hx, hb, hml, hown, hts⟩, hK, hEV, hA⟩ := id X
  have hG : ∀ w ∈ GW, w.before args s = true := fun w h => hts w (List.mem_cons_of_mem _ h)
  unfold B_inner_96 at h
  refine lv_iconst (v := 0) hx hb dX12_inner_96 (by decide) ?_
  exact b_inner_97 X hE hF hL hrec hFd hLd h hS (lv_sub hl [0, 1, 2, 3] rfl)
def B_inner_17 (N : Nat) (ro : Nat → Int32 → Int32 → RSt → Option (Int32 × RSt)) (l1 : Int32) (s1 : Int32) (u : RSt) : Option (Int32 × RSt) := rd (u.2.2.1 3) 1502 (u.1 65) fun v_55 => bn (F_wrong N s1 3 v_55 u) fun _ u_57 => rd (u_57.2.2.1 3) 1502 (u_57.1 65) fun v_58 => bn (F_cost N v_58 u_57) fun _ u_60 => pu (sI u_60 65 ((u_60.1 65) + 2)) fun u_61 => rd (u_61.2.2.1 3) 1502 (u_61.1 65) fun v_62 => if (u_61.1 69) = (0 : Int32) then (B_inner_96 N ro l1 v_62 (-1) u_61) else (if (u_61.1 67) = (0 : Int32) then (rd (u_61.2.2.1 38) 48 ((24 * (u_61.1 56)) + l1) fun v_66 => B_inner_97 N ro l1 v_62 (-1) v_66 u_61) else (B_inner_96 N ro l1 v_62 (-1) u_61))
set_option maxHeartbeats 4000000 in
theorem b_inner_17 {r : Int32} {ro : Nat → Int32 → Int32 → RSt → Option (Int32 × RSt)} (X : RC p s m args c cX12_inner 8 (Cond.code yX12_inner cX12_inner 8 (some .int)) D kA V A) (hE : REi p l e R s m args below meth c cX12_inner D kA Z A Q r w) (hF : 2 ≤ R.frames) (hL : 47 ≤ R.locals) (hrec : RecOK_E l D kA V Z d ro) (hFd : d + 1 + 12 ≤ R.frames) (hLd : 60 * (d + 1) + 500 ≤ R.locals) {l1 : Int32} {s1 : Int32}  {u : RSt} (h : B_inner_17 N ro l1 s1 u = some (r, w)) (hS : RS D kA Z A s u H locs) (hl : lv_has ls 8 [(0, .ref (Z 200)), (1, .int l1)]) : W p l e R s m args below meth c H locs 0 0 Q (F0 m 17 ls [.int s1, .ref (Z 200)]) := by
  obtain ⟨⟨hx, hb, hml, hown, hts⟩, hK, hEV, hA⟩ := id X
  have hG : ∀ w ∈ GW, w.before args s = true := fun w h => hts w (List.mem_cons_of_mem _ h)
  unfold B_inner_17 at h
  refine lv_iconst (v := 3) hx hb dX12_inner_17 (by decide) ?_
  refine lv_aload_n hx hb dX12_inner_18 rfl (lv_at hl 0 rfl) ?_
  refine rg_3 X hS dX12_inner_19 ?_
  refine lv_aload_n hx hb dX12_inner_22 rfl (lv_at hl 0 rfl) ?_
  refine rg_65 X hS dX12_inner_23 ?_
  obtain ⟨v_55, e_v_55, i_56, h⟩ := rd_of h
  refine ra_3 X hS i_56 e_v_55 dX12_inner_26 ?_
  obtain ⟨r_u_57, u_57, h_u_57, h⟩ := bn_of h
  refine kc_wrong X hS h_u_57 (Nat.le_trans (Nat.le_of_ble_eq_true rfl) hF) (Nat.le_trans (Nat.le_of_ble_eq_true rfl) hL) hl.1 (Nat.le_of_ble_eq_true rfl) dX12_inner_27 (fun H locs hS => ?_)
  refine lv_aload_n hx hb dX12_inner_30 rfl (lv_at hl 0 rfl) ?_
  refine lv_aload_n hx hb dX12_inner_31 rfl (lv_at hl 0 rfl) ?_
  refine rg_3 X hS dX12_inner_32 ?_
  refine lv_aload_n hx hb dX12_inner_35 rfl (lv_at hl 0 rfl) ?_
  refine rg_65 X hS dX12_inner_36 ?_
  obtain ⟨v_58, e_v_58, i_59, h⟩ := rd_of h
  refine ra_3 X hS i_59 e_v_58 dX12_inner_39 ?_
  obtain ⟨r_u_60, u_60, h_u_60, h⟩ := bn_of h
  refine kc_cost X hS h_u_60 (Nat.le_trans (Nat.le_of_ble_eq_true rfl) hF) (Nat.le_trans (Nat.le_of_ble_eq_true rfl) hL) hl.1 (Nat.le_of_ble_eq_true rfl) dX12_inner_40 (fun H locs hS => ?_)
  refine lv_aload_n hx hb dX12_inner_43 rfl (lv_at hl 0 rfl) ?_
  refine lv_dup hx hb dX12_inner_44 rfl ?_
  refine rg_65 X hS dX12_inner_45 ?_
  refine lv_iconst (v := 2) hx hb dX12_inner_48 (by decide) ?_
  refine lv_iadd hx hb dX12_inner_49 ?_
  obtain ⟨u_61, e_u_61, h⟩ := pu_of h
  refine rp_65 X hS e_u_61 dX12_inner_50 (fun H locs hS => ?_)
  refine lv_aload_n hx hb dX12_inner_53 rfl (lv_at hl 0 rfl) ?_
  refine rg_3 X hS dX12_inner_54 ?_
  refine lv_aload_n hx hb dX12_inner_57 rfl (lv_at hl 0 rfl) ?_
  refine rg_65 X hS dX12_inner_58 ?_
  obtain ⟨v_62, e_v_62, i_63, h⟩ := rd_of h
  refine ra_3 X hS i_63 e_v_62 dX12_inner_61 ?_
  refine lv_istore_n (lv' := [(2, .int v_62), (0, .ref (Z 200)), (1, .int l1)]) hx hb dX12_inner_62 rfl hl (by decide) rfl (fun ls hl => ?_)
  refine lv_iconst (v := (-1)) hx hb dX12_inner_63 (by decide) ?_
  refine lv_istore_n (lv' := [(3, .int (-1)), (2, .int v_62), (0, .ref (Z 200)), (1, .int l1)]) hx hb dX12_inner_64 rfl hl (by decide) rfl (fun ls hl => ?_)
  refine lv_aload_n hx hb dX12_inner_65 rfl (lv_at hl 2 rfl) ?_
  refine rg_69 X hS dX12_inner_66 ?_
  refine lv_if_eq (tgt := 96) hx hb dX12_inner_69 (by decide) (fun c_64 => ?_) (fun c_64 => ?_)
  · have h := ip (c_64) h
    exact b_inner_96 X hE hF hL hrec hFd hLd h hS (lv_sub hl [2, 3, 1, 0] rfl)
  · have h := im (c_64) h
    refine lv_aload_n hx hb dX12_inner_72 rfl (lv_at hl 2 rfl) ?_
    refine rg_67 X hS dX12_inner_73 ?_
    refine lv_if_ne (tgt := 96) hx hb dX12_inner_76 (by decide) (fun c_65 => ?_) (fun c_65 => ?_)
    · have h := im (c_65) h
      exact b_inner_96 X hE hF hL hrec hFd hLd h hS (lv_sub hl [2, 3, 1, 0] rfl)
    · have h := ip (c_65) h
      refine lv_aload_n hx hb dX12_inner_79 rfl (lv_at hl 2 rfl) ?_
      refine rg_38 X hS dX12_inner_80 ?_
      refine lv_bipush (v := 24) hx hb dX12_inner_83 (by decide) ?_
      refine lv_aload_n hx hb dX12_inner_85 rfl (lv_at hl 2 rfl) ?_
      refine rg_56 X hS dX12_inner_86 ?_
      refine lv_imul hx hb dX12_inner_89 ?_
      refine lv_iload_n hx hb dX12_inner_90 rfl (lv_at hl 3 rfl) ?_
      refine lv_iadd hx hb dX12_inner_91 ?_
      obtain ⟨v_66, e_v_66, i_67, h⟩ := rd_of h
      refine ra_38 X hS i_67 e_v_66 dX12_inner_92 ?_
      refine lv_goto (tgt := 97) hx hb dX12_inner_93 (by decide) ?_
      exact b_inner_97 X hE hF hL hrec hFd hLd h hS (lv_sub hl [2, 3, 1, 0] rfl)
def B_inner_0 (N : Nat) (ro : Nat → Int32 → Int32 → RSt → Option (Int32 × RSt)) (u : RSt) : Option (Int32 × RSt) := bn (F_own N 1 u) fun r_69 u_68 => if r_69 = ((-1) : Int32) then (B_inner_17 N ro r_69 1 u_68) else (B_inner_17 N ro r_69 0 u_68)
set_option maxHeartbeats 4000000 in
theorem b_inner_0 {r : Int32} {ro : Nat → Int32 → Int32 → RSt → Option (Int32 × RSt)} (X : RC p s m args c cX12_inner 8 (Cond.code yX12_inner cX12_inner 8 (some .int)) D kA V A) (hE : REi p l e R s m args below meth c cX12_inner D kA Z A Q r w) (hF : 2 ≤ R.frames) (hL : 47 ≤ R.locals) (hrec : RecOK_E l D kA V Z d ro) (hFd : d + 1 + 12 ≤ R.frames) (hLd : 60 * (d + 1) + 500 ≤ R.locals)  {u : RSt} (h : B_inner_0 N ro u = some (r, w)) (hS : RS D kA Z A s u H locs) (hl : lv_has ls 8 [(0, .ref (Z 200))]) : W p l e R s m args below meth c H locs 0 0 Q (F0 m 0 ls []) := by
  obtain ⟨⟨hx, hb, hml, hown, hts⟩, hK, hEV, hA⟩ := id X
  have hG : ∀ w ∈ GW, w.before args s = true := fun w h => hts w (List.mem_cons_of_mem _ h)
  unfold B_inner_0 at h
  refine lv_aload_n hx hb dX12_inner_0 rfl (lv_at hl 0 rfl) ?_
  refine lv_iconst (v := 1) hx hb dX12_inner_1 (by decide) ?_
  obtain ⟨r_69, u_68, h_u_68, h⟩ := bn_of h
  refine kc_own X hS h_u_68 (Nat.le_trans (Nat.le_of_ble_eq_true rfl) hF) (Nat.le_trans (Nat.le_of_ble_eq_true rfl) hL) hl.1 (Nat.le_of_ble_eq_true rfl) dX12_inner_2 (fun H locs hS => ?_)
  refine lv_istore_n (lv' := [(1, .int r_69), (0, .ref (Z 200))]) hx hb dX12_inner_5 rfl hl (by decide) rfl (fun ls hl => ?_)
  refine lv_aload_n hx hb dX12_inner_6 rfl (lv_at hl 1 rfl) ?_
  refine lv_iload_n hx hb dX12_inner_7 rfl (lv_at hl 0 rfl) ?_
  refine lv_iconst (v := (-1)) hx hb dX12_inner_8 (by decide) ?_
  refine lv_icmp_ne (tgt := 16) hx hb dX12_inner_9 (by decide) (fun c_70 => ?_) (fun c_70 => ?_)
  · have h := im (c_70) h
    refine lv_iconst (v := 0) hx hb dX12_inner_16 (by decide) ?_
    exact b_inner_17 X hE hF hL hrec hFd hLd h hS (lv_sub hl [1, 0] rfl)
  · have h := ip (c_70) h
    refine lv_iconst (v := 1) hx hb dX12_inner_12 (by decide) ?_
    refine lv_goto (tgt := 17) hx hb dX12_inner_13 (by decide) ?_
    exact b_inner_17 X hE hF hL hrec hFd hLd h hS (lv_sub hl [1, 0] rfl)
def F_inner (N : Nat) (ro : Nat → Int32 → Int32 → RSt → Option (Int32 × RSt)) (u : RSt) : Option (Int32 × RSt) := B_inner_0 N ro u
set_option maxHeartbeats 4000000 in
theorem k_inner (l : Launch) (D : va_G) (kA : Nat → ClassId) (V Z : Nat → Nat) (N : Nat) {d : Nat} (ro : Nat → Int32 → Int32 → RSt → Option (Int32 × RSt)) (hrec : RecOK_E l D kA V Z d ro) (u : RSt) (sz : Nat) {r : Int32} {w : RSt} (h : F_inner N ro u = some (r, w)) : Met l yX12_inner (Cond.code yX12_inner cX12_inner 8 (some .int) :: GW) { frames := d + 1 + 12, cells := 0, slots := 0, locals := 60 * (d + 1) + 500 } (rPc D kA V Z [] u sz) (rQi D kA Z u sz r w) 0 0 (va_A (RW kA Z u) sz) := by
  refine Met.ofW (cc := cX12_inner) (maxL := 8) (ret := (some .int)) (by decide) rfl ?_
  intro p e s m args below meth c s₁ Bd hml hv
  obtain ⟨rfl, hsz, hP, hK, hD0, hE⟩ := hv
  have hts := atoms_spec (ws := Cond.code yX12_inner cX12_inner 8 (some .int) :: GW) Bd.pre
  have hl := lv_entry (.ref (Z 200) :: []) (n := 8) (Nat.le_of_ble_eq_true rfl)
  rw [lg_entry_eq]
  generalize (lg_sl (.ref (Z 200) :: []) ++ List.replicate (8 - (lg_sl (.ref (Z 200) :: [])).length) Slot.unset).toArray = ls at hl ⊢
  have hl : lv_has ls 8 [(0, .ref (Z 200))] := hl
  subst hsz
  have X : RC p s m (.ref (Z 200) :: []).toArray c cX12_inner 8 (Cond.code yX12_inner cX12_inner 8 (some .int)) D kA V (va_A (RW kA Z u) s.heap.size) := ⟨⟨Bd.exec, Bd.bytes, hml, findClass_of_methodNamed Bd.named, hts⟩, hK, hE, fun q h => Or.inr h⟩
  exact b_inner_0 X (rend_i (cy := cX12_inner) X Bd.returns Bd.notSynchronized) (Nat.le_trans (Nat.le_of_ble_eq_true rfl) (Nat.le_add_left 12 _)) (Nat.le_trans (Nat.le_of_ble_eq_true rfl) (Nat.le_add_left 500 _)) hrec (Nat.le_refl _) (Nat.le_refl _) h ⟨hP, hD0.self, va_S.rf⟩ (lv_sub hl [0] rfl)
def B_index_35 (N : Nat) (ro : Nat → Int32 → Int32 → RSt → Option (Int32 × RSt)) (l1 : Int32) (l2 : Int32) (l3 : Int32) (s1 : Int32) (u : RSt) : Option (Int32 × RSt) := bn (F_wrong N s1 4 l3 u) fun _ u_1 => bn (F_emit N 15 l1 l2 u_1) fun r_3 u_2 => bn (F_ends N 228 u_2) fun _ u_4 => some (0, u_4)
set_option maxHeartbeats 4000000 in
theorem b_index_35 {r : Int32} {ro : Nat → Int32 → Int32 → RSt → Option (Int32 × RSt)} (X : RC p s m args c cX12_index 6 (Cond.code yX12_index cX12_index 6 none) D kA V A) (hE : REv p l e R s m args below meth c cX12_index D kA Z A Q w) (hF : 4 ≤ R.frames) (hL : 84 ≤ R.locals) (hrec : RecOK_E l D kA V Z d ro) (hFd : d + 1 + 12 ≤ R.frames) (hLd : 60 * (d + 1) + 500 ≤ R.locals) {l1 : Int32} {l2 : Int32} {l3 : Int32} {s1 : Int32}  {u : RSt} (h : B_index_35 N ro l1 l2 l3 s1 u = some (r, w)) (hS : RS D kA Z A s u H locs) (hl : lv_has ls 6 [(0, .ref (Z 200)), (1, .int l1), (2, .int l2), (3, .int l3)]) : W p l e R s m args below meth c H locs 0 0 Q (F0 m 35 ls [.int s1, .ref (Z 200)]) := by
  obtain ⟨⟨hx, hb, hml, hown, hts⟩, hK, hEV, hA⟩ := id X
  have hG : ∀ w ∈ GW, w.before args s = true := fun w h => hts w (List.mem_cons_of_mem _ h)
  unfold B_index_35 at h
  refine lv_iconst (v := 4) hx hb dX12_index_35 (by decide) ?_
  refine lv_iload_n hx hb dX12_index_36 rfl (lv_at hl 3 rfl) ?_
  obtain ⟨r_u_1, u_1, h_u_1, h⟩ := bn_of h
  refine kc_wrong X hS h_u_1 (Nat.le_trans (Nat.le_of_ble_eq_true rfl) hF) (Nat.le_trans (Nat.le_of_ble_eq_true rfl) hL) hl.1 (Nat.le_of_ble_eq_true rfl) dX12_index_37 (fun H locs hS => ?_)
  refine lv_aload_n hx hb dX12_index_40 rfl (lv_at hl 0 rfl) ?_
  refine lv_bipush (v := 15) hx hb dX12_index_41 (by decide) ?_
  refine lv_iload_n hx hb dX12_index_43 rfl (lv_at hl 1 rfl) ?_
  refine lv_iload_n hx hb dX12_index_44 rfl (lv_at hl 2 rfl) ?_
  obtain ⟨r_3, u_2, h_u_2, h⟩ := bn_of h
  refine kc_emit X hS h_u_2 (Nat.le_trans (Nat.le_of_ble_eq_true rfl) hF) (Nat.le_trans (Nat.le_of_ble_eq_true rfl) hL) hl.1 (Nat.le_of_ble_eq_true rfl) dX12_index_45 (fun H locs hS => ?_)
  refine lv_istore (lv' := [(5, .int r_3), (0, .ref (Z 200)), (1, .int l1), (2, .int l2), (3, .int l3)]) hx hb dX12_index_48 hl (by decide) rfl (fun ls hl => ?_)
  refine lv_aload_n hx hb dX12_index_50 rfl (lv_at hl 1 rfl) ?_
  refine lv_sipush (v := 228) hx hb dX12_index_51 (by decide) ?_
  obtain ⟨r_u_4, u_4, h_u_4, h⟩ := bn_of h
  refine kc_ends X hS h_u_4 (Nat.le_trans (Nat.le_of_ble_eq_true rfl) hF) (Nat.le_trans (Nat.le_of_ble_eq_true rfl) hL) hl.1 (Nat.le_of_ble_eq_true rfl) dX12_index_54 (fun H locs hS => ?_)
  obtain ⟨-, rfl⟩ := so h
  exact hE _ _ _ _ hS dX12_index_57
def B_index_0 (N : Nat) (ro : Nat → Int32 → Int32 → RSt → Option (Int32 × RSt)) (l1 : Int32) (l2 : Int32) (u : RSt) : Option (Int32 × RSt) := bn (F_begins N 227 u) fun _ u_5 => rd (u_5.2.2.1 3) 1502 (u_5.1 65) fun v_6 => bn (ro 0 0 0 u_5) fun r_9 u_8 => if r_9 = (4 : Int32) then (B_index_35 N ro l1 l2 v_6 1 u_8) else (B_index_35 N ro l1 l2 v_6 0 u_8)
set_option maxHeartbeats 4000000 in
theorem b_index_0 {r : Int32} {ro : Nat → Int32 → Int32 → RSt → Option (Int32 × RSt)} (X : RC p s m args c cX12_index 6 (Cond.code yX12_index cX12_index 6 none) D kA V A) (hE : REv p l e R s m args below meth c cX12_index D kA Z A Q w) (hF : 4 ≤ R.frames) (hL : 84 ≤ R.locals) (hrec : RecOK_E l D kA V Z d ro) (hFd : d + 1 + 12 ≤ R.frames) (hLd : 60 * (d + 1) + 500 ≤ R.locals) {l1 : Int32} {l2 : Int32}  {u : RSt} (h : B_index_0 N ro l1 l2 u = some (r, w)) (hS : RS D kA Z A s u H locs) (hl : lv_has ls 6 [(0, .ref (Z 200)), (1, .int l1), (2, .int l2)]) : W p l e R s m args below meth c H locs 0 0 Q (F0 m 0 ls []) := by
  obtain ⟨⟨hx, hb, hml, hown, hts⟩, hK, hEV, hA⟩ := id X
  have hG : ∀ w ∈ GW, w.before args s = true := fun w h => hts w (List.mem_cons_of_mem _ h)
  unfold B_index_0 at h
  refine lv_aload_n hx hb dX12_index_0 rfl (lv_at hl 0 rfl) ?_
  refine lv_sipush (v := 227) hx hb dX12_index_1 (by decide) ?_
  obtain ⟨r_u_5, u_5, h_u_5, h⟩ := bn_of h
  refine kc_begins X hS h_u_5 (Nat.le_trans (Nat.le_of_ble_eq_true rfl) hF) (Nat.le_trans (Nat.le_of_ble_eq_true rfl) hL) hl.1 (Nat.le_of_ble_eq_true rfl) dX12_index_4 (fun H locs hS => ?_)
  refine lv_aload_n hx hb dX12_index_7 rfl (lv_at hl 0 rfl) ?_
  refine rg_3 X hS dX12_index_8 ?_
  refine lv_aload_n hx hb dX12_index_11 rfl (lv_at hl 0 rfl) ?_
  refine rg_65 X hS dX12_index_12 ?_
  obtain ⟨v_6, e_v_6, i_7, h⟩ := rd_of h
  refine ra_3 X hS i_7 e_v_6 dX12_index_15 ?_
  refine lv_istore_n (lv' := [(3, .int v_6), (0, .ref (Z 200)), (1, .int l1), (2, .int l2)]) hx hb dX12_index_16 rfl hl (by decide) rfl (fun ls hl => ?_)
  refine lv_aload_n hx hb dX12_index_17 rfl (lv_at hl 1 rfl) ?_
  obtain ⟨r_9, u_8, h_u_8, h⟩ := bn_of h
  refine kc_expression X hrec hS h_u_8 hFd hLd hl.1 (Nat.le_of_ble_eq_true rfl) dX12_index_18 (fun H locs hS => ?_)
  refine lv_istore (lv' := [(4, .int r_9), (3, .int v_6), (0, .ref (Z 200)), (1, .int l1), (2, .int l2)]) hx hb dX12_index_21 hl (by decide) rfl (fun ls hl => ?_)
  refine lv_aload_n hx hb dX12_index_23 rfl (lv_at hl 2 rfl) ?_
  refine lv_iload hx hb dX12_index_24 (lv_at hl 0 rfl) ?_
  refine lv_iconst (v := 4) hx hb dX12_index_26 (by decide) ?_
  refine lv_icmp_ne (tgt := 34) hx hb dX12_index_27 (by decide) (fun c_10 => ?_) (fun c_10 => ?_)
  · have h := im (c_10) h
    refine lv_iconst (v := 0) hx hb dX12_index_34 (by decide) ?_
    exact b_index_35 X hE hF hL hrec hFd hLd h hS (lv_sub hl [2, 3, 4, 1] rfl)
  · have h := ip (c_10) h
    refine lv_iconst (v := 1) hx hb dX12_index_30 (by decide) ?_
    refine lv_goto (tgt := 35) hx hb dX12_index_31 (by decide) ?_
    exact b_index_35 X hE hF hL hrec hFd hLd h hS (lv_sub hl [2, 3, 4, 1] rfl)
def F_index (N : Nat) (ro : Nat → Int32 → Int32 → RSt → Option (Int32 × RSt)) (l1 : Int32) (l2 : Int32) (u : RSt) : Option (Int32 × RSt) := B_index_0 N ro l1 l2 u
set_option maxHeartbeats 4000000 in
theorem k_index (l : Launch) (D : va_G) (kA : Nat → ClassId) (V Z : Nat → Nat) (N : Nat) {d : Nat} (ro : Nat → Int32 → Int32 → RSt → Option (Int32 × RSt)) (hrec : RecOK_E l D kA V Z d ro) (l1 : Int32) (l2 : Int32) (u : RSt) (sz : Nat) {r : Int32} {w : RSt} (h : F_index N ro l1 l2 u = some (r, w)) : Met l yX12_index (Cond.code yX12_index cX12_index 6 none :: GW) { frames := d + 1 + 12, cells := 0, slots := 0, locals := 60 * (d + 1) + 500 } (rPc D kA V Z [.int l1, .int l2] u sz) (rQv D kA Z u sz w) 0 0 (va_A (RW kA Z u) sz) := by
  refine Met.ofW (cc := cX12_index) (maxL := 6) (ret := none) (by decide) rfl ?_
  intro p e s m args below meth c s₁ Bd hml hv
  obtain ⟨rfl, hsz, hP, hK, hD0, hE⟩ := hv
  have hts := atoms_spec (ws := Cond.code yX12_index cX12_index 6 none :: GW) Bd.pre
  have hl := lv_entry (.ref (Z 200) :: [.int l1, .int l2]) (n := 6) (Nat.le_of_ble_eq_true rfl)
  rw [lg_entry_eq]
  generalize (lg_sl (.ref (Z 200) :: [.int l1, .int l2]) ++ List.replicate (6 - (lg_sl (.ref (Z 200) :: [.int l1, .int l2])).length) Slot.unset).toArray = ls at hl ⊢
  have hl : lv_has ls 6 [(0, .ref (Z 200)), (1, .int l1), (2, .int l2)] := hl
  subst hsz
  have X : RC p s m (.ref (Z 200) :: [.int l1, .int l2]).toArray c cX12_index 6 (Cond.code yX12_index cX12_index 6 none) D kA V (va_A (RW kA Z u) s.heap.size) := ⟨⟨Bd.exec, Bd.bytes, hml, findClass_of_methodNamed Bd.named, hts⟩, hK, hE, fun q h => Or.inr h⟩
  exact b_index_0 X (rend_v (cy := cX12_index) X Bd.returns Bd.notSynchronized) (Nat.le_trans (Nat.le_of_ble_eq_true rfl) (Nat.le_add_left 12 _)) (Nat.le_trans (Nat.le_of_ble_eq_true rfl) (Nat.le_add_left 500 _)) hrec (Nat.le_refl _) (Nat.le_refl _) h ⟨hP, hD0.self, va_S.rf⟩ (lv_sub hl [0, 1, 2] rfl)
def B_spot_409 (N : Nat) (ro : Nat → Int32 → Int32 → RSt → Option (Int32 × RSt)) (l7 : Int32) (l11 : Int32) (u : RSt) : Option (Int32 × RSt) := pu (sI u 80 l7) fun u_1 => pu (sI u_1 81 l11) fun u_2 => some (0, u_2)
set_option maxHeartbeats 4000000 in
theorem b_spot_409 {r : Int32} {ro : Nat → Int32 → Int32 → RSt → Option (Int32 × RSt)} (X : RC p s m args c cX12_spot 12 (Cond.code yX12_spot cX12_spot 12 none) D kA V A) (hE : REv p l e R s m args below meth c cX12_spot D kA Z A Q w) (hF : 3 ≤ R.frames) (hL : 67 ≤ R.locals) (hrec : RecOK_E l D kA V Z d ro) (hFd : d + 1 + 12 ≤ R.frames) (hLd : 60 * (d + 1) + 500 ≤ R.locals) {l7 : Int32} {l11 : Int32}  {u : RSt} (h : B_spot_409 N ro l7 l11 u = some (r, w)) (hS : RS D kA Z A s u H locs) (hl : lv_has ls 12 [(0, .ref (Z 200)), (7, .int l7), (11, .int l11)]) : W p l e R s m args below meth c H locs 0 0 Q (F0 m 409 ls []) := by
  obtain ⟨⟨hx, hb, hml, hown, hts⟩, hK, hEV, hA⟩ := id X
  have hG : ∀ w ∈ GW, w.before args s = true := fun w h => hts w (List.mem_cons_of_mem _ h)
  unfold B_spot_409 at h
  refine lv_aload_n hx hb dX12_spot_409 rfl (lv_at hl 0 rfl) ?_
  refine lv_iload hx hb dX12_spot_410 (lv_at hl 1 rfl) ?_
  obtain ⟨u_1, e_u_1, h⟩ := pu_of h
  refine rp_80 X hS e_u_1 dX12_spot_412 (fun H locs hS => ?_)
  refine lv_aload_n hx hb dX12_spot_415 rfl (lv_at hl 0 rfl) ?_
  refine lv_iload hx hb dX12_spot_416 (lv_at hl 2 rfl) ?_
  obtain ⟨u_2, e_u_2, h⟩ := pu_of h
  refine rp_81 X hS e_u_2 dX12_spot_418 (fun H locs hS => ?_)
  obtain ⟨-, rfl⟩ := so h
  exact hE _ _ _ _ hS dX12_spot_421
def B_spot_382 (N : Nat) (ro : Nat → Int32 → Int32 → RSt → Option (Int32 × RSt)) (l7 : Int32) (u : RSt) : Option (Int32 × RSt) := bn (F_has N 231 u) fun r_4 u_3 => if r_4 = (0 : Int32) then (B_spot_409 N ro l7 (-1) u_3) else (bn (F_bounded N 0 ((r_bits l7) - 1) u_3) fun r_9 u_8 => B_spot_409 N ro l7 r_9 u_8)
set_option maxHeartbeats 4000000 in
theorem b_spot_382 {r : Int32} {ro : Nat → Int32 → Int32 → RSt → Option (Int32 × RSt)} (X : RC p s m args c cX12_spot 12 (Cond.code yX12_spot cX12_spot 12 none) D kA V A) (hE : REv p l e R s m args below meth c cX12_spot D kA Z A Q w) (hF : 3 ≤ R.frames) (hL : 67 ≤ R.locals) (hrec : RecOK_E l D kA V Z d ro) (hFd : d + 1 + 12 ≤ R.frames) (hLd : 60 * (d + 1) + 500 ≤ R.locals) {l7 : Int32}  {u : RSt} (h : B_spot_382 N ro l7 u = some (r, w)) (hS : RS D kA Z A s u H locs) (hl : lv_has ls 12 [(0, .ref (Z 200)), (7, .int l7)]) : W p l e R s m args below meth c H locs 0 0 Q (F0 m 382 ls []) := by
  obtain ⟨⟨hx, hb, hml, hown, hts⟩, hK, hEV, hA⟩ := id X
  have hG : ∀ w ∈ GW, w.before args s = true := fun w h => hts w (List.mem_cons_of_mem _ h)
  unfold B_spot_382 at h
  refine lv_iconst (v := (-1)) hx hb dX12_spot_382 (by decide) ?_
  refine lv_istore (lv' := [(11, .int (-1)), (0, .ref (Z 200)), (7, .int l7)]) hx hb dX12_spot_383 hl (by decide) rfl (fun ls hl => ?_)
  refine lv_aload_n hx hb dX12_spot_385 rfl (lv_at hl 1 rfl) ?_
  refine lv_sipush (v := 231) hx hb dX12_spot_386 (by decide) ?_
  obtain ⟨r_4, u_3, h_u_3, h⟩ := bn_of h
  refine kc_has X hS h_u_3 (Nat.le_trans (Nat.le_of_ble_eq_true rfl) hF) (Nat.le_trans (Nat.le_of_ble_eq_true rfl) hL) hl.1 (Nat.le_of_ble_eq_true rfl) dX12_spot_389 (fun H locs hS => ?_)
  refine lv_if_eq (tgt := 409) hx hb dX12_spot_392 (by decide) (fun c_5 => ?_) (fun c_5 => ?_)
  · have h := ip (c_5) h
    exact b_spot_409 X hE hF hL hrec hFd hLd h hS (lv_sub hl [1, 2, 0] rfl)
  · have h := im (c_5) h
    refine lv_aload_n hx hb dX12_spot_395 rfl (lv_at hl 1 rfl) ?_
    refine lv_iconst (v := 0) hx hb dX12_spot_396 (by decide) ?_
    refine lv_iload hx hb dX12_spot_397 (lv_at hl 2 rfl) ?_
    refine vp_callSi (W.runS (As := [.int l7]) (rest := [.int 0, .ref (Z 200)]) X.1 (c_X12_bitsOf l l7) (va_cwS 1 hts (gw_P gw_2425 gw_2426 gw_16 gwp_X12_bitsOf) rfl rfl rfl (by decide +kernel) ⟨Nat.le_trans (Nat.le_of_ble_eq_true rfl) hF, Nat.le_trans (Nat.le_of_ble_eq_true rfl) hL⟩) ⟨fun _ _ _ _ q => q, fun _ _ _ => ⟨rfl, trivial⟩⟩ rfl rfl hl.1 rfl (lv_room (Nat.le_of_ble_eq_true rfl)) dX12_spot_399 ⟨Nat.zero_le _, Nat.zero_le _⟩) (fun r_6 q_7 => ?_)
    subst q_7
    refine lv_iconst (v := 1) hx hb dX12_spot_402 (by decide) ?_
    refine lv_isub hx hb dX12_spot_403 ?_
    obtain ⟨r_9, u_8, h_u_8, h⟩ := bn_of h
    refine kc_bounded X hS h_u_8 (Nat.le_trans (Nat.le_of_ble_eq_true rfl) hF) (Nat.le_trans (Nat.le_of_ble_eq_true rfl) hL) hl.1 (Nat.le_of_ble_eq_true rfl) dX12_spot_404 (fun H locs hS => ?_)
    refine lv_istore (lv' := [(11, .int r_9), (0, .ref (Z 200)), (7, .int l7)]) hx hb dX12_spot_407 hl (by decide) rfl (fun ls hl => ?_)
    exact b_spot_409 X hE hF hL hrec hFd hLd h hS (lv_sub hl [1, 2, 0] rfl)
def B_spot_361 (N : Nat) (ro : Nat → Int32 → Int32 → RSt → Option (Int32 × RSt)) (l7 : Int32) (l9 : Int32) (s1 : Int32) (s2 : Int32) (u : RSt) : Option (Int32 × RSt) := bn (F_emit N s1 s2 0 u) fun r_11 u_10 => if l9 = (0 : Int32) then (B_spot_382 N ro l7 u_10) else (bn (F_emit N 14 0 0 u_10) fun r_14 u_13 => B_spot_382 N ro l7 u_13)
set_option maxHeartbeats 4000000 in
theorem b_spot_361 {r : Int32} {ro : Nat → Int32 → Int32 → RSt → Option (Int32 × RSt)} (X : RC p s m args c cX12_spot 12 (Cond.code yX12_spot cX12_spot 12 none) D kA V A) (hE : REv p l e R s m args below meth c cX12_spot D kA Z A Q w) (hF : 3 ≤ R.frames) (hL : 67 ≤ R.locals) (hrec : RecOK_E l D kA V Z d ro) (hFd : d + 1 + 12 ≤ R.frames) (hLd : 60 * (d + 1) + 500 ≤ R.locals) {l7 : Int32} {l9 : Int32} {s1 : Int32} {s2 : Int32}  {u : RSt} (h : B_spot_361 N ro l7 l9 s1 s2 u = some (r, w)) (hS : RS D kA Z A s u H locs) (hl : lv_has ls 12 [(0, .ref (Z 200)), (7, .int l7), (9, .int l9)]) : W p l e R s m args below meth c H locs 0 0 Q (F0 m 361 ls [.int s2, .int s1, .ref (Z 200)]) := by
  obtain ⟨⟨hx, hb, hml, hown, hts⟩, hK, hEV, hA⟩ := id X
  have hG : ∀ w ∈ GW, w.before args s = true := fun w h => hts w (List.mem_cons_of_mem _ h)
  unfold B_spot_361 at h
  refine lv_iconst (v := 0) hx hb dX12_spot_361 (by decide) ?_
  obtain ⟨r_11, u_10, h_u_10, h⟩ := bn_of h
  refine kc_emit X hS h_u_10 (Nat.le_trans (Nat.le_of_ble_eq_true rfl) hF) (Nat.le_trans (Nat.le_of_ble_eq_true rfl) hL) hl.1 (Nat.le_of_ble_eq_true rfl) dX12_spot_362 (fun H locs hS => ?_)
  refine lv_istore (lv' := [(10, .int r_11), (0, .ref (Z 200)), (7, .int l7), (9, .int l9)]) hx hb dX12_spot_365 hl (by decide) rfl (fun ls hl => ?_)
  refine lv_iload hx hb dX12_spot_367 (lv_at hl 3 rfl) ?_
  refine lv_if_eq (tgt := 382) hx hb dX12_spot_369 (by decide) (fun c_12 => ?_) (fun c_12 => ?_)
  · have h := ip (c_12) h
    exact b_spot_382 X hE hF hL hrec hFd hLd h hS (lv_sub hl [1, 2] rfl)
  · have h := im (c_12) h
    refine lv_aload_n hx hb dX12_spot_372 rfl (lv_at hl 1 rfl) ?_
    refine lv_bipush (v := 14) hx hb dX12_spot_373 (by decide) ?_
    refine lv_iconst (v := 0) hx hb dX12_spot_375 (by decide) ?_
    refine lv_iconst (v := 0) hx hb dX12_spot_376 (by decide) ?_
    obtain ⟨r_14, u_13, h_u_13, h⟩ := bn_of h
    refine kc_emit X hS h_u_13 (Nat.le_trans (Nat.le_of_ble_eq_true rfl) hF) (Nat.le_trans (Nat.le_of_ble_eq_true rfl) hL) hl.1 (Nat.le_of_ble_eq_true rfl) dX12_spot_377 (fun H locs hS => ?_)
    refine lv_istore (lv' := [(10, .int r_14), (0, .ref (Z 200)), (7, .int l7), (9, .int l9)]) hx hb dX12_spot_380 hl (by decide) rfl (fun ls hl => ?_)
    exact b_spot_382 X hE hF hL hrec hFd hLd h hS (lv_sub hl [1, 2] rfl)
def B_spot_331 (N : Nat) (ro : Nat → Int32 → Int32 → RSt → Option (Int32 × RSt)) (l3 : Int32) (l5 : Int32) (l6 : Int32) (l7 : Int32) (l9 : Int32) (s1 : Int32) (u : RSt) : Option (Int32 × RSt) := if l5 = (0 : Int32) then (B_spot_361 N ro l7 l9 s1 0 u) else (if l3 = ((-1) : Int32) then (rd (u.2.2.1 15) 320 l6 fun v_17 => B_spot_361 N ro l7 l9 s1 v_17 u) else (rd (u.2.2.1 23) 320 l3 fun v_19 => B_spot_361 N ro l7 l9 s1 v_19 u))
set_option maxHeartbeats 4000000 in
theorem b_spot_331 {r : Int32} {ro : Nat → Int32 → Int32 → RSt → Option (Int32 × RSt)} (X : RC p s m args c cX12_spot 12 (Cond.code yX12_spot cX12_spot 12 none) D kA V A) (hE : REv p l e R s m args below meth c cX12_spot D kA Z A Q w) (hF : 3 ≤ R.frames) (hL : 67 ≤ R.locals) (hrec : RecOK_E l D kA V Z d ro) (hFd : d + 1 + 12 ≤ R.frames) (hLd : 60 * (d + 1) + 500 ≤ R.locals) {l3 : Int32} {l5 : Int32} {l6 : Int32} {l7 : Int32} {l9 : Int32} {s1 : Int32}  {u : RSt} (h : B_spot_331 N ro l3 l5 l6 l7 l9 s1 u = some (r, w)) (hS : RS D kA Z A s u H locs) (hl : lv_has ls 12 [(0, .ref (Z 200)), (3, .int l3), (5, .int l5), (6, .int l6), (7, .int l7), (9, .int l9)]) : W p l e R s m args below meth c H locs 0 0 Q (F0 m 331 ls [.int s1, .ref (Z 200)]) := by
  obtain ⟨⟨hx, hb, hml, hown, hts⟩, hK, hEV, hA⟩ := id X
  have hG : ∀ w ∈ GW, w.before args s = true := fun w h => hts w (List.mem_cons_of_mem _ h)
  unfold B_spot_331 at h
  refine lv_iload hx hb dX12_spot_331 (lv_at hl 2 rfl) ?_
  refine lv_if_ne (tgt := 340) hx hb dX12_spot_333 (by decide) (fun c_15 => ?_) (fun c_15 => ?_)
  · have h := im (c_15) h
    refine lv_iload_n hx hb dX12_spot_340 rfl (lv_at hl 1 rfl) ?_
    refine lv_iconst (v := (-1)) hx hb dX12_spot_341 (by decide) ?_
    refine lv_icmp_eq (tgt := 354) hx hb dX12_spot_342 (by decide) (fun c_16 => ?_) (fun c_16 => ?_)
    · have h := ip (c_16) h
      refine lv_aload_n hx hb dX12_spot_354 rfl (lv_at hl 0 rfl) ?_
      refine rg_15 X hS dX12_spot_355 ?_
      refine lv_iload hx hb dX12_spot_358 (lv_at hl 3 rfl) ?_
      obtain ⟨v_17, e_v_17, i_18, h⟩ := rd_of h
      refine ra_15 X hS i_18 e_v_17 dX12_spot_360 ?_
      exact b_spot_361 X hE hF hL hrec hFd hLd h hS (lv_sub hl [0, 4, 5] rfl)
    · have h := im (c_16) h
      refine lv_aload_n hx hb dX12_spot_345 rfl (lv_at hl 0 rfl) ?_
      refine rg_23 X hS dX12_spot_346 ?_
      refine lv_iload_n hx hb dX12_spot_349 rfl (lv_at hl 1 rfl) ?_
      obtain ⟨v_19, e_v_19, i_20, h⟩ := rd_of h
      refine ra_23 X hS i_20 e_v_19 dX12_spot_350 ?_
      refine lv_goto (tgt := 361) hx hb dX12_spot_351 (by decide) ?_
      exact b_spot_361 X hE hF hL hrec hFd hLd h hS (lv_sub hl [0, 4, 5] rfl)
  · have h := ip (c_15) h
    refine lv_iconst (v := 0) hx hb dX12_spot_336 (by decide) ?_
    refine lv_goto (tgt := 361) hx hb dX12_spot_337 (by decide) ?_
    exact b_spot_361 X hE hF hL hrec hFd hLd h hS (lv_sub hl [0, 4, 5] rfl)
def B_spot_305 (N : Nat) (ro : Nat → Int32 → Int32 → RSt → Option (Int32 × RSt)) (l3 : Int32) (l5 : Int32) (l6 : Int32) (l7 : Int32) (l9 : Int32) (u : RSt) : Option (Int32 × RSt) := if l3 = ((-1) : Int32) then (B_spot_331 N ro l3 l5 l6 l7 l9 10 u) else (if (u.1 70) = (2 : Int32) then (B_spot_331 N ro l3 l5 l6 l7 l9 11 u) else (B_spot_331 N ro l3 l5 l6 l7 l9 12 u))
set_option maxHeartbeats 4000000 in
theorem b_spot_305 {r : Int32} {ro : Nat → Int32 → Int32 → RSt → Option (Int32 × RSt)} (X : RC p s m args c cX12_spot 12 (Cond.code yX12_spot cX12_spot 12 none) D kA V A) (hE : REv p l e R s m args below meth c cX12_spot D kA Z A Q w) (hF : 3 ≤ R.frames) (hL : 67 ≤ R.locals) (hrec : RecOK_E l D kA V Z d ro) (hFd : d + 1 + 12 ≤ R.frames) (hLd : 60 * (d + 1) + 500 ≤ R.locals) {l3 : Int32} {l5 : Int32} {l6 : Int32} {l7 : Int32} {l9 : Int32}  {u : RSt} (h : B_spot_305 N ro l3 l5 l6 l7 l9 u = some (r, w)) (hS : RS D kA Z A s u H locs) (hl : lv_has ls 12 [(0, .ref (Z 200)), (3, .int l3), (5, .int l5), (6, .int l6), (7, .int l7), (9, .int l9)]) : W p l e R s m args below meth c H locs 0 0 Q (F0 m 305 ls []) := by
  obtain ⟨⟨hx, hb, hml, hown, hts⟩, hK, hEV, hA⟩ := id X
  have hG : ∀ w ∈ GW, w.before args s = true := fun w h => hts w (List.mem_cons_of_mem _ h)
  unfold B_spot_305 at h
  refine lv_aload_n hx hb dX12_spot_305 rfl (lv_at hl 0 rfl) ?_
  refine lv_iload_n hx hb dX12_spot_306 rfl (lv_at hl 1 rfl) ?_
  refine lv_iconst (v := (-1)) hx hb dX12_spot_307 (by decide) ?_
  refine lv_icmp_ne (tgt := 316) hx hb dX12_spot_308 (by decide) (fun c_21 => ?_) (fun c_21 => ?_)
  · have h := im (c_21) h
    refine lv_aload_n hx hb dX12_spot_316 rfl (lv_at hl 0 rfl) ?_
    refine rg_70 X hS dX12_spot_317 ?_
    refine lv_iconst (v := 2) hx hb dX12_spot_320 (by decide) ?_
    refine lv_icmp_ne (tgt := 329) hx hb dX12_spot_321 (by decide) (fun c_22 => ?_) (fun c_22 => ?_)
    · have h := im (c_22) h
      refine lv_bipush (v := 12) hx hb dX12_spot_329 (by decide) ?_
      exact b_spot_331 X hE hF hL hrec hFd hLd h hS (lv_sub hl [0, 1, 2, 3, 4, 5] rfl)
    · have h := ip (c_22) h
      refine lv_bipush (v := 11) hx hb dX12_spot_324 (by decide) ?_
      refine lv_goto (tgt := 331) hx hb dX12_spot_326 (by decide) ?_
      exact b_spot_331 X hE hF hL hrec hFd hLd h hS (lv_sub hl [0, 1, 2, 3, 4, 5] rfl)
  · have h := ip (c_21) h
    refine lv_bipush (v := 10) hx hb dX12_spot_311 (by decide) ?_
    refine lv_goto (tgt := 331) hx hb dX12_spot_313 (by decide) ?_
    exact b_spot_331 X hE hF hL hrec hFd hLd h hS (lv_sub hl [0, 1, 2, 3, 4, 5] rfl)
def B_spot_283 (N : Nat) (ro : Nat → Int32 → Int32 → RSt → Option (Int32 × RSt)) (l2 : Int32) (l3 : Int32) (l5 : Int32) (l6 : Int32) (l7 : Int32) (l8 : Int32) (l9 : Int32) (u : RSt) : Option (Int32 × RSt) := pu (sI u 65 ((u.1 65) + 1)) fun u_23 => if l9 = (0 : Int32) then (B_spot_305 N ro l3 l5 l6 l7 l9 u_23) else (bn (ro 7 l8 l2 u_23) fun _ u_25 => B_spot_305 N ro l3 l5 l6 l7 l9 u_25)
set_option maxHeartbeats 4000000 in
theorem b_spot_283 {r : Int32} {ro : Nat → Int32 → Int32 → RSt → Option (Int32 × RSt)} (X : RC p s m args c cX12_spot 12 (Cond.code yX12_spot cX12_spot 12 none) D kA V A) (hE : REv p l e R s m args below meth c cX12_spot D kA Z A Q w) (hF : 3 ≤ R.frames) (hL : 67 ≤ R.locals) (hrec : RecOK_E l D kA V Z d ro) (hFd : d + 1 + 12 ≤ R.frames) (hLd : 60 * (d + 1) + 500 ≤ R.locals) {l2 : Int32} {l3 : Int32} {l5 : Int32} {l6 : Int32} {l7 : Int32} {l8 : Int32} {l9 : Int32}  {u : RSt} (h : B_spot_283 N ro l2 l3 l5 l6 l7 l8 l9 u = some (r, w)) (hS : RS D kA Z A s u H locs) (hl : lv_has ls 12 [(0, .ref (Z 200)), (2, .int l2), (3, .int l3), (5, .int l5), (6, .int l6), (7, .int l7), (8, .int l8), (9, .int l9)]) : W p l e R s m args below meth c H locs 0 0 Q (F0 m 283 ls []) := by
  obtain ⟨⟨hx, hb, hml, hown, hts⟩, hK, hEV, hA⟩ := id X
  have hG : ∀ w ∈ GW, w.before args s = true := fun w h => hts w (List.mem_cons_of_mem _ h)
  unfold B_spot_283 at h
  refine lv_aload_n hx hb dX12_spot_283 rfl (lv_at hl 0 rfl) ?_
  refine lv_dup hx hb dX12_spot_284 rfl ?_
  refine rg_65 X hS dX12_spot_285 ?_
  refine lv_iconst (v := 1) hx hb dX12_spot_288 (by decide) ?_
  refine lv_iadd hx hb dX12_spot_289 ?_
  obtain ⟨u_23, e_u_23, h⟩ := pu_of h
  refine rp_65 X hS e_u_23 dX12_spot_290 (fun H locs hS => ?_)
  refine lv_iload hx hb dX12_spot_293 (lv_at hl 7 rfl) ?_
  refine lv_if_eq (tgt := 305) hx hb dX12_spot_295 (by decide) (fun c_24 => ?_) (fun c_24 => ?_)
  · have h := ip (c_24) h
    exact b_spot_305 X hE hF hL hrec hFd hLd h hS (lv_sub hl [0, 2, 3, 4, 5, 7] rfl)
  · have h := im (c_24) h
    refine lv_aload_n hx hb dX12_spot_298 rfl (lv_at hl 0 rfl) ?_
    refine lv_iload hx hb dX12_spot_299 (lv_at hl 6 rfl) ?_
    refine lv_iload_n hx hb dX12_spot_301 rfl (lv_at hl 1 rfl) ?_
    obtain ⟨r_u_25, u_25, h_u_25, h⟩ := bn_of h
    refine kc_index X hrec hS h_u_25 hFd hLd hl.1 (Nat.le_of_ble_eq_true rfl) dX12_spot_302 (fun H locs hS => ?_)
    exact b_spot_305 X hE hF hL hrec hFd hLd h hS (lv_sub hl [0, 2, 3, 4, 5, 7] rfl)
def B_spot_269 (N : Nat) (ro : Nat → Int32 → Int32 → RSt → Option (Int32 × RSt)) (l1 : Int32) (l2 : Int32) (l3 : Int32) (l5 : Int32) (l6 : Int32) (l7 : Int32) (l8 : Int32) (l9 : Int32) (s1 : Int32) (u : RSt) : Option (Int32 × RSt) := bn (F_wrong N s1 4 l2 u) fun _ u_26 => if l1 = (0 : Int32) then (bn (F_cost N l2 u_26) fun _ u_28 => B_spot_283 N ro l2 l3 l5 l6 l7 l8 l9 u_28) else (B_spot_283 N ro l2 l3 l5 l6 l7 l8 l9 u_26)
set_option maxHeartbeats 4000000 in
theorem b_spot_269 {r : Int32} {ro : Nat → Int32 → Int32 → RSt → Option (Int32 × RSt)} (X : RC p s m args c cX12_spot 12 (Cond.code yX12_spot cX12_spot 12 none) D kA V A) (hE : REv p l e R s m args below meth c cX12_spot D kA Z A Q w) (hF : 3 ≤ R.frames) (hL : 67 ≤ R.locals) (hrec : RecOK_E l D kA V Z d ro) (hFd : d + 1 + 12 ≤ R.frames) (hLd : 60 * (d + 1) + 500 ≤ R.locals) {l1 : Int32} {l2 : Int32} {l3 : Int32} {l5 : Int32} {l6 : Int32} {l7 : Int32} {l8 : Int32} {l9 : Int32} {s1 : Int32}  {u : RSt} (h : B_spot_269 N ro l1 l2 l3 l5 l6 l7 l8 l9 s1 u = some (r, w)) (hS : RS D kA Z A s u H locs) (hl : lv_has ls 12 [(0, .ref (Z 200)), (1, .int l1), (2, .int l2), (3, .int l3), (5, .int l5), (6, .int l6), (7, .int l7), (8, .int l8), (9, .int l9)]) : W p l e R s m args below meth c H locs 0 0 Q (F0 m 269 ls [.int s1, .ref (Z 200)]) := by
  obtain ⟨⟨hx, hb, hml, hown, hts⟩, hK, hEV, hA⟩ := id X
  have hG : ∀ w ∈ GW, w.before args s = true := fun w h => hts w (List.mem_cons_of_mem _ h)
  unfold B_spot_269 at h
  refine lv_iconst (v := 4) hx hb dX12_spot_269 (by decide) ?_
  refine lv_iload_n hx hb dX12_spot_270 rfl (lv_at hl 2 rfl) ?_
  obtain ⟨r_u_26, u_26, h_u_26, h⟩ := bn_of h
  refine kc_wrong X hS h_u_26 (Nat.le_trans (Nat.le_of_ble_eq_true rfl) hF) (Nat.le_trans (Nat.le_of_ble_eq_true rfl) hL) hl.1 (Nat.le_of_ble_eq_true rfl) dX12_spot_271 (fun H locs hS => ?_)
  refine lv_iload_n hx hb dX12_spot_274 rfl (lv_at hl 1 rfl) ?_
  refine lv_if_ne (tgt := 283) hx hb dX12_spot_275 (by decide) (fun c_27 => ?_) (fun c_27 => ?_)
  · have h := im (c_27) h
    exact b_spot_283 X hE hF hL hrec hFd hLd h hS (lv_sub hl [0, 2, 3, 4, 5, 6, 7, 8] rfl)
  · have h := ip (c_27) h
    refine lv_aload_n hx hb dX12_spot_278 rfl (lv_at hl 0 rfl) ?_
    refine lv_iload_n hx hb dX12_spot_279 rfl (lv_at hl 2 rfl) ?_
    obtain ⟨r_u_28, u_28, h_u_28, h⟩ := bn_of h
    refine kc_cost X hS h_u_28 (Nat.le_trans (Nat.le_of_ble_eq_true rfl) hF) (Nat.le_trans (Nat.le_of_ble_eq_true rfl) hL) hl.1 (Nat.le_of_ble_eq_true rfl) dX12_spot_280 (fun H locs hS => ?_)
    exact b_spot_283 X hE hF hL hrec hFd hLd h hS (lv_sub hl [0, 2, 3, 4, 5, 6, 7, 8] rfl)
def B_spot_268 (N : Nat) (ro : Nat → Int32 → Int32 → RSt → Option (Int32 × RSt)) (l1 : Int32) (l2 : Int32) (l3 : Int32) (l5 : Int32) (l6 : Int32) (l7 : Int32) (l8 : Int32) (l9 : Int32) (u : RSt) : Option (Int32 × RSt) := B_spot_269 N ro l1 l2 l3 l5 l6 l7 l8 l9 0 u
set_option maxHeartbeats 4000000 in
theorem b_spot_268 {r : Int32} {ro : Nat → Int32 → Int32 → RSt → Option (Int32 × RSt)} (X : RC p s m args c cX12_spot 12 (Cond.code yX12_spot cX12_spot 12 none) D kA V A) (hE : REv p l e R s m args below meth c cX12_spot D kA Z A Q w) (hF : 3 ≤ R.frames) (hL : 67 ≤ R.locals) (hrec : RecOK_E l D kA V Z d ro) (hFd : d + 1 + 12 ≤ R.frames) (hLd : 60 * (d + 1) + 500 ≤ R.locals) {l1 : Int32} {l2 : Int32} {l3 : Int32} {l5 : Int32} {l6 : Int32} {l7 : Int32} {l8 : Int32} {l9 : Int32}  {u : RSt} (h : B_spot_268 N ro l1 l2 l3 l5 l6 l7 l8 l9 u = some (r, w)) (hS : RS D kA Z A s u H locs) (hl : lv_has ls 12 [(0, .ref (Z 200)), (1, .int l1), (2, .int l2), (3, .int l3), (5, .int l5), (6, .int l6), (7, .int l7), (8, .int l8), (9, .int l9)]) : W p l e R s m args below meth c H locs 0 0 Q (F0 m 268 ls [.ref (Z 200)]) := by
  obtain ⟨⟨hx, hb, hml, hown, hts⟩, hK, hEV, hA⟩ := id X
  have hG : ∀ w ∈ GW, w.before args s = true := fun w h => hts w (List.mem_cons_of_mem _ h)
  unfold B_spot_268 at h
  refine lv_iconst (v := 0) hx hb dX12_spot_268 (by decide) ?_
  exact b_spot_269 X hE hF hL hrec hFd hLd h hS (lv_sub hl [0, 1, 2, 3, 4, 5, 6, 7, 8] rfl)
def B_spot_233 (N : Nat) (ro : Nat → Int32 → Int32 → RSt → Option (Int32 × RSt)) (l1 : Int32) (l2 : Int32) (l3 : Int32) (l5 : Int32) (l6 : Int32) (l7 : Int32) (l8 : Int32) (l9 : Int32) (s1 : Int32) (u : RSt) : Option (Int32 × RSt) := bn (F_wrong N s1 4 l2 u) fun _ u_29 => if l5 = (0 : Int32) then (B_spot_268 N ro l1 l2 l3 l5 l6 l7 l8 l9 u_29) else (if l1 = (0 : Int32) then (B_spot_268 N ro l1 l2 l3 l5 l6 l7 l8 l9 u_29) else (if l3 = ((-1) : Int32) then (rd (u_29.2.2.1 12) 320 l6 fun v_33 => if v_33 = (2 : Int32) then (B_spot_269 N ro l1 l2 l3 l5 l6 l7 l8 l9 1 u_29) else (B_spot_268 N ro l1 l2 l3 l5 l6 l7 l8 l9 u_29)) else (B_spot_268 N ro l1 l2 l3 l5 l6 l7 l8 l9 u_29)))
set_option maxHeartbeats 4000000 in
theorem b_spot_233 {r : Int32} {ro : Nat → Int32 → Int32 → RSt → Option (Int32 × RSt)} (X : RC p s m args c cX12_spot 12 (Cond.code yX12_spot cX12_spot 12 none) D kA V A) (hE : REv p l e R s m args below meth c cX12_spot D kA Z A Q w) (hF : 3 ≤ R.frames) (hL : 67 ≤ R.locals) (hrec : RecOK_E l D kA V Z d ro) (hFd : d + 1 + 12 ≤ R.frames) (hLd : 60 * (d + 1) + 500 ≤ R.locals) {l1 : Int32} {l2 : Int32} {l3 : Int32} {l5 : Int32} {l6 : Int32} {l7 : Int32} {l8 : Int32} {l9 : Int32} {s1 : Int32}  {u : RSt} (h : B_spot_233 N ro l1 l2 l3 l5 l6 l7 l8 l9 s1 u = some (r, w)) (hS : RS D kA Z A s u H locs) (hl : lv_has ls 12 [(0, .ref (Z 200)), (1, .int l1), (2, .int l2), (3, .int l3), (5, .int l5), (6, .int l6), (7, .int l7), (8, .int l8), (9, .int l9)]) : W p l e R s m args below meth c H locs 0 0 Q (F0 m 233 ls [.int s1, .ref (Z 200)]) := by
  obtain ⟨⟨hx, hb, hml, hown, hts⟩, hK, hEV, hA⟩ := id X
  have hG : ∀ w ∈ GW, w.before args s = true := fun w h => hts w (List.mem_cons_of_mem _ h)
  unfold B_spot_233 at h
  refine lv_iconst (v := 4) hx hb dX12_spot_233 (by decide) ?_
  refine lv_iload_n hx hb dX12_spot_234 rfl (lv_at hl 2 rfl) ?_
  obtain ⟨r_u_29, u_29, h_u_29, h⟩ := bn_of h
  refine kc_wrong X hS h_u_29 (Nat.le_trans (Nat.le_of_ble_eq_true rfl) hF) (Nat.le_trans (Nat.le_of_ble_eq_true rfl) hL) hl.1 (Nat.le_of_ble_eq_true rfl) dX12_spot_235 (fun H locs hS => ?_)
  refine lv_aload_n hx hb dX12_spot_238 rfl (lv_at hl 0 rfl) ?_
  refine lv_iload hx hb dX12_spot_239 (lv_at hl 4 rfl) ?_
  refine lv_if_eq (tgt := 268) hx hb dX12_spot_241 (by decide) (fun c_30 => ?_) (fun c_30 => ?_)
  · have h := ip (c_30) h
    exact b_spot_268 X hE hF hL hrec hFd hLd h hS (lv_sub hl [0, 1, 2, 3, 4, 5, 6, 7, 8] rfl)
  · have h := im (c_30) h
    refine lv_iload_n hx hb dX12_spot_244 rfl (lv_at hl 1 rfl) ?_
    refine lv_if_eq (tgt := 268) hx hb dX12_spot_245 (by decide) (fun c_31 => ?_) (fun c_31 => ?_)
    · have h := ip (c_31) h
      exact b_spot_268 X hE hF hL hrec hFd hLd h hS (lv_sub hl [0, 1, 2, 3, 4, 5, 6, 7, 8] rfl)
    · have h := im (c_31) h
      refine lv_iload_n hx hb dX12_spot_248 rfl (lv_at hl 3 rfl) ?_
      refine lv_iconst (v := (-1)) hx hb dX12_spot_249 (by decide) ?_
      refine lv_icmp_ne (tgt := 268) hx hb dX12_spot_250 (by decide) (fun c_32 => ?_) (fun c_32 => ?_)
      · have h := im (c_32) h
        exact b_spot_268 X hE hF hL hrec hFd hLd h hS (lv_sub hl [0, 1, 2, 3, 4, 5, 6, 7, 8] rfl)
      · have h := ip (c_32) h
        refine lv_aload_n hx hb dX12_spot_253 rfl (lv_at hl 0 rfl) ?_
        refine rg_12 X hS dX12_spot_254 ?_
        refine lv_iload hx hb dX12_spot_257 (lv_at hl 5 rfl) ?_
        obtain ⟨v_33, e_v_33, i_34, h⟩ := rd_of h
        refine ra_12 X hS i_34 e_v_33 dX12_spot_259 ?_
        refine lv_iconst (v := 2) hx hb dX12_spot_260 (by decide) ?_
        refine lv_icmp_ne (tgt := 268) hx hb dX12_spot_261 (by decide) (fun c_35 => ?_) (fun c_35 => ?_)
        · have h := im (c_35) h
          exact b_spot_268 X hE hF hL hrec hFd hLd h hS (lv_sub hl [0, 1, 2, 3, 4, 5, 6, 7, 8] rfl)
        · have h := ip (c_35) h
          refine lv_iconst (v := 1) hx hb dX12_spot_264 (by decide) ?_
          refine lv_goto (tgt := 269) hx hb dX12_spot_265 (by decide) ?_
          exact b_spot_269 X hE hF hL hrec hFd hLd h hS (lv_sub hl [0, 1, 2, 3, 4, 5, 6, 7, 8] rfl)
def B_spot_232 (N : Nat) (ro : Nat → Int32 → Int32 → RSt → Option (Int32 × RSt)) (l1 : Int32) (l2 : Int32) (l3 : Int32) (l5 : Int32) (l6 : Int32) (l7 : Int32) (l8 : Int32) (l9 : Int32) (u : RSt) : Option (Int32 × RSt) := B_spot_233 N ro l1 l2 l3 l5 l6 l7 l8 l9 0 u
set_option maxHeartbeats 4000000 in
theorem b_spot_232 {r : Int32} {ro : Nat → Int32 → Int32 → RSt → Option (Int32 × RSt)} (X : RC p s m args c cX12_spot 12 (Cond.code yX12_spot cX12_spot 12 none) D kA V A) (hE : REv p l e R s m args below meth c cX12_spot D kA Z A Q w) (hF : 3 ≤ R.frames) (hL : 67 ≤ R.locals) (hrec : RecOK_E l D kA V Z d ro) (hFd : d + 1 + 12 ≤ R.frames) (hLd : 60 * (d + 1) + 500 ≤ R.locals) {l1 : Int32} {l2 : Int32} {l3 : Int32} {l5 : Int32} {l6 : Int32} {l7 : Int32} {l8 : Int32} {l9 : Int32}  {u : RSt} (h : B_spot_232 N ro l1 l2 l3 l5 l6 l7 l8 l9 u = some (r, w)) (hS : RS D kA Z A s u H locs) (hl : lv_has ls 12 [(0, .ref (Z 200)), (1, .int l1), (2, .int l2), (3, .int l3), (5, .int l5), (6, .int l6), (7, .int l7), (8, .int l8), (9, .int l9)]) : W p l e R s m args below meth c H locs 0 0 Q (F0 m 232 ls [.ref (Z 200)]) := by
  obtain ⟨⟨hx, hb, hml, hown, hts⟩, hK, hEV, hA⟩ := id X
  have hG : ∀ w ∈ GW, w.before args s = true := fun w h => hts w (List.mem_cons_of_mem _ h)
  unfold B_spot_232 at h
  refine lv_iconst (v := 0) hx hb dX12_spot_232 (by decide) ?_
  exact b_spot_233 X hE hF hL hrec hFd hLd h hS (lv_sub hl [0, 1, 2, 3, 4, 5, 6, 7, 8] rfl)
def B_spot_223 (N : Nat) (ro : Nat → Int32 → Int32 → RSt → Option (Int32 × RSt)) (l1 : Int32) (l2 : Int32) (l3 : Int32) (l5 : Int32) (l6 : Int32) (l7 : Int32) (l8 : Int32) (l9 : Int32) (s1 : Int32) (u : RSt) : Option (Int32 × RSt) := if s1 = l9 then (B_spot_232 N ro l1 l2 l3 l5 l6 l7 l8 l9 u) else (B_spot_233 N ro l1 l2 l3 l5 l6 l7 l8 l9 1 u)
set_option maxHeartbeats 4000000 in
theorem b_spot_223 {r : Int32} {ro : Nat → Int32 → Int32 → RSt → Option (Int32 × RSt)} (X : RC p s m args c cX12_spot 12 (Cond.code yX12_spot cX12_spot 12 none) D kA V A) (hE : REv p l e R s m args below meth c cX12_spot D kA Z A Q w) (hF : 3 ≤ R.frames) (hL : 67 ≤ R.locals) (hrec : RecOK_E l D kA V Z d ro) (hFd : d + 1 + 12 ≤ R.frames) (hLd : 60 * (d + 1) + 500 ≤ R.locals) {l1 : Int32} {l2 : Int32} {l3 : Int32} {l5 : Int32} {l6 : Int32} {l7 : Int32} {l8 : Int32} {l9 : Int32} {s1 : Int32}  {u : RSt} (h : B_spot_223 N ro l1 l2 l3 l5 l6 l7 l8 l9 s1 u = some (r, w)) (hS : RS D kA Z A s u H locs) (hl : lv_has ls 12 [(0, .ref (Z 200)), (1, .int l1), (2, .int l2), (3, .int l3), (5, .int l5), (6, .int l6), (7, .int l7), (8, .int l8), (9, .int l9)]) : W p l e R s m args below meth c H locs 0 0 Q (F0 m 223 ls [.int s1, .ref (Z 200)]) := by
  obtain ⟨⟨hx, hb, hml, hown, hts⟩, hK, hEV, hA⟩ := id X
  have hG : ∀ w ∈ GW, w.before args s = true := fun w h => hts w (List.mem_cons_of_mem _ h)
  unfold B_spot_223 at h
  refine lv_iload hx hb dX12_spot_223 (lv_at hl 8 rfl) ?_
  refine lv_icmp_eq (tgt := 232) hx hb dX12_spot_225 (by decide) (fun c_36 => ?_) (fun c_36 => ?_)
  · have h := ip (c_36) h
    exact b_spot_232 X hE hF hL hrec hFd hLd h hS (lv_sub hl [0, 1, 2, 3, 4, 5, 6, 7, 8] rfl)
  · have h := im (c_36) h
    refine lv_iconst (v := 1) hx hb dX12_spot_228 (by decide) ?_
    refine lv_goto (tgt := 233) hx hb dX12_spot_229 (by decide) ?_
    exact b_spot_233 X hE hF hL hrec hFd hLd h hS (lv_sub hl [0, 1, 2, 3, 4, 5, 6, 7, 8] rfl)
def B_spot_185 (N : Nat) (ro : Nat → Int32 → Int32 → RSt → Option (Int32 × RSt)) (l1 : Int32) (l2 : Int32) (l3 : Int32) (l5 : Int32) (l6 : Int32) (l7 : Int32) (s0 : Int32) (u : RSt) : Option (Int32 × RSt) := bn (F_isNext N 227 u) fun r_38 u_37 => if l5 = (0 : Int32) then (B_spot_232 N ro l1 l2 l3 l5 l6 l7 s0 r_38 u_37) else (if l3 = ((-1) : Int32) then (rd (u_37.2.2.1 13) 320 l6 fun v_41 => B_spot_223 N ro l1 l2 l3 l5 l6 l7 s0 r_38 v_41 u_37) else (rd (u_37.2.2.1 22) 320 l3 fun v_43 => B_spot_223 N ro l1 l2 l3 l5 l6 l7 s0 r_38 v_43 u_37))
set_option maxHeartbeats 4000000 in
theorem b_spot_185 {r : Int32} {ro : Nat → Int32 → Int32 → RSt → Option (Int32 × RSt)} (X : RC p s m args c cX12_spot 12 (Cond.code yX12_spot cX12_spot 12 none) D kA V A) (hE : REv p l e R s m args below meth c cX12_spot D kA Z A Q w) (hF : 3 ≤ R.frames) (hL : 67 ≤ R.locals) (hrec : RecOK_E l D kA V Z d ro) (hFd : d + 1 + 12 ≤ R.frames) (hLd : 60 * (d + 1) + 500 ≤ R.locals) {l1 : Int32} {l2 : Int32} {l3 : Int32} {l5 : Int32} {l6 : Int32} {l7 : Int32} {s0 : Int32}  {u : RSt} (h : B_spot_185 N ro l1 l2 l3 l5 l6 l7 s0 u = some (r, w)) (hS : RS D kA Z A s u H locs) (hl : lv_has ls 12 [(0, .ref (Z 200)), (1, .int l1), (2, .int l2), (3, .int l3), (5, .int l5), (6, .int l6), (7, .int l7)]) : W p l e R s m args below meth c H locs 0 0 Q (F0 m 185 ls [.int s0]) := by
  obtain ⟨⟨hx, hb, hml, hown, hts⟩, hK, hEV, hA⟩ := id X
  have hG : ∀ w ∈ GW, w.before args s = true := fun w h => hts w (List.mem_cons_of_mem _ h)
  unfold B_spot_185 at h
  refine lv_istore (lv' := [(8, .int s0), (0, .ref (Z 200)), (1, .int l1), (2, .int l2), (3, .int l3), (5, .int l5), (6, .int l6), (7, .int l7)]) hx hb dX12_spot_185 hl (by decide) rfl (fun ls hl => ?_)
  refine lv_aload_n hx hb dX12_spot_187 rfl (lv_at hl 1 rfl) ?_
  refine lv_sipush (v := 227) hx hb dX12_spot_188 (by decide) ?_
  obtain ⟨r_38, u_37, h_u_37, h⟩ := bn_of h
  refine kc_isNext X hS h_u_37 (Nat.le_trans (Nat.le_of_ble_eq_true rfl) hF) (Nat.le_trans (Nat.le_of_ble_eq_true rfl) hL) hl.1 (Nat.le_of_ble_eq_true rfl) dX12_spot_191 (fun H locs hS => ?_)
  refine lv_istore (lv' := [(9, .int r_38), (8, .int s0), (0, .ref (Z 200)), (1, .int l1), (2, .int l2), (3, .int l3), (5, .int l5), (6, .int l6), (7, .int l7)]) hx hb dX12_spot_194 hl (by decide) rfl (fun ls hl => ?_)
  refine lv_aload_n hx hb dX12_spot_196 rfl (lv_at hl 2 rfl) ?_
  refine lv_iload hx hb dX12_spot_197 (lv_at hl 6 rfl) ?_
  refine lv_if_eq (tgt := 232) hx hb dX12_spot_199 (by decide) (fun c_39 => ?_) (fun c_39 => ?_)
  · have h := ip (c_39) h
    exact b_spot_232 X hE hF hL hrec hFd hLd h hS (lv_sub hl [2, 3, 4, 5, 6, 7, 8, 1, 0] rfl)
  · have h := im (c_39) h
    refine lv_iload_n hx hb dX12_spot_202 rfl (lv_at hl 5 rfl) ?_
    refine lv_iconst (v := (-1)) hx hb dX12_spot_203 (by decide) ?_
    refine lv_icmp_eq (tgt := 216) hx hb dX12_spot_204 (by decide) (fun c_40 => ?_) (fun c_40 => ?_)
    · have h := ip (c_40) h
      refine lv_aload_n hx hb dX12_spot_216 rfl (lv_at hl 2 rfl) ?_
      refine rg_13 X hS dX12_spot_217 ?_
      refine lv_iload hx hb dX12_spot_220 (lv_at hl 7 rfl) ?_
      obtain ⟨v_41, e_v_41, i_42, h⟩ := rd_of h
      refine ra_13 X hS i_42 e_v_41 dX12_spot_222 ?_
      exact b_spot_223 X hE hF hL hrec hFd hLd h hS (lv_sub hl [2, 3, 4, 5, 6, 7, 8, 1, 0] rfl)
    · have h := im (c_40) h
      refine lv_aload_n hx hb dX12_spot_207 rfl (lv_at hl 2 rfl) ?_
      refine rg_22 X hS dX12_spot_208 ?_
      refine lv_iload_n hx hb dX12_spot_211 rfl (lv_at hl 5 rfl) ?_
      obtain ⟨v_43, e_v_43, i_44, h⟩ := rd_of h
      refine ra_22 X hS i_44 e_v_43 dX12_spot_212 ?_
      refine lv_goto (tgt := 223) hx hb dX12_spot_213 (by decide) ?_
      exact b_spot_223 X hE hF hL hrec hFd hLd h hS (lv_sub hl [2, 3, 4, 5, 6, 7, 8, 1, 0] rfl)
def B_spot_153 (N : Nat) (ro : Nat → Int32 → Int32 → RSt → Option (Int32 × RSt)) (l1 : Int32) (l2 : Int32) (l3 : Int32) (l5 : Int32) (l6 : Int32) (s0 : Int32) (u : RSt) : Option (Int32 × RSt) := if l5 = (0 : Int32) then (B_spot_185 N ro l1 l2 l3 l5 l6 s0 1 u) else (if l3 = ((-1) : Int32) then (rd (u.2.2.1 11) 320 l6 fun v_47 => B_spot_185 N ro l1 l2 l3 l5 l6 s0 v_47 u) else (rd (u.2.2.1 21) 320 l3 fun v_49 => B_spot_185 N ro l1 l2 l3 l5 l6 s0 v_49 u))
set_option maxHeartbeats 4000000 in
theorem b_spot_153 {r : Int32} {ro : Nat → Int32 → Int32 → RSt → Option (Int32 × RSt)} (X : RC p s m args c cX12_spot 12 (Cond.code yX12_spot cX12_spot 12 none) D kA V A) (hE : REv p l e R s m args below meth c cX12_spot D kA Z A Q w) (hF : 3 ≤ R.frames) (hL : 67 ≤ R.locals) (hrec : RecOK_E l D kA V Z d ro) (hFd : d + 1 + 12 ≤ R.frames) (hLd : 60 * (d + 1) + 500 ≤ R.locals) {l1 : Int32} {l2 : Int32} {l3 : Int32} {l5 : Int32} {l6 : Int32} {s0 : Int32}  {u : RSt} (h : B_spot_153 N ro l1 l2 l3 l5 l6 s0 u = some (r, w)) (hS : RS D kA Z A s u H locs) (hl : lv_has ls 12 [(0, .ref (Z 200)), (1, .int l1), (2, .int l2), (3, .int l3), (5, .int l5), (6, .int l6)]) : W p l e R s m args below meth c H locs 0 0 Q (F0 m 153 ls [.int s0]) := by
  obtain ⟨⟨hx, hb, hml, hown, hts⟩, hK, hEV, hA⟩ := id X
  have hG : ∀ w ∈ GW, w.before args s = true := fun w h => hts w (List.mem_cons_of_mem _ h)
  unfold B_spot_153 at h
  refine lv_istore (lv' := [(7, .int s0), (0, .ref (Z 200)), (1, .int l1), (2, .int l2), (3, .int l3), (5, .int l5), (6, .int l6)]) hx hb dX12_spot_153 hl (by decide) rfl (fun ls hl => ?_)
  refine lv_iload hx hb dX12_spot_155 (lv_at hl 5 rfl) ?_
  refine lv_if_ne (tgt := 164) hx hb dX12_spot_157 (by decide) (fun c_45 => ?_) (fun c_45 => ?_)
  · have h := im (c_45) h
    refine lv_iload_n hx hb dX12_spot_164 rfl (lv_at hl 4 rfl) ?_
    refine lv_iconst (v := (-1)) hx hb dX12_spot_165 (by decide) ?_
    refine lv_icmp_eq (tgt := 178) hx hb dX12_spot_166 (by decide) (fun c_46 => ?_) (fun c_46 => ?_)
    · have h := ip (c_46) h
      refine lv_aload_n hx hb dX12_spot_178 rfl (lv_at hl 1 rfl) ?_
      refine rg_11 X hS dX12_spot_179 ?_
      refine lv_iload hx hb dX12_spot_182 (lv_at hl 6 rfl) ?_
      obtain ⟨v_47, e_v_47, i_48, h⟩ := rd_of h
      refine ra_11 X hS i_48 e_v_47 dX12_spot_184 ?_
      exact b_spot_185 X hE hF hL hrec hFd hLd h hS (lv_sub hl [1, 2, 3, 4, 5, 6, 0] rfl)
    · have h := im (c_46) h
      refine lv_aload_n hx hb dX12_spot_169 rfl (lv_at hl 1 rfl) ?_
      refine rg_21 X hS dX12_spot_170 ?_
      refine lv_iload_n hx hb dX12_spot_173 rfl (lv_at hl 4 rfl) ?_
      obtain ⟨v_49, e_v_49, i_50, h⟩ := rd_of h
      refine ra_21 X hS i_50 e_v_49 dX12_spot_174 ?_
      refine lv_goto (tgt := 185) hx hb dX12_spot_175 (by decide) ?_
      exact b_spot_185 X hE hF hL hrec hFd hLd h hS (lv_sub hl [1, 2, 3, 4, 5, 6, 0] rfl)
  · have h := ip (c_45) h
    refine lv_iconst (v := 1) hx hb dX12_spot_160 (by decide) ?_
    refine lv_goto (tgt := 185) hx hb dX12_spot_161 (by decide) ?_
    exact b_spot_185 X hE hF hL hrec hFd hLd h hS (lv_sub hl [1, 2, 3, 4, 5, 6, 0] rfl)
def B_spot_108 (N : Nat) (ro : Nat → Int32 → Int32 → RSt → Option (Int32 × RSt)) (l1 : Int32) (l2 : Int32) (l3 : Int32) (l4 : Int32) (s0 : Int32) (u : RSt) : Option (Int32 × RSt) := if s0 = (0 : Int32) then (B_spot_153 N ro l1 l2 l3 s0 ((160 * (u.1 56)) + l4) 3 u) else (if l3 = ((-1) : Int32) then (rd (u.2.2.1 10) 320 ((160 * (u.1 56)) + l4) fun v_53 => B_spot_153 N ro l1 l2 l3 s0 ((160 * (u.1 56)) + l4) v_53 u) else (rd (u.2.2.1 20) 320 l3 fun v_55 => B_spot_153 N ro l1 l2 l3 s0 ((160 * (u.1 56)) + l4) v_55 u))
set_option maxHeartbeats 4000000 in
theorem b_spot_108 {r : Int32} {ro : Nat → Int32 → Int32 → RSt → Option (Int32 × RSt)} (X : RC p s m args c cX12_spot 12 (Cond.code yX12_spot cX12_spot 12 none) D kA V A) (hE : REv p l e R s m args below meth c cX12_spot D kA Z A Q w) (hF : 3 ≤ R.frames) (hL : 67 ≤ R.locals) (hrec : RecOK_E l D kA V Z d ro) (hFd : d + 1 + 12 ≤ R.frames) (hLd : 60 * (d + 1) + 500 ≤ R.locals) {l1 : Int32} {l2 : Int32} {l3 : Int32} {l4 : Int32} {s0 : Int32}  {u : RSt} (h : B_spot_108 N ro l1 l2 l3 l4 s0 u = some (r, w)) (hS : RS D kA Z A s u H locs) (hl : lv_has ls 12 [(0, .ref (Z 200)), (1, .int l1), (2, .int l2), (3, .int l3), (4, .int l4)]) : W p l e R s m args below meth c H locs 0 0 Q (F0 m 108 ls [.int s0]) := by
  obtain ⟨⟨hx, hb, hml, hown, hts⟩, hK, hEV, hA⟩ := id X
  have hG : ∀ w ∈ GW, w.before args s = true := fun w h => hts w (List.mem_cons_of_mem _ h)
  unfold B_spot_108 at h
  refine lv_istore (lv' := [(5, .int s0), (0, .ref (Z 200)), (1, .int l1), (2, .int l2), (3, .int l3), (4, .int l4)]) hx hb dX12_spot_108 hl (by decide) rfl (fun ls hl => ?_)
  refine lv_sipush (v := 160) hx hb dX12_spot_110 (by decide) ?_
  refine lv_aload_n hx hb dX12_spot_113 rfl (lv_at hl 1 rfl) ?_
  refine rg_56 X hS dX12_spot_114 ?_
  refine lv_imul hx hb dX12_spot_117 ?_
  refine lv_iload hx hb dX12_spot_118 (lv_at hl 5 rfl) ?_
  refine lv_iadd hx hb dX12_spot_120 ?_
  refine lv_istore (lv' := [(6, .int ((160 * (u.1 56)) + l4)), (5, .int s0), (0, .ref (Z 200)), (1, .int l1), (2, .int l2), (3, .int l3), (4, .int l4)]) hx hb dX12_spot_121 hl (by decide) rfl (fun ls hl => ?_)
  refine lv_iload hx hb dX12_spot_123 (lv_at hl 1 rfl) ?_
  refine lv_if_ne (tgt := 132) hx hb dX12_spot_125 (by decide) (fun c_51 => ?_) (fun c_51 => ?_)
  · have h := im (c_51) h
    refine lv_iload_n hx hb dX12_spot_132 rfl (lv_at hl 5 rfl) ?_
    refine lv_iconst (v := (-1)) hx hb dX12_spot_133 (by decide) ?_
    refine lv_icmp_eq (tgt := 146) hx hb dX12_spot_134 (by decide) (fun c_52 => ?_) (fun c_52 => ?_)
    · have h := ip (c_52) h
      refine lv_aload_n hx hb dX12_spot_146 rfl (lv_at hl 2 rfl) ?_
      refine rg_10 X hS dX12_spot_147 ?_
      refine lv_iload hx hb dX12_spot_150 (lv_at hl 0 rfl) ?_
      obtain ⟨v_53, e_v_53, i_54, h⟩ := rd_of h
      refine ra_10 X hS i_54 e_v_53 dX12_spot_152 ?_
      exact b_spot_153 X hE hF hL hrec hFd hLd h hS (lv_sub hl [2, 3, 4, 5, 1, 0] rfl)
    · have h := im (c_52) h
      refine lv_aload_n hx hb dX12_spot_137 rfl (lv_at hl 2 rfl) ?_
      refine rg_20 X hS dX12_spot_138 ?_
      refine lv_iload_n hx hb dX12_spot_141 rfl (lv_at hl 5 rfl) ?_
      obtain ⟨v_55, e_v_55, i_56, h⟩ := rd_of h
      refine ra_20 X hS i_56 e_v_55 dX12_spot_142 ?_
      refine lv_goto (tgt := 153) hx hb dX12_spot_143 (by decide) ?_
      exact b_spot_153 X hE hF hL hrec hFd hLd h hS (lv_sub hl [2, 3, 4, 5, 1, 0] rfl)
  · have h := ip (c_51) h
    refine lv_iconst (v := 3) hx hb dX12_spot_128 (by decide) ?_
    refine lv_goto (tgt := 153) hx hb dX12_spot_129 (by decide) ?_
    exact b_spot_153 X hE hF hL hrec hFd hLd h hS (lv_sub hl [2, 3, 4, 5, 1, 0] rfl)
def B_spot_107 (N : Nat) (ro : Nat → Int32 → Int32 → RSt → Option (Int32 × RSt)) (l1 : Int32) (l2 : Int32) (l3 : Int32) (l4 : Int32) (u : RSt) : Option (Int32 × RSt) := B_spot_108 N ro l1 l2 l3 l4 0 u
set_option maxHeartbeats 4000000 in
theorem b_spot_107 {r : Int32} {ro : Nat → Int32 → Int32 → RSt → Option (Int32 × RSt)} (X : RC p s m args c cX12_spot 12 (Cond.code yX12_spot cX12_spot 12 none) D kA V A) (hE : REv p l e R s m args below meth c cX12_spot D kA Z A Q w) (hF : 3 ≤ R.frames) (hL : 67 ≤ R.locals) (hrec : RecOK_E l D kA V Z d ro) (hFd : d + 1 + 12 ≤ R.frames) (hLd : 60 * (d + 1) + 500 ≤ R.locals) {l1 : Int32} {l2 : Int32} {l3 : Int32} {l4 : Int32}  {u : RSt} (h : B_spot_107 N ro l1 l2 l3 l4 u = some (r, w)) (hS : RS D kA Z A s u H locs) (hl : lv_has ls 12 [(0, .ref (Z 200)), (1, .int l1), (2, .int l2), (3, .int l3), (4, .int l4)]) : W p l e R s m args below meth c H locs 0 0 Q (F0 m 107 ls []) := by
  obtain ⟨⟨hx, hb, hml, hown, hts⟩, hK, hEV, hA⟩ := id X
  have hG : ∀ w ∈ GW, w.before args s = true := fun w h => hts w (List.mem_cons_of_mem _ h)
  unfold B_spot_107 at h
  refine lv_iconst (v := 0) hx hb dX12_spot_107 (by decide) ?_
  exact b_spot_108 X hE hF hL hrec hFd hLd h hS (lv_sub hl [0, 1, 2, 3, 4] rfl)
def B_spot_84 (N : Nat) (ro : Nat → Int32 → Int32 → RSt → Option (Int32 × RSt)) (l1 : Int32) (l2 : Int32) (l3 : Int32) (l4 : Int32) (s1 : Int32) (u : RSt) : Option (Int32 × RSt) := bn (F_wrong N s1 3 l2 u) fun _ u_57 => if (u_57.1 69) = (0 : Int32) then (B_spot_107 N ro l1 l2 l3 l4 u_57) else (if (u_57.1 67) = (0 : Int32) then (B_spot_108 N ro l1 l2 l3 l4 1 u_57) else (B_spot_107 N ro l1 l2 l3 l4 u_57))
set_option maxHeartbeats 4000000 in
theorem b_spot_84 {r : Int32} {ro : Nat → Int32 → Int32 → RSt → Option (Int32 × RSt)} (X : RC p s m args c cX12_spot 12 (Cond.code yX12_spot cX12_spot 12 none) D kA V A) (hE : REv p l e R s m args below meth c cX12_spot D kA Z A Q w) (hF : 3 ≤ R.frames) (hL : 67 ≤ R.locals) (hrec : RecOK_E l D kA V Z d ro) (hFd : d + 1 + 12 ≤ R.frames) (hLd : 60 * (d + 1) + 500 ≤ R.locals) {l1 : Int32} {l2 : Int32} {l3 : Int32} {l4 : Int32} {s1 : Int32}  {u : RSt} (h : B_spot_84 N ro l1 l2 l3 l4 s1 u = some (r, w)) (hS : RS D kA Z A s u H locs) (hl : lv_has ls 12 [(0, .ref (Z 200)), (1, .int l1), (2, .int l2), (3, .int l3), (4, .int l4)]) : W p l e R s m args below meth c H locs 0 0 Q (F0 m 84 ls [.int s1, .ref (Z 200)]) := by
  obtain ⟨⟨hx, hb, hml, hown, hts⟩, hK, hEV, hA⟩ := id X
  have hG : ∀ w ∈ GW, w.before args s = true := fun w h => hts w (List.mem_cons_of_mem _ h)
  unfold B_spot_84 at h
  refine lv_iconst (v := 3) hx hb dX12_spot_84 (by decide) ?_
  refine lv_iload_n hx hb dX12_spot_85 rfl (lv_at hl 2 rfl) ?_
  obtain ⟨r_u_57, u_57, h_u_57, h⟩ := bn_of h
  refine kc_wrong X hS h_u_57 (Nat.le_trans (Nat.le_of_ble_eq_true rfl) hF) (Nat.le_trans (Nat.le_of_ble_eq_true rfl) hL) hl.1 (Nat.le_of_ble_eq_true rfl) dX12_spot_86 (fun H locs hS => ?_)
  refine lv_aload_n hx hb dX12_spot_89 rfl (lv_at hl 0 rfl) ?_
  refine rg_69 X hS dX12_spot_90 ?_
  refine lv_if_eq (tgt := 107) hx hb dX12_spot_93 (by decide) (fun c_58 => ?_) (fun c_58 => ?_)
  · have h := ip (c_58) h
    exact b_spot_107 X hE hF hL hrec hFd hLd h hS (lv_sub hl [0, 1, 2, 3, 4] rfl)
  · have h := im (c_58) h
    refine lv_aload_n hx hb dX12_spot_96 rfl (lv_at hl 0 rfl) ?_
    refine rg_67 X hS dX12_spot_97 ?_
    refine lv_if_ne (tgt := 107) hx hb dX12_spot_100 (by decide) (fun c_59 => ?_) (fun c_59 => ?_)
    · have h := im (c_59) h
      exact b_spot_107 X hE hF hL hrec hFd hLd h hS (lv_sub hl [0, 1, 2, 3, 4] rfl)
    · have h := ip (c_59) h
      refine lv_iconst (v := 1) hx hb dX12_spot_103 (by decide) ?_
      refine lv_goto (tgt := 108) hx hb dX12_spot_104 (by decide) ?_
      exact b_spot_108 X hE hF hL hrec hFd hLd h hS (lv_sub hl [0, 1, 2, 3, 4] rfl)
def B_spot_83 (N : Nat) (ro : Nat → Int32 → Int32 → RSt → Option (Int32 × RSt)) (l1 : Int32) (l2 : Int32) (l3 : Int32) (l4 : Int32) (u : RSt) : Option (Int32 × RSt) := B_spot_84 N ro l1 l2 l3 l4 0 u
set_option maxHeartbeats 4000000 in
theorem b_spot_83 {r : Int32} {ro : Nat → Int32 → Int32 → RSt → Option (Int32 × RSt)} (X : RC p s m args c cX12_spot 12 (Cond.code yX12_spot cX12_spot 12 none) D kA V A) (hE : REv p l e R s m args below meth c cX12_spot D kA Z A Q w) (hF : 3 ≤ R.frames) (hL : 67 ≤ R.locals) (hrec : RecOK_E l D kA V Z d ro) (hFd : d + 1 + 12 ≤ R.frames) (hLd : 60 * (d + 1) + 500 ≤ R.locals) {l1 : Int32} {l2 : Int32} {l3 : Int32} {l4 : Int32}  {u : RSt} (h : B_spot_83 N ro l1 l2 l3 l4 u = some (r, w)) (hS : RS D kA Z A s u H locs) (hl : lv_has ls 12 [(0, .ref (Z 200)), (1, .int l1), (2, .int l2), (3, .int l3), (4, .int l4)]) : W p l e R s m args below meth c H locs 0 0 Q (F0 m 83 ls [.ref (Z 200)]) := by
  obtain ⟨⟨hx, hb, hml, hown, hts⟩, hK, hEV, hA⟩ := id X
  have hG : ∀ w ∈ GW, w.before args s = true := fun w h => hts w (List.mem_cons_of_mem _ h)
  unfold B_spot_83 at h
  refine lv_iconst (v := 0) hx hb dX12_spot_83 (by decide) ?_
  exact b_spot_84 X hE hF hL hrec hFd hLd h hS (lv_sub hl [0, 1, 2, 3, 4] rfl)
def B_spot_65 (N : Nat) (ro : Nat → Int32 → Int32 → RSt → Option (Int32 × RSt)) (l1 : Int32) (l2 : Int32) (l3 : Int32) (s0 : Int32) (u : RSt) : Option (Int32 × RSt) := if l3 = ((-1) : Int32) then (if s0 = ((-1) : Int32) then (B_spot_84 N ro l1 l2 l3 s0 1 u) else (B_spot_83 N ro l1 l2 l3 s0 u)) else (B_spot_83 N ro l1 l2 l3 s0 u)
set_option maxHeartbeats 4000000 in
theorem b_spot_65 {r : Int32} {ro : Nat → Int32 → Int32 → RSt → Option (Int32 × RSt)} (X : RC p s m args c cX12_spot 12 (Cond.code yX12_spot cX12_spot 12 none) D kA V A) (hE : REv p l e R s m args below meth c cX12_spot D kA Z A Q w) (hF : 3 ≤ R.frames) (hL : 67 ≤ R.locals) (hrec : RecOK_E l D kA V Z d ro) (hFd : d + 1 + 12 ≤ R.frames) (hLd : 60 * (d + 1) + 500 ≤ R.locals) {l1 : Int32} {l2 : Int32} {l3 : Int32} {s0 : Int32}  {u : RSt} (h : B_spot_65 N ro l1 l2 l3 s0 u = some (r, w)) (hS : RS D kA Z A s u H locs) (hl : lv_has ls 12 [(0, .ref (Z 200)), (1, .int l1), (2, .int l2), (3, .int l3)]) : W p l e R s m args below meth c H locs 0 0 Q (F0 m 65 ls [.int s0]) := by
  obtain ⟨⟨hx, hb, hml, hown, hts⟩, hK, hEV, hA⟩ := id X
  have hG : ∀ w ∈ GW, w.before args s = true := fun w h => hts w (List.mem_cons_of_mem _ h)
  unfold B_spot_65 at h
  refine lv_istore (lv' := [(4, .int s0), (0, .ref (Z 200)), (1, .int l1), (2, .int l2), (3, .int l3)]) hx hb dX12_spot_65 hl (by decide) rfl (fun ls hl => ?_)
  refine lv_aload_n hx hb dX12_spot_67 rfl (lv_at hl 1 rfl) ?_
  refine lv_iload_n hx hb dX12_spot_68 rfl (lv_at hl 4 rfl) ?_
  refine lv_iconst (v := (-1)) hx hb dX12_spot_69 (by decide) ?_
  refine lv_icmp_ne (tgt := 83) hx hb dX12_spot_70 (by decide) (fun c_60 => ?_) (fun c_60 => ?_)
  · have h := im (c_60) h
    exact b_spot_83 X hE hF hL hrec hFd hLd h hS (lv_sub hl [1, 2, 3, 4, 0] rfl)
  · have h := ip (c_60) h
    refine lv_iload hx hb dX12_spot_73 (lv_at hl 0 rfl) ?_
    refine lv_iconst (v := (-1)) hx hb dX12_spot_75 (by decide) ?_
    refine lv_icmp_ne (tgt := 83) hx hb dX12_spot_76 (by decide) (fun c_61 => ?_) (fun c_61 => ?_)
    · have h := im (c_61) h
      exact b_spot_83 X hE hF hL hrec hFd hLd h hS (lv_sub hl [1, 2, 3, 4, 0] rfl)
    · have h := ip (c_61) h
      refine lv_iconst (v := 1) hx hb dX12_spot_79 (by decide) ?_
      refine lv_goto (tgt := 84) hx hb dX12_spot_80 (by decide) ?_
      exact b_spot_84 X hE hF hL hrec hFd hLd h hS (lv_sub hl [1, 2, 3, 4, 0] rfl)
def B_spot_64 (N : Nat) (ro : Nat → Int32 → Int32 → RSt → Option (Int32 × RSt)) (l1 : Int32) (l2 : Int32) (l3 : Int32) (u : RSt) : Option (Int32 × RSt) := B_spot_65 N ro l1 l2 l3 (-1) u
set_option maxHeartbeats 4000000 in
theorem b_spot_64 {r : Int32} {ro : Nat → Int32 → Int32 → RSt → Option (Int32 × RSt)} (X : RC p s m args c cX12_spot 12 (Cond.code yX12_spot cX12_spot 12 none) D kA V A) (hE : REv p l e R s m args below meth c cX12_spot D kA Z A Q w) (hF : 3 ≤ R.frames) (hL : 67 ≤ R.locals) (hrec : RecOK_E l D kA V Z d ro) (hFd : d + 1 + 12 ≤ R.frames) (hLd : 60 * (d + 1) + 500 ≤ R.locals) {l1 : Int32} {l2 : Int32} {l3 : Int32}  {u : RSt} (h : B_spot_64 N ro l1 l2 l3 u = some (r, w)) (hS : RS D kA Z A s u H locs) (hl : lv_has ls 12 [(0, .ref (Z 200)), (1, .int l1), (2, .int l2), (3, .int l3)]) : W p l e R s m args below meth c H locs 0 0 Q (F0 m 64 ls []) := by
  obtain ⟨⟨hx, hb, hml, hown, hts⟩, hK, hEV, hA⟩ := id X
  have hG : ∀ w ∈ GW, w.before args s = true := fun w h => hts w (List.mem_cons_of_mem _ h)
  unfold B_spot_64 at h
  refine lv_iconst (v := (-1)) hx hb dX12_spot_64 (by decide) ?_
  exact b_spot_65 X hE hF hL hrec hFd hLd h hS (lv_sub hl [0, 1, 2, 3] rfl)
def B_spot_43 (N : Nat) (ro : Nat → Int32 → Int32 → RSt → Option (Int32 × RSt)) (l1 : Int32) (l2 : Int32) (s0 : Int32) (u : RSt) : Option (Int32 × RSt) := if s0 = ((-1) : Int32) then (if (u.1 69) = (0 : Int32) then (B_spot_64 N ro l1 l2 s0 u) else (bn (F_own N 0 u) fun r_65 u_64 => B_spot_65 N ro l1 l2 s0 r_65 u_64)) else (B_spot_64 N ro l1 l2 s0 u)
set_option maxHeartbeats 4000000 in
theorem b_spot_43 {r : Int32} {ro : Nat → Int32 → Int32 → RSt → Option (Int32 × RSt)} (X : RC p s m args c cX12_spot 12 (Cond.code yX12_spot cX12_spot 12 none) D kA V A) (hE : REv p l e R s m args below meth c cX12_spot D kA Z A Q w) (hF : 3 ≤ R.frames) (hL : 67 ≤ R.locals) (hrec : RecOK_E l D kA V Z d ro) (hFd : d + 1 + 12 ≤ R.frames) (hLd : 60 * (d + 1) + 500 ≤ R.locals) {l1 : Int32} {l2 : Int32} {s0 : Int32}  {u : RSt} (h : B_spot_43 N ro l1 l2 s0 u = some (r, w)) (hS : RS D kA Z A s u H locs) (hl : lv_has ls 12 [(0, .ref (Z 200)), (1, .int l1), (2, .int l2)]) : W p l e R s m args below meth c H locs 0 0 Q (F0 m 43 ls [.int s0]) := by
  obtain ⟨⟨hx, hb, hml, hown, hts⟩, hK, hEV, hA⟩ := id X
  have hG : ∀ w ∈ GW, w.before args s = true := fun w h => hts w (List.mem_cons_of_mem _ h)
  unfold B_spot_43 at h
  refine lv_istore_n (lv' := [(3, .int s0), (0, .ref (Z 200)), (1, .int l1), (2, .int l2)]) hx hb dX12_spot_43 rfl hl (by decide) rfl (fun ls hl => ?_)
  refine lv_iload_n hx hb dX12_spot_44 rfl (lv_at hl 0 rfl) ?_
  refine lv_iconst (v := (-1)) hx hb dX12_spot_45 (by decide) ?_
  refine lv_icmp_ne (tgt := 64) hx hb dX12_spot_46 (by decide) (fun c_62 => ?_) (fun c_62 => ?_)
  · have h := im (c_62) h
    exact b_spot_64 X hE hF hL hrec hFd hLd h hS (lv_sub hl [1, 2, 3, 0] rfl)
  · have h := ip (c_62) h
    refine lv_aload_n hx hb dX12_spot_49 rfl (lv_at hl 1 rfl) ?_
    refine rg_69 X hS dX12_spot_50 ?_
    refine lv_if_eq (tgt := 64) hx hb dX12_spot_53 (by decide) (fun c_63 => ?_) (fun c_63 => ?_)
    · have h := ip (c_63) h
      exact b_spot_64 X hE hF hL hrec hFd hLd h hS (lv_sub hl [1, 2, 3, 0] rfl)
    · have h := im (c_63) h
      refine lv_aload_n hx hb dX12_spot_56 rfl (lv_at hl 1 rfl) ?_
      refine lv_iconst (v := 0) hx hb dX12_spot_57 (by decide) ?_
      obtain ⟨r_65, u_64, h_u_64, h⟩ := bn_of h
      refine kc_own X hS h_u_64 (Nat.le_trans (Nat.le_of_ble_eq_true rfl) hF) (Nat.le_trans (Nat.le_of_ble_eq_true rfl) hL) hl.1 (Nat.le_of_ble_eq_true rfl) dX12_spot_58 (fun H locs hS => ?_)
      refine lv_goto (tgt := 65) hx hb dX12_spot_61 (by decide) ?_
      exact b_spot_65 X hE hF hL hrec hFd hLd h hS (lv_sub hl [1, 2, 3, 0] rfl)
def B_spot_0 (N : Nat) (ro : Nat → Int32 → Int32 → RSt → Option (Int32 × RSt)) (l1 : Int32) (u : RSt) : Option (Int32 × RSt) := rd (u.2.2.1 3) 1502 (u.1 65) fun v_66 => if (u.1 69) = (0 : Int32) then (B_spot_43 N ro l1 v_66 (-1) u) else (rd (u.2.2.2 6) 1502 (u.1 65) fun v_69 => rd (u.2.2.2 7) 1502 (u.1 65) fun v_71 => bn (F_slotOf N v_69 v_71 u) fun r_74 u_73 => B_spot_43 N ro l1 v_66 r_74 u_73)
set_option maxHeartbeats 4000000 in
theorem b_spot_0 {r : Int32} {ro : Nat → Int32 → Int32 → RSt → Option (Int32 × RSt)} (X : RC p s m args c cX12_spot 12 (Cond.code yX12_spot cX12_spot 12 none) D kA V A) (hE : REv p l e R s m args below meth c cX12_spot D kA Z A Q w) (hF : 3 ≤ R.frames) (hL : 67 ≤ R.locals) (hrec : RecOK_E l D kA V Z d ro) (hFd : d + 1 + 12 ≤ R.frames) (hLd : 60 * (d + 1) + 500 ≤ R.locals) {l1 : Int32}  {u : RSt} (h : B_spot_0 N ro l1 u = some (r, w)) (hS : RS D kA Z A s u H locs) (hl : lv_has ls 12 [(0, .ref (Z 200)), (1, .int l1)]) : W p l e R s m args below meth c H locs 0 0 Q (F0 m 0 ls []) := by
  obtain ⟨⟨hx, hb, hml, hown, hts⟩, hK, hEV, hA⟩ := id X
  have hG : ∀ w ∈ GW, w.before args s = true := fun w h => hts w (List.mem_cons_of_mem _ h)
  unfold B_spot_0 at h
  refine lv_aload_n hx hb dX12_spot_0 rfl (lv_at hl 0 rfl) ?_
  refine rg_3 X hS dX12_spot_1 ?_
  refine lv_aload_n hx hb dX12_spot_4 rfl (lv_at hl 0 rfl) ?_
  refine rg_65 X hS dX12_spot_5 ?_
  obtain ⟨v_66, e_v_66, i_67, h⟩ := rd_of h
  refine ra_3 X hS i_67 e_v_66 dX12_spot_8 ?_
  refine lv_istore_n (lv' := [(2, .int v_66), (0, .ref (Z 200)), (1, .int l1)]) hx hb dX12_spot_9 rfl hl (by decide) rfl (fun ls hl => ?_)
  refine lv_aload_n hx hb dX12_spot_10 rfl (lv_at hl 1 rfl) ?_
  refine rg_69 X hS dX12_spot_11 ?_
  refine lv_if_eq (tgt := 42) hx hb dX12_spot_14 (by decide) (fun c_68 => ?_) (fun c_68 => ?_)
  · have h := ip (c_68) h
    refine lv_iconst (v := (-1)) hx hb dX12_spot_42 (by decide) ?_
    exact b_spot_43 X hE hF hL hrec hFd hLd h hS (lv_sub hl [1, 2, 0] rfl)
  · have h := im (c_68) h
    refine lv_aload_n hx hb dX12_spot_17 rfl (lv_at hl 1 rfl) ?_
    refine lv_aload_n hx hb dX12_spot_18 rfl (lv_at hl 1 rfl) ?_
    refine rg_6 X hS dX12_spot_19 ?_
    refine lv_aload_n hx hb dX12_spot_22 rfl (lv_at hl 1 rfl) ?_
    refine rg_65 X hS dX12_spot_23 ?_
    obtain ⟨v_69, e_v_69, i_70, h⟩ := rd_of h
    refine ra_6 X hS i_70 e_v_69 dX12_spot_26 ?_
    refine lv_aload_n hx hb dX12_spot_27 rfl (lv_at hl 1 rfl) ?_
    refine rg_7 X hS dX12_spot_28 ?_
    refine lv_aload_n hx hb dX12_spot_31 rfl (lv_at hl 1 rfl) ?_
    refine rg_65 X hS dX12_spot_32 ?_
    obtain ⟨v_71, e_v_71, i_72, h⟩ := rd_of h
    refine ra_7 X hS i_72 e_v_71 dX12_spot_35 ?_
    obtain ⟨r_74, u_73, h_u_73, h⟩ := bn_of h
    refine kc_slotOf X hS h_u_73 (Nat.le_trans (Nat.le_of_ble_eq_true rfl) hF) (Nat.le_trans (Nat.le_of_ble_eq_true rfl) hL) hl.1 (Nat.le_of_ble_eq_true rfl) dX12_spot_36 (fun H locs hS => ?_)
    refine lv_goto (tgt := 43) hx hb dX12_spot_39 (by decide) ?_
    exact b_spot_43 X hE hF hL hrec hFd hLd h hS (lv_sub hl [1, 2, 0] rfl)
def F_spot (N : Nat) (ro : Nat → Int32 → Int32 → RSt → Option (Int32 × RSt)) (l1 : Int32) (u : RSt) : Option (Int32 × RSt) := B_spot_0 N ro l1 u
set_option maxHeartbeats 4000000 in
theorem k_spot (l : Launch) (D : va_G) (kA : Nat → ClassId) (V Z : Nat → Nat) (N : Nat) {d : Nat} (ro : Nat → Int32 → Int32 → RSt → Option (Int32 × RSt)) (hrec : RecOK_E l D kA V Z d ro) (l1 : Int32) (u : RSt) (sz : Nat) {r : Int32} {w : RSt} (h : F_spot N ro l1 u = some (r, w)) : Met l yX12_spot (Cond.code yX12_spot cX12_spot 12 none :: GW) { frames := d + 1 + 12, cells := 0, slots := 0, locals := 60 * (d + 1) + 500 } (rPc D kA V Z [.int l1] u sz) (rQv D kA Z u sz w) 0 0 (va_A (RW kA Z u) sz) := by
  refine Met.ofW (cc := cX12_spot) (maxL := 12) (ret := none) (by decide) rfl ?_
  intro p e s m args below meth c s₁ Bd hml hv
  obtain ⟨rfl, hsz, hP, hK, hD0, hE⟩ := hv
  have hts := atoms_spec (ws := Cond.code yX12_spot cX12_spot 12 none :: GW) Bd.pre
  have hl := lv_entry (.ref (Z 200) :: [.int l1]) (n := 12) (Nat.le_of_ble_eq_true rfl)
  rw [lg_entry_eq]
  generalize (lg_sl (.ref (Z 200) :: [.int l1]) ++ List.replicate (12 - (lg_sl (.ref (Z 200) :: [.int l1])).length) Slot.unset).toArray = ls at hl ⊢
  have hl : lv_has ls 12 [(0, .ref (Z 200)), (1, .int l1)] := hl
  subst hsz
  have X : RC p s m (.ref (Z 200) :: [.int l1]).toArray c cX12_spot 12 (Cond.code yX12_spot cX12_spot 12 none) D kA V (va_A (RW kA Z u) s.heap.size) := ⟨⟨Bd.exec, Bd.bytes, hml, findClass_of_methodNamed Bd.named, hts⟩, hK, hE, fun q h => Or.inr h⟩
  exact b_spot_0 X (rend_v (cy := cX12_spot) X Bd.returns Bd.notSynchronized) (Nat.le_trans (Nat.le_of_ble_eq_true rfl) (Nat.le_add_left 12 _)) (Nat.le_trans (Nat.le_of_ble_eq_true rfl) (Nat.le_add_left 500 _)) hrec (Nat.le_refl _) (Nat.le_refl _) h ⟨hP, hD0.self, va_S.rf⟩ (lv_sub hl [0, 1] rfl)
def FE_ (N : Nat) : Nat → Nat → Int32 → Int32 → RSt → Option (Int32 × RSt)
  | 0 => fun _ _ _ _ => none
  | d + 1 => fun q a b u => if q = 0 then F_expression N (FE_ N d) u else if q = 1 then F_two N (FE_ N d) a u else if q = 2 then F_operand N (FE_ N d) u else if q = 3 then F_signed N (FE_ N d) a u else if q = 4 then F_cast N (FE_ N d) u else if q = 5 then F_call N (FE_ N d) u else if q = 6 then F_inner N (FE_ N d) u else if q = 7 then F_index N (FE_ N d) a b u else if q = 8 then F_spot N (FE_ N d) a u else none
theorem okE_ (l : Launch) (D : va_G) (kA : Nat → ClassId) (V Z : Nat → Nat) (N : Nat) : ∀ d : Nat, RecOK_E l D kA V Z d (FE_ N d) := by
  intro d
  induction d with
  | zero => exact ⟨fun u sz r w h => (nomatch h), fun l1 u sz r w h => (nomatch h), fun u sz r w h => (nomatch h), fun l1 u sz r w h => (nomatch h), fun u sz r w h => (nomatch h), fun u sz r w h => (nomatch h), fun u sz r w h => (nomatch h), fun l1 l2 u sz r w h => (nomatch h), fun l1 u sz r w h => (nomatch h)⟩
  | succ d ih => exact ⟨fun u sz r w h => k_expression l D kA V Z N (FE_ N d) ih u sz h, fun l1 u sz r w h => k_two l D kA V Z N (FE_ N d) ih l1 u sz h, fun u sz r w h => k_operand l D kA V Z N (FE_ N d) ih u sz h, fun l1 u sz r w h => k_signed l D kA V Z N (FE_ N d) ih l1 u sz h, fun u sz r w h => k_cast l D kA V Z N (FE_ N d) ih u sz h, fun u sz r w h => k_call l D kA V Z N (FE_ N d) ih u sz h, fun u sz r w h => k_inner l D kA V Z N (FE_ N d) ih u sz h, fun l1 l2 u sz r w h => k_index l D kA V Z N (FE_ N d) ih l1 l2 u sz h, fun l1 u sz r w h => k_spot l D kA V Z N (FE_ N d) ih l1 u sz h⟩
def G_expression (N : Nat) (u : RSt) : Option (Int32 × RSt) := FE_ N 400 0 0 0 u
theorem kg_expression {r : Int32} {cc : ByteArray} {pc nL : Nat} {c0 : Cond} {rest : List Value} {u : RSt} (X : RC p s m args c cc nL c0 D kA V A) (hS : RS D kA Z A s u H locs) (h : G_expression N u = some (r, w)) (hF : 412 + 1 ≤ R.frames) (hL : 8 + (6 + 11) + 24500 ≤ R.locals) (hl : ls.size = nL) (hc : (rest.map fun v => v.category).sum ≤ 8) (hdg : decode cc pc = .ok (.invokevirtual 444, 3)) (kk : ∀ H locs, RS D kA Z A s w H locs → W p l e R s m args below meth c H locs 0 0 Q (F0 m (pc + 3) ls (.int r :: rest))) : W p l e R s m args below meth c H locs 0 0 Q (F0 m pc ls (.ref (Z 200) :: rest)) :=
  rcall_i (n := 0) (f9 := 400 + 12) (l9 := 60 * 400 + 500) X hS ((okE_ l D kA V Z N 400).1 u H.size _ _ h) (gw_V gw_2464 gw_2466 gs_9_15 gw_16 gw_2467) (by decide +kernel) hF hL rfl hl hc rfl hdg kk
def G_two (N : Nat) (l1 : Int32) (u : RSt) : Option (Int32 × RSt) := FE_ N 400 1 l1 0 u
theorem kg_two {r : Int32} {cc : ByteArray} {pc nL : Nat} {c0 : Cond} {rest : List Value} {l1 : Int32} {u : RSt} (X : RC p s m args c cc nL c0 D kA V A) (hS : RS D kA Z A s u H locs) (h : G_two N l1 u = some (r, w)) (hF : 412 + 1 ≤ R.frames) (hL : 8 + (9 + 11) + 24500 ≤ R.locals) (hl : ls.size = nL) (hc : (rest.map fun v => v.category).sum ≤ 8) (hdg : decode cc pc = .ok (.invokevirtual 438, 3)) (kk : ∀ H locs, RS D kA Z A s w H locs → W p l e R s m args below meth c H locs 0 0 Q (F0 m (pc + 3) ls (.int r :: rest))) : W p l e R s m args below meth c H locs 0 0 Q (F0 m pc ls (.int l1 :: .ref (Z 200) :: rest)) :=
  rcall_i (n := 1) (f9 := 400 + 12) (l9 := 60 * 400 + 500) X hS ((okE_ l D kA V Z N 400).2.1 l1 u H.size _ _ h) (gw_V gw_2468 gw_2470 gs_10_0 gw_16 gw_2471) (by decide +kernel) hF hL rfl hl hc rfl hdg kk
def G_operand (N : Nat) (u : RSt) : Option (Int32 × RSt) := FE_ N 400 2 0 0 u
theorem kg_operand {r : Int32} {cc : ByteArray} {pc nL : Nat} {c0 : Cond} {rest : List Value} {u : RSt} (X : RC p s m args c cc nL c0 D kA V A) (hS : RS D kA Z A s u H locs) (h : G_operand N u = some (r, w)) (hF : 412 + 1 ≤ R.frames) (hL : 8 + (3 + 11) + 24500 ≤ R.locals) (hl : ls.size = nL) (hc : (rest.map fun v => v.category).sum ≤ 8) (hdg : decode cc pc = .ok (.invokevirtual 450, 3)) (kk : ∀ H locs, RS D kA Z A s w H locs → W p l e R s m args below meth c H locs 0 0 Q (F0 m (pc + 3) ls (.int r :: rest))) : W p l e R s m args below meth c H locs 0 0 Q (F0 m pc ls (.ref (Z 200) :: rest)) :=
  rcall_i (n := 0) (f9 := 400 + 12) (l9 := 60 * 400 + 500) X hS ((okE_ l D kA V Z N 400).2.2.1 u H.size _ _ h) (gw_V gw_2472 gw_2474 gs_10_1 gw_16 gw_2475) (by decide +kernel) hF hL rfl hl hc rfl hdg kk
def G_signed (N : Nat) (l1 : Int32) (u : RSt) : Option (Int32 × RSt) := FE_ N 400 3 l1 0 u
theorem kg_signed {r : Int32} {cc : ByteArray} {pc nL : Nat} {c0 : Cond} {rest : List Value} {l1 : Int32} {u : RSt} (X : RC p s m args c cc nL c0 D kA V A) (hS : RS D kA Z A s u H locs) (h : G_signed N l1 u = some (r, w)) (hF : 412 + 1 ≤ R.frames) (hL : 8 + (6 + 11) + 24500 ≤ R.locals) (hl : ls.size = nL) (hc : (rest.map fun v => v.category).sum ≤ 8) (hdg : decode cc pc = .ok (.invokevirtual 460, 3)) (kk : ∀ H locs, RS D kA Z A s w H locs → W p l e R s m args below meth c H locs 0 0 Q (F0 m (pc + 3) ls (.int r :: rest))) : W p l e R s m args below meth c H locs 0 0 Q (F0 m pc ls (.int l1 :: .ref (Z 200) :: rest)) :=
  rcall_i (n := 1) (f9 := 400 + 12) (l9 := 60 * 400 + 500) X hS ((okE_ l D kA V Z N 400).2.2.2.1 l1 u H.size _ _ h) (gw_V gw_2476 gw_2478 gs_10_2 gw_16 gw_2479) (by decide +kernel) hF hL rfl hl hc rfl hdg kk
def G_cast (N : Nat) (u : RSt) : Option (Int32 × RSt) := FE_ N 400 4 0 0 u
theorem kg_cast {r : Int32} {cc : ByteArray} {pc nL : Nat} {c0 : Cond} {rest : List Value} {u : RSt} (X : RC p s m args c cc nL c0 D kA V A) (hS : RS D kA Z A s u H locs) (h : G_cast N u = some (r, w)) (hF : 412 + 1 ≤ R.frames) (hL : 8 + (3 + 11) + 24500 ≤ R.locals) (hl : ls.size = nL) (hc : (rest.map fun v => v.category).sum ≤ 8) (hdg : decode cc pc = .ok (.invokevirtual 466, 3)) (kk : ∀ H locs, RS D kA Z A s w H locs → W p l e R s m args below meth c H locs 0 0 Q (F0 m (pc + 3) ls (.int r :: rest))) : W p l e R s m args below meth c H locs 0 0 Q (F0 m pc ls (.ref (Z 200) :: rest)) :=
  rcall_i (n := 0) (f9 := 400 + 12) (l9 := 60 * 400 + 500) X hS ((okE_ l D kA V Z N 400).2.2.2.2.1 u H.size _ _ h) (gw_V gw_2484 gw_2486 gs_10_4 gw_16 gw_2487) (by decide +kernel) hF hL rfl hl hc rfl hdg kk
def G_call (N : Nat) (u : RSt) : Option (Int32 × RSt) := FE_ N 400 5 0 0 u
theorem kg_call {r : Int32} {cc : ByteArray} {pc nL : Nat} {c0 : Cond} {rest : List Value} {u : RSt} (X : RC p s m args c cc nL c0 D kA V A) (hS : RS D kA Z A s u H locs) (h : G_call N u = some (r, w)) (hF : 412 + 1 ≤ R.frames) (hL : 8 + (11 + 11) + 24500 ≤ R.locals) (hl : ls.size = nL) (hc : (rest.map fun v => v.category).sum ≤ 8) (hdg : decode cc pc = .ok (.invokevirtual 472, 3)) (kk : ∀ H locs, RS D kA Z A s w H locs → W p l e R s m args below meth c H locs 0 0 Q (F0 m (pc + 3) ls (.int r :: rest))) : W p l e R s m args below meth c H locs 0 0 Q (F0 m pc ls (.ref (Z 200) :: rest)) :=
  rcall_i (n := 0) (f9 := 400 + 12) (l9 := 60 * 400 + 500) X hS ((okE_ l D kA V Z N 400).2.2.2.2.2.1 u H.size _ _ h) (gw_V gw_2492 gw_2494 gs_10_6 gw_16 gw_2495) (by decide +kernel) hF hL rfl hl hc rfl hdg kk
def G_inner (N : Nat) (u : RSt) : Option (Int32 × RSt) := FE_ N 400 6 0 0 u
theorem kg_inner {r : Int32} {cc : ByteArray} {pc nL : Nat} {c0 : Cond} {rest : List Value} {u : RSt} (X : RC p s m args c cc nL c0 D kA V A) (hS : RS D kA Z A s u H locs) (h : G_inner N u = some (r, w)) (hF : 412 + 1 ≤ R.frames) (hL : 8 + (8 + 11) + 24500 ≤ R.locals) (hl : ls.size = nL) (hc : (rest.map fun v => v.category).sum ≤ 8) (hdg : decode cc pc = .ok (.invokevirtual 475, 3)) (kk : ∀ H locs, RS D kA Z A s w H locs → W p l e R s m args below meth c H locs 0 0 Q (F0 m (pc + 3) ls (.int r :: rest))) : W p l e R s m args below meth c H locs 0 0 Q (F0 m pc ls (.ref (Z 200) :: rest)) :=
  rcall_i (n := 0) (f9 := 400 + 12) (l9 := 60 * 400 + 500) X hS ((okE_ l D kA V Z N 400).2.2.2.2.2.2.1 u H.size _ _ h) (gw_V gw_2500 gw_2502 gs_10_8 gw_16 gw_2503) (by decide +kernel) hF hL rfl hl hc rfl hdg kk
def G_index (N : Nat) (l1 : Int32) (l2 : Int32) (u : RSt) : Option (Int32 × RSt) := FE_ N 400 7 l1 l2 u
theorem kg_index {r : Int32} {cc : ByteArray} {pc nL : Nat} {c0 : Cond} {rest : List Value} {l1 : Int32} {l2 : Int32} {u : RSt} (X : RC p s m args c cc nL c0 D kA V A) (hS : RS D kA Z A s u H locs) (h : G_index N l1 l2 u = some (r, w)) (hF : 412 + 1 ≤ R.frames) (hL : 8 + (6 + 11) + 24500 ≤ R.locals) (hl : ls.size = nL) (hc : (rest.map fun v => v.category).sum ≤ 8) (hdg : decode cc pc = .ok (.invokevirtual 491, 3)) (kk : ∀ H locs, RS D kA Z A s w H locs → W p l e R s m args below meth c H locs 0 0 Q (F0 m (pc + 3) ls (rest))) : W p l e R s m args below meth c H locs 0 0 Q (F0 m pc ls (.int l2 :: .int l1 :: .ref (Z 200) :: rest)) :=
  rcall_v (n := 2) (f9 := 400 + 12) (l9 := 60 * 400 + 500) X hS ((okE_ l D kA V Z N 400).2.2.2.2.2.2.2.1 l1 l2 u H.size _ _ h) (gw_V gw_2504 gw_2506 gs_10_9 gw_16 gw_2507) (by decide +kernel) hF hL rfl hl hc rfl hdg kk
def G_spot (N : Nat) (l1 : Int32) (u : RSt) : Option (Int32 × RSt) := FE_ N 400 8 l1 0 u
theorem kg_spot {r : Int32} {cc : ByteArray} {pc nL : Nat} {c0 : Cond} {rest : List Value} {l1 : Int32} {u : RSt} (X : RC p s m args c cc nL c0 D kA V A) (hS : RS D kA Z A s u H locs) (h : G_spot N l1 u = some (r, w)) (hF : 412 + 1 ≤ R.frames) (hL : 8 + (12 + 11) + 24500 ≤ R.locals) (hl : ls.size = nL) (hc : (rest.map fun v => v.category).sum ≤ 8) (hdg : decode cc pc = .ok (.invokevirtual 478, 3)) (kk : ∀ H locs, RS D kA Z A s w H locs → W p l e R s m args below meth c H locs 0 0 Q (F0 m (pc + 3) ls (rest))) : W p l e R s m args below meth c H locs 0 0 Q (F0 m pc ls (.int l1 :: .ref (Z 200) :: rest)) :=
  rcall_v (n := 1) (f9 := 400 + 12) (l9 := 60 * 400 + 500) X hS ((okE_ l D kA V Z N 400).2.2.2.2.2.2.2.2 l1 u H.size _ _ h) (gw_V gw_2508 gw_2510 gs_10_10 gw_16 gw_2511) (by decide +kernel) hF hL rfl hl hc rfl hdg kk
end ExprRows
