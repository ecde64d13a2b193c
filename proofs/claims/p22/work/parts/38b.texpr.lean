abbrev cX8_expression : ByteArray := prog_10_method_6_code
def yX8_expression : MethodName := ⟨RX8, "expression", "()I"⟩
def yX8_operators : MethodName := ⟨RX8, "operators", "()I"⟩
def yX8_arguments : MethodName := ⟨RX8, "arguments", "(LSoftController$Name;II)V"⟩
abbrev cX8_arguments : ByteArray := prog_10_method_20_code
def yX8_bracket : MethodName := ⟨RX8, "bracket", "(I)I"⟩
abbrev cX8_bracket : ByteArray := prog_10_method_14_code
def yX8_operand : MethodName := ⟨RX8, "operand", "()I"⟩
def yX8_builtIn : MethodName := ⟨RX8, "builtIn", "(LSoftController$Name;I)I"⟩
abbrev cX8_builtIn : ByteArray := prog_10_method_19_code
def yX8_called : MethodName := ⟨RX8, "called", "(I)I"⟩
abbrev cX8_called : ByteArray := prog_10_method_18_code
def yX8_index : MethodName := ⟨RX8, "index", "(LSoftController$Name;I)V"⟩
abbrev cX8_index : ByteArray := prog_10_method_21_code
def yX8_indexNumber : MethodName := ⟨RX8, "indexNumber", "()V"⟩
abbrev cX8_indexNumber : ByteArray := prog_10_method_22_code
def yX8_named : MethodName := ⟨RX8, "named", "(I)I"⟩
abbrev cX8_named : ByteArray := prog_10_method_15_code
def yX8_ofInstance : MethodName := ⟨RX8, "ofInstance", "(I)I"⟩
def yX8_ofPlace : MethodName := ⟨RX8, "ofPlace", "(I)I"⟩
abbrev cX8_ofInstance : ByteArray := prog_10_method_17_code
abbrev cX8_ofPlace : ByteArray := prog_10_method_16_code
abbrev cX8_operand : ByteArray := prog_10_method_11_code
def yX8_signed : MethodName := ⟨RX8, "signed", "(I)I"⟩
abbrev cX8_operators : ByteArray := prog_10_method_7_code
abbrev cX8_signed : ByteArray := prog_10_method_13_code
theorem dX8_expression_0 : decode cX8_expression 0 = .ok (.aload_n 0, 1) := by decide +kernel
theorem dX8_expression_1 : decode cX8_expression 1 = .ok (.invokevirtual 111, 3) := by decide +kernel
theorem dX8_expression_4 : decode cX8_expression 4 = .ok (.istore_n 1, 1) := by decide +kernel
theorem dX8_expression_5 : decode cX8_expression 5 = .ok (.aload_n 0, 1) := by decide +kernel
theorem dX8_expression_6 : decode cX8_expression 6 = .ok (.getfield 24, 3) := by decide +kernel
theorem dX8_expression_9 : decode cX8_expression 9 = .ok (.bipush 63, 2) := by decide +kernel
theorem dX8_expression_11 : decode cX8_expression 11 = .ok (.invokevirtual 114, 3) := by decide +kernel
theorem dX8_expression_14 : decode cX8_expression 14 = .ok (.ifCond .ne 5, 3) := by decide +kernel
theorem dX8_expression_17 : decode cX8_expression 17 = .ok (.iload_n 1, 1) := by decide +kernel
theorem dX8_expression_18 : decode cX8_expression 18 = .ok (.ireturn, 1) := by decide +kernel
theorem dX8_expression_19 : decode cX8_expression 19 = .ok (.aload_n 0, 1) := by decide +kernel
theorem dX8_expression_20 : decode cX8_expression 20 = .ok (.getfield 24, 3) := by decide +kernel
theorem dX8_expression_23 : decode cX8_expression 23 = .ok (.invokevirtual 76, 3) := by decide +kernel
theorem dX8_expression_26 : decode cX8_expression 26 = .ok (.istore_n 2, 1) := by decide +kernel
theorem dX8_expression_27 : decode cX8_expression 27 = .ok (.aload_n 0, 1) := by decide +kernel
theorem dX8_expression_28 : decode cX8_expression 28 = .ok (.getfield 28, 3) := by decide +kernel
theorem dX8_expression_31 : decode cX8_expression 31 = .ok (.bipush 95, 2) := by decide +kernel
theorem dX8_expression_33 : decode cX8_expression 33 = .ok (.iconst (-1), 1) := by decide +kernel
theorem dX8_expression_34 : decode cX8_expression 34 = .ok (.iconst 0, 1) := by decide +kernel
theorem dX8_expression_35 : decode cX8_expression 35 = .ok (.iload_n 2, 1) := by decide +kernel
theorem dX8_expression_36 : decode cX8_expression 36 = .ok (.invokevirtual 118, 3) := by decide +kernel
theorem dX8_expression_39 : decode cX8_expression 39 = .ok (.istore_n 3, 1) := by decide +kernel
theorem dX8_expression_40 : decode cX8_expression 40 = .ok (.aload_n 0, 1) := by decide +kernel
theorem dX8_expression_41 : decode cX8_expression 41 = .ok (.getfield 24, 3) := by decide +kernel
theorem dX8_expression_44 : decode cX8_expression 44 = .ok (.invokevirtual 122, 3) := by decide +kernel
theorem dX8_expression_47 : decode cX8_expression 47 = .ok (.aload_n 0, 1) := by decide +kernel
theorem dX8_expression_48 : decode cX8_expression 48 = .ok (.invokevirtual 125, 3) := by decide +kernel
theorem dX8_expression_51 : decode cX8_expression 51 = .ok (.istore 4, 2) := by decide +kernel
theorem dX8_expression_53 : decode cX8_expression 53 = .ok (.aload_n 0, 1) := by decide +kernel
theorem dX8_expression_54 : decode cX8_expression 54 = .ok (.getfield 28, 3) := by decide +kernel
theorem dX8_expression_57 : decode cX8_expression 57 = .ok (.bipush 30, 2) := by decide +kernel
theorem dX8_expression_59 : decode cX8_expression 59 = .ok (.iconst (-1), 1) := by decide +kernel
theorem dX8_expression_60 : decode cX8_expression 60 = .ok (.iconst 0, 1) := by decide +kernel
theorem dX8_expression_61 : decode cX8_expression 61 = .ok (.iload_n 2, 1) := by decide +kernel
theorem dX8_expression_62 : decode cX8_expression 62 = .ok (.invokevirtual 118, 3) := by decide +kernel
theorem dX8_expression_65 : decode cX8_expression 65 = .ok (.istore 5, 2) := by decide +kernel
theorem dX8_expression_67 : decode cX8_expression 67 = .ok (.aload_n 0, 1) := by decide +kernel
theorem dX8_expression_68 : decode cX8_expression 68 = .ok (.getfield 28, 3) := by decide +kernel
theorem dX8_expression_71 : decode cX8_expression 71 = .ok (.iload_n 3, 1) := by decide +kernel
theorem dX8_expression_72 : decode cX8_expression 72 = .ok (.invokevirtual 128, 3) := by decide +kernel
theorem dX8_expression_75 : decode cX8_expression 75 = .ok (.aload_n 0, 1) := by decide +kernel
theorem dX8_expression_76 : decode cX8_expression 76 = .ok (.getfield 24, 3) := by decide +kernel
theorem dX8_expression_79 : decode cX8_expression 79 = .ok (.invokevirtual 122, 3) := by decide +kernel
theorem dX8_expression_82 : decode cX8_expression 82 = .ok (.aload_n 0, 1) := by decide +kernel
theorem dX8_expression_83 : decode cX8_expression 83 = .ok (.invokevirtual 125, 3) := by decide +kernel
theorem dX8_expression_86 : decode cX8_expression 86 = .ok (.istore 6, 2) := by decide +kernel
theorem dX8_expression_88 : decode cX8_expression 88 = .ok (.aload_n 0, 1) := by decide +kernel
theorem dX8_expression_89 : decode cX8_expression 89 = .ok (.getfield 28, 3) := by decide +kernel
theorem dX8_expression_92 : decode cX8_expression 92 = .ok (.iload 5, 2) := by decide +kernel
theorem dX8_expression_94 : decode cX8_expression 94 = .ok (.invokevirtual 128, 3) := by decide +kernel
theorem dX8_expression_97 : decode cX8_expression 97 = .ok (.aload_n 0, 1) := by decide +kernel
theorem dX8_expression_98 : decode cX8_expression 98 = .ok (.iconst 0, 1) := by decide +kernel
theorem dX8_expression_99 : decode cX8_expression 99 = .ok (.putfield 100, 3) := by decide +kernel
theorem dX8_expression_102 : decode cX8_expression 102 = .ok (.iload 4, 2) := by decide +kernel
theorem dX8_expression_104 : decode cX8_expression 104 = .ok (.iload 6, 2) := by decide +kernel
theorem dX8_expression_106 : decode cX8_expression 106 = .ok (.invokestatic 132, 3) := by decide +kernel
theorem dX8_expression_109 : decode cX8_expression 109 = .ok (.ireturn, 1) := by decide +kernel
theorem dX8_operators_0 : decode cX8_operators 0 = .ok (.aload_n 0, 1) := by decide +kernel
theorem dX8_operators_1 : decode cX8_operators 1 = .ok (.getfield 32, 3) := by decide +kernel
theorem dX8_operators_4 : decode cX8_operators 4 = .ok (.istore_n 1, 1) := by decide +kernel
theorem dX8_operators_5 : decode cX8_operators 5 = .ok (.aload_n 0, 1) := by decide +kernel
theorem dX8_operators_6 : decode cX8_operators 6 = .ok (.invokevirtual 136, 3) := by decide +kernel
theorem dX8_operators_9 : decode cX8_operators 9 = .ok (.istore_n 2, 1) := by decide +kernel
theorem dX8_operators_10 : decode cX8_operators 10 = .ok (.aload_n 0, 1) := by decide +kernel
theorem dX8_operators_11 : decode cX8_operators 11 = .ok (.getfield 24, 3) := by decide +kernel
theorem dX8_operators_14 : decode cX8_operators 14 = .ok (.invokevirtual 139, 3) := by decide +kernel
theorem dX8_operators_17 : decode cX8_operators 17 = .ok (.invokestatic 142, 3) := by decide +kernel
theorem dX8_operators_20 : decode cX8_operators 20 = .ok (.istore_n 3, 1) := by decide +kernel
theorem dX8_operators_21 : decode cX8_operators 21 = .ok (.iconst 0, 1) := by decide +kernel
theorem dX8_operators_22 : decode cX8_operators 22 = .ok (.istore 4, 2) := by decide +kernel
theorem dX8_operators_24 : decode cX8_operators 24 = .ok (.iload 4, 2) := by decide +kernel
theorem dX8_operators_26 : decode cX8_operators 26 = .ok (.sipush 1500, 3) := by decide +kernel
theorem dX8_operators_29 : decode cX8_operators 29 = .ok (.if_icmp .ge 47, 3) := by decide +kernel
theorem dX8_operators_32 : decode cX8_operators 32 = .ok (.iload_n 3, 1) := by decide +kernel
theorem dX8_operators_33 : decode cX8_operators 33 = .ok (.ifCond .le 43, 3) := by decide +kernel
theorem dX8_operators_36 : decode cX8_operators 36 = .ok (.aload_n 0, 1) := by decide +kernel
theorem dX8_operators_37 : decode cX8_operators 37 = .ok (.iload_n 1, 1) := by decide +kernel
theorem dX8_operators_38 : decode cX8_operators 38 = .ok (.iload_n 3, 1) := by decide +kernel
theorem dX8_operators_39 : decode cX8_operators 39 = .ok (.iload_n 2, 1) := by decide +kernel
theorem dX8_operators_40 : decode cX8_operators 40 = .ok (.invokevirtual 145, 3) := by decide +kernel
theorem dX8_operators_43 : decode cX8_operators 43 = .ok (.istore_n 2, 1) := by decide +kernel
theorem dX8_operators_44 : decode cX8_operators 44 = .ok (.aload_n 0, 1) := by decide +kernel
theorem dX8_operators_45 : decode cX8_operators 45 = .ok (.iload_n 2, 1) := by decide +kernel
theorem dX8_operators_46 : decode cX8_operators 46 = .ok (.invokevirtual 149, 3) := by decide +kernel
theorem dX8_operators_49 : decode cX8_operators 49 = .ok (.aload_n 0, 1) := by decide +kernel
theorem dX8_operators_50 : decode cX8_operators 50 = .ok (.invokevirtual 136, 3) := by decide +kernel
theorem dX8_operators_53 : decode cX8_operators 53 = .ok (.istore_n 2, 1) := by decide +kernel
theorem dX8_operators_54 : decode cX8_operators 54 = .ok (.aload_n 0, 1) := by decide +kernel
theorem dX8_operators_55 : decode cX8_operators 55 = .ok (.iconst 0, 1) := by decide +kernel
theorem dX8_operators_56 : decode cX8_operators 56 = .ok (.putfield 100, 3) := by decide +kernel
theorem dX8_operators_59 : decode cX8_operators 59 = .ok (.aload_n 0, 1) := by decide +kernel
theorem dX8_operators_60 : decode cX8_operators 60 = .ok (.getfield 24, 3) := by decide +kernel
theorem dX8_operators_63 : decode cX8_operators 63 = .ok (.invokevirtual 139, 3) := by decide +kernel
theorem dX8_operators_66 : decode cX8_operators 66 = .ok (.invokestatic 142, 3) := by decide +kernel
theorem dX8_operators_69 : decode cX8_operators 69 = .ok (.istore_n 3, 1) := by decide +kernel
theorem dX8_operators_70 : decode cX8_operators 70 = .ok (.iinc 4 1, 3) := by decide +kernel
theorem dX8_operators_73 : decode cX8_operators 73 = .ok (.goto (-49), 3) := by decide +kernel
theorem dX8_operators_76 : decode cX8_operators 76 = .ok (.aload_n 0, 1) := by decide +kernel
theorem dX8_operators_77 : decode cX8_operators 77 = .ok (.iload_n 1, 1) := by decide +kernel
theorem dX8_operators_78 : decode cX8_operators 78 = .ok (.iconst 0, 1) := by decide +kernel
theorem dX8_operators_79 : decode cX8_operators 79 = .ok (.iload_n 2, 1) := by decide +kernel
theorem dX8_operators_80 : decode cX8_operators 80 = .ok (.invokevirtual 145, 3) := by decide +kernel
theorem dX8_operators_83 : decode cX8_operators 83 = .ok (.ireturn, 1) := by decide +kernel
theorem dX8_operand_0 : decode cX8_operand 0 = .ok (.aload_n 0, 1) := by decide +kernel
theorem dX8_operand_1 : decode cX8_operand 1 = .ok (.getfield 24, 3) := by decide +kernel
theorem dX8_operand_4 : decode cX8_operand 4 = .ok (.invokevirtual 76, 3) := by decide +kernel
theorem dX8_operand_7 : decode cX8_operand 7 = .ok (.istore_n 1, 1) := by decide +kernel
theorem dX8_operand_8 : decode cX8_operand 8 = .ok (.aload_n 0, 1) := by decide +kernel
theorem dX8_operand_9 : decode cX8_operand 9 = .ok (.getfield 24, 3) := by decide +kernel
theorem dX8_operand_12 : decode cX8_operand 12 = .ok (.invokevirtual 139, 3) := by decide +kernel
theorem dX8_operand_15 : decode cX8_operand 15 = .ok (.lookupswitch 110 #[(29, 83), (33, 65), (40, 71), (45, 65), (126, 65), (129, 77), (130, 77)], 65) := by decide +kernel
theorem dX8_operand_80 : decode cX8_operand 80 = .ok (.aload_n 0, 1) := by decide +kernel
theorem dX8_operand_81 : decode cX8_operand 81 = .ok (.iload_n 1, 1) := by decide +kernel
theorem dX8_operand_82 : decode cX8_operand 82 = .ok (.invokevirtual 165, 3) := by decide +kernel
theorem dX8_operand_85 : decode cX8_operand 85 = .ok (.ireturn, 1) := by decide +kernel
theorem dX8_operand_86 : decode cX8_operand 86 = .ok (.aload_n 0, 1) := by decide +kernel
theorem dX8_operand_87 : decode cX8_operand 87 = .ok (.iload_n 1, 1) := by decide +kernel
theorem dX8_operand_88 : decode cX8_operand 88 = .ok (.invokevirtual 168, 3) := by decide +kernel
theorem dX8_operand_91 : decode cX8_operand 91 = .ok (.ireturn, 1) := by decide +kernel
theorem dX8_operand_92 : decode cX8_operand 92 = .ok (.aload_n 0, 1) := by decide +kernel
theorem dX8_operand_93 : decode cX8_operand 93 = .ok (.iload_n 1, 1) := by decide +kernel
theorem dX8_operand_94 : decode cX8_operand 94 = .ok (.invokevirtual 171, 3) := by decide +kernel
theorem dX8_operand_97 : decode cX8_operand 97 = .ok (.ireturn, 1) := by decide +kernel
theorem dX8_operand_98 : decode cX8_operand 98 = .ok (.aload_n 0, 1) := by decide +kernel
theorem dX8_operand_99 : decode cX8_operand 99 = .ok (.getfield 28, 3) := by decide +kernel
theorem dX8_operand_102 : decode cX8_operand 102 = .ok (.bipush 66, 2) := by decide +kernel
theorem dX8_operand_104 : decode cX8_operand 104 = .ok (.iconst 0, 1) := by decide +kernel
theorem dX8_operand_105 : decode cX8_operand 105 = .ok (.iconst 0, 1) := by decide +kernel
theorem dX8_operand_106 : decode cX8_operand 106 = .ok (.iload_n 1, 1) := by decide +kernel
theorem dX8_operand_107 : decode cX8_operand 107 = .ok (.invokevirtual 118, 3) := by decide +kernel
theorem dX8_operand_110 : decode cX8_operand 110 = .ok (.pop, 1) := by decide +kernel
theorem dX8_operand_111 : decode cX8_operand 111 = .ok (.aload_n 0, 1) := by decide +kernel
theorem dX8_operand_112 : decode cX8_operand 112 = .ok (.getfield 24, 3) := by decide +kernel
theorem dX8_operand_115 : decode cX8_operand 115 = .ok (.invokevirtual 122, 3) := by decide +kernel
theorem dX8_operand_118 : decode cX8_operand 118 = .ok (.aload_n 0, 1) := by decide +kernel
theorem dX8_operand_119 : decode cX8_operand 119 = .ok (.iconst 0, 1) := by decide +kernel
theorem dX8_operand_120 : decode cX8_operand 120 = .ok (.putfield 100, 3) := by decide +kernel
theorem dX8_operand_123 : decode cX8_operand 123 = .ok (.iconst 3, 1) := by decide +kernel
theorem dX8_operand_124 : decode cX8_operand 124 = .ok (.ireturn, 1) := by decide +kernel
theorem dX8_operand_125 : decode cX8_operand 125 = .ok (.aload_n 0, 1) := by decide +kernel
theorem dX8_operand_126 : decode cX8_operand 126 = .ok (.iload_n 1, 1) := by decide +kernel
theorem dX8_operand_127 : decode cX8_operand 127 = .ok (.invokevirtual 174, 3) := by decide +kernel
theorem dX8_operand_130 : decode cX8_operand 130 = .ok (.ireturn, 1) := by decide +kernel
theorem dX8_signed_0 : decode cX8_signed 0 = .ok (.aload_n 0, 1) := by decide +kernel
theorem dX8_signed_1 : decode cX8_signed 1 = .ok (.getfield 24, 3) := by decide +kernel
theorem dX8_signed_4 : decode cX8_signed 4 = .ok (.invokevirtual 139, 3) := by decide +kernel
theorem dX8_signed_7 : decode cX8_signed 7 = .ok (.istore_n 2, 1) := by decide +kernel
theorem dX8_signed_8 : decode cX8_signed 8 = .ok (.aload_n 0, 1) := by decide +kernel
theorem dX8_signed_9 : decode cX8_signed 9 = .ok (.getfield 28, 3) := by decide +kernel
theorem dX8_signed_12 : decode cX8_signed 12 = .ok (.iload_n 1, 1) := by decide +kernel
theorem dX8_signed_13 : decode cX8_signed 13 = .ok (.invokevirtual 186, 3) := by decide +kernel
theorem dX8_signed_16 : decode cX8_signed 16 = .ok (.aload_n 0, 1) := by decide +kernel
theorem dX8_signed_17 : decode cX8_signed 17 = .ok (.getfield 24, 3) := by decide +kernel
theorem dX8_signed_20 : decode cX8_signed 20 = .ok (.invokevirtual 122, 3) := by decide +kernel
theorem dX8_signed_23 : decode cX8_signed 23 = .ok (.aload_n 0, 1) := by decide +kernel
theorem dX8_signed_24 : decode cX8_signed 24 = .ok (.getfield 24, 3) := by decide +kernel
theorem dX8_signed_27 : decode cX8_signed 27 = .ok (.sipush 129, 3) := by decide +kernel
theorem dX8_signed_30 : decode cX8_signed 30 = .ok (.invokevirtual 114, 3) := by decide +kernel
theorem dX8_signed_33 : decode cX8_signed 33 = .ok (.ifCond .ne 16, 3) := by decide +kernel
theorem dX8_signed_36 : decode cX8_signed 36 = .ok (.aload_n 0, 1) := by decide +kernel
theorem dX8_signed_37 : decode cX8_signed 37 = .ok (.getfield 24, 3) := by decide +kernel
theorem dX8_signed_40 : decode cX8_signed 40 = .ok (.sipush 130, 3) := by decide +kernel
theorem dX8_signed_43 : decode cX8_signed 43 = .ok (.invokevirtual 114, 3) := by decide +kernel
theorem dX8_signed_46 : decode cX8_signed 46 = .ok (.ifCond .eq 7, 3) := by decide +kernel
theorem dX8_signed_49 : decode cX8_signed 49 = .ok (.iconst 1, 1) := by decide +kernel
theorem dX8_signed_50 : decode cX8_signed 50 = .ok (.goto 4, 3) := by decide +kernel
theorem dX8_signed_53 : decode cX8_signed 53 = .ok (.iconst 0, 1) := by decide +kernel
theorem dX8_signed_54 : decode cX8_signed 54 = .ok (.istore_n 3, 1) := by decide +kernel
theorem dX8_signed_55 : decode cX8_signed 55 = .ok (.aload_n 0, 1) := by decide +kernel
theorem dX8_signed_56 : decode cX8_signed 56 = .ok (.invokevirtual 136, 3) := by decide +kernel
theorem dX8_signed_59 : decode cX8_signed 59 = .ok (.iconst 3, 1) := by decide +kernel
theorem dX8_signed_60 : decode cX8_signed 60 = .ok (.invokestatic 132, 3) := by decide +kernel
theorem dX8_signed_63 : decode cX8_signed 63 = .ok (.istore 4, 2) := by decide +kernel
theorem dX8_signed_65 : decode cX8_signed 65 = .ok (.iload_n 2, 1) := by decide +kernel
theorem dX8_signed_66 : decode cX8_signed 66 = .ok (.bipush 45, 2) := by decide +kernel
theorem dX8_signed_68 : decode cX8_signed 68 = .ok (.if_icmp .ne 8, 3) := by decide +kernel
theorem dX8_signed_71 : decode cX8_signed 71 = .ok (.bipush 14, 2) := by decide +kernel
theorem dX8_signed_73 : decode cX8_signed 73 = .ok (.goto 16, 3) := by decide +kernel
theorem dX8_signed_76 : decode cX8_signed 76 = .ok (.iload_n 2, 1) := by decide +kernel
theorem dX8_signed_77 : decode cX8_signed 77 = .ok (.bipush 126, 2) := by decide +kernel
theorem dX8_signed_79 : decode cX8_signed 79 = .ok (.if_icmp .ne 8, 3) := by decide +kernel
theorem dX8_signed_82 : decode cX8_signed 82 = .ok (.bipush 15, 2) := by decide +kernel
theorem dX8_signed_84 : decode cX8_signed 84 = .ok (.goto 5, 3) := by decide +kernel
theorem dX8_signed_87 : decode cX8_signed 87 = .ok (.bipush 16, 2) := by decide +kernel
theorem dX8_signed_89 : decode cX8_signed 89 = .ok (.istore 5, 2) := by decide +kernel
theorem dX8_signed_91 : decode cX8_signed 91 = .ok (.aload_n 0, 1) := by decide +kernel
theorem dX8_signed_92 : decode cX8_signed 92 = .ok (.getfield 28, 3) := by decide +kernel
theorem dX8_signed_95 : decode cX8_signed 95 = .ok (.bipush 24, 2) := by decide +kernel
theorem dX8_signed_97 : decode cX8_signed 97 = .ok (.iload 5, 2) := by decide +kernel
theorem dX8_signed_99 : decode cX8_signed 99 = .ok (.iload 4, 2) := by decide +kernel
theorem dX8_signed_101 : decode cX8_signed 101 = .ok (.iconst 4, 1) := by decide +kernel
theorem dX8_signed_102 : decode cX8_signed 102 = .ok (.if_icmp .ne 7, 3) := by decide +kernel
theorem dX8_signed_105 : decode cX8_signed 105 = .ok (.iconst 1, 1) := by decide +kernel
theorem dX8_signed_106 : decode cX8_signed 106 = .ok (.goto 4, 3) := by decide +kernel
theorem dX8_signed_109 : decode cX8_signed 109 = .ok (.iconst 0, 1) := by decide +kernel
theorem dX8_signed_110 : decode cX8_signed 110 = .ok (.iload_n 1, 1) := by decide +kernel
theorem dX8_signed_111 : decode cX8_signed 111 = .ok (.invokevirtual 118, 3) := by decide +kernel
theorem dX8_signed_114 : decode cX8_signed 114 = .ok (.pop, 1) := by decide +kernel
theorem dX8_signed_115 : decode cX8_signed 115 = .ok (.aload_n 0, 1) := by decide +kernel
theorem dX8_signed_116 : decode cX8_signed 116 = .ok (.iload_n 2, 1) := by decide +kernel
theorem dX8_signed_117 : decode cX8_signed 117 = .ok (.bipush 45, 2) := by decide +kernel
theorem dX8_signed_119 : decode cX8_signed 119 = .ok (.if_icmp .ne 11, 3) := by decide +kernel
theorem dX8_signed_122 : decode cX8_signed 122 = .ok (.iload_n 3, 1) := by decide +kernel
theorem dX8_signed_123 : decode cX8_signed 123 = .ok (.ifCond .eq 7, 3) := by decide +kernel
theorem dX8_signed_126 : decode cX8_signed 126 = .ok (.iconst 1, 1) := by decide +kernel
theorem dX8_signed_127 : decode cX8_signed 127 = .ok (.goto 4, 3) := by decide +kernel
theorem dX8_signed_130 : decode cX8_signed 130 = .ok (.iconst 0, 1) := by decide +kernel
theorem dX8_signed_131 : decode cX8_signed 131 = .ok (.putfield 100, 3) := by decide +kernel
theorem dX8_signed_134 : decode cX8_signed 134 = .ok (.aload_n 0, 1) := by decide +kernel
theorem dX8_signed_135 : decode cX8_signed 135 = .ok (.iload 4, 2) := by decide +kernel
theorem dX8_signed_137 : decode cX8_signed 137 = .ok (.iconst 4, 1) := by decide +kernel
theorem dX8_signed_138 : decode cX8_signed 138 = .ok (.if_icmp .ne 7, 3) := by decide +kernel
theorem dX8_signed_141 : decode cX8_signed 141 = .ok (.iconst 1, 1) := by decide +kernel
theorem dX8_signed_142 : decode cX8_signed 142 = .ok (.goto 4, 3) := by decide +kernel
theorem dX8_signed_145 : decode cX8_signed 145 = .ok (.iconst 0, 1) := by decide +kernel
theorem dX8_signed_146 : decode cX8_signed 146 = .ok (.aload_n 0, 1) := by decide +kernel
theorem dX8_signed_147 : decode cX8_signed 147 = .ok (.getfield 103, 3) := by decide +kernel
theorem dX8_signed_150 : decode cX8_signed 150 = .ok (.invokestatic 189, 3) := by decide +kernel
theorem dX8_signed_153 : decode cX8_signed 153 = .ok (.putfield 103, 3) := by decide +kernel
theorem dX8_signed_156 : decode cX8_signed 156 = .ok (.iload_n 2, 1) := by decide +kernel
theorem dX8_signed_157 : decode cX8_signed 157 = .ok (.bipush 33, 2) := by decide +kernel
theorem dX8_signed_159 : decode cX8_signed 159 = .ok (.if_icmp .ne 7, 3) := by decide +kernel
theorem dX8_signed_162 : decode cX8_signed 162 = .ok (.iconst 3, 1) := by decide +kernel
theorem dX8_signed_163 : decode cX8_signed 163 = .ok (.goto 5, 3) := by decide +kernel
theorem dX8_signed_166 : decode cX8_signed 166 = .ok (.iload 4, 2) := by decide +kernel
theorem dX8_signed_168 : decode cX8_signed 168 = .ok (.ireturn, 1) := by decide +kernel
theorem dX8_bracket_0 : decode cX8_bracket 0 = .ok (.aload_n 0, 1) := by decide +kernel
theorem dX8_bracket_1 : decode cX8_bracket 1 = .ok (.getfield 24, 3) := by decide +kernel
theorem dX8_bracket_4 : decode cX8_bracket 4 = .ok (.invokevirtual 122, 3) := by decide +kernel
theorem dX8_bracket_7 : decode cX8_bracket 7 = .ok (.aload_n 0, 1) := by decide +kernel
theorem dX8_bracket_8 : decode cX8_bracket 8 = .ok (.getfield 24, 3) := by decide +kernel
theorem dX8_bracket_11 : decode cX8_bracket 11 = .ok (.invokevirtual 193, 3) := by decide +kernel
theorem dX8_bracket_14 : decode cX8_bracket 14 = .ok (.ifCond .ne 17, 3) := by decide +kernel
theorem dX8_bracket_17 : decode cX8_bracket 17 = .ok (.aload_n 0, 1) := by decide +kernel
theorem dX8_bracket_18 : decode cX8_bracket 18 = .ok (.invokevirtual 125, 3) := by decide +kernel
theorem dX8_bracket_21 : decode cX8_bracket 21 = .ok (.istore_n 2, 1) := by decide +kernel
theorem dX8_bracket_22 : decode cX8_bracket 22 = .ok (.aload_n 0, 1) := by decide +kernel
theorem dX8_bracket_23 : decode cX8_bracket 23 = .ok (.getfield 24, 3) := by decide +kernel
theorem dX8_bracket_26 : decode cX8_bracket 26 = .ok (.invokevirtual 122, 3) := by decide +kernel
theorem dX8_bracket_29 : decode cX8_bracket 29 = .ok (.iload_n 2, 1) := by decide +kernel
theorem dX8_bracket_30 : decode cX8_bracket 30 = .ok (.ireturn, 1) := by decide +kernel
theorem dX8_bracket_31 : decode cX8_bracket 31 = .ok (.aload_n 0, 1) := by decide +kernel
theorem dX8_bracket_32 : decode cX8_bracket 32 = .ok (.getfield 24, 3) := by decide +kernel
theorem dX8_bracket_35 : decode cX8_bracket 35 = .ok (.invokevirtual 196, 3) := by decide +kernel
theorem dX8_bracket_38 : decode cX8_bracket 38 = .ok (.istore_n 2, 1) := by decide +kernel
theorem dX8_bracket_39 : decode cX8_bracket 39 = .ok (.aload_n 0, 1) := by decide +kernel
theorem dX8_bracket_40 : decode cX8_bracket 40 = .ok (.getfield 24, 3) := by decide +kernel
theorem dX8_bracket_43 : decode cX8_bracket 43 = .ok (.invokevirtual 122, 3) := by decide +kernel
theorem dX8_bracket_46 : decode cX8_bracket 46 = .ok (.aload_n 0, 1) := by decide +kernel
theorem dX8_bracket_47 : decode cX8_bracket 47 = .ok (.getfield 28, 3) := by decide +kernel
theorem dX8_bracket_50 : decode cX8_bracket 50 = .ok (.iload_n 1, 1) := by decide +kernel
theorem dX8_bracket_51 : decode cX8_bracket 51 = .ok (.invokevirtual 186, 3) := by decide +kernel
theorem dX8_bracket_54 : decode cX8_bracket 54 = .ok (.aload_n 0, 1) := by decide +kernel
theorem dX8_bracket_55 : decode cX8_bracket 55 = .ok (.invokevirtual 136, 3) := by decide +kernel
theorem dX8_bracket_58 : decode cX8_bracket 58 = .ok (.pop, 1) := by decide +kernel
theorem dX8_bracket_59 : decode cX8_bracket 59 = .ok (.aload_n 0, 1) := by decide +kernel
theorem dX8_bracket_60 : decode cX8_bracket 60 = .ok (.getfield 28, 3) := by decide +kernel
theorem dX8_bracket_63 : decode cX8_bracket 63 = .ok (.bipush 25, 2) := by decide +kernel
theorem dX8_bracket_65 : decode cX8_bracket 65 = .ok (.iload_n 2, 1) := by decide +kernel
theorem dX8_bracket_66 : decode cX8_bracket 66 = .ok (.iconst 0, 1) := by decide +kernel
theorem dX8_bracket_67 : decode cX8_bracket 67 = .ok (.iload_n 1, 1) := by decide +kernel
theorem dX8_bracket_68 : decode cX8_bracket 68 = .ok (.invokevirtual 118, 3) := by decide +kernel
theorem dX8_bracket_71 : decode cX8_bracket 71 = .ok (.pop, 1) := by decide +kernel
theorem dX8_bracket_72 : decode cX8_bracket 72 = .ok (.aload_n 0, 1) := by decide +kernel
theorem dX8_bracket_73 : decode cX8_bracket 73 = .ok (.iconst 0, 1) := by decide +kernel
theorem dX8_bracket_74 : decode cX8_bracket 74 = .ok (.putfield 100, 3) := by decide +kernel
theorem dX8_bracket_77 : decode cX8_bracket 77 = .ok (.iload_n 2, 1) := by decide +kernel
theorem dX8_bracket_78 : decode cX8_bracket 78 = .ok (.ireturn, 1) := by decide +kernel
theorem dX8_named_0 : decode cX8_named 0 = .ok (.aload_n 0, 1) := by decide +kernel
theorem dX8_named_1 : decode cX8_named 1 = .ok (.getfield 24, 3) := by decide +kernel
theorem dX8_named_4 : decode cX8_named 4 = .ok (.iconst 1, 1) := by decide +kernel
theorem dX8_named_5 : decode cX8_named 5 = .ok (.invokevirtual 87, 3) := by decide +kernel
theorem dX8_named_8 : decode cX8_named 8 = .ok (.bipush 40, 2) := by decide +kernel
theorem dX8_named_10 : decode cX8_named 10 = .ok (.if_icmp .ne 12, 3) := by decide +kernel
theorem dX8_named_13 : decode cX8_named 13 = .ok (.aload_n 0, 1) := by decide +kernel
theorem dX8_named_14 : decode cX8_named 14 = .ok (.iload_n 1, 1) := by decide +kernel
theorem dX8_named_15 : decode cX8_named 15 = .ok (.invokevirtual 199, 3) := by decide +kernel
theorem dX8_named_18 : decode cX8_named 18 = .ok (.istore_n 2, 1) := by decide +kernel
theorem dX8_named_19 : decode cX8_named 19 = .ok (.goto 45, 3) := by decide +kernel
theorem dX8_named_22 : decode cX8_named 22 = .ok (.aload_n 0, 1) := by decide +kernel
theorem dX8_named_23 : decode cX8_named 23 = .ok (.getfield 24, 3) := by decide +kernel
theorem dX8_named_26 : decode cX8_named 26 = .ok (.iconst 1, 1) := by decide +kernel
theorem dX8_named_27 : decode cX8_named 27 = .ok (.invokevirtual 87, 3) := by decide +kernel
theorem dX8_named_30 : decode cX8_named 30 = .ok (.bipush 46, 2) := by decide +kernel
theorem dX8_named_32 : decode cX8_named 32 = .ok (.if_icmp .ne 26, 3) := by decide +kernel
theorem dX8_named_35 : decode cX8_named 35 = .ok (.aload_n 0, 1) := by decide +kernel
theorem dX8_named_36 : decode cX8_named 36 = .ok (.getfield 24, 3) := by decide +kernel
theorem dX8_named_39 : decode cX8_named 39 = .ok (.iconst 2, 1) := by decide +kernel
theorem dX8_named_40 : decode cX8_named 40 = .ok (.invokevirtual 87, 3) := by decide +kernel
theorem dX8_named_43 : decode cX8_named 43 = .ok (.sipush 128, 3) := by decide +kernel
theorem dX8_named_46 : decode cX8_named 46 = .ok (.if_icmp .ne 12, 3) := by decide +kernel
theorem dX8_named_49 : decode cX8_named 49 = .ok (.aload_n 0, 1) := by decide +kernel
theorem dX8_named_50 : decode cX8_named 50 = .ok (.iload_n 1, 1) := by decide +kernel
theorem dX8_named_51 : decode cX8_named 51 = .ok (.invokevirtual 202, 3) := by decide +kernel
theorem dX8_named_54 : decode cX8_named 54 = .ok (.istore_n 2, 1) := by decide +kernel
theorem dX8_named_55 : decode cX8_named 55 = .ok (.goto 9, 3) := by decide +kernel
theorem dX8_named_58 : decode cX8_named 58 = .ok (.aload_n 0, 1) := by decide +kernel
theorem dX8_named_59 : decode cX8_named 59 = .ok (.iload_n 1, 1) := by decide +kernel
theorem dX8_named_60 : decode cX8_named 60 = .ok (.invokevirtual 205, 3) := by decide +kernel
theorem dX8_named_63 : decode cX8_named 63 = .ok (.istore_n 2, 1) := by decide +kernel
theorem dX8_named_64 : decode cX8_named 64 = .ok (.aload_n 0, 1) := by decide +kernel
theorem dX8_named_65 : decode cX8_named 65 = .ok (.iconst 0, 1) := by decide +kernel
theorem dX8_named_66 : decode cX8_named 66 = .ok (.putfield 100, 3) := by decide +kernel
theorem dX8_named_69 : decode cX8_named 69 = .ok (.iload_n 2, 1) := by decide +kernel
theorem dX8_named_70 : decode cX8_named 70 = .ok (.ireturn, 1) := by decide +kernel
theorem dX8_ofPlace_0 : decode cX8_ofPlace 0 = .ok (.aload_n 0, 1) := by decide +kernel
theorem dX8_ofPlace_1 : decode cX8_ofPlace 1 = .ok (.iconst 0, 1) := by decide +kernel
theorem dX8_ofPlace_2 : decode cX8_ofPlace 2 = .ok (.invokevirtual 208, 3) := by decide +kernel
theorem dX8_ofPlace_5 : decode cX8_ofPlace 5 = .ok (.astore_n 2, 1) := by decide +kernel
theorem dX8_ofPlace_6 : decode cX8_ofPlace 6 = .ok (.aload_n 0, 1) := by decide +kernel
theorem dX8_ofPlace_7 : decode cX8_ofPlace 7 = .ok (.getfield 24, 3) := by decide +kernel
theorem dX8_ofPlace_10 : decode cX8_ofPlace 10 = .ok (.invokevirtual 122, 3) := by decide +kernel
theorem dX8_ofPlace_13 : decode cX8_ofPlace 13 = .ok (.aload_n 2, 1) := by decide +kernel
theorem dX8_ofPlace_14 : decode cX8_ofPlace 14 = .ok (.getfield 83, 3) := by decide +kernel
theorem dX8_ofPlace_17 : decode cX8_ofPlace 17 = .ok (.ifCond .eq 33, 3) := by decide +kernel
theorem dX8_ofPlace_20 : decode cX8_ofPlace 20 = .ok (.aload_n 0, 1) := by decide +kernel
theorem dX8_ofPlace_21 : decode cX8_ofPlace 21 = .ok (.getfield 28, 3) := by decide +kernel
theorem dX8_ofPlace_24 : decode cX8_ofPlace 24 = .ok (.iload_n 1, 1) := by decide +kernel
theorem dX8_ofPlace_25 : decode cX8_ofPlace 25 = .ok (.invokevirtual 186, 3) := by decide +kernel
theorem dX8_ofPlace_28 : decode cX8_ofPlace 28 = .ok (.aload_n 0, 1) := by decide +kernel
theorem dX8_ofPlace_29 : decode cX8_ofPlace 29 = .ok (.aload_n 2, 1) := by decide +kernel
theorem dX8_ofPlace_30 : decode cX8_ofPlace 30 = .ok (.iload_n 1, 1) := by decide +kernel
theorem dX8_ofPlace_31 : decode cX8_ofPlace 31 = .ok (.invokevirtual 212, 3) := by decide +kernel
theorem dX8_ofPlace_34 : decode cX8_ofPlace 34 = .ok (.aload_n 0, 1) := by decide +kernel
theorem dX8_ofPlace_35 : decode cX8_ofPlace 35 = .ok (.getfield 28, 3) := by decide +kernel
theorem dX8_ofPlace_38 : decode cX8_ofPlace 38 = .ok (.bipush 12, 2) := by decide +kernel
theorem dX8_ofPlace_40 : decode cX8_ofPlace 40 = .ok (.iconst 0, 1) := by decide +kernel
theorem dX8_ofPlace_41 : decode cX8_ofPlace 41 = .ok (.iconst 0, 1) := by decide +kernel
theorem dX8_ofPlace_42 : decode cX8_ofPlace 42 = .ok (.iload_n 1, 1) := by decide +kernel
theorem dX8_ofPlace_43 : decode cX8_ofPlace 43 = .ok (.invokevirtual 118, 3) := by decide +kernel
theorem dX8_ofPlace_46 : decode cX8_ofPlace 46 = .ok (.pop, 1) := by decide +kernel
theorem dX8_ofPlace_47 : decode cX8_ofPlace 47 = .ok (.goto 11, 3) := by decide +kernel
theorem dX8_ofPlace_50 : decode cX8_ofPlace 50 = .ok (.aload_n 0, 1) := by decide +kernel
theorem dX8_ofPlace_51 : decode cX8_ofPlace 51 = .ok (.aload_n 2, 1) := by decide +kernel
theorem dX8_ofPlace_52 : decode cX8_ofPlace 52 = .ok (.bipush 64, 2) := by decide +kernel
theorem dX8_ofPlace_54 : decode cX8_ofPlace 54 = .ok (.iload_n 1, 1) := by decide +kernel
theorem dX8_ofPlace_55 : decode cX8_ofPlace 55 = .ok (.invokevirtual 216, 3) := by decide +kernel
theorem dX8_ofPlace_58 : decode cX8_ofPlace 58 = .ok (.aload_n 0, 1) := by decide +kernel
theorem dX8_ofPlace_59 : decode cX8_ofPlace 59 = .ok (.getfield 24, 3) := by decide +kernel
theorem dX8_ofPlace_62 : decode cX8_ofPlace 62 = .ok (.bipush 46, 2) := by decide +kernel
theorem dX8_ofPlace_64 : decode cX8_ofPlace 64 = .ok (.invokevirtual 114, 3) := by decide +kernel
theorem dX8_ofPlace_67 : decode cX8_ofPlace 67 = .ok (.ifCond .ne 8, 3) := by decide +kernel
theorem dX8_ofPlace_70 : decode cX8_ofPlace 70 = .ok (.aload_n 2, 1) := by decide +kernel
theorem dX8_ofPlace_71 : decode cX8_ofPlace 71 = .ok (.getfield 220, 3) := by decide +kernel
theorem dX8_ofPlace_74 : decode cX8_ofPlace 74 = .ok (.ireturn, 1) := by decide +kernel
theorem dX8_ofPlace_75 : decode cX8_ofPlace 75 = .ok (.aload_n 0, 1) := by decide +kernel
theorem dX8_ofPlace_76 : decode cX8_ofPlace 76 = .ok (.getfield 28, 3) := by decide +kernel
theorem dX8_ofPlace_79 : decode cX8_ofPlace 79 = .ok (.bipush 20, 2) := by decide +kernel
theorem dX8_ofPlace_81 : decode cX8_ofPlace 81 = .ok (.aload_n 0, 1) := by decide +kernel
theorem dX8_ofPlace_82 : decode cX8_ofPlace 82 = .ok (.aload_n 2, 1) := by decide +kernel
theorem dX8_ofPlace_83 : decode cX8_ofPlace 83 = .ok (.getfield 220, 3) := by decide +kernel
theorem dX8_ofPlace_86 : decode cX8_ofPlace 86 = .ok (.invokevirtual 223, 3) := by decide +kernel
theorem dX8_ofPlace_89 : decode cX8_ofPlace 89 = .ok (.iconst 0, 1) := by decide +kernel
theorem dX8_ofPlace_90 : decode cX8_ofPlace 90 = .ok (.iload_n 1, 1) := by decide +kernel
theorem dX8_ofPlace_91 : decode cX8_ofPlace 91 = .ok (.invokevirtual 118, 3) := by decide +kernel
theorem dX8_ofPlace_94 : decode cX8_ofPlace 94 = .ok (.pop, 1) := by decide +kernel
theorem dX8_ofPlace_95 : decode cX8_ofPlace 95 = .ok (.iconst 3, 1) := by decide +kernel
theorem dX8_ofPlace_96 : decode cX8_ofPlace 96 = .ok (.ireturn, 1) := by decide +kernel
theorem dX8_ofInstance_0 : decode cX8_ofInstance 0 = .ok (.aload_n 0, 1) := by decide +kernel
theorem dX8_ofInstance_1 : decode cX8_ofInstance 1 = .ok (.invokevirtual 68, 3) := by decide +kernel
theorem dX8_ofInstance_4 : decode cX8_ofInstance 4 = .ok (.astore_n 2, 1) := by decide +kernel
theorem dX8_ofInstance_5 : decode cX8_ofInstance 5 = .ok (.aload_n 2, 1) := by decide +kernel
theorem dX8_ofInstance_6 : decode cX8_ofInstance 6 = .ok (.getfield 59, 3) := by decide +kernel
theorem dX8_ofInstance_9 : decode cX8_ofInstance 9 = .ok (.iconst 1, 1) := by decide +kernel
theorem dX8_ofInstance_10 : decode cX8_ofInstance 10 = .ok (.if_icmp .eq 12, 3) := by decide +kernel
theorem dX8_ofInstance_13 : decode cX8_ofInstance 13 = .ok (.aload_n 0, 1) := by decide +kernel
theorem dX8_ofInstance_14 : decode cX8_ofInstance 14 = .ok (.getfield 24, 3) := by decide +kernel
theorem dX8_ofInstance_17 : decode cX8_ofInstance 17 = .ok (.iconst 3, 1) := by decide +kernel
theorem dX8_ofInstance_18 : decode cX8_ofInstance 18 = .ok (.iload_n 1, 1) := by decide +kernel
theorem dX8_ofInstance_19 : decode cX8_ofInstance 19 = .ok (.invokevirtual 79, 3) := by decide +kernel
theorem dX8_ofInstance_22 : decode cX8_ofInstance 22 = .ok (.aload_n 0, 1) := by decide +kernel
theorem dX8_ofInstance_23 : decode cX8_ofInstance 23 = .ok (.getfield 24, 3) := by decide +kernel
theorem dX8_ofInstance_26 : decode cX8_ofInstance 26 = .ok (.invokevirtual 122, 3) := by decide +kernel
theorem dX8_ofInstance_29 : decode cX8_ofInstance 29 = .ok (.aload_n 0, 1) := by decide +kernel
theorem dX8_ofInstance_30 : decode cX8_ofInstance 30 = .ok (.getfield 24, 3) := by decide +kernel
theorem dX8_ofInstance_33 : decode cX8_ofInstance 33 = .ok (.invokevirtual 122, 3) := by decide +kernel
theorem dX8_ofInstance_36 : decode cX8_ofInstance 36 = .ok (.aload_n 0, 1) := by decide +kernel
theorem dX8_ofInstance_37 : decode cX8_ofInstance 37 = .ok (.getfield 24, 3) := by decide +kernel
theorem dX8_ofInstance_40 : decode cX8_ofInstance 40 = .ok (.invokevirtual 76, 3) := by decide +kernel
theorem dX8_ofInstance_43 : decode cX8_ofInstance 43 = .ok (.istore_n 3, 1) := by decide +kernel
theorem dX8_ofInstance_44 : decode cX8_ofInstance 44 = .ok (.aload_n 0, 1) := by decide +kernel
theorem dX8_ofInstance_45 : decode cX8_ofInstance 45 = .ok (.getfield 28, 3) := by decide +kernel
theorem dX8_ofInstance_48 : decode cX8_ofInstance 48 = .ok (.aload_n 0, 1) := by decide +kernel
theorem dX8_ofInstance_49 : decode cX8_ofInstance 49 = .ok (.getfield 28, 3) := by decide +kernel
theorem dX8_ofInstance_52 : decode cX8_ofInstance 52 = .ok (.aload_n 2, 1) := by decide +kernel
theorem dX8_ofInstance_53 : decode cX8_ofInstance 53 = .ok (.getfield 226, 3) := by decide +kernel
theorem dX8_ofInstance_56 : decode cX8_ofInstance 56 = .ok (.invokevirtual 51, 3) := by decide +kernel
theorem dX8_ofInstance_59 : decode cX8_ofInstance 59 = .ok (.aload_n 0, 1) := by decide +kernel
theorem dX8_ofInstance_60 : decode cX8_ofInstance 60 = .ok (.getfield 24, 3) := by decide +kernel
theorem dX8_ofInstance_63 : decode cX8_ofInstance 63 = .ok (.invokevirtual 36, 3) := by decide +kernel
theorem dX8_ofInstance_66 : decode cX8_ofInstance 66 = .ok (.aload_n 0, 1) := by decide +kernel
theorem dX8_ofInstance_67 : decode cX8_ofInstance 67 = .ok (.getfield 24, 3) := by decide +kernel
theorem dX8_ofInstance_70 : decode cX8_ofInstance 70 = .ok (.invokevirtual 42, 3) := by decide +kernel
theorem dX8_ofInstance_73 : decode cX8_ofInstance 73 = .ok (.invokevirtual 55, 3) := by decide +kernel
theorem dX8_ofInstance_76 : decode cX8_ofInstance 76 = .ok (.astore 4, 2) := by decide +kernel
theorem dX8_ofInstance_78 : decode cX8_ofInstance 78 = .ok (.aload 4, 2) := by decide +kernel
theorem dX8_ofInstance_80 : decode cX8_ofInstance 80 = .ok (.getfield 59, 3) := by decide +kernel
theorem dX8_ofInstance_83 : decode cX8_ofInstance 83 = .ok (.bipush 8, 2) := by decide +kernel
theorem dX8_ofInstance_85 : decode cX8_ofInstance 85 = .ok (.if_icmp .ne 12, 3) := by decide +kernel
theorem dX8_ofInstance_88 : decode cX8_ofInstance 88 = .ok (.aload_n 0, 1) := by decide +kernel
theorem dX8_ofInstance_89 : decode cX8_ofInstance 89 = .ok (.getfield 24, 3) := by decide +kernel
theorem dX8_ofInstance_92 : decode cX8_ofInstance 92 = .ok (.iconst 3, 1) := by decide +kernel
theorem dX8_ofInstance_93 : decode cX8_ofInstance 93 = .ok (.iload_n 3, 1) := by decide +kernel
theorem dX8_ofInstance_94 : decode cX8_ofInstance 94 = .ok (.invokevirtual 79, 3) := by decide +kernel
theorem dX8_ofInstance_97 : decode cX8_ofInstance 97 = .ok (.aload 4, 2) := by decide +kernel
theorem dX8_ofInstance_99 : decode cX8_ofInstance 99 = .ok (.getfield 83, 3) := by decide +kernel
theorem dX8_ofInstance_102 : decode cX8_ofInstance 102 = .ok (.aload_n 0, 1) := by decide +kernel
theorem dX8_ofInstance_103 : decode cX8_ofInstance 103 = .ok (.getfield 24, 3) := by decide +kernel
theorem dX8_ofInstance_106 : decode cX8_ofInstance 106 = .ok (.iconst 1, 1) := by decide +kernel
theorem dX8_ofInstance_107 : decode cX8_ofInstance 107 = .ok (.invokevirtual 87, 3) := by decide +kernel
theorem dX8_ofInstance_110 : decode cX8_ofInstance 110 = .ok (.bipush 91, 2) := by decide +kernel
theorem dX8_ofInstance_112 : decode cX8_ofInstance 112 = .ok (.if_icmp .ne 7, 3) := by decide +kernel
theorem dX8_ofInstance_115 : decode cX8_ofInstance 115 = .ok (.iconst 1, 1) := by decide +kernel
theorem dX8_ofInstance_116 : decode cX8_ofInstance 116 = .ok (.goto 4, 3) := by decide +kernel
theorem dX8_ofInstance_119 : decode cX8_ofInstance 119 = .ok (.iconst 0, 1) := by decide +kernel
theorem dX8_ofInstance_120 : decode cX8_ofInstance 120 = .ok (.if_icmp .eq 12, 3) := by decide +kernel
theorem dX8_ofInstance_123 : decode cX8_ofInstance 123 = .ok (.aload_n 0, 1) := by decide +kernel
theorem dX8_ofInstance_124 : decode cX8_ofInstance 124 = .ok (.getfield 24, 3) := by decide +kernel
theorem dX8_ofInstance_127 : decode cX8_ofInstance 127 = .ok (.iconst 4, 1) := by decide +kernel
theorem dX8_ofInstance_128 : decode cX8_ofInstance 128 = .ok (.iload_n 3, 1) := by decide +kernel
theorem dX8_ofInstance_129 : decode cX8_ofInstance 129 = .ok (.invokevirtual 79, 3) := by decide +kernel
theorem dX8_ofInstance_132 : decode cX8_ofInstance 132 = .ok (.aload_n 0, 1) := by decide +kernel
theorem dX8_ofInstance_133 : decode cX8_ofInstance 133 = .ok (.getfield 24, 3) := by decide +kernel
theorem dX8_ofInstance_136 : decode cX8_ofInstance 136 = .ok (.invokevirtual 122, 3) := by decide +kernel
theorem dX8_ofInstance_139 : decode cX8_ofInstance 139 = .ok (.aload_n 2, 1) := by decide +kernel
theorem dX8_ofInstance_140 : decode cX8_ofInstance 140 = .ok (.getfield 229, 3) := by decide +kernel
theorem dX8_ofInstance_143 : decode cX8_ofInstance 143 = .ok (.aload 4, 2) := by decide +kernel
theorem dX8_ofInstance_145 : decode cX8_ofInstance 145 = .ok (.getfield 229, 3) := by decide +kernel
theorem dX8_ofInstance_148 : decode cX8_ofInstance 148 = .ok (.iadd, 1) := by decide +kernel
theorem dX8_ofInstance_149 : decode cX8_ofInstance 149 = .ok (.istore 5, 2) := by decide +kernel
theorem dX8_ofInstance_151 : decode cX8_ofInstance 151 = .ok (.aload 4, 2) := by decide +kernel
theorem dX8_ofInstance_153 : decode cX8_ofInstance 153 = .ok (.getfield 83, 3) := by decide +kernel
theorem dX8_ofInstance_156 : decode cX8_ofInstance 156 = .ok (.ifCond .eq 49, 3) := by decide +kernel
theorem dX8_ofInstance_159 : decode cX8_ofInstance 159 = .ok (.aload_n 0, 1) := by decide +kernel
theorem dX8_ofInstance_160 : decode cX8_ofInstance 160 = .ok (.getfield 28, 3) := by decide +kernel
theorem dX8_ofInstance_163 : decode cX8_ofInstance 163 = .ok (.iload_n 3, 1) := by decide +kernel
theorem dX8_ofInstance_164 : decode cX8_ofInstance 164 = .ok (.invokevirtual 186, 3) := by decide +kernel
theorem dX8_ofInstance_167 : decode cX8_ofInstance 167 = .ok (.aload_n 0, 1) := by decide +kernel
theorem dX8_ofInstance_168 : decode cX8_ofInstance 168 = .ok (.invokevirtual 232, 3) := by decide +kernel
theorem dX8_ofInstance_171 : decode cX8_ofInstance 171 = .ok (.aload_n 0, 1) := by decide +kernel
theorem dX8_ofInstance_172 : decode cX8_ofInstance 172 = .ok (.getfield 28, 3) := by decide +kernel
theorem dX8_ofInstance_175 : decode cX8_ofInstance 175 = .ok (.bipush 10, 2) := by decide +kernel
theorem dX8_ofInstance_177 : decode cX8_ofInstance 177 = .ok (.iload 5, 2) := by decide +kernel
theorem dX8_ofInstance_179 : decode cX8_ofInstance 179 = .ok (.aload 4, 2) := by decide +kernel
theorem dX8_ofInstance_181 : decode cX8_ofInstance 181 = .ok (.getfield 235, 3) := by decide +kernel
theorem dX8_ofInstance_184 : decode cX8_ofInstance 184 = .ok (.iload_n 3, 1) := by decide +kernel
theorem dX8_ofInstance_185 : decode cX8_ofInstance 185 = .ok (.invokevirtual 118, 3) := by decide +kernel
theorem dX8_ofInstance_188 : decode cX8_ofInstance 188 = .ok (.pop, 1) := by decide +kernel
theorem dX8_ofInstance_189 : decode cX8_ofInstance 189 = .ok (.aload_n 0, 1) := by decide +kernel
theorem dX8_ofInstance_190 : decode cX8_ofInstance 190 = .ok (.getfield 28, 3) := by decide +kernel
theorem dX8_ofInstance_193 : decode cX8_ofInstance 193 = .ok (.bipush 12, 2) := by decide +kernel
theorem dX8_ofInstance_195 : decode cX8_ofInstance 195 = .ok (.iconst 0, 1) := by decide +kernel
theorem dX8_ofInstance_196 : decode cX8_ofInstance 196 = .ok (.iconst 0, 1) := by decide +kernel
theorem dX8_ofInstance_197 : decode cX8_ofInstance 197 = .ok (.iload_n 3, 1) := by decide +kernel
theorem dX8_ofInstance_198 : decode cX8_ofInstance 198 = .ok (.invokevirtual 118, 3) := by decide +kernel
theorem dX8_ofInstance_201 : decode cX8_ofInstance 201 = .ok (.pop, 1) := by decide +kernel
theorem dX8_ofInstance_202 : decode cX8_ofInstance 202 = .ok (.goto 17, 3) := by decide +kernel
theorem dX8_ofInstance_205 : decode cX8_ofInstance 205 = .ok (.aload_n 0, 1) := by decide +kernel
theorem dX8_ofInstance_206 : decode cX8_ofInstance 206 = .ok (.getfield 28, 3) := by decide +kernel
theorem dX8_ofInstance_209 : decode cX8_ofInstance 209 = .ok (.bipush 67, 2) := by decide +kernel
theorem dX8_ofInstance_211 : decode cX8_ofInstance 211 = .ok (.iload 5, 2) := by decide +kernel
theorem dX8_ofInstance_213 : decode cX8_ofInstance 213 = .ok (.iconst 0, 1) := by decide +kernel
theorem dX8_ofInstance_214 : decode cX8_ofInstance 214 = .ok (.iload_n 3, 1) := by decide +kernel
theorem dX8_ofInstance_215 : decode cX8_ofInstance 215 = .ok (.invokevirtual 118, 3) := by decide +kernel
theorem dX8_ofInstance_218 : decode cX8_ofInstance 218 = .ok (.pop, 1) := by decide +kernel
theorem dX8_ofInstance_219 : decode cX8_ofInstance 219 = .ok (.aload 4, 2) := by decide +kernel
theorem dX8_ofInstance_221 : decode cX8_ofInstance 221 = .ok (.getfield 220, 3) := by decide +kernel
theorem dX8_ofInstance_224 : decode cX8_ofInstance 224 = .ok (.ireturn, 1) := by decide +kernel
theorem dX8_called_0 : decode cX8_called 0 = .ok (.aload_n 0, 1) := by decide +kernel
theorem dX8_called_1 : decode cX8_called 1 = .ok (.invokevirtual 68, 3) := by decide +kernel
theorem dX8_called_4 : decode cX8_called 4 = .ok (.astore_n 2, 1) := by decide +kernel
theorem dX8_called_5 : decode cX8_called 5 = .ok (.aload_n 2, 1) := by decide +kernel
theorem dX8_called_6 : decode cX8_called 6 = .ok (.getfield 59, 3) := by decide +kernel
theorem dX8_called_9 : decode cX8_called 9 = .ok (.iconst 4, 1) := by decide +kernel
theorem dX8_called_10 : decode cX8_called 10 = .ok (.if_icmp .eq 21, 3) := by decide +kernel
theorem dX8_called_13 : decode cX8_called 13 = .ok (.aload_n 2, 1) := by decide +kernel
theorem dX8_called_14 : decode cX8_called 14 = .ok (.getfield 59, 3) := by decide +kernel
theorem dX8_called_17 : decode cX8_called 17 = .ok (.bipush 7, 2) := by decide +kernel
theorem dX8_called_19 : decode cX8_called 19 = .ok (.if_icmp .eq 12, 3) := by decide +kernel
theorem dX8_called_22 : decode cX8_called 22 = .ok (.aload_n 0, 1) := by decide +kernel
theorem dX8_called_23 : decode cX8_called 23 = .ok (.getfield 24, 3) := by decide +kernel
theorem dX8_called_26 : decode cX8_called 26 = .ok (.iconst 3, 1) := by decide +kernel
theorem dX8_called_27 : decode cX8_called 27 = .ok (.iload_n 1, 1) := by decide +kernel
theorem dX8_called_28 : decode cX8_called 28 = .ok (.invokevirtual 79, 3) := by decide +kernel
theorem dX8_called_31 : decode cX8_called 31 = .ok (.aload_n 0, 1) := by decide +kernel
theorem dX8_called_32 : decode cX8_called 32 = .ok (.getfield 28, 3) := by decide +kernel
theorem dX8_called_35 : decode cX8_called 35 = .ok (.iload_n 1, 1) := by decide +kernel
theorem dX8_called_36 : decode cX8_called 36 = .ok (.invokevirtual 186, 3) := by decide +kernel
theorem dX8_called_39 : decode cX8_called 39 = .ok (.aload_n 2, 1) := by decide +kernel
theorem dX8_called_40 : decode cX8_called 40 = .ok (.getfield 59, 3) := by decide +kernel
theorem dX8_called_43 : decode cX8_called 43 = .ok (.bipush 7, 2) := by decide +kernel
theorem dX8_called_45 : decode cX8_called 45 = .ok (.if_icmp .ne 10, 3) := by decide +kernel
theorem dX8_called_48 : decode cX8_called 48 = .ok (.aload_n 0, 1) := by decide +kernel
theorem dX8_called_49 : decode cX8_called 49 = .ok (.aload_n 2, 1) := by decide +kernel
theorem dX8_called_50 : decode cX8_called 50 = .ok (.iload_n 1, 1) := by decide +kernel
theorem dX8_called_51 : decode cX8_called 51 = .ok (.invokevirtual 238, 3) := by decide +kernel
theorem dX8_called_54 : decode cX8_called 54 = .ok (.ireturn, 1) := by decide +kernel
theorem dX8_called_55 : decode cX8_called 55 = .ok (.aload_n 0, 1) := by decide +kernel
theorem dX8_called_56 : decode cX8_called 56 = .ok (.aload_n 2, 1) := by decide +kernel
theorem dX8_called_57 : decode cX8_called 57 = .ok (.iconst (-1), 1) := by decide +kernel
theorem dX8_called_58 : decode cX8_called 58 = .ok (.iload_n 1, 1) := by decide +kernel
theorem dX8_called_59 : decode cX8_called 59 = .ok (.invokevirtual 242, 3) := by decide +kernel
theorem dX8_called_62 : decode cX8_called 62 = .ok (.aload_n 0, 1) := by decide +kernel
theorem dX8_called_63 : decode cX8_called 63 = .ok (.getfield 28, 3) := by decide +kernel
theorem dX8_called_66 : decode cX8_called 66 = .ok (.bipush 37, 2) := by decide +kernel
theorem dX8_called_68 : decode cX8_called 68 = .ok (.aload_n 2, 1) := by decide +kernel
theorem dX8_called_69 : decode cX8_called 69 = .ok (.getfield 245, 3) := by decide +kernel
theorem dX8_called_72 : decode cX8_called 72 = .ok (.iconst 0, 1) := by decide +kernel
theorem dX8_called_73 : decode cX8_called 73 = .ok (.iload_n 1, 1) := by decide +kernel
theorem dX8_called_74 : decode cX8_called 74 = .ok (.invokevirtual 118, 3) := by decide +kernel
theorem dX8_called_77 : decode cX8_called 77 = .ok (.pop, 1) := by decide +kernel
theorem dX8_called_78 : decode cX8_called 78 = .ok (.aload_n 2, 1) := by decide +kernel
theorem dX8_called_79 : decode cX8_called 79 = .ok (.getfield 220, 3) := by decide +kernel
theorem dX8_called_82 : decode cX8_called 82 = .ok (.ireturn, 1) := by decide +kernel
theorem dX8_builtIn_0 : decode cX8_builtIn 0 = .ok (.aload_n 0, 1) := by decide +kernel
theorem dX8_builtIn_1 : decode cX8_builtIn 1 = .ok (.getfield 24, 3) := by decide +kernel
theorem dX8_builtIn_4 : decode cX8_builtIn 4 = .ok (.invokevirtual 122, 3) := by decide +kernel
theorem dX8_builtIn_7 : decode cX8_builtIn 7 = .ok (.aload_n 0, 1) := by decide +kernel
theorem dX8_builtIn_8 : decode cX8_builtIn 8 = .ok (.getfield 24, 3) := by decide +kernel
theorem dX8_builtIn_11 : decode cX8_builtIn 11 = .ok (.invokevirtual 122, 3) := by decide +kernel
theorem dX8_builtIn_14 : decode cX8_builtIn 14 = .ok (.iconst 3, 1) := by decide +kernel
theorem dX8_builtIn_15 : decode cX8_builtIn 15 = .ok (.istore_n 3, 1) := by decide +kernel
theorem dX8_builtIn_16 : decode cX8_builtIn 16 = .ok (.iconst 3, 1) := by decide +kernel
theorem dX8_builtIn_17 : decode cX8_builtIn 17 = .ok (.istore 4, 2) := by decide +kernel
theorem dX8_builtIn_19 : decode cX8_builtIn 19 = .ok (.iconst 0, 1) := by decide +kernel
theorem dX8_builtIn_20 : decode cX8_builtIn 20 = .ok (.istore 5, 2) := by decide +kernel
theorem dX8_builtIn_22 : decode cX8_builtIn 22 = .ok (.iload 5, 2) := by decide +kernel
theorem dX8_builtIn_24 : decode cX8_builtIn 24 = .ok (.sipush 1500, 3) := by decide +kernel
theorem dX8_builtIn_27 : decode cX8_builtIn 27 = .ok (.if_icmp .ge 60, 3) := by decide +kernel
theorem dX8_builtIn_30 : decode cX8_builtIn 30 = .ok (.aload_n 0, 1) := by decide +kernel
theorem dX8_builtIn_31 : decode cX8_builtIn 31 = .ok (.getfield 24, 3) := by decide +kernel
theorem dX8_builtIn_34 : decode cX8_builtIn 34 = .ok (.bipush 41, 2) := by decide +kernel
theorem dX8_builtIn_36 : decode cX8_builtIn 36 = .ok (.invokevirtual 114, 3) := by decide +kernel
theorem dX8_builtIn_39 : decode cX8_builtIn 39 = .ok (.ifCond .ne 48, 3) := by decide +kernel
theorem dX8_builtIn_42 : decode cX8_builtIn 42 = .ok (.iload 5, 2) := by decide +kernel
theorem dX8_builtIn_44 : decode cX8_builtIn 44 = .ok (.ifCond .le 10, 3) := by decide +kernel
theorem dX8_builtIn_47 : decode cX8_builtIn 47 = .ok (.aload_n 0, 1) := by decide +kernel
theorem dX8_builtIn_48 : decode cX8_builtIn 48 = .ok (.getfield 24, 3) := by decide +kernel
theorem dX8_builtIn_51 : decode cX8_builtIn 51 = .ok (.invokevirtual 122, 3) := by decide +kernel
theorem dX8_builtIn_54 : decode cX8_builtIn 54 = .ok (.aload_n 0, 1) := by decide +kernel
theorem dX8_builtIn_55 : decode cX8_builtIn 55 = .ok (.invokevirtual 125, 3) := by decide +kernel
theorem dX8_builtIn_58 : decode cX8_builtIn 58 = .ok (.istore 6, 2) := by decide +kernel
theorem dX8_builtIn_60 : decode cX8_builtIn 60 = .ok (.iload 5, 2) := by decide +kernel
theorem dX8_builtIn_62 : decode cX8_builtIn 62 = .ok (.ifCond .ne 8, 3) := by decide +kernel
theorem dX8_builtIn_65 : decode cX8_builtIn 65 = .ok (.iload 6, 2) := by decide +kernel
theorem dX8_builtIn_67 : decode cX8_builtIn 67 = .ok (.goto 4, 3) := by decide +kernel
theorem dX8_builtIn_70 : decode cX8_builtIn 70 = .ok (.iload_n 3, 1) := by decide +kernel
theorem dX8_builtIn_71 : decode cX8_builtIn 71 = .ok (.istore_n 3, 1) := by decide +kernel
theorem dX8_builtIn_72 : decode cX8_builtIn 72 = .ok (.iload 4, 2) := by decide +kernel
theorem dX8_builtIn_74 : decode cX8_builtIn 74 = .ok (.iload 6, 2) := by decide +kernel
theorem dX8_builtIn_76 : decode cX8_builtIn 76 = .ok (.invokestatic 132, 3) := by decide +kernel
theorem dX8_builtIn_79 : decode cX8_builtIn 79 = .ok (.istore 4, 2) := by decide +kernel
theorem dX8_builtIn_81 : decode cX8_builtIn 81 = .ok (.iinc 5 1, 3) := by decide +kernel
theorem dX8_builtIn_84 : decode cX8_builtIn 84 = .ok (.goto (-62), 3) := by decide +kernel
theorem dX8_builtIn_87 : decode cX8_builtIn 87 = .ok (.aload_n 0, 1) := by decide +kernel
theorem dX8_builtIn_88 : decode cX8_builtIn 88 = .ok (.getfield 24, 3) := by decide +kernel
theorem dX8_builtIn_91 : decode cX8_builtIn 91 = .ok (.invokevirtual 122, 3) := by decide +kernel
theorem dX8_builtIn_94 : decode cX8_builtIn 94 = .ok (.iload 5, 2) := by decide +kernel
theorem dX8_builtIn_96 : decode cX8_builtIn 96 = .ok (.aload_n 1, 1) := by decide +kernel
theorem dX8_builtIn_97 : decode cX8_builtIn 97 = .ok (.getfield 247, 3) := by decide +kernel
theorem dX8_builtIn_100 : decode cX8_builtIn 100 = .ok (.if_icmp .eq 12, 3) := by decide +kernel
theorem dX8_builtIn_103 : decode cX8_builtIn 103 = .ok (.aload_n 0, 1) := by decide +kernel
theorem dX8_builtIn_104 : decode cX8_builtIn 104 = .ok (.getfield 24, 3) := by decide +kernel
theorem dX8_builtIn_107 : decode cX8_builtIn 107 = .ok (.iconst 4, 1) := by decide +kernel
theorem dX8_builtIn_108 : decode cX8_builtIn 108 = .ok (.iload_n 2, 1) := by decide +kernel
theorem dX8_builtIn_109 : decode cX8_builtIn 109 = .ok (.invokevirtual 79, 3) := by decide +kernel
theorem dX8_builtIn_112 : decode cX8_builtIn 112 = .ok (.aload_n 1, 1) := by decide +kernel
theorem dX8_builtIn_113 : decode cX8_builtIn 113 = .ok (.getfield 250, 3) := by decide +kernel
theorem dX8_builtIn_116 : decode cX8_builtIn 116 = .ok (.bipush 8, 2) := by decide +kernel
theorem dX8_builtIn_118 : decode cX8_builtIn 118 = .ok (.if_icmp .eq 12, 3) := by decide +kernel
theorem dX8_builtIn_121 : decode cX8_builtIn 121 = .ok (.aload_n 1, 1) := by decide +kernel
theorem dX8_builtIn_122 : decode cX8_builtIn 122 = .ok (.getfield 250, 3) := by decide +kernel
theorem dX8_builtIn_125 : decode cX8_builtIn 125 = .ok (.bipush 9, 2) := by decide +kernel
theorem dX8_builtIn_127 : decode cX8_builtIn 127 = .ok (.if_icmp .ne 7, 3) := by decide +kernel
theorem dX8_builtIn_130 : decode cX8_builtIn 130 = .ok (.iconst 1, 1) := by decide +kernel
theorem dX8_builtIn_131 : decode cX8_builtIn 131 = .ok (.goto 4, 3) := by decide +kernel
theorem dX8_builtIn_134 : decode cX8_builtIn 134 = .ok (.iconst 0, 1) := by decide +kernel
theorem dX8_builtIn_135 : decode cX8_builtIn 135 = .ok (.istore 6, 2) := by decide +kernel
theorem dX8_builtIn_137 : decode cX8_builtIn 137 = .ok (.iload 6, 2) := by decide +kernel
theorem dX8_builtIn_139 : decode cX8_builtIn 139 = .ok (.ifCond .eq 11, 3) := by decide +kernel
theorem dX8_builtIn_142 : decode cX8_builtIn 142 = .ok (.iload_n 3, 1) := by decide +kernel
theorem dX8_builtIn_143 : decode cX8_builtIn 143 = .ok (.iconst 3, 1) := by decide +kernel
theorem dX8_builtIn_144 : decode cX8_builtIn 144 = .ok (.invokestatic 132, 3) := by decide +kernel
theorem dX8_builtIn_147 : decode cX8_builtIn 147 = .ok (.goto 5, 3) := by decide +kernel
theorem dX8_builtIn_150 : decode cX8_builtIn 150 = .ok (.iload 4, 2) := by decide +kernel
theorem dX8_builtIn_152 : decode cX8_builtIn 152 = .ok (.istore 7, 2) := by decide +kernel
theorem dX8_builtIn_154 : decode cX8_builtIn 154 = .ok (.aload_n 1, 1) := by decide +kernel
theorem dX8_builtIn_155 : decode cX8_builtIn 155 = .ok (.getfield 247, 3) := by decide +kernel
theorem dX8_builtIn_158 : decode cX8_builtIn 158 = .ok (.iconst 2, 1) := by decide +kernel
theorem dX8_builtIn_159 : decode cX8_builtIn 159 = .ok (.if_icmp .ne 8, 3) := by decide +kernel
theorem dX8_builtIn_162 : decode cX8_builtIn 162 = .ok (.bipush 23, 2) := by decide +kernel
theorem dX8_builtIn_164 : decode cX8_builtIn 164 = .ok (.goto 5, 3) := by decide +kernel
theorem dX8_builtIn_167 : decode cX8_builtIn 167 = .ok (.bipush 24, 2) := by decide +kernel
theorem dX8_builtIn_169 : decode cX8_builtIn 169 = .ok (.istore 8, 2) := by decide +kernel
theorem dX8_builtIn_171 : decode cX8_builtIn 171 = .ok (.aload_n 0, 1) := by decide +kernel
theorem dX8_builtIn_172 : decode cX8_builtIn 172 = .ok (.getfield 28, 3) := by decide +kernel
theorem dX8_builtIn_175 : decode cX8_builtIn 175 = .ok (.iload 8, 2) := by decide +kernel
theorem dX8_builtIn_177 : decode cX8_builtIn 177 = .ok (.aload_n 1, 1) := by decide +kernel
theorem dX8_builtIn_178 : decode cX8_builtIn 178 = .ok (.getfield 250, 3) := by decide +kernel
theorem dX8_builtIn_181 : decode cX8_builtIn 181 = .ok (.iload 7, 2) := by decide +kernel
theorem dX8_builtIn_183 : decode cX8_builtIn 183 = .ok (.iconst 4, 1) := by decide +kernel
theorem dX8_builtIn_184 : decode cX8_builtIn 184 = .ok (.if_icmp .ne 7, 3) := by decide +kernel
theorem dX8_builtIn_187 : decode cX8_builtIn 187 = .ok (.iconst 1, 1) := by decide +kernel
theorem dX8_builtIn_188 : decode cX8_builtIn 188 = .ok (.goto 4, 3) := by decide +kernel
theorem dX8_builtIn_191 : decode cX8_builtIn 191 = .ok (.iconst 0, 1) := by decide +kernel
theorem dX8_builtIn_192 : decode cX8_builtIn 192 = .ok (.iload_n 2, 1) := by decide +kernel
theorem dX8_builtIn_193 : decode cX8_builtIn 193 = .ok (.invokevirtual 118, 3) := by decide +kernel
theorem dX8_builtIn_196 : decode cX8_builtIn 196 = .ok (.pop, 1) := by decide +kernel
theorem dX8_builtIn_197 : decode cX8_builtIn 197 = .ok (.aload_n 1, 1) := by decide +kernel
theorem dX8_builtIn_198 : decode cX8_builtIn 198 = .ok (.getfield 250, 3) := by decide +kernel
theorem dX8_builtIn_201 : decode cX8_builtIn 201 = .ok (.bipush 12, 2) := by decide +kernel
theorem dX8_builtIn_203 : decode cX8_builtIn 203 = .ok (.if_icmp .eq 12, 3) := by decide +kernel
theorem dX8_builtIn_206 : decode cX8_builtIn 206 = .ok (.aload_n 1, 1) := by decide +kernel
theorem dX8_builtIn_207 : decode cX8_builtIn 207 = .ok (.getfield 250, 3) := by decide +kernel
theorem dX8_builtIn_210 : decode cX8_builtIn 210 = .ok (.bipush 13, 2) := by decide +kernel
theorem dX8_builtIn_212 : decode cX8_builtIn 212 = .ok (.if_icmp .ne 7, 3) := by decide +kernel
theorem dX8_builtIn_215 : decode cX8_builtIn 215 = .ok (.iconst 3, 1) := by decide +kernel
theorem dX8_builtIn_216 : decode cX8_builtIn 216 = .ok (.goto 5, 3) := by decide +kernel
theorem dX8_builtIn_219 : decode cX8_builtIn 219 = .ok (.iload 7, 2) := by decide +kernel
theorem dX8_builtIn_221 : decode cX8_builtIn 221 = .ok (.ireturn, 1) := by decide +kernel
theorem dX8_arguments_0 : decode cX8_arguments 0 = .ok (.aload_n 0, 1) := by decide +kernel
theorem dX8_arguments_1 : decode cX8_arguments 1 = .ok (.getfield 24, 3) := by decide +kernel
theorem dX8_arguments_4 : decode cX8_arguments 4 = .ok (.invokevirtual 122, 3) := by decide +kernel
theorem dX8_arguments_7 : decode cX8_arguments 7 = .ok (.aload_n 0, 1) := by decide +kernel
theorem dX8_arguments_8 : decode cX8_arguments 8 = .ok (.getfield 24, 3) := by decide +kernel
theorem dX8_arguments_11 : decode cX8_arguments 11 = .ok (.invokevirtual 122, 3) := by decide +kernel
theorem dX8_arguments_14 : decode cX8_arguments 14 = .ok (.iconst 0, 1) := by decide +kernel
theorem dX8_arguments_15 : decode cX8_arguments 15 = .ok (.istore 4, 2) := by decide +kernel
theorem dX8_arguments_17 : decode cX8_arguments 17 = .ok (.iload 4, 2) := by decide +kernel
theorem dX8_arguments_19 : decode cX8_arguments 19 = .ok (.sipush 1500, 3) := by decide +kernel
theorem dX8_arguments_22 : decode cX8_arguments 22 = .ok (.if_icmp .ge 131, 3) := by decide +kernel
theorem dX8_arguments_25 : decode cX8_arguments 25 = .ok (.aload_n 0, 1) := by decide +kernel
theorem dX8_arguments_26 : decode cX8_arguments 26 = .ok (.getfield 24, 3) := by decide +kernel
theorem dX8_arguments_29 : decode cX8_arguments 29 = .ok (.bipush 41, 2) := by decide +kernel
theorem dX8_arguments_31 : decode cX8_arguments 31 = .ok (.invokevirtual 114, 3) := by decide +kernel
theorem dX8_arguments_34 : decode cX8_arguments 34 = .ok (.ifCond .ne 119, 3) := by decide +kernel
theorem dX8_arguments_37 : decode cX8_arguments 37 = .ok (.iload 4, 2) := by decide +kernel
theorem dX8_arguments_39 : decode cX8_arguments 39 = .ok (.ifCond .le 10, 3) := by decide +kernel
theorem dX8_arguments_42 : decode cX8_arguments 42 = .ok (.aload_n 0, 1) := by decide +kernel
theorem dX8_arguments_43 : decode cX8_arguments 43 = .ok (.getfield 24, 3) := by decide +kernel
theorem dX8_arguments_46 : decode cX8_arguments 46 = .ok (.invokevirtual 122, 3) := by decide +kernel
theorem dX8_arguments_49 : decode cX8_arguments 49 = .ok (.aload_n 0, 1) := by decide +kernel
theorem dX8_arguments_50 : decode cX8_arguments 50 = .ok (.getfield 24, 3) := by decide +kernel
theorem dX8_arguments_53 : decode cX8_arguments 53 = .ok (.invokevirtual 76, 3) := by decide +kernel
theorem dX8_arguments_56 : decode cX8_arguments 56 = .ok (.istore 5, 2) := by decide +kernel
theorem dX8_arguments_58 : decode cX8_arguments 58 = .ok (.aload_n 0, 1) := by decide +kernel
theorem dX8_arguments_59 : decode cX8_arguments 59 = .ok (.invokevirtual 125, 3) := by decide +kernel
theorem dX8_arguments_62 : decode cX8_arguments 62 = .ok (.istore 6, 2) := by decide +kernel
theorem dX8_arguments_64 : decode cX8_arguments 64 = .ok (.aload_n 0, 1) := by decide +kernel
theorem dX8_arguments_65 : decode cX8_arguments 65 = .ok (.getfield 28, 3) := by decide +kernel
theorem dX8_arguments_68 : decode cX8_arguments 68 = .ok (.aload_n 1, 1) := by decide +kernel
theorem dX8_arguments_69 : decode cX8_arguments 69 = .ok (.iload 4, 2) := by decide +kernel
theorem dX8_arguments_71 : decode cX8_arguments 71 = .ok (.invokevirtual 252, 3) := by decide +kernel
theorem dX8_arguments_74 : decode cX8_arguments 74 = .ok (.astore 7, 2) := by decide +kernel
theorem dX8_arguments_76 : decode cX8_arguments 76 = .ok (.aload 7, 2) := by decide +kernel
theorem dX8_arguments_78 : decode cX8_arguments 78 = .ok (.getfield 59, 3) := by decide +kernel
theorem dX8_arguments_81 : decode cX8_arguments 81 = .ok (.iconst 5, 1) := by decide +kernel
theorem dX8_arguments_82 : decode cX8_arguments 82 = .ok (.if_icmp .ne 27, 3) := by decide +kernel
theorem dX8_arguments_85 : decode cX8_arguments 85 = .ok (.aload_n 0, 1) := by decide +kernel
theorem dX8_arguments_86 : decode cX8_arguments 86 = .ok (.iload 6, 2) := by decide +kernel
theorem dX8_arguments_88 : decode cX8_arguments 88 = .ok (.aload 7, 2) := by decide +kernel
theorem dX8_arguments_90 : decode cX8_arguments 90 = .ok (.getfield 220, 3) := by decide +kernel
theorem dX8_arguments_93 : decode cX8_arguments 93 = .ok (.invokevirtual 256, 3) := by decide +kernel
theorem dX8_arguments_96 : decode cX8_arguments 96 = .ok (.ifCond .eq 13, 3) := by decide +kernel
theorem dX8_arguments_99 : decode cX8_arguments 99 = .ok (.aload_n 0, 1) := by decide +kernel
theorem dX8_arguments_100 : decode cX8_arguments 100 = .ok (.getfield 24, 3) := by decide +kernel
theorem dX8_arguments_103 : decode cX8_arguments 103 = .ok (.iconst 4, 1) := by decide +kernel
theorem dX8_arguments_104 : decode cX8_arguments 104 = .ok (.iload 5, 2) := by decide +kernel
theorem dX8_arguments_106 : decode cX8_arguments 106 = .ok (.invokevirtual 79, 3) := by decide +kernel
theorem dX8_arguments_109 : decode cX8_arguments 109 = .ok (.aload 7, 2) := by decide +kernel
theorem dX8_arguments_111 : decode cX8_arguments 111 = .ok (.getfield 59, 3) := by decide +kernel
theorem dX8_arguments_114 : decode cX8_arguments 114 = .ok (.iconst 5, 1) := by decide +kernel
theorem dX8_arguments_115 : decode cX8_arguments 115 = .ok (.if_icmp .ne 32, 3) := by decide +kernel
theorem dX8_arguments_118 : decode cX8_arguments 118 = .ok (.iload_n 2, 1) := by decide +kernel
theorem dX8_arguments_119 : decode cX8_arguments 119 = .ok (.iconst (-1), 1) := by decide +kernel
theorem dX8_arguments_120 : decode cX8_arguments 120 = .ok (.if_icmp .eq 27, 3) := by decide +kernel
theorem dX8_arguments_123 : decode cX8_arguments 123 = .ok (.aload_n 0, 1) := by decide +kernel
theorem dX8_arguments_124 : decode cX8_arguments 124 = .ok (.getfield 28, 3) := by decide +kernel
theorem dX8_arguments_127 : decode cX8_arguments 127 = .ok (.bipush 7, 2) := by decide +kernel
theorem dX8_arguments_129 : decode cX8_arguments 129 = .ok (.iload_n 2, 1) := by decide +kernel
theorem dX8_arguments_130 : decode cX8_arguments 130 = .ok (.aload 7, 2) := by decide +kernel
theorem dX8_arguments_132 : decode cX8_arguments 132 = .ok (.getfield 229, 3) := by decide +kernel
theorem dX8_arguments_135 : decode cX8_arguments 135 = .ok (.iadd, 1) := by decide +kernel
theorem dX8_arguments_136 : decode cX8_arguments 136 = .ok (.aload 7, 2) := by decide +kernel
theorem dX8_arguments_138 : decode cX8_arguments 138 = .ok (.getfield 220, 3) := by decide +kernel
theorem dX8_arguments_141 : decode cX8_arguments 141 = .ok (.iload 5, 2) := by decide +kernel
theorem dX8_arguments_143 : decode cX8_arguments 143 = .ok (.invokevirtual 118, 3) := by decide +kernel
theorem dX8_arguments_146 : decode cX8_arguments 146 = .ok (.pop, 1) := by decide +kernel
theorem dX8_arguments_147 : decode cX8_arguments 147 = .ok (.iinc 4 1, 3) := by decide +kernel
theorem dX8_arguments_150 : decode cX8_arguments 150 = .ok (.goto (-133), 3) := by decide +kernel
theorem dX8_arguments_153 : decode cX8_arguments 153 = .ok (.aload_n 0, 1) := by decide +kernel
theorem dX8_arguments_154 : decode cX8_arguments 154 = .ok (.getfield 24, 3) := by decide +kernel
theorem dX8_arguments_157 : decode cX8_arguments 157 = .ok (.invokevirtual 122, 3) := by decide +kernel
theorem dX8_arguments_160 : decode cX8_arguments 160 = .ok (.iload 4, 2) := by decide +kernel
theorem dX8_arguments_162 : decode cX8_arguments 162 = .ok (.aload_n 1, 1) := by decide +kernel
theorem dX8_arguments_163 : decode cX8_arguments 163 = .ok (.getfield 247, 3) := by decide +kernel
theorem dX8_arguments_166 : decode cX8_arguments 166 = .ok (.if_icmp .eq 12, 3) := by decide +kernel
theorem dX8_arguments_169 : decode cX8_arguments 169 = .ok (.aload_n 0, 1) := by decide +kernel
theorem dX8_arguments_170 : decode cX8_arguments 170 = .ok (.getfield 24, 3) := by decide +kernel
theorem dX8_arguments_173 : decode cX8_arguments 173 = .ok (.iconst 4, 1) := by decide +kernel
theorem dX8_arguments_174 : decode cX8_arguments 174 = .ok (.iload_n 3, 1) := by decide +kernel
theorem dX8_arguments_175 : decode cX8_arguments 175 = .ok (.invokevirtual 79, 3) := by decide +kernel
theorem dX8_arguments_178 : decode cX8_arguments 178 = .ok (.return_, 1) := by decide +kernel
theorem dX8_index_0 : decode cX8_index 0 = .ok (.aload_n 0, 1) := by decide +kernel
theorem dX8_index_1 : decode cX8_index 1 = .ok (.invokevirtual 232, 3) := by decide +kernel
theorem dX8_index_4 : decode cX8_index 4 = .ok (.aload_n 0, 1) := by decide +kernel
theorem dX8_index_5 : decode cX8_index 5 = .ok (.getfield 28, 3) := by decide +kernel
theorem dX8_index_8 : decode cX8_index 8 = .ok (.aload_n 1, 1) := by decide +kernel
theorem dX8_index_9 : decode cX8_index 9 = .ok (.invokevirtual 259, 3) := by decide +kernel
theorem dX8_index_12 : decode cX8_index 12 = .ok (.ifCond .eq 8, 3) := by decide +kernel
theorem dX8_index_15 : decode cX8_index 15 = .ok (.bipush 11, 2) := by decide +kernel
theorem dX8_index_17 : decode cX8_index 17 = .ok (.goto 5, 3) := by decide +kernel
theorem dX8_index_20 : decode cX8_index 20 = .ok (.bipush 10, 2) := by decide +kernel
theorem dX8_index_22 : decode cX8_index 22 = .ok (.aload_n 1, 1) := by decide +kernel
theorem dX8_index_23 : decode cX8_index 23 = .ok (.getfield 229, 3) := by decide +kernel
theorem dX8_index_26 : decode cX8_index 26 = .ok (.aload_n 1, 1) := by decide +kernel
theorem dX8_index_27 : decode cX8_index 27 = .ok (.getfield 235, 3) := by decide +kernel
theorem dX8_index_30 : decode cX8_index 30 = .ok (.iload_n 2, 1) := by decide +kernel
theorem dX8_index_31 : decode cX8_index 31 = .ok (.invokevirtual 118, 3) := by decide +kernel
theorem dX8_index_34 : decode cX8_index 34 = .ok (.pop, 1) := by decide +kernel
theorem dX8_index_35 : decode cX8_index 35 = .ok (.return_, 1) := by decide +kernel
theorem dX8_indexNumber_0 : decode cX8_indexNumber 0 = .ok (.aload_n 0, 1) := by decide +kernel
theorem dX8_indexNumber_1 : decode cX8_indexNumber 1 = .ok (.getfield 24, 3) := by decide +kernel
theorem dX8_indexNumber_4 : decode cX8_indexNumber 4 = .ok (.invokevirtual 122, 3) := by decide +kernel
theorem dX8_indexNumber_7 : decode cX8_indexNumber 7 = .ok (.aload_n 0, 1) := by decide +kernel
theorem dX8_indexNumber_8 : decode cX8_indexNumber 8 = .ok (.getfield 24, 3) := by decide +kernel
theorem dX8_indexNumber_11 : decode cX8_indexNumber 11 = .ok (.invokevirtual 76, 3) := by decide +kernel
theorem dX8_indexNumber_14 : decode cX8_indexNumber 14 = .ok (.istore_n 1, 1) := by decide +kernel
theorem dX8_indexNumber_15 : decode cX8_indexNumber 15 = .ok (.aload_n 0, 1) := by decide +kernel
theorem dX8_indexNumber_16 : decode cX8_indexNumber 16 = .ok (.invokevirtual 125, 3) := by decide +kernel
theorem dX8_indexNumber_19 : decode cX8_indexNumber 19 = .ok (.iconst 4, 1) := by decide +kernel
theorem dX8_indexNumber_20 : decode cX8_indexNumber 20 = .ok (.if_icmp .ne 12, 3) := by decide +kernel
theorem dX8_indexNumber_23 : decode cX8_indexNumber 23 = .ok (.aload_n 0, 1) := by decide +kernel
theorem dX8_indexNumber_24 : decode cX8_indexNumber 24 = .ok (.getfield 24, 3) := by decide +kernel
theorem dX8_indexNumber_27 : decode cX8_indexNumber 27 = .ok (.iconst 4, 1) := by decide +kernel
theorem dX8_indexNumber_28 : decode cX8_indexNumber 28 = .ok (.iload_n 1, 1) := by decide +kernel
theorem dX8_indexNumber_29 : decode cX8_indexNumber 29 = .ok (.invokevirtual 79, 3) := by decide +kernel
theorem dX8_indexNumber_32 : decode cX8_indexNumber 32 = .ok (.aload_n 0, 1) := by decide +kernel
theorem dX8_indexNumber_33 : decode cX8_indexNumber 33 = .ok (.getfield 24, 3) := by decide +kernel
theorem dX8_indexNumber_36 : decode cX8_indexNumber 36 = .ok (.invokevirtual 122, 3) := by decide +kernel
theorem dX8_indexNumber_39 : decode cX8_indexNumber 39 = .ok (.return_, 1) := by decide +kernel
theorem gs_4_10 : Cond.selects "SoftController$Terms" ⟨"SoftController$Terms", "named", "(I)I"⟩ ⟨"SoftController$Terms", "named", "(I)I"⟩ ∈ GW := gw_s (List.mem_map.mpr ⟨_, pin_4 _ (List.mem_of_getElem? (i := 10) rfl), rfl⟩) rfl
theorem gs_4_11 : Cond.selects "SoftController$Terms" ⟨"SoftController$Terms", "called", "(I)I"⟩ ⟨"SoftController$Terms", "called", "(I)I"⟩ ∈ GW := gw_s (List.mem_map.mpr ⟨_, pin_4 _ (List.mem_of_getElem? (i := 11) rfl), rfl⟩) rfl
theorem gs_4_12 : Cond.selects "SoftController$Terms" ⟨"SoftController$Terms", "builtIn", "(LSoftController$Name;I)I"⟩ ⟨"SoftController$Terms", "builtIn", "(LSoftController$Name;I)I"⟩ ∈ GW := gw_s (List.mem_map.mpr ⟨_, pin_4 _ (List.mem_of_getElem? (i := 12) rfl), rfl⟩) rfl
theorem gs_4_13 : Cond.selects "SoftController$Terms" ⟨"SoftController$Terms", "ofInstance", "(I)I"⟩ ⟨"SoftController$Terms", "ofInstance", "(I)I"⟩ ∈ GW := gw_s (List.mem_map.mpr ⟨_, pin_4 _ (List.mem_of_getElem? (i := 13) rfl), rfl⟩) rfl
theorem gs_4_14 : Cond.selects "SoftController$Terms" ⟨"SoftController$Terms", "indexNumber", "()V"⟩ ⟨"SoftController$Terms", "indexNumber", "()V"⟩ ∈ GW := gw_s (List.mem_map.mpr ⟨_, pin_4 _ (List.mem_of_getElem? (i := 14) rfl), rfl⟩) rfl
theorem gs_4_15 : Cond.selects "SoftController$Terms" ⟨"SoftController$Terms", "ofPlace", "(I)I"⟩ ⟨"SoftController$Terms", "ofPlace", "(I)I"⟩ ∈ GW := gw_s (List.mem_map.mpr ⟨_, pin_4 _ (List.mem_of_getElem? (i := 15) rfl), rfl⟩) rfl
theorem gs_4_5 : Cond.selects "SoftController$Terms" ⟨"SoftController$Terms", "operators", "()I"⟩ ⟨"SoftController$Terms", "operators", "()I"⟩ ∈ GW := gw_s (List.mem_map.mpr ⟨_, pin_4 _ (List.mem_of_getElem? (i := 5) rfl), rfl⟩) rfl
theorem gs_4_6 : Cond.selects "SoftController$Terms" ⟨"SoftController$Terms", "operand", "()I"⟩ ⟨"SoftController$Terms", "operand", "()I"⟩ ∈ GW := gw_s (List.mem_map.mpr ⟨_, pin_4 _ (List.mem_of_getElem? (i := 6) rfl), rfl⟩) rfl
theorem gs_4_7 : Cond.selects "SoftController$Terms" ⟨"SoftController$Terms", "signed", "(I)I"⟩ ⟨"SoftController$Terms", "signed", "(I)I"⟩ ∈ GW := gw_s (List.mem_map.mpr ⟨_, pin_4 _ (List.mem_of_getElem? (i := 7) rfl), rfl⟩) rfl
theorem gs_4_8 : Cond.selects "SoftController$Terms" ⟨"SoftController$Terms", "bracket", "(I)I"⟩ ⟨"SoftController$Terms", "bracket", "(I)I"⟩ ∈ GW := gw_s (List.mem_map.mpr ⟨_, pin_4 _ (List.mem_of_getElem? (i := 8) rfl), rfl⟩) rfl
theorem gw_1071 : (Jvm.Cond.static ({ cls := "SoftController$Numbers", name := "negative", desc := "(ZJ)J" } : Jvm.MethodName)) ∈ GW := gw_t (tin_5 _ (List.mem_of_getElem? (i := 111) rfl)) rfl
theorem gw_1122 : (Jvm.Cond.methodLink "SoftController$Maker" (281 : Nat) ({ cls := "SoftController$Terms", name := "expression", desc := "()I" } : Jvm.MethodName)) ∈ GW := gw_t (tin_5 _ (List.mem_of_getElem? (i := 162) rfl)) rfl
theorem gw_1123 : (Jvm.Cond.instanceMethod ({ cls := "SoftController$Terms", name := "expression", desc := "()I" } : Jvm.MethodName)) ∈ GW := gw_t (tin_5 _ (List.mem_of_getElem? (i := 163) rfl)) rfl
theorem gw_1124 : (Jvm.Cond.selects "SoftController$Terms" ({ cls := "SoftController$Terms", name := "expression", desc := "()I" } : Jvm.MethodName) ({ cls := "SoftController$Terms", name := "expression", desc := "()I" } : Jvm.MethodName)) ∈ GW := gw_t (tin_5 _ (List.mem_of_getElem? (i := 164) rfl)) rfl
theorem gw_1125 : (Jvm.Cond.code ({ cls := "SoftController$Terms", name := "expression", desc := "()I" } : Jvm.MethodName) prog_10_method_6_code (7 : Nat) (Option.some Jvm.ClassFile.FieldType.int)) ∈ GW := gw_t (tin_5 _ (List.mem_of_getElem? (i := 165) rfl)) rfl
theorem gw_1126 : (Jvm.Cond.methodLink "SoftController$Terms" (111 : Nat) ({ cls := "SoftController$Terms", name := "operators", desc := "()I" } : Jvm.MethodName)) ∈ GW := gw_t (tin_5 _ (List.mem_of_getElem? (i := 166) rfl)) rfl
theorem gw_1128 : (Jvm.Cond.instanceMethod ({ cls := "SoftController$Terms", name := "operators", desc := "()I" } : Jvm.MethodName)) ∈ GW := gw_t (tin_5 _ (List.mem_of_getElem? (i := 168) rfl)) rfl
theorem gw_1129 : (Jvm.Cond.code ({ cls := "SoftController$Terms", name := "operators", desc := "()I" } : Jvm.MethodName) prog_10_method_7_code (5 : Nat) (Option.some Jvm.ClassFile.FieldType.int)) ∈ GW := gw_t (tin_5 _ (List.mem_of_getElem? (i := 169) rfl)) rfl
theorem gw_1130 : (Jvm.Cond.methodLink "SoftController$Terms" (136 : Nat) ({ cls := "SoftController$Terms", name := "operand", desc := "()I" } : Jvm.MethodName)) ∈ GW := gw_t (tin_5 _ (List.mem_of_getElem? (i := 170) rfl)) rfl
theorem gw_1132 : (Jvm.Cond.instanceMethod ({ cls := "SoftController$Terms", name := "operand", desc := "()I" } : Jvm.MethodName)) ∈ GW := gw_t (tin_5 _ (List.mem_of_getElem? (i := 172) rfl)) rfl
theorem gw_1133 : (Jvm.Cond.code ({ cls := "SoftController$Terms", name := "operand", desc := "()I" } : Jvm.MethodName) prog_10_method_11_code (2 : Nat) (Option.some Jvm.ClassFile.FieldType.int)) ∈ GW := gw_t (tin_5 _ (List.mem_of_getElem? (i := 173) rfl)) rfl
theorem gw_1136 : (Jvm.Cond.methodLink "SoftController$Terms" (165 : Nat) ({ cls := "SoftController$Terms", name := "signed", desc := "(I)I" } : Jvm.MethodName)) ∈ GW := gw_t (tin_5 _ (List.mem_of_getElem? (i := 176) rfl)) rfl
theorem gw_1138 : (Jvm.Cond.instanceMethod ({ cls := "SoftController$Terms", name := "signed", desc := "(I)I" } : Jvm.MethodName)) ∈ GW := gw_t (tin_5 _ (List.mem_of_getElem? (i := 178) rfl)) rfl
theorem gw_1139 : (Jvm.Cond.code ({ cls := "SoftController$Terms", name := "signed", desc := "(I)I" } : Jvm.MethodName) prog_10_method_13_code (6 : Nat) (Option.some Jvm.ClassFile.FieldType.int)) ∈ GW := gw_t (tin_5 _ (List.mem_of_getElem? (i := 179) rfl)) rfl
theorem gw_1143 : (Jvm.Cond.methodLink "SoftController$Terms" (132 : Nat) ({ cls := "SoftController$Numbers", name := "workedAs", desc := "(II)I" } : Jvm.MethodName)) ∈ GW := gw_t (tin_5 _ (List.mem_of_getElem? (i := 183) rfl)) rfl
theorem gw_1144 : (Jvm.Cond.static ({ cls := "SoftController$Numbers", name := "workedAs", desc := "(II)I" } : Jvm.MethodName)) ∈ GW := gw_t (tin_5 _ (List.mem_of_getElem? (i := 184) rfl)) rfl
theorem gw_1147 : (Jvm.Cond.methodLink "SoftController$Terms" (189 : Nat) ({ cls := "SoftController$Numbers", name := "negative", desc := "(ZJ)J" } : Jvm.MethodName)) ∈ GW := gw_t (tin_5 _ (List.mem_of_getElem? (i := 187) rfl)) rfl
theorem gw_1148 : (Jvm.Cond.methodLink "SoftController$Terms" (168 : Nat) ({ cls := "SoftController$Terms", name := "bracket", desc := "(I)I" } : Jvm.MethodName)) ∈ GW := gw_t (tin_5 _ (List.mem_of_getElem? (i := 188) rfl)) rfl
theorem gw_1150 : (Jvm.Cond.instanceMethod ({ cls := "SoftController$Terms", name := "bracket", desc := "(I)I" } : Jvm.MethodName)) ∈ GW := gw_t (tin_5 _ (List.mem_of_getElem? (i := 190) rfl)) rfl
theorem gw_1151 : (Jvm.Cond.code ({ cls := "SoftController$Terms", name := "bracket", desc := "(I)I" } : Jvm.MethodName) prog_10_method_14_code (3 : Nat) (Option.some Jvm.ClassFile.FieldType.int)) ∈ GW := gw_t (tin_5 _ (List.mem_of_getElem? (i := 191) rfl)) rfl
theorem gw_1153 : (Jvm.Cond.methodLink "SoftController$Terms" (125 : Nat) ({ cls := "SoftController$Terms", name := "expression", desc := "()I" } : Jvm.MethodName)) ∈ GW := gw_t (tin_5 _ (List.mem_of_getElem? (i := 193) rfl)) rfl
theorem gw_1165 : (Jvm.Cond.methodLink "SoftController$Terms" (174 : Nat) ({ cls := "SoftController$Terms", name := "named", desc := "(I)I" } : Jvm.MethodName)) ∈ GW := gw_t (tin_5 _ (List.mem_of_getElem? (i := 205) rfl)) rfl
theorem gw_1167 : (Jvm.Cond.instanceMethod ({ cls := "SoftController$Terms", name := "named", desc := "(I)I" } : Jvm.MethodName)) ∈ GW := gw_t (tin_5 _ (List.mem_of_getElem? (i := 207) rfl)) rfl
theorem gw_1168 : (Jvm.Cond.code ({ cls := "SoftController$Terms", name := "named", desc := "(I)I" } : Jvm.MethodName) prog_10_method_15_code (3 : Nat) (Option.some Jvm.ClassFile.FieldType.int)) ∈ GW := gw_t (tin_5 _ (List.mem_of_getElem? (i := 208) rfl)) rfl
theorem gw_1170 : (Jvm.Cond.methodLink "SoftController$Terms" (199 : Nat) ({ cls := "SoftController$Terms", name := "called", desc := "(I)I" } : Jvm.MethodName)) ∈ GW := gw_t (tin_5 _ (List.mem_of_getElem? (i := 210) rfl)) rfl
theorem gw_1172 : (Jvm.Cond.instanceMethod ({ cls := "SoftController$Terms", name := "called", desc := "(I)I" } : Jvm.MethodName)) ∈ GW := gw_t (tin_5 _ (List.mem_of_getElem? (i := 212) rfl)) rfl
theorem gw_1173 : (Jvm.Cond.code ({ cls := "SoftController$Terms", name := "called", desc := "(I)I" } : Jvm.MethodName) prog_10_method_18_code (3 : Nat) (Option.some Jvm.ClassFile.FieldType.int)) ∈ GW := gw_t (tin_5 _ (List.mem_of_getElem? (i := 213) rfl)) rfl
theorem gw_1184 : (Jvm.Cond.methodLink "SoftController$Terms" (238 : Nat) ({ cls := "SoftController$Terms", name := "builtIn", desc := "(LSoftController$Name;I)I" } : Jvm.MethodName)) ∈ GW := gw_t (tin_5 _ (List.mem_of_getElem? (i := 224) rfl)) rfl
theorem gw_1186 : (Jvm.Cond.instanceMethod ({ cls := "SoftController$Terms", name := "builtIn", desc := "(LSoftController$Name;I)I" } : Jvm.MethodName)) ∈ GW := gw_t (tin_5 _ (List.mem_of_getElem? (i := 226) rfl)) rfl
theorem gw_1187 : (Jvm.Cond.code ({ cls := "SoftController$Terms", name := "builtIn", desc := "(LSoftController$Name;I)I" } : Jvm.MethodName) prog_10_method_19_code (9 : Nat) (Option.some Jvm.ClassFile.FieldType.int)) ∈ GW := gw_t (tin_5 _ (List.mem_of_getElem? (i := 227) rfl)) rfl
theorem gw_1188 : (Jvm.Cond.methodLink "SoftController$Terms" (242 : Nat) ({ cls := "SoftController$Terms", name := "arguments", desc := "(LSoftController$Name;II)V" } : Jvm.MethodName)) ∈ GW := gw_t (tin_5 _ (List.mem_of_getElem? (i := 228) rfl)) rfl
theorem gw_1189 : (Jvm.Cond.instanceMethod ({ cls := "SoftController$Terms", name := "arguments", desc := "(LSoftController$Name;II)V" } : Jvm.MethodName)) ∈ GW := gw_t (tin_5 _ (List.mem_of_getElem? (i := 229) rfl)) rfl
theorem gw_1190 : (Jvm.Cond.selects "SoftController$Terms" ({ cls := "SoftController$Terms", name := "arguments", desc := "(LSoftController$Name;II)V" } : Jvm.MethodName) ({ cls := "SoftController$Terms", name := "arguments", desc := "(LSoftController$Name;II)V" } : Jvm.MethodName)) ∈ GW := gw_t (tin_5 _ (List.mem_of_getElem? (i := 230) rfl)) rfl
theorem gw_1191 : (Jvm.Cond.code ({ cls := "SoftController$Terms", name := "arguments", desc := "(LSoftController$Name;II)V" } : Jvm.MethodName) prog_10_method_20_code (8 : Nat) (Option.none : Option Jvm.ClassFile.FieldType)) ∈ GW := gw_t (tin_5 _ (List.mem_of_getElem? (i := 231) rfl)) rfl
theorem gw_1204 : (Jvm.Cond.methodLink "SoftController$Terms" (202 : Nat) ({ cls := "SoftController$Terms", name := "ofInstance", desc := "(I)I" } : Jvm.MethodName)) ∈ GW := gw_t (tin_6 _ (List.mem_of_getElem? (i := 4) rfl)) rfl
theorem gw_1206 : (Jvm.Cond.instanceMethod ({ cls := "SoftController$Terms", name := "ofInstance", desc := "(I)I" } : Jvm.MethodName)) ∈ GW := gw_t (tin_6 _ (List.mem_of_getElem? (i := 6) rfl)) rfl
theorem gw_1207 : (Jvm.Cond.code ({ cls := "SoftController$Terms", name := "ofInstance", desc := "(I)I" } : Jvm.MethodName) prog_10_method_17_code (6 : Nat) (Option.some Jvm.ClassFile.FieldType.int)) ∈ GW := gw_t (tin_6 _ (List.mem_of_getElem? (i := 7) rfl)) rfl
theorem gw_1208 : (Jvm.Cond.methodLink "SoftController$Terms" (232 : Nat) ({ cls := "SoftController$Terms", name := "indexNumber", desc := "()V" } : Jvm.MethodName)) ∈ GW := gw_t (tin_6 _ (List.mem_of_getElem? (i := 8) rfl)) rfl
theorem gw_1210 : (Jvm.Cond.instanceMethod ({ cls := "SoftController$Terms", name := "indexNumber", desc := "()V" } : Jvm.MethodName)) ∈ GW := gw_t (tin_6 _ (List.mem_of_getElem? (i := 10) rfl)) rfl
theorem gw_1211 : (Jvm.Cond.code ({ cls := "SoftController$Terms", name := "indexNumber", desc := "()V" } : Jvm.MethodName) prog_10_method_22_code (2 : Nat) (Option.none : Option Jvm.ClassFile.FieldType)) ∈ GW := gw_t (tin_6 _ (List.mem_of_getElem? (i := 11) rfl)) rfl
theorem gw_1212 : (Jvm.Cond.methodLink "SoftController$Terms" (205 : Nat) ({ cls := "SoftController$Terms", name := "ofPlace", desc := "(I)I" } : Jvm.MethodName)) ∈ GW := gw_t (tin_6 _ (List.mem_of_getElem? (i := 12) rfl)) rfl
theorem gw_1214 : (Jvm.Cond.instanceMethod ({ cls := "SoftController$Terms", name := "ofPlace", desc := "(I)I" } : Jvm.MethodName)) ∈ GW := gw_t (tin_6 _ (List.mem_of_getElem? (i := 14) rfl)) rfl
theorem gw_1215 : (Jvm.Cond.code ({ cls := "SoftController$Terms", name := "ofPlace", desc := "(I)I" } : Jvm.MethodName) prog_10_method_16_code (3 : Nat) (Option.some Jvm.ClassFile.FieldType.int)) ∈ GW := gw_t (tin_6 _ (List.mem_of_getElem? (i := 15) rfl)) rfl
theorem gw_1232 : (Jvm.Cond.methodLink "SoftController$Terms" (212 : Nat) ({ cls := "SoftController$Terms", name := "index", desc := "(LSoftController$Name;I)V" } : Jvm.MethodName)) ∈ GW := gw_t (tin_6 _ (List.mem_of_getElem? (i := 32) rfl)) rfl
theorem gw_1233 : (Jvm.Cond.instanceMethod ({ cls := "SoftController$Terms", name := "index", desc := "(LSoftController$Name;I)V" } : Jvm.MethodName)) ∈ GW := gw_t (tin_6 _ (List.mem_of_getElem? (i := 33) rfl)) rfl
theorem gw_1234 : (Jvm.Cond.selects "SoftController$Terms" ({ cls := "SoftController$Terms", name := "index", desc := "(LSoftController$Name;I)V" } : Jvm.MethodName) ({ cls := "SoftController$Terms", name := "index", desc := "(LSoftController$Name;I)V" } : Jvm.MethodName)) ∈ GW := gw_t (tin_6 _ (List.mem_of_getElem? (i := 34) rfl)) rfl
theorem gw_1235 : (Jvm.Cond.code ({ cls := "SoftController$Terms", name := "index", desc := "(LSoftController$Name;I)V" } : Jvm.MethodName) prog_10_method_21_code (3 : Nat) (Option.none : Option Jvm.ClassFile.FieldType)) ∈ GW := gw_t (tin_6 _ (List.mem_of_getElem? (i := 35) rfl)) rfl
theorem gw_1333 : (Jvm.Cond.methodLink "SoftController$Maker" (294 : Nat) ({ cls := "SoftController$Terms", name := "arguments", desc := "(LSoftController$Name;II)V" } : Jvm.MethodName)) ∈ GW := gw_t (tin_6 _ (List.mem_of_getElem? (i := 133) rfl)) rfl
theorem gw_1339 : (Jvm.Cond.methodLink "SoftController$Maker" (302 : Nat) ({ cls := "SoftController$Terms", name := "index", desc := "(LSoftController$Name;I)V" } : Jvm.MethodName)) ∈ GW := gw_t (tin_6 _ (List.mem_of_getElem? (i := 139) rfl)) rfl
theorem gwp_X5_negative : ∀ w ∈ wsX5_negative, w ∈ GW := gwl [1072] (by decide +kernel) (by decide +kernel)
theorem gwp_X5_workedAs : ∀ w ∈ wsX5_workedAs, w ∈ GW := gwl [1145] (by decide +kernel) (by decide +kernel)
theorem nw_236 : (Jvm.Cond.fieldLinkNest "SoftController$Terms" (245 : Nat) "SoftController$Name" "index" "I" "SoftController") ∈ NWL := gw_n (tin_1 _ (List.mem_of_getElem? (i := 236) rfl)) rfl
theorem nw_241 : (Jvm.Cond.fieldLinkNest "SoftController$Terms" (250 : Nat) "SoftController$Name" "number" "I" "SoftController") ∈ NWL := gw_n (tin_2 _ (List.mem_of_getElem? (i := 1) rfl)) rfl
theorem nw_254 : (Jvm.Cond.fieldLinkNest "SoftController$Terms" (235 : Nat) "SoftController$Name" "size" "I" "SoftController") ∈ NWL := gw_n (tin_2 _ (List.mem_of_getElem? (i := 14) rfl)) rfl
theorem nw_271 : (Jvm.Cond.fieldLinkNest "SoftController$Terms" (247 : Nat) "SoftController$Name" "parameters" "I" "SoftController") ∈ NWL := gw_n (tin_2 _ (List.mem_of_getElem? (i := 31) rfl)) rfl
theorem nw_284 : (Jvm.Cond.fieldLinkNest "SoftController$Terms" (226 : Nat) "SoftController$Name" "block" "I" "SoftController") ∈ NWL := gw_n (tin_2 _ (List.mem_of_getElem? (i := 44) rfl)) rfl
section C38btexprR
variable {p : Program} {l : Launch} {e : Env} {R : Room} {s : State} {m : MethodId} {args : Array Value} {below : List Frame} {meth : Method} {c : Code} {H : Heap} {locs : List Loc} {Q : State → Prop} {cells slots : Nat}
variable {cc : ByteArray} {pc nL : Nat} {c0 : Cond} {own : String} {ls : Array Slot} {rest : List Value} {D : va_G} {kA : Nat → ClassId} {V Z : Nat → Nat} {A : Nat → Prop}
variable {u u1 : CSt}
theorem cg_X8_235 (X : CC p s m args c cc nL c0 RX8 D kA V A) {q : Nat} (hq : q < 338) (hS : CS D kA Z A s u H locs) (hd : decode cc pc = .ok (.getfield 235, 3)) (kk : W p l e R s m args below meth c H locs cells slots Q (F0 m (pc + 3) ls (.int (mI u q 7) :: rest))) : W p l e R s m args below meth c H locs cells slots Q (F0 m pc ls (.ref (Z (1000 + q)) :: rest)) := by
  obtain ⟨⟨hx, hb, hml, hown, hts⟩, hK, hE, hA⟩ := X
  have hG : ∀ w ∈ GW, w.before args s = true := fun w h => hts w (List.mem_cons_of_mem _ h)
  exact va_getN (D := D) (ci := 4) (v := .int (mI u q 7)) (C := RX4) (T := TX4) (N := 15) hx hb hG gwl_X4 hown hK hS.1 (90 + q) (cw_name hq) rfl 7 (by decide) (va_Nw.use rfl (hE.1 _ nw_254)) (fun _ h9 => h9) rfl hd kk
theorem cg_X8_226 (X : CC p s m args c cc nL c0 RX8 D kA V A) {q : Nat} (hq : q < 338) (hS : CS D kA Z A s u H locs) (hd : decode cc pc = .ok (.getfield 226, 3)) (kk : W p l e R s m args below meth c H locs cells slots Q (F0 m (pc + 3) ls (.int (mI u q 14) :: rest))) : W p l e R s m args below meth c H locs cells slots Q (F0 m pc ls (.ref (Z (1000 + q)) :: rest)) := by
  obtain ⟨⟨hx, hb, hml, hown, hts⟩, hK, hE, hA⟩ := X
  have hG : ∀ w ∈ GW, w.before args s = true := fun w h => hts w (List.mem_cons_of_mem _ h)
  exact va_getN (D := D) (ci := 4) (v := .int (mI u q 14)) (C := RX4) (T := TX4) (N := 15) hx hb hG gwl_X4 hown hK hS.1 (90 + q) (cw_name hq) rfl 14 (by decide) (va_Nw.use rfl (hE.1 _ nw_284)) (fun _ h9 => h9) rfl hd kk
theorem cg_X8_245 (X : CC p s m args c cc nL c0 RX8 D kA V A) {q : Nat} (hq : q < 338) (hS : CS D kA Z A s u H locs) (hd : decode cc pc = .ok (.getfield 245, 3)) (kk : W p l e R s m args below meth c H locs cells slots Q (F0 m (pc + 3) ls (.int (mI u q 3) :: rest))) : W p l e R s m args below meth c H locs cells slots Q (F0 m pc ls (.ref (Z (1000 + q)) :: rest)) := by
  obtain ⟨⟨hx, hb, hml, hown, hts⟩, hK, hE, hA⟩ := X
  have hG : ∀ w ∈ GW, w.before args s = true := fun w h => hts w (List.mem_cons_of_mem _ h)
  exact va_getN (D := D) (ci := 4) (v := .int (mI u q 3)) (C := RX4) (T := TX4) (N := 15) hx hb hG gwl_X4 hown hK hS.1 (90 + q) (cw_name hq) rfl 3 (by decide) (va_Nw.use rfl (hE.1 _ nw_236)) (fun _ h9 => h9) rfl hd kk
theorem cg_X8_250 (X : CC p s m args c cc nL c0 RX8 D kA V A) {q : Nat} (hq : q < 338) (hS : CS D kA Z A s u H locs) (hd : decode cc pc = .ok (.getfield 250, 3)) (kk : W p l e R s m args below meth c H locs cells slots Q (F0 m (pc + 3) ls (.int (mI u q 4) :: rest))) : W p l e R s m args below meth c H locs cells slots Q (F0 m pc ls (.ref (Z (1000 + q)) :: rest)) := by
  obtain ⟨⟨hx, hb, hml, hown, hts⟩, hK, hE, hA⟩ := X
  have hG : ∀ w ∈ GW, w.before args s = true := fun w h => hts w (List.mem_cons_of_mem _ h)
  exact va_getN (D := D) (ci := 4) (v := .int (mI u q 4)) (C := RX4) (T := TX4) (N := 15) hx hb hG gwl_X4 hown hK hS.1 (90 + q) (cw_name hq) rfl 4 (by decide) (va_Nw.use rfl (hE.1 _ nw_241)) (fun _ h9 => h9) rfl hd kk
theorem cg_X8_247 (X : CC p s m args c cc nL c0 RX8 D kA V A) {q : Nat} (hq : q < 338) (hS : CS D kA Z A s u H locs) (hd : decode cc pc = .ok (.getfield 247, 3)) (kk : W p l e R s m args below meth c H locs cells slots Q (F0 m (pc + 3) ls (.int (mI u q 11) :: rest))) : W p l e R s m args below meth c H locs cells slots Q (F0 m pc ls (.ref (Z (1000 + q)) :: rest)) := by
  obtain ⟨⟨hx, hb, hml, hown, hts⟩, hK, hE, hA⟩ := X
  have hG : ∀ w ∈ GW, w.before args s = true := fun w h => hts w (List.mem_cons_of_mem _ h)
  exact va_getN (D := D) (ci := 4) (v := .int (mI u q 11)) (C := RX4) (T := TX4) (N := 15) hx hb hG gwl_X4 hown hK hS.1 (90 + q) (cw_name hq) rfl 11 (by decide) (va_Nw.use rfl (hE.1 _ nw_271)) (fun _ h9 => h9) rfl hd kk
end C38btexprR
section C38btexpr
variable {p : Program} {l : Launch} {e : Env} {R : Room} {s : State} {m : MethodId} {args : Array Value} {below : List Frame} {meth : Method} {c : Code} {H : Heap} {locs : List Loc} {Q : State → Prop} {cells slots : Nat}
variable {ls : Array Slot} {D : va_G} {kA : Nat → ClassId} {V Z : Nat → Nat} {A : Nat → Prop} {N d : Nat} {w : CSt}
/-- the contracts of the group, at a depth -/
def RecOK_TE (l : Launch) (D : va_G) (kA : Nat → ClassId) (V Z : Nat → Nat) (d : Nat) (ro : Nat → Nat → Int32 → Int32 → CSt → Option (Sum Nat Int32 × CSt)) : Prop := (∀ (u : CSt) (sz : Nat) (y : Sum Nat Int32) (w : CSt), ro 0 0 0 0 u = some (y, w) → vx_Met l yX8_expression (Cond.code yX8_expression cX8_expression 7 (some .int) :: GW) { frames := d + 20, cells := 1, slots := 6, locals := 60 * d + 700 } (cPc D kA V Z [.ref (Z 229)] u sz) (cQix D kA Z u sz y w) (cXc D kA Z u sz y w) 1 6 (va_A (CW kA Z u) sz)) ∧ (∀ (u : CSt) (sz : Nat) (y : Sum Nat Int32) (w : CSt), ro 1 0 0 0 u = some (y, w) → vx_Met l yX8_operators (Cond.code yX8_operators cX8_operators 5 (some .int) :: GW) { frames := d + 20, cells := 1, slots := 6, locals := 60 * d + 700 } (cPc D kA V Z [.ref (Z 229)] u sz) (cQix D kA Z u sz y w) (cXc D kA Z u sz y w) 1 6 (va_A (CW kA Z u) sz)) ∧ (∀ (u : CSt) (sz : Nat) (y : Sum Nat Int32) (w : CSt), ro 2 0 0 0 u = some (y, w) → vx_Met l yX8_operand (Cond.code yX8_operand cX8_operand 2 (some .int) :: GW) { frames := d + 20, cells := 1, slots := 6, locals := 60 * d + 700 } (cPc D kA V Z [.ref (Z 229)] u sz) (cQix D kA Z u sz y w) (cXc D kA Z u sz y w) 1 6 (va_A (CW kA Z u) sz)) ∧ (∀ (l1 : Int32) (u : CSt) (sz : Nat) (y : Sum Nat Int32) (w : CSt), ro 3 0 l1 0 u = some (y, w) → vx_Met l yX8_signed (Cond.code yX8_signed cX8_signed 6 (some .int) :: GW) { frames := d + 20, cells := 1, slots := 6, locals := 60 * d + 700 } (cPc D kA V Z [.ref (Z 229), .int l1] u sz) (cQix D kA Z u sz y w) (cXc D kA Z u sz y w) 1 6 (va_A (CW kA Z u) sz)) ∧ (∀ (l1 : Int32) (u : CSt) (sz : Nat) (y : Sum Nat Int32) (w : CSt), ro 4 0 l1 0 u = some (y, w) → vx_Met l yX8_bracket (Cond.code yX8_bracket cX8_bracket 3 (some .int) :: GW) { frames := d + 20, cells := 1, slots := 6, locals := 60 * d + 700 } (cPc D kA V Z [.ref (Z 229), .int l1] u sz) (cQix D kA Z u sz y w) (cXc D kA Z u sz y w) 1 6 (va_A (CW kA Z u) sz)) ∧ (∀ (l1 : Int32) (u : CSt) (sz : Nat) (y : Sum Nat Int32) (w : CSt), ro 5 0 l1 0 u = some (y, w) → vx_Met l yX8_named (Cond.code yX8_named cX8_named 3 (some .int) :: GW) { frames := d + 20, cells := 1, slots := 6, locals := 60 * d + 700 } (cPc D kA V Z [.ref (Z 229), .int l1] u sz) (cQix D kA Z u sz y w) (cXc D kA Z u sz y w) 1 6 (va_A (CW kA Z u) sz)) ∧ (∀ (l1 : Int32) (u : CSt) (sz : Nat) (y : Sum Nat Int32) (w : CSt), ro 6 0 l1 0 u = some (y, w) → vx_Met l yX8_ofPlace (Cond.code yX8_ofPlace cX8_ofPlace 3 (some .int) :: GW) { frames := d + 20, cells := 1, slots := 6, locals := 60 * d + 700 } (cPc D kA V Z [.ref (Z 229), .int l1] u sz) (cQix D kA Z u sz y w) (cXc D kA Z u sz y w) 1 6 (va_A (CW kA Z u) sz)) ∧ (∀ (l1 : Int32) (u : CSt) (sz : Nat) (y : Sum Nat Int32) (w : CSt), ro 7 0 l1 0 u = some (y, w) → vx_Met l yX8_ofInstance (Cond.code yX8_ofInstance cX8_ofInstance 6 (some .int) :: GW) { frames := d + 20, cells := 1, slots := 6, locals := 60 * d + 700 } (cPc D kA V Z [.ref (Z 229), .int l1] u sz) (cQix D kA Z u sz y w) (cXc D kA Z u sz y w) 1 6 (va_A (CW kA Z u) sz)) ∧ (∀ (l1 : Int32) (u : CSt) (sz : Nat) (y : Sum Nat Int32) (w : CSt), ro 8 0 l1 0 u = some (y, w) → vx_Met l yX8_called (Cond.code yX8_called cX8_called 3 (some .int) :: GW) { frames := d + 20, cells := 1, slots := 6, locals := 60 * d + 700 } (cPc D kA V Z [.ref (Z 229), .int l1] u sz) (cQix D kA Z u sz y w) (cXc D kA Z u sz y w) 1 6 (va_A (CW kA Z u) sz)) ∧ (∀ (l1 : Nat) (l2 : Int32) (u : CSt) (sz : Nat) (y : Sum Nat Int32) (w : CSt), l1 < 338 → ro 9 l1 l2 0 u = some (y, w) → vx_Met l yX8_builtIn (Cond.code yX8_builtIn cX8_builtIn 9 (some .int) :: GW) { frames := d + 20, cells := 1, slots := 6, locals := 60 * d + 700 } (cPc D kA V Z [.ref (Z 229), .ref (Z (1000 + l1)), .int l2] u sz) (cQix D kA Z u sz y w) (cXc D kA Z u sz y w) 1 6 (va_A (CW kA Z u) sz)) ∧ (∀ (l1 : Nat) (l2 : Int32) (l3 : Int32) (u : CSt) (sz : Nat) (y : Sum Nat Int32) (w : CSt), l1 < 338 → ro 10 l1 l2 l3 u = some (y, w) → vx_Met l yX8_arguments (Cond.code yX8_arguments cX8_arguments 8 none :: GW) { frames := d + 20, cells := 1, slots := 6, locals := 60 * d + 700 } (cPc D kA V Z [.ref (Z 229), .ref (Z (1000 + l1)), .int l2, .int l3] u sz) (cQvx D kA Z u sz y w) (cXc D kA Z u sz y w) 1 6 (va_A (CW kA Z u) sz)) ∧ (∀ (l1 : Nat) (l2 : Int32) (u : CSt) (sz : Nat) (y : Sum Nat Int32) (w : CSt), l1 < 338 → ro 11 l1 l2 0 u = some (y, w) → vx_Met l yX8_index (Cond.code yX8_index cX8_index 3 none :: GW) { frames := d + 20, cells := 1, slots := 6, locals := 60 * d + 700 } (cPc D kA V Z [.ref (Z 229), .ref (Z (1000 + l1)), .int l2] u sz) (cQvx D kA Z u sz y w) (cXc D kA Z u sz y w) 1 6 (va_A (CW kA Z u) sz)) ∧ (∀ (u : CSt) (sz : Nat) (y : Sum Nat Int32) (w : CSt), ro 12 0 0 0 u = some (y, w) → vx_Met l yX8_indexNumber (Cond.code yX8_indexNumber cX8_indexNumber 2 none :: GW) { frames := d + 20, cells := 1, slots := 6, locals := 60 * d + 700 } (cPc D kA V Z [.ref (Z 229)] u sz) (cQvx D kA Z u sz y w) (cXc D kA Z u sz y w) 1 6 (va_A (CW kA Z u) sz))
theorem kc_X8_expression {cc : ByteArray} {pc nL : Nat} {c0 : Cond} {rest : List Value} {ro : Nat → Nat → Int32 → Int32 → CSt → Option (Sum Nat Int32 × CSt)} {u w1 : CSt} {y1 : Sum Nat Int32} (X : CC p s m args c cc nL c0 RX8 D kA V A) (hrec : RecOK_TE l D kA V Z d ro)  (hS : CS D kA Z A s u H locs) (h : ro 0 0 0 0 u = some (y1, w1)) (hF : d + 1 + 20 ≤ R.frames) (hL : 60 * (d + 1) + 700 ≤ R.locals) (hC : 1 ≤ R.cells ∧ 6 ≤ R.slots) (hl : ls.size = nL) (hc : (rest.map fun v => v.category).sum ≤ 8) (hdg : decode cc pc = .ok (.invokevirtual 125, 3)) (kk : ∀ r, y1 = .inr r → ∀ H locs, CS D kA Z A s w1 H locs → W p l e R s m args below meth c H locs 0 0 Q (F0 m (pc + 3) ls (.int r :: rest))) (kx : ∀ x, y1 = .inl x → ∀ (H : Heap) (locs : List Loc) (q : Addr) (ce : Cell), CS D kA Z A s w1 H locs → H[q]? = some ce → ce.vm = .none → s.vm.findClass (exN x) = some ce.cls → vx_W p l e R s m args below meth c H locs 1 6 Q (F0 m pc ls rest) q) : W p l e R s m args below meth c H locs 0 0 Q (F0 m pc ls (.ref (Z 229) :: rest)) :=
  ccall_ix (n := 0)  X hS (hrec.1 u H.size _ _  h) (gw_V gw_1153 gw_1123 gw_1124 gw_14 gw_1125) (by decide +kernel) (va_recv X.2.1 hS.1 (ci := 7) (q0 := 29) rfl (cw_lit rfl)) (rc_fr hF) (rc_lo hL (Nat.le_of_ble_eq_true rfl)) hC rfl hl hc rfl hdg kk kx
theorem kc_X8_operators {cc : ByteArray} {pc nL : Nat} {c0 : Cond} {rest : List Value} {ro : Nat → Nat → Int32 → Int32 → CSt → Option (Sum Nat Int32 × CSt)} {u w1 : CSt} {y1 : Sum Nat Int32} (X : CC p s m args c cc nL c0 RX8 D kA V A) (hrec : RecOK_TE l D kA V Z d ro)  (hS : CS D kA Z A s u H locs) (h : ro 1 0 0 0 u = some (y1, w1)) (hF : d + 1 + 20 ≤ R.frames) (hL : 60 * (d + 1) + 700 ≤ R.locals) (hC : 1 ≤ R.cells ∧ 6 ≤ R.slots) (hl : ls.size = nL) (hc : (rest.map fun v => v.category).sum ≤ 8) (hdg : decode cc pc = .ok (.invokevirtual 111, 3)) (kk : ∀ r, y1 = .inr r → ∀ H locs, CS D kA Z A s w1 H locs → W p l e R s m args below meth c H locs 0 0 Q (F0 m (pc + 3) ls (.int r :: rest))) (kx : ∀ x, y1 = .inl x → ∀ (H : Heap) (locs : List Loc) (q : Addr) (ce : Cell), CS D kA Z A s w1 H locs → H[q]? = some ce → ce.vm = .none → s.vm.findClass (exN x) = some ce.cls → vx_W p l e R s m args below meth c H locs 1 6 Q (F0 m pc ls rest) q) : W p l e R s m args below meth c H locs 0 0 Q (F0 m pc ls (.ref (Z 229) :: rest)) :=
  ccall_ix (n := 0)  X hS (hrec.2.1 u H.size _ _  h) (gw_V gw_1126 gw_1128 gs_4_5 gw_14 gw_1129) (by decide +kernel) (va_recv X.2.1 hS.1 (ci := 7) (q0 := 29) rfl (cw_lit rfl)) (rc_fr hF) (rc_lo hL (Nat.le_of_ble_eq_true rfl)) hC rfl hl hc rfl hdg kk kx
theorem kc_X8_operand {cc : ByteArray} {pc nL : Nat} {c0 : Cond} {rest : List Value} {ro : Nat → Nat → Int32 → Int32 → CSt → Option (Sum Nat Int32 × CSt)} {u w1 : CSt} {y1 : Sum Nat Int32} (X : CC p s m args c cc nL c0 RX8 D kA V A) (hrec : RecOK_TE l D kA V Z d ro)  (hS : CS D kA Z A s u H locs) (h : ro 2 0 0 0 u = some (y1, w1)) (hF : d + 1 + 20 ≤ R.frames) (hL : 60 * (d + 1) + 700 ≤ R.locals) (hC : 1 ≤ R.cells ∧ 6 ≤ R.slots) (hl : ls.size = nL) (hc : (rest.map fun v => v.category).sum ≤ 8) (hdg : decode cc pc = .ok (.invokevirtual 136, 3)) (kk : ∀ r, y1 = .inr r → ∀ H locs, CS D kA Z A s w1 H locs → W p l e R s m args below meth c H locs 0 0 Q (F0 m (pc + 3) ls (.int r :: rest))) (kx : ∀ x, y1 = .inl x → ∀ (H : Heap) (locs : List Loc) (q : Addr) (ce : Cell), CS D kA Z A s w1 H locs → H[q]? = some ce → ce.vm = .none → s.vm.findClass (exN x) = some ce.cls → vx_W p l e R s m args below meth c H locs 1 6 Q (F0 m pc ls rest) q) : W p l e R s m args below meth c H locs 0 0 Q (F0 m pc ls (.ref (Z 229) :: rest)) :=
  ccall_ix (n := 0)  X hS (hrec.2.2.1 u H.size _ _  h) (gw_V gw_1130 gw_1132 gs_4_6 gw_14 gw_1133) (by decide +kernel) (va_recv X.2.1 hS.1 (ci := 7) (q0 := 29) rfl (cw_lit rfl)) (rc_fr hF) (rc_lo hL (Nat.le_of_ble_eq_true rfl)) hC rfl hl hc rfl hdg kk kx
theorem kc_X8_signed {cc : ByteArray} {pc nL : Nat} {c0 : Cond} {rest : List Value} {ro : Nat → Nat → Int32 → Int32 → CSt → Option (Sum Nat Int32 × CSt)} {l1 : Int32} {u w1 : CSt} {y1 : Sum Nat Int32} (X : CC p s m args c cc nL c0 RX8 D kA V A) (hrec : RecOK_TE l D kA V Z d ro)  (hS : CS D kA Z A s u H locs) (h : ro 3 0 l1 0 u = some (y1, w1)) (hF : d + 1 + 20 ≤ R.frames) (hL : 60 * (d + 1) + 700 ≤ R.locals) (hC : 1 ≤ R.cells ∧ 6 ≤ R.slots) (hl : ls.size = nL) (hc : (rest.map fun v => v.category).sum ≤ 8) (hdg : decode cc pc = .ok (.invokevirtual 165, 3)) (kk : ∀ r, y1 = .inr r → ∀ H locs, CS D kA Z A s w1 H locs → W p l e R s m args below meth c H locs 0 0 Q (F0 m (pc + 3) ls (.int r :: rest))) (kx : ∀ x, y1 = .inl x → ∀ (H : Heap) (locs : List Loc) (q : Addr) (ce : Cell), CS D kA Z A s w1 H locs → H[q]? = some ce → ce.vm = .none → s.vm.findClass (exN x) = some ce.cls → vx_W p l e R s m args below meth c H locs 1 6 Q (F0 m pc ls rest) q) : W p l e R s m args below meth c H locs 0 0 Q (F0 m pc ls (.int l1 :: .ref (Z 229) :: rest)) :=
  ccall_ix (n := 1)  X hS (hrec.2.2.2.1 l1 u H.size _ _  h) (gw_V gw_1136 gw_1138 gs_4_7 gw_14 gw_1139) (by decide +kernel) (va_recv X.2.1 hS.1 (ci := 7) (q0 := 29) rfl (cw_lit rfl)) (rc_fr hF) (rc_lo hL (Nat.le_of_ble_eq_true rfl)) hC rfl hl hc rfl hdg kk kx
theorem kc_X8_bracket {cc : ByteArray} {pc nL : Nat} {c0 : Cond} {rest : List Value} {ro : Nat → Nat → Int32 → Int32 → CSt → Option (Sum Nat Int32 × CSt)} {l1 : Int32} {u w1 : CSt} {y1 : Sum Nat Int32} (X : CC p s m args c cc nL c0 RX8 D kA V A) (hrec : RecOK_TE l D kA V Z d ro)  (hS : CS D kA Z A s u H locs) (h : ro 4 0 l1 0 u = some (y1, w1)) (hF : d + 1 + 20 ≤ R.frames) (hL : 60 * (d + 1) + 700 ≤ R.locals) (hC : 1 ≤ R.cells ∧ 6 ≤ R.slots) (hl : ls.size = nL) (hc : (rest.map fun v => v.category).sum ≤ 8) (hdg : decode cc pc = .ok (.invokevirtual 168, 3)) (kk : ∀ r, y1 = .inr r → ∀ H locs, CS D kA Z A s w1 H locs → W p l e R s m args below meth c H locs 0 0 Q (F0 m (pc + 3) ls (.int r :: rest))) (kx : ∀ x, y1 = .inl x → ∀ (H : Heap) (locs : List Loc) (q : Addr) (ce : Cell), CS D kA Z A s w1 H locs → H[q]? = some ce → ce.vm = .none → s.vm.findClass (exN x) = some ce.cls → vx_W p l e R s m args below meth c H locs 1 6 Q (F0 m pc ls rest) q) : W p l e R s m args below meth c H locs 0 0 Q (F0 m pc ls (.int l1 :: .ref (Z 229) :: rest)) :=
  ccall_ix (n := 1)  X hS (hrec.2.2.2.2.1 l1 u H.size _ _  h) (gw_V gw_1148 gw_1150 gs_4_8 gw_14 gw_1151) (by decide +kernel) (va_recv X.2.1 hS.1 (ci := 7) (q0 := 29) rfl (cw_lit rfl)) (rc_fr hF) (rc_lo hL (Nat.le_of_ble_eq_true rfl)) hC rfl hl hc rfl hdg kk kx
theorem kc_X8_named {cc : ByteArray} {pc nL : Nat} {c0 : Cond} {rest : List Value} {ro : Nat → Nat → Int32 → Int32 → CSt → Option (Sum Nat Int32 × CSt)} {l1 : Int32} {u w1 : CSt} {y1 : Sum Nat Int32} (X : CC p s m args c cc nL c0 RX8 D kA V A) (hrec : RecOK_TE l D kA V Z d ro)  (hS : CS D kA Z A s u H locs) (h : ro 5 0 l1 0 u = some (y1, w1)) (hF : d + 1 + 20 ≤ R.frames) (hL : 60 * (d + 1) + 700 ≤ R.locals) (hC : 1 ≤ R.cells ∧ 6 ≤ R.slots) (hl : ls.size = nL) (hc : (rest.map fun v => v.category).sum ≤ 8) (hdg : decode cc pc = .ok (.invokevirtual 174, 3)) (kk : ∀ r, y1 = .inr r → ∀ H locs, CS D kA Z A s w1 H locs → W p l e R s m args below meth c H locs 0 0 Q (F0 m (pc + 3) ls (.int r :: rest))) (kx : ∀ x, y1 = .inl x → ∀ (H : Heap) (locs : List Loc) (q : Addr) (ce : Cell), CS D kA Z A s w1 H locs → H[q]? = some ce → ce.vm = .none → s.vm.findClass (exN x) = some ce.cls → vx_W p l e R s m args below meth c H locs 1 6 Q (F0 m pc ls rest) q) : W p l e R s m args below meth c H locs 0 0 Q (F0 m pc ls (.int l1 :: .ref (Z 229) :: rest)) :=
  ccall_ix (n := 1)  X hS (hrec.2.2.2.2.2.1 l1 u H.size _ _  h) (gw_V gw_1165 gw_1167 gs_4_10 gw_14 gw_1168) (by decide +kernel) (va_recv X.2.1 hS.1 (ci := 7) (q0 := 29) rfl (cw_lit rfl)) (rc_fr hF) (rc_lo hL (Nat.le_of_ble_eq_true rfl)) hC rfl hl hc rfl hdg kk kx
theorem kc_X8_ofPlace {cc : ByteArray} {pc nL : Nat} {c0 : Cond} {rest : List Value} {ro : Nat → Nat → Int32 → Int32 → CSt → Option (Sum Nat Int32 × CSt)} {l1 : Int32} {u w1 : CSt} {y1 : Sum Nat Int32} (X : CC p s m args c cc nL c0 RX8 D kA V A) (hrec : RecOK_TE l D kA V Z d ro)  (hS : CS D kA Z A s u H locs) (h : ro 6 0 l1 0 u = some (y1, w1)) (hF : d + 1 + 20 ≤ R.frames) (hL : 60 * (d + 1) + 700 ≤ R.locals) (hC : 1 ≤ R.cells ∧ 6 ≤ R.slots) (hl : ls.size = nL) (hc : (rest.map fun v => v.category).sum ≤ 8) (hdg : decode cc pc = .ok (.invokevirtual 205, 3)) (kk : ∀ r, y1 = .inr r → ∀ H locs, CS D kA Z A s w1 H locs → W p l e R s m args below meth c H locs 0 0 Q (F0 m (pc + 3) ls (.int r :: rest))) (kx : ∀ x, y1 = .inl x → ∀ (H : Heap) (locs : List Loc) (q : Addr) (ce : Cell), CS D kA Z A s w1 H locs → H[q]? = some ce → ce.vm = .none → s.vm.findClass (exN x) = some ce.cls → vx_W p l e R s m args below meth c H locs 1 6 Q (F0 m pc ls rest) q) : W p l e R s m args below meth c H locs 0 0 Q (F0 m pc ls (.int l1 :: .ref (Z 229) :: rest)) :=
  ccall_ix (n := 1)  X hS (hrec.2.2.2.2.2.2.1 l1 u H.size _ _  h) (gw_V gw_1212 gw_1214 gs_4_15 gw_14 gw_1215) (by decide +kernel) (va_recv X.2.1 hS.1 (ci := 7) (q0 := 29) rfl (cw_lit rfl)) (rc_fr hF) (rc_lo hL (Nat.le_of_ble_eq_true rfl)) hC rfl hl hc rfl hdg kk kx
theorem kc_X8_ofInstance {cc : ByteArray} {pc nL : Nat} {c0 : Cond} {rest : List Value} {ro : Nat → Nat → Int32 → Int32 → CSt → Option (Sum Nat Int32 × CSt)} {l1 : Int32} {u w1 : CSt} {y1 : Sum Nat Int32} (X : CC p s m args c cc nL c0 RX8 D kA V A) (hrec : RecOK_TE l D kA V Z d ro)  (hS : CS D kA Z A s u H locs) (h : ro 7 0 l1 0 u = some (y1, w1)) (hF : d + 1 + 20 ≤ R.frames) (hL : 60 * (d + 1) + 700 ≤ R.locals) (hC : 1 ≤ R.cells ∧ 6 ≤ R.slots) (hl : ls.size = nL) (hc : (rest.map fun v => v.category).sum ≤ 8) (hdg : decode cc pc = .ok (.invokevirtual 202, 3)) (kk : ∀ r, y1 = .inr r → ∀ H locs, CS D kA Z A s w1 H locs → W p l e R s m args below meth c H locs 0 0 Q (F0 m (pc + 3) ls (.int r :: rest))) (kx : ∀ x, y1 = .inl x → ∀ (H : Heap) (locs : List Loc) (q : Addr) (ce : Cell), CS D kA Z A s w1 H locs → H[q]? = some ce → ce.vm = .none → s.vm.findClass (exN x) = some ce.cls → vx_W p l e R s m args below meth c H locs 1 6 Q (F0 m pc ls rest) q) : W p l e R s m args below meth c H locs 0 0 Q (F0 m pc ls (.int l1 :: .ref (Z 229) :: rest)) :=
  ccall_ix (n := 1)  X hS (hrec.2.2.2.2.2.2.2.1 l1 u H.size _ _  h) (gw_V gw_1204 gw_1206 gs_4_13 gw_14 gw_1207) (by decide +kernel) (va_recv X.2.1 hS.1 (ci := 7) (q0 := 29) rfl (cw_lit rfl)) (rc_fr hF) (rc_lo hL (Nat.le_of_ble_eq_true rfl)) hC rfl hl hc rfl hdg kk kx
theorem kc_X8_called {cc : ByteArray} {pc nL : Nat} {c0 : Cond} {rest : List Value} {ro : Nat → Nat → Int32 → Int32 → CSt → Option (Sum Nat Int32 × CSt)} {l1 : Int32} {u w1 : CSt} {y1 : Sum Nat Int32} (X : CC p s m args c cc nL c0 RX8 D kA V A) (hrec : RecOK_TE l D kA V Z d ro)  (hS : CS D kA Z A s u H locs) (h : ro 8 0 l1 0 u = some (y1, w1)) (hF : d + 1 + 20 ≤ R.frames) (hL : 60 * (d + 1) + 700 ≤ R.locals) (hC : 1 ≤ R.cells ∧ 6 ≤ R.slots) (hl : ls.size = nL) (hc : (rest.map fun v => v.category).sum ≤ 8) (hdg : decode cc pc = .ok (.invokevirtual 199, 3)) (kk : ∀ r, y1 = .inr r → ∀ H locs, CS D kA Z A s w1 H locs → W p l e R s m args below meth c H locs 0 0 Q (F0 m (pc + 3) ls (.int r :: rest))) (kx : ∀ x, y1 = .inl x → ∀ (H : Heap) (locs : List Loc) (q : Addr) (ce : Cell), CS D kA Z A s w1 H locs → H[q]? = some ce → ce.vm = .none → s.vm.findClass (exN x) = some ce.cls → vx_W p l e R s m args below meth c H locs 1 6 Q (F0 m pc ls rest) q) : W p l e R s m args below meth c H locs 0 0 Q (F0 m pc ls (.int l1 :: .ref (Z 229) :: rest)) :=
  ccall_ix (n := 1)  X hS (hrec.2.2.2.2.2.2.2.2.1 l1 u H.size _ _  h) (gw_V gw_1170 gw_1172 gs_4_11 gw_14 gw_1173) (by decide +kernel) (va_recv X.2.1 hS.1 (ci := 7) (q0 := 29) rfl (cw_lit rfl)) (rc_fr hF) (rc_lo hL (Nat.le_of_ble_eq_true rfl)) hC rfl hl hc rfl hdg kk kx
theorem kc_X8_builtIn {cc : ByteArray} {pc nL : Nat} {c0 : Cond} {rest : List Value} {ro : Nat → Nat → Int32 → Int32 → CSt → Option (Sum Nat Int32 × CSt)} {l1 : Nat} {l2 : Int32} {u w1 : CSt} {y1 : Sum Nat Int32} (X : CC p s m args c cc nL c0 RX8 D kA V A) (hrec : RecOK_TE l D kA V Z d ro) (h_l1 : l1 < 338) (hS : CS D kA Z A s u H locs) (h : ro 9 l1 l2 0 u = some (y1, w1)) (hF : d + 1 + 20 ≤ R.frames) (hL : 60 * (d + 1) + 700 ≤ R.locals) (hC : 1 ≤ R.cells ∧ 6 ≤ R.slots) (hl : ls.size = nL) (hc : (rest.map fun v => v.category).sum ≤ 8) (hdg : decode cc pc = .ok (.invokevirtual 238, 3)) (kk : ∀ r, y1 = .inr r → ∀ H locs, CS D kA Z A s w1 H locs → W p l e R s m args below meth c H locs 0 0 Q (F0 m (pc + 3) ls (.int r :: rest))) (kx : ∀ x, y1 = .inl x → ∀ (H : Heap) (locs : List Loc) (q : Addr) (ce : Cell), CS D kA Z A s w1 H locs → H[q]? = some ce → ce.vm = .none → s.vm.findClass (exN x) = some ce.cls → vx_W p l e R s m args below meth c H locs 1 6 Q (F0 m pc ls rest) q) : W p l e R s m args below meth c H locs 0 0 Q (F0 m pc ls (.int l2 :: .ref (Z (1000 + l1)) :: .ref (Z 229) :: rest)) :=
  ccall_ix (n := 2)  X hS (hrec.2.2.2.2.2.2.2.2.2.1 l1 l2 u H.size _ _ h_l1 h) (gw_V gw_1184 gw_1186 gs_4_12 gw_14 gw_1187) (by decide +kernel) (va_recv X.2.1 hS.1 (ci := 7) (q0 := 29) rfl (cw_lit rfl)) (rc_fr hF) (rc_lo hL (Nat.le_of_ble_eq_true rfl)) hC rfl hl hc rfl hdg kk kx
theorem kc_X8_arguments {cc : ByteArray} {pc nL : Nat} {c0 : Cond} {rest : List Value} {ro : Nat → Nat → Int32 → Int32 → CSt → Option (Sum Nat Int32 × CSt)} {l1 : Nat} {l2 : Int32} {l3 : Int32} {u w1 : CSt} {y1 : Sum Nat Int32} (X : CC p s m args c cc nL c0 RX8 D kA V A) (hrec : RecOK_TE l D kA V Z d ro) (h_l1 : l1 < 338) (hS : CS D kA Z A s u H locs) (h : ro 10 l1 l2 l3 u = some (y1, w1)) (hF : d + 1 + 20 ≤ R.frames) (hL : 60 * (d + 1) + 700 ≤ R.locals) (hC : 1 ≤ R.cells ∧ 6 ≤ R.slots) (hl : ls.size = nL) (hc : (rest.map fun v => v.category).sum ≤ 8) (hdg : decode cc pc = .ok (.invokevirtual 242, 3)) (kk : ∀ r, y1 = .inr r → ∀ H locs, CS D kA Z A s w1 H locs → W p l e R s m args below meth c H locs 0 0 Q (F0 m (pc + 3) ls (rest))) (kx : ∀ x, y1 = .inl x → ∀ (H : Heap) (locs : List Loc) (q : Addr) (ce : Cell), CS D kA Z A s w1 H locs → H[q]? = some ce → ce.vm = .none → s.vm.findClass (exN x) = some ce.cls → vx_W p l e R s m args below meth c H locs 1 6 Q (F0 m pc ls rest) q) : W p l e R s m args below meth c H locs 0 0 Q (F0 m pc ls (.int l3 :: .int l2 :: .ref (Z (1000 + l1)) :: .ref (Z 229) :: rest)) :=
  ccall_vx (n := 3)  X hS (hrec.2.2.2.2.2.2.2.2.2.2.1 l1 l2 l3 u H.size _ _ h_l1 h) (gw_V gw_1188 gw_1189 gw_1190 gw_14 gw_1191) (by decide +kernel) (va_recv X.2.1 hS.1 (ci := 7) (q0 := 29) rfl (cw_lit rfl)) (rc_fr hF) (rc_lo hL (Nat.le_of_ble_eq_true rfl)) hC rfl hl hc rfl hdg kk kx
theorem kc_X8_index {cc : ByteArray} {pc nL : Nat} {c0 : Cond} {rest : List Value} {ro : Nat → Nat → Int32 → Int32 → CSt → Option (Sum Nat Int32 × CSt)} {l1 : Nat} {l2 : Int32} {u w1 : CSt} {y1 : Sum Nat Int32} (X : CC p s m args c cc nL c0 RX8 D kA V A) (hrec : RecOK_TE l D kA V Z d ro) (h_l1 : l1 < 338) (hS : CS D kA Z A s u H locs) (h : ro 11 l1 l2 0 u = some (y1, w1)) (hF : d + 1 + 20 ≤ R.frames) (hL : 60 * (d + 1) + 700 ≤ R.locals) (hC : 1 ≤ R.cells ∧ 6 ≤ R.slots) (hl : ls.size = nL) (hc : (rest.map fun v => v.category).sum ≤ 8) (hdg : decode cc pc = .ok (.invokevirtual 212, 3)) (kk : ∀ r, y1 = .inr r → ∀ H locs, CS D kA Z A s w1 H locs → W p l e R s m args below meth c H locs 0 0 Q (F0 m (pc + 3) ls (rest))) (kx : ∀ x, y1 = .inl x → ∀ (H : Heap) (locs : List Loc) (q : Addr) (ce : Cell), CS D kA Z A s w1 H locs → H[q]? = some ce → ce.vm = .none → s.vm.findClass (exN x) = some ce.cls → vx_W p l e R s m args below meth c H locs 1 6 Q (F0 m pc ls rest) q) : W p l e R s m args below meth c H locs 0 0 Q (F0 m pc ls (.int l2 :: .ref (Z (1000 + l1)) :: .ref (Z 229) :: rest)) :=
  ccall_vx (n := 2)  X hS (hrec.2.2.2.2.2.2.2.2.2.2.2.1 l1 l2 u H.size _ _ h_l1 h) (gw_V gw_1232 gw_1233 gw_1234 gw_14 gw_1235) (by decide +kernel) (va_recv X.2.1 hS.1 (ci := 7) (q0 := 29) rfl (cw_lit rfl)) (rc_fr hF) (rc_lo hL (Nat.le_of_ble_eq_true rfl)) hC rfl hl hc rfl hdg kk kx
theorem kc_X8_indexNumber {cc : ByteArray} {pc nL : Nat} {c0 : Cond} {rest : List Value} {ro : Nat → Nat → Int32 → Int32 → CSt → Option (Sum Nat Int32 × CSt)} {u w1 : CSt} {y1 : Sum Nat Int32} (X : CC p s m args c cc nL c0 RX8 D kA V A) (hrec : RecOK_TE l D kA V Z d ro)  (hS : CS D kA Z A s u H locs) (h : ro 12 0 0 0 u = some (y1, w1)) (hF : d + 1 + 20 ≤ R.frames) (hL : 60 * (d + 1) + 700 ≤ R.locals) (hC : 1 ≤ R.cells ∧ 6 ≤ R.slots) (hl : ls.size = nL) (hc : (rest.map fun v => v.category).sum ≤ 8) (hdg : decode cc pc = .ok (.invokevirtual 232, 3)) (kk : ∀ r, y1 = .inr r → ∀ H locs, CS D kA Z A s w1 H locs → W p l e R s m args below meth c H locs 0 0 Q (F0 m (pc + 3) ls (rest))) (kx : ∀ x, y1 = .inl x → ∀ (H : Heap) (locs : List Loc) (q : Addr) (ce : Cell), CS D kA Z A s w1 H locs → H[q]? = some ce → ce.vm = .none → s.vm.findClass (exN x) = some ce.cls → vx_W p l e R s m args below meth c H locs 1 6 Q (F0 m pc ls rest) q) : W p l e R s m args below meth c H locs 0 0 Q (F0 m pc ls (.ref (Z 229) :: rest)) :=
  ccall_vx (n := 0)  X hS (hrec.2.2.2.2.2.2.2.2.2.2.2.2 u H.size _ _  h) (gw_V gw_1208 gw_1210 gs_4_14 gw_14 gw_1211) (by decide +kernel) (va_recv X.2.1 hS.1 (ci := 7) (q0 := 29) rfl (cw_lit rfl)) (rc_fr hF) (rc_lo hL (Nat.le_of_ble_eq_true rfl)) hC rfl hl hc rfl hdg kk kx
def B_X8_expression_0 (N : Nat) (ro : Nat → Nat → Int32 → Int32 → CSt → Option (Sum Nat Int32 × CSt)) (u : CSt) : Option ((Sum Nat Int32) × CSt) := bt (ro 1 0 0 0 u) fun r_2 u_1 => bc (F_X9_is N 63 u_1) fun r_5 u_4 => if r_5 = (0 : Int32) then (some (.inr r_2, u_4)) else (bc (F_X9_here N u_4) fun r_8 u_7 => ok (cR u_7 3 < 2) inferInstance <| bc (F_X6_step N (cR u_7 3) 95 (-1) 0 r_8 u_7) fun r_11 u_10 => bc (F_X9_next N u_10) fun _ u_12 => bt (ro 0 0 0 0 u_12) fun r_14 u_13 => ok (cR u_13 3 < 2) inferInstance <| bc (F_X6_step N (cR u_13 3) 30 (-1) 0 r_8 u_13) fun r_18 u_17 => ok (cR u_17 3 < 2) inferInstance <| bc (F_X6_land N (cR u_17 3) r_11 u_17) fun _ u_20 => bc (F_X9_next N u_20) fun _ u_21 => bt (ro 0 0 0 0 u_21) fun r_23 u_22 => ok (cR u_22 3 < 2) inferInstance <| bc (F_X6_land N (cR u_22 3) r_18 u_22) fun _ u_26 => pc (xI u_26 17 0) fun u_27 => some (.inr (n_as r_14 r_23), u_27))
set_option maxHeartbeats 4000000 in
theorem b_X8_expression_0 {y : (Sum Nat Int32)} {ro : Nat → Nat → Int32 → Int32 → CSt → Option (Sum Nat Int32 × CSt)} (X : CC p s m args c cX8_expression 7 (Cond.code yX8_expression cX8_expression 7 (some .int)) RX8 D kA V A) (hE : CEix p l e R s m args below meth c cX8_expression D kA Z A Q y w) (hst : l.stackTraces = false) (hX : CX p l e R s m args below meth c D kA Z A Q y w) (hC : 1 ≤ R.cells ∧ 6 ≤ R.slots) (hF : 1 ≤ R.frames) (hL : 24 ≤ R.locals) (hrec : RecOK_TE l D kA V Z d ro) (hFd : d + 1 + 20 ≤ R.frames) (hLd : 60 * (d + 1) + 700 ≤ R.locals) {u : CSt}  (h : B_X8_expression_0 N ro u = some (y, w))  (hS : CS D kA Z A s u H locs) (hl : lv_has ls 7 [(0, .ref (Z 229))]) : W p l e R s m args below meth c H locs 0 0 Q (F0 m 0 ls []) := by
  obtain ⟨⟨hx, hb, hml, hown, hts⟩, hK, hEV, hA⟩ := id X
  have hG : ∀ w ∈ GW, w.before args s = true := fun w h => hts w (List.mem_cons_of_mem _ h)
  unfold B_X8_expression_0 at h
  refine lv_aload_n hx hb dX8_expression_0 rfl (lv_at hl 0 rfl) ?_
  obtain ⟨y_3, u_1, h_u_1, h⟩ := bt_of h
  refine kc_X8_operators X hrec  hS h_u_1 hFd hLd hC hl.1 (Nat.le_of_ble_eq_true rfl) dX8_expression_1 (fun r_2 hr_u_1 H locs hS => ?_) (fun x9 hn H locs q9 ce hS a1 a2 a3 => by obtain ⟨e2, rfl⟩ := bt_no h hn; exact hX _ e2 _ _ _ _ _ _ _ hS a1 a2 a3)
  replace h := bt_ok h hr_u_1
  refine lv_istore_n (lv' := [(1, .int r_2), (0, .ref (Z 229))]) hx hb dX8_expression_4 rfl hl (by decide) rfl (fun ls hl => ?_)
  refine lv_aload_n hx hb dX8_expression_5 rfl (lv_at hl 1 rfl) ?_
  refine cg_X8_24 X hS dX8_expression_6 ?_
  refine lv_bipush (v := 63) hx hb dX8_expression_9 (by decide) ?_
  obtain ⟨r_5, u_4, h_u_4, h⟩ := bc_of h
  refine kc_X9_is_RX8 X  hS h_u_4 (Nat.le_trans (Nat.le_of_ble_eq_true rfl) hF) (Nat.le_trans (Nat.le_of_ble_eq_true rfl) hL) hl.1 (Nat.le_of_ble_eq_true rfl) dX8_expression_11 (fun H locs hS => ?_)
  refine lv_if_ne (tgt := 19) hx hb dX8_expression_14 (by decide) (fun c_6 => ?_) (fun c_6 => ?_)
  · have h := im (c_6) h
    refine lv_aload_n hx hb dX8_expression_19 rfl (lv_at hl 1 rfl) ?_
    refine cg_X8_24 X hS dX8_expression_20 ?_
    obtain ⟨r_8, u_7, h_u_7, h⟩ := bc_of h
    refine kc_X9_here_RX8 X  hS h_u_7 (Nat.le_trans (Nat.le_of_ble_eq_true rfl) hF) (Nat.le_trans (Nat.le_of_ble_eq_true rfl) hL) hl.1 (Nat.le_of_ble_eq_true rfl) dX8_expression_23 (fun H locs hS => ?_)
    refine lv_istore_n (lv' := [(2, .int r_8), (1, .int r_2), (0, .ref (Z 229))]) hx hb dX8_expression_26 rfl hl (by decide) rfl (fun ls hl => ?_)
    refine lv_aload_n hx hb dX8_expression_27 rfl (lv_at hl 2 rfl) ?_
    refine cg_X8_28 X hS dX8_expression_28 ?_
    obtain ⟨z_9, h⟩ := ok_of h
    refine lv_bipush (v := 95) hx hb dX8_expression_31 (by decide) ?_
    refine lv_iconst (v := (-1)) hx hb dX8_expression_33 (by decide) ?_
    refine lv_iconst (v := 0) hx hb dX8_expression_34 (by decide) ?_
    refine lv_iload_n hx hb dX8_expression_35 rfl (lv_at hl 0 rfl) ?_
    obtain ⟨r_11, u_10, h_u_10, h⟩ := bc_of h
    refine kc_X6_step_RX8 X z_9 hS h_u_10 (Nat.le_trans (Nat.le_of_ble_eq_true rfl) hF) (Nat.le_trans (Nat.le_of_ble_eq_true rfl) hL) hl.1 (Nat.le_of_ble_eq_true rfl) dX8_expression_36 (fun H locs hS => ?_)
    refine lv_istore_n (lv' := [(3, .int r_11), (2, .int r_8), (1, .int r_2), (0, .ref (Z 229))]) hx hb dX8_expression_39 rfl hl (by decide) rfl (fun ls hl => ?_)
    refine lv_aload_n hx hb dX8_expression_40 rfl (lv_at hl 3 rfl) ?_
    refine cg_X8_24 X hS dX8_expression_41 ?_
    obtain ⟨r_u_12, u_12, h_u_12, h⟩ := bc_of h
    refine kc_X9_next_RX8 X  hS h_u_12 (Nat.le_trans (Nat.le_of_ble_eq_true rfl) hF) (Nat.le_trans (Nat.le_of_ble_eq_true rfl) hL) hl.1 (Nat.le_of_ble_eq_true rfl) dX8_expression_44 (fun H locs hS => ?_)
    refine lv_aload_n hx hb dX8_expression_47 rfl (lv_at hl 3 rfl) ?_
    obtain ⟨y_15, u_13, h_u_13, h⟩ := bt_of h
    refine kc_X8_expression X hrec  hS h_u_13 hFd hLd hC hl.1 (Nat.le_of_ble_eq_true rfl) dX8_expression_48 (fun r_14 hr_u_13 H locs hS => ?_) (fun x9 hn H locs q9 ce hS a1 a2 a3 => by obtain ⟨e2, rfl⟩ := bt_no h hn; exact hX _ e2 _ _ _ _ _ _ _ hS a1 a2 a3)
    replace h := bt_ok h hr_u_13
    refine lv_istore (lv' := [(4, .int r_14), (3, .int r_11), (2, .int r_8), (1, .int r_2), (0, .ref (Z 229))]) hx hb dX8_expression_51 hl (by decide) rfl (fun ls hl => ?_)
    refine lv_aload_n hx hb dX8_expression_53 rfl (lv_at hl 4 rfl) ?_
    refine cg_X8_28 X hS dX8_expression_54 ?_
    obtain ⟨z_16, h⟩ := ok_of h
    refine lv_bipush (v := 30) hx hb dX8_expression_57 (by decide) ?_
    refine lv_iconst (v := (-1)) hx hb dX8_expression_59 (by decide) ?_
    refine lv_iconst (v := 0) hx hb dX8_expression_60 (by decide) ?_
    refine lv_iload_n hx hb dX8_expression_61 rfl (lv_at hl 2 rfl) ?_
    obtain ⟨r_18, u_17, h_u_17, h⟩ := bc_of h
    refine kc_X6_step_RX8 X z_16 hS h_u_17 (Nat.le_trans (Nat.le_of_ble_eq_true rfl) hF) (Nat.le_trans (Nat.le_of_ble_eq_true rfl) hL) hl.1 (Nat.le_of_ble_eq_true rfl) dX8_expression_62 (fun H locs hS => ?_)
    refine lv_istore (lv' := [(5, .int r_18), (4, .int r_14), (3, .int r_11), (2, .int r_8), (1, .int r_2), (0, .ref (Z 229))]) hx hb dX8_expression_65 hl (by decide) rfl (fun ls hl => ?_)
    refine lv_aload_n hx hb dX8_expression_67 rfl (lv_at hl 5 rfl) ?_
    refine cg_X8_28 X hS dX8_expression_68 ?_
    obtain ⟨z_19, h⟩ := ok_of h
    refine lv_iload_n hx hb dX8_expression_71 rfl (lv_at hl 2 rfl) ?_
    obtain ⟨r_u_20, u_20, h_u_20, h⟩ := bc_of h
    refine kc_X6_land_RX8 X z_19 hS h_u_20 (Nat.le_trans (Nat.le_of_ble_eq_true rfl) hF) (Nat.le_trans (Nat.le_of_ble_eq_true rfl) hL) hl.1 (Nat.le_of_ble_eq_true rfl) dX8_expression_72 (fun H locs hS => ?_)
    refine lv_aload_n hx hb dX8_expression_75 rfl (lv_at hl 5 rfl) ?_
    refine cg_X8_24 X hS dX8_expression_76 ?_
    obtain ⟨r_u_21, u_21, h_u_21, h⟩ := bc_of h
    refine kc_X9_next_RX8 X  hS h_u_21 (Nat.le_trans (Nat.le_of_ble_eq_true rfl) hF) (Nat.le_trans (Nat.le_of_ble_eq_true rfl) hL) hl.1 (Nat.le_of_ble_eq_true rfl) dX8_expression_79 (fun H locs hS => ?_)
    refine lv_aload_n hx hb dX8_expression_82 rfl (lv_at hl 5 rfl) ?_
    obtain ⟨y_24, u_22, h_u_22, h⟩ := bt_of h
    refine kc_X8_expression X hrec  hS h_u_22 hFd hLd hC hl.1 (Nat.le_of_ble_eq_true rfl) dX8_expression_83 (fun r_23 hr_u_22 H locs hS => ?_) (fun x9 hn H locs q9 ce hS a1 a2 a3 => by obtain ⟨e2, rfl⟩ := bt_no h hn; exact hX _ e2 _ _ _ _ _ _ _ hS a1 a2 a3)
    replace h := bt_ok h hr_u_22
    refine lv_istore (lv' := [(6, .int r_23), (5, .int r_18), (4, .int r_14), (3, .int r_11), (2, .int r_8), (1, .int r_2), (0, .ref (Z 229))]) hx hb dX8_expression_86 hl (by decide) rfl (fun ls hl => ?_)
    refine lv_aload_n hx hb dX8_expression_88 rfl (lv_at hl 6 rfl) ?_
    refine cg_X8_28 X hS dX8_expression_89 ?_
    obtain ⟨z_25, h⟩ := ok_of h
    refine lv_iload hx hb dX8_expression_92 (lv_at hl 1 rfl) ?_
    obtain ⟨r_u_26, u_26, h_u_26, h⟩ := bc_of h
    refine kc_X6_land_RX8 X z_25 hS h_u_26 (Nat.le_trans (Nat.le_of_ble_eq_true rfl) hF) (Nat.le_trans (Nat.le_of_ble_eq_true rfl) hL) hl.1 (Nat.le_of_ble_eq_true rfl) dX8_expression_94 (fun H locs hS => ?_)
    refine lv_aload_n hx hb dX8_expression_97 rfl (lv_at hl 6 rfl) ?_
    refine lv_iconst (v := 0) hx hb dX8_expression_98 (by decide) ?_
    obtain ⟨u_27, e_u_27, h⟩ := pc_of h
    refine cp_X8_100 X hS e_u_27 (Or.inl rfl) dX8_expression_99 (fun H locs hS => ?_)
    refine lv_iload hx hb dX8_expression_102 (lv_at hl 2 rfl) ?_
    refine lv_iload hx hb dX8_expression_104 (lv_at hl 0 rfl) ?_
    refine vp_callSi (W.runS (As := [.int r_14, .int r_23]) (rest := []) X.1 (c_X5_workedAs l r_14 r_23) (va_cwS 2 hts (gw_P gw_1143 gw_1144 gw_24 gwp_X5_workedAs) rfl rfl rfl (by decide +kernel) ⟨Nat.le_trans (Nat.le_of_ble_eq_true rfl) hF, Nat.le_trans (Nat.le_of_ble_eq_true rfl) hL⟩) ⟨fun _ _ _ _ q => q, fun _ _ _ => ⟨rfl, trivial⟩⟩ rfl rfl hl.1 rfl (lv_room (Nat.le_of_ble_eq_true rfl)) dX8_expression_106 ⟨Nat.zero_le _, Nat.zero_le _⟩) (fun r_28 q_29 => ?_)
    subst q_29
    obtain ⟨e9, rfl⟩ := so9 h
    exact hE _ e9.symm _ _ _ _ hS dX8_expression_109
  · have h := ip (c_6) h
    refine lv_iload_n hx hb dX8_expression_17 rfl (lv_at hl 0 rfl) ?_
    obtain ⟨e9, rfl⟩ := so9 h
    exact hE _ e9.symm _ _ _ _ hS dX8_expression_18
def F_X8_expression (N : Nat) (ro : Nat → Nat → Int32 → Int32 → CSt → Option (Sum Nat Int32 × CSt)) (u : CSt) : Option ((Sum Nat Int32) × CSt) := B_X8_expression_0 N ro u
set_option maxHeartbeats 4000000 in
theorem k_X8_expression (l : Launch) (hst : l.stackTraces = false) (D : va_G) (kA : Nat → ClassId) (V Z : Nat → Nat) (N : Nat) {d : Nat} (ro : Nat → Nat → Int32 → Int32 → CSt → Option (Sum Nat Int32 × CSt)) (hrec : RecOK_TE l D kA V Z d ro) (u : CSt) (sz : Nat) {y : (Sum Nat Int32)} {w : CSt} (h : F_X8_expression N ro u = some (y, w)) : vx_Met l yX8_expression (Cond.code yX8_expression cX8_expression 7 (some .int) :: GW) { frames := d + 1 + 20, cells := 1, slots := 6, locals := 60 * (d + 1) + 700 } (cPc D kA V Z [.ref (Z 229)] u sz) (cQix D kA Z u sz y w) (cXc D kA Z u sz y w) 1 6 (va_A (CW kA Z u) sz) := by
  refine vx_ofW (cc := cX8_expression) (maxL := 7) (ret := (some .int)) (by decide) rfl ?_
  intro p e s m args below meth c s₁ Bd hml hxt hv
  obtain ⟨rfl, hsz, hP, hK, hD0, hE⟩ := hv
  have hts := atoms_spec (ws := Cond.code yX8_expression cX8_expression 7 (some .int) :: GW) Bd.pre
  have hl := lv_entry ([.ref (Z 229)]) (n := 7) (Nat.le_of_ble_eq_true rfl)
  rw [lg_entry_eq]
  generalize (lg_sl ([.ref (Z 229)]) ++ List.replicate (7 - (lg_sl ([.ref (Z 229)])).length) Slot.unset).toArray = ls at hl ⊢
  have hl : lv_has ls 7 [(0, .ref (Z 229))] := hl
  subst hsz
  have X : CC p s m ([.ref (Z 229)]).toArray c cX8_expression 7 (Cond.code yX8_expression cX8_expression 7 (some .int)) RX8 D kA V (va_A (CW kA Z u) s.heap.size) := ⟨⟨Bd.exec, Bd.bytes, hml, findClass_of_methodNamed Bd.named, hts⟩, hK, hE, fun q h => Or.inr h⟩
  refine b_X8_expression_0 X (cend_ix X Bd.returns Bd.notSynchronized) hst (cend_X X hxt Bd.notSynchronized) ⟨Nat.le_refl _, Nat.le_refl _⟩ (Nat.le_trans (Nat.le_of_ble_eq_true rfl) (Nat.le_add_left 20 _)) (Nat.le_trans (Nat.le_of_ble_eq_true rfl) (Nat.le_add_left 700 _)) hrec (Nat.le_refl _) (Nat.le_refl _) h  ⟨hP, hD0.self, va_S.rf⟩ (lv_sub hl [0] rfl)
def B_X8_operators_76 (N : Nat) (ro : Nat → Nat → Int32 → Int32 → CSt → Option (Sum Nat Int32 × CSt)) (l1 : Int32) (l2 : Int32) (u : CSt) : Option ((Sum Nat Int32) × CSt) := bc (F_X8_settle N l1 0 l2 u) fun r_2 u_1 => some (.inr r_2, u_1)
set_option maxHeartbeats 4000000 in
theorem b_X8_operators_76 {y : (Sum Nat Int32)} {ro : Nat → Nat → Int32 → Int32 → CSt → Option (Sum Nat Int32 × CSt)} (X : CC p s m args c cX8_operators 5 (Cond.code yX8_operators cX8_operators 5 (some .int)) RX8 D kA V A) (hE : CEix p l e R s m args below meth c cX8_operators D kA Z A Q y w) (hst : l.stackTraces = false) (hX : CX p l e R s m args below meth c D kA Z A Q y w) (hC : 1 ≤ R.cells ∧ 6 ≤ R.slots) (hF : 3 ≤ R.frames) (hL : 76 ≤ R.locals) (hrec : RecOK_TE l D kA V Z d ro) (hFd : d + 1 + 20 ≤ R.frames) (hLd : 60 * (d + 1) + 700 ≤ R.locals) {l1 : Int32} {l2 : Int32} {u : CSt}  (h : B_X8_operators_76 N ro l1 l2 u = some (y, w))  (hS : CS D kA Z A s u H locs) (hl : lv_has ls 5 [(0, .ref (Z 229)), (1, .int l1), (2, .int l2)]) : W p l e R s m args below meth c H locs 0 0 Q (F0 m 76 ls []) := by
  obtain ⟨⟨hx, hb, hml, hown, hts⟩, hK, hEV, hA⟩ := id X
  have hG : ∀ w ∈ GW, w.before args s = true := fun w h => hts w (List.mem_cons_of_mem _ h)
  unfold B_X8_operators_76 at h
  refine lv_aload_n hx hb dX8_operators_76 rfl (lv_at hl 0 rfl) ?_
  refine lv_iload_n hx hb dX8_operators_77 rfl (lv_at hl 1 rfl) ?_
  refine lv_iconst (v := 0) hx hb dX8_operators_78 (by decide) ?_
  refine lv_iload_n hx hb dX8_operators_79 rfl (lv_at hl 2 rfl) ?_
  obtain ⟨r_2, u_1, h_u_1, h⟩ := bc_of h
  refine kc_X8_settle_RX8 X  hS h_u_1 (Nat.le_trans (Nat.le_of_ble_eq_true rfl) hF) (Nat.le_trans (Nat.le_of_ble_eq_true rfl) hL) hl.1 (Nat.le_of_ble_eq_true rfl) dX8_operators_80 (fun H locs hS => ?_)
  obtain ⟨e9, rfl⟩ := so9 h
  exact hE _ e9.symm _ _ _ _ hS dX8_operators_83
def B_X8_operators_24 (N : Nat) (ro : Nat → Nat → Int32 → Int32 → CSt → Option (Sum Nat Int32 × CSt)) (R_24 : Int32 × Int32 × Int32 × Int32 × CSt → Option ((Sum Nat Int32) × CSt)) (l1 : Int32) (l2 : Int32) (l3 : Int32) (l4 : Int32) (u : CSt) : Option ((Sum Nat Int32) × CSt) := if (1500 : Int32) ≤ l4 then (B_X8_operators_76 N ro l1 l2 u) else (if l3 ≤ (0 : Int32) then (B_X8_operators_76 N ro l1 l2 u) else (bc (F_X8_settle N l1 l3 l2 u) fun r_6 u_5 => bc (F_X8_defer N r_6 u_5) fun _ u_7 => bt (ro 2 0 0 0 u_7) fun r_9 u_8 => pc (xI u_8 17 0) fun u_11 => bc (F_X9_type N u_11) fun r_13 u_12 => pb (F_X9_strength N r_13) fun r_14 => R_24 (l1, r_9, r_14, (l4 + 1), u_12)))
set_option maxHeartbeats 4000000 in
theorem b_X8_operators_24 {y : (Sum Nat Int32)} {ro : Nat → Nat → Int32 → Int32 → CSt → Option (Sum Nat Int32 × CSt)} (X : CC p s m args c cX8_operators 5 (Cond.code yX8_operators cX8_operators 5 (some .int)) RX8 D kA V A) (hE : CEix p l e R s m args below meth c cX8_operators D kA Z A Q y w) (hst : l.stackTraces = false) (hX : CX p l e R s m args below meth c D kA Z A Q y w) (hC : 1 ≤ R.cells ∧ 6 ≤ R.slots) (hF : 3 ≤ R.frames) (hL : 76 ≤ R.locals) (hrec : RecOK_TE l D kA V Z d ro) (hFd : d + 1 + 20 ≤ R.frames) (hLd : 60 * (d + 1) + 700 ≤ R.locals) {R_24 : Int32 × Int32 × Int32 × Int32 × CSt → Option ((Sum Nat Int32) × CSt)} {l1 : Int32} {l2 : Int32} {l3 : Int32} {l4 : Int32} {u : CSt} (hR_24 : ∀ (l1 : Int32) (l2 : Int32) (l3 : Int32) (l4 : Int32) (u : CSt), R_24 (l1, l2, l3, l4, u) = some (y, w) → ∀ (H : Heap) (locs : List Loc) (ls : Array Slot), CS D kA Z A s u H locs → lv_has ls 5 [(0, .ref (Z 229)), (1, .int l1), (2, .int l2), (3, .int l3), (4, .int l4)] → W p l e R s m args below meth c H locs 0 0 Q (F0 m 24 ls [])) (h : B_X8_operators_24 N ro R_24 l1 l2 l3 l4 u = some (y, w))  (hS : CS D kA Z A s u H locs) (hl : lv_has ls 5 [(0, .ref (Z 229)), (1, .int l1), (2, .int l2), (3, .int l3), (4, .int l4)]) : W p l e R s m args below meth c H locs 0 0 Q (F0 m 24 ls []) := by
  obtain ⟨⟨hx, hb, hml, hown, hts⟩, hK, hEV, hA⟩ := id X
  have hG : ∀ w ∈ GW, w.before args s = true := fun w h => hts w (List.mem_cons_of_mem _ h)
  unfold B_X8_operators_24 at h
  refine lv_iload hx hb dX8_operators_24 (lv_at hl 4 rfl) ?_
  refine lv_sipush (v := 1500) hx hb dX8_operators_26 (by decide) ?_
  refine lv_icmp_ge (tgt := 76) hx hb dX8_operators_29 (by decide) (fun c_3 => ?_) (fun c_3 => ?_)
  · have h := ip (c_3) h
    exact b_X8_operators_76 X hE hst hX hC hF hL hrec hFd hLd h  hS (lv_sub hl [0, 1, 2] rfl)
  · have h := im (c_3) h
    refine lv_iload_n hx hb dX8_operators_32 rfl (lv_at hl 3 rfl) ?_
    refine lv_if_le (tgt := 76) hx hb dX8_operators_33 (by decide) (fun c_4 => ?_) (fun c_4 => ?_)
    · have h := ip (c_4) h
      exact b_X8_operators_76 X hE hst hX hC hF hL hrec hFd hLd h  hS (lv_sub hl [0, 1, 2] rfl)
    · have h := im (c_4) h
      refine lv_aload_n hx hb dX8_operators_36 rfl (lv_at hl 0 rfl) ?_
      refine lv_iload_n hx hb dX8_operators_37 rfl (lv_at hl 1 rfl) ?_
      refine lv_iload_n hx hb dX8_operators_38 rfl (lv_at hl 3 rfl) ?_
      refine lv_iload_n hx hb dX8_operators_39 rfl (lv_at hl 2 rfl) ?_
      obtain ⟨r_6, u_5, h_u_5, h⟩ := bc_of h
      refine kc_X8_settle_RX8 X  hS h_u_5 (Nat.le_trans (Nat.le_of_ble_eq_true rfl) hF) (Nat.le_trans (Nat.le_of_ble_eq_true rfl) hL) hl.1 (Nat.le_of_ble_eq_true rfl) dX8_operators_40 (fun H locs hS => ?_)
      refine lv_istore_n (lv' := [(2, .int r_6), (0, .ref (Z 229)), (1, .int l1), (3, .int l3), (4, .int l4)]) hx hb dX8_operators_43 rfl hl (by decide) rfl (fun ls hl => ?_)
      refine lv_aload_n hx hb dX8_operators_44 rfl (lv_at hl 1 rfl) ?_
      refine lv_iload_n hx hb dX8_operators_45 rfl (lv_at hl 0 rfl) ?_
      obtain ⟨r_u_7, u_7, h_u_7, h⟩ := bc_of h
      refine kc_X8_defer_RX8 X  hS h_u_7 (Nat.le_trans (Nat.le_of_ble_eq_true rfl) hF) (Nat.le_trans (Nat.le_of_ble_eq_true rfl) hL) hl.1 (Nat.le_of_ble_eq_true rfl) dX8_operators_46 (fun H locs hS => ?_)
      refine lv_aload_n hx hb dX8_operators_49 rfl (lv_at hl 1 rfl) ?_
      obtain ⟨y_10, u_8, h_u_8, h⟩ := bt_of h
      refine kc_X8_operand X hrec  hS h_u_8 hFd hLd hC hl.1 (Nat.le_of_ble_eq_true rfl) dX8_operators_50 (fun r_9 hr_u_8 H locs hS => ?_) (fun x9 hn H locs q9 ce hS a1 a2 a3 => by obtain ⟨e2, rfl⟩ := bt_no h hn; exact hX _ e2 _ _ _ _ _ _ _ hS a1 a2 a3)
      replace h := bt_ok h hr_u_8
      refine lv_istore_n (lv' := [(2, .int r_9), (0, .ref (Z 229)), (1, .int l1), (3, .int l3), (4, .int l4)]) hx hb dX8_operators_53 rfl hl (by decide) rfl (fun ls hl => ?_)
      refine lv_aload_n hx hb dX8_operators_54 rfl (lv_at hl 1 rfl) ?_
      refine lv_iconst (v := 0) hx hb dX8_operators_55 (by decide) ?_
      obtain ⟨u_11, e_u_11, h⟩ := pc_of h
      refine cp_X8_100 X hS e_u_11 (Or.inl rfl) dX8_operators_56 (fun H locs hS => ?_)
      refine lv_aload_n hx hb dX8_operators_59 rfl (lv_at hl 1 rfl) ?_
      refine cg_X8_24 X hS dX8_operators_60 ?_
      obtain ⟨r_13, u_12, h_u_12, h⟩ := bc_of h
      refine kc_X9_type_RX8 X  hS h_u_12 (Nat.le_trans (Nat.le_of_ble_eq_true rfl) hF) (Nat.le_trans (Nat.le_of_ble_eq_true rfl) hL) hl.1 (Nat.le_of_ble_eq_true rfl) dX8_operators_63 (fun H locs hS => ?_)
      obtain ⟨r_14, e_r_14, h⟩ := pb_of h
      refine vp_callSi (W.runS (As := [.int r_13]) (rest := []) X.1 (k_X9_strength l N r_13 e_r_14) (va_cwS 1 hts (gw_S gw_1251 gw_941 gw_2 gw_942) rfl rfl rfl (by decide +kernel) ⟨Nat.le_trans (Nat.le_of_ble_eq_true rfl) hF, Nat.le_trans (Nat.le_of_ble_eq_true rfl) hL⟩) ⟨fun _ _ _ _ q => q, fun _ _ _ => ⟨rfl, trivial⟩⟩ rfl rfl hl.1 rfl (lv_room (Nat.le_of_ble_eq_true rfl)) dX8_operators_66 ⟨Nat.zero_le _, Nat.zero_le _⟩) (fun r_15 q_16 => ?_)
      rw [q_16]
      refine lv_istore_n (lv' := [(3, .int r_14), (2, .int r_9), (0, .ref (Z 229)), (1, .int l1), (4, .int l4)]) hx hb dX8_operators_69 rfl hl (by decide) rfl (fun ls hl => ?_)
      refine lv_iinc (v := l4 + 1) (lv' := [(4, .int (l4 + 1)), (3, .int r_14), (2, .int r_9), (0, .ref (Z 229)), (1, .int l1)]) hx hb dX8_operators_70 hl (k := 4) rfl rfl (by decide) rfl (fun ls hl => ?_)
      refine lv_goto (tgt := 24) hx hb dX8_operators_73 (by decide) ?_
      exact hR_24 _ _ _ _ _  h _ _ _ hS (lv_sub hl [3, 4, 2, 1, 0] rfl)
def LP_X8_operators_24 (N : Nat) (ro : Nat → Nat → Int32 → Int32 → CSt → Option (Sum Nat Int32 × CSt)) : Nat → Int32 × Int32 × Int32 × Int32 × CSt → Option ((Sum Nat Int32) × CSt) := lp (fun R a => B_X8_operators_24 N ro R a.1 a.2.1 a.2.2.1 a.2.2.2.1 a.2.2.2.2)
theorem bl_X8_operators_24 {y : (Sum Nat Int32)} {ro : Nat → Nat → Int32 → Int32 → CSt → Option (Sum Nat Int32 × CSt)} (X : CC p s m args c cX8_operators 5 (Cond.code yX8_operators cX8_operators 5 (some .int)) RX8 D kA V A) (hE : CEix p l e R s m args below meth c cX8_operators D kA Z A Q y w) (hst : l.stackTraces = false) (hX : CX p l e R s m args below meth c D kA Z A Q y w) (hC : 1 ≤ R.cells ∧ 6 ≤ R.slots) (hF : 3 ≤ R.frames) (hL : 76 ≤ R.locals) (hrec : RecOK_TE l D kA V Z d ro) (hFd : d + 1 + 20 ≤ R.frames) (hLd : 60 * (d + 1) + 700 ≤ R.locals)  : ∀ (n : Nat) (l1 : Int32) (l2 : Int32) (l3 : Int32) (l4 : Int32) (u : CSt), LP_X8_operators_24 N ro n (l1, l2, l3, l4, u) = some (y, w) → ∀ (H : Heap) (locs : List Loc) (ls : Array Slot), CS D kA Z A s u H locs → lv_has ls 5 [(0, .ref (Z 229)), (1, .int l1), (2, .int l2), (3, .int l3), (4, .int l4)] → W p l e R s m args below meth c H locs 0 0 Q (F0 m 24 ls []) := by
  intro n
  induction n with
  | zero => intro l1 l2 l3 l4 u h; exact nomatch h
  | succ n ih => intro l1 l2 l3 l4 u h H locs ls hS hl; exact b_X8_operators_24 (N := N) (R_24 := LP_X8_operators_24 N ro n) X hE hst hX hC hF hL hrec hFd hLd ih h  hS hl
def B_X8_operators_0 (N : Nat) (ro : Nat → Nat → Int32 → Int32 → CSt → Option (Sum Nat Int32 × CSt)) (u : CSt) : Option ((Sum Nat Int32) × CSt) := bt (ro 2 0 0 0 u) fun r_18 u_17 => bc (F_X9_type N u_17) fun r_21 u_20 => pb (F_X9_strength N r_21) fun r_22 => LP_X8_operators_24 N ro N ((cI u 16), r_18, r_22, 0, u_20)
set_option maxHeartbeats 4000000 in
theorem b_X8_operators_0 {y : (Sum Nat Int32)} {ro : Nat → Nat → Int32 → Int32 → CSt → Option (Sum Nat Int32 × CSt)} (X : CC p s m args c cX8_operators 5 (Cond.code yX8_operators cX8_operators 5 (some .int)) RX8 D kA V A) (hE : CEix p l e R s m args below meth c cX8_operators D kA Z A Q y w) (hst : l.stackTraces = false) (hX : CX p l e R s m args below meth c D kA Z A Q y w) (hC : 1 ≤ R.cells ∧ 6 ≤ R.slots) (hF : 3 ≤ R.frames) (hL : 76 ≤ R.locals) (hrec : RecOK_TE l D kA V Z d ro) (hFd : d + 1 + 20 ≤ R.frames) (hLd : 60 * (d + 1) + 700 ≤ R.locals) {u : CSt}  (h : B_X8_operators_0 N ro u = some (y, w))  (hS : CS D kA Z A s u H locs) (hl : lv_has ls 5 [(0, .ref (Z 229))]) : W p l e R s m args below meth c H locs 0 0 Q (F0 m 0 ls []) := by
  obtain ⟨⟨hx, hb, hml, hown, hts⟩, hK, hEV, hA⟩ := id X
  have hG : ∀ w ∈ GW, w.before args s = true := fun w h => hts w (List.mem_cons_of_mem _ h)
  unfold B_X8_operators_0 at h
  refine lv_aload_n hx hb dX8_operators_0 rfl (lv_at hl 0 rfl) ?_
  refine cg_X8_32 X hS dX8_operators_1 ?_
  refine lv_istore_n (lv' := [(1, .int (cI u 16)), (0, .ref (Z 229))]) hx hb dX8_operators_4 rfl hl (by decide) rfl (fun ls hl => ?_)
  refine lv_aload_n hx hb dX8_operators_5 rfl (lv_at hl 1 rfl) ?_
  obtain ⟨y_19, u_17, h_u_17, h⟩ := bt_of h
  refine kc_X8_operand X hrec  hS h_u_17 hFd hLd hC hl.1 (Nat.le_of_ble_eq_true rfl) dX8_operators_6 (fun r_18 hr_u_17 H locs hS => ?_) (fun x9 hn H locs q9 ce hS a1 a2 a3 => by obtain ⟨e2, rfl⟩ := bt_no h hn; exact hX _ e2 _ _ _ _ _ _ _ hS a1 a2 a3)
  replace h := bt_ok h hr_u_17
  refine lv_istore_n (lv' := [(2, .int r_18), (1, .int (cI u 16)), (0, .ref (Z 229))]) hx hb dX8_operators_9 rfl hl (by decide) rfl (fun ls hl => ?_)
  refine lv_aload_n hx hb dX8_operators_10 rfl (lv_at hl 2 rfl) ?_
  refine cg_X8_24 X hS dX8_operators_11 ?_
  obtain ⟨r_21, u_20, h_u_20, h⟩ := bc_of h
  refine kc_X9_type_RX8 X  hS h_u_20 (Nat.le_trans (Nat.le_of_ble_eq_true rfl) hF) (Nat.le_trans (Nat.le_of_ble_eq_true rfl) hL) hl.1 (Nat.le_of_ble_eq_true rfl) dX8_operators_14 (fun H locs hS => ?_)
  obtain ⟨r_22, e_r_22, h⟩ := pb_of h
  refine vp_callSi (W.runS (As := [.int r_21]) (rest := []) X.1 (k_X9_strength l N r_21 e_r_22) (va_cwS 1 hts (gw_S gw_1251 gw_941 gw_2 gw_942) rfl rfl rfl (by decide +kernel) ⟨Nat.le_trans (Nat.le_of_ble_eq_true rfl) hF, Nat.le_trans (Nat.le_of_ble_eq_true rfl) hL⟩) ⟨fun _ _ _ _ q => q, fun _ _ _ => ⟨rfl, trivial⟩⟩ rfl rfl hl.1 rfl (lv_room (Nat.le_of_ble_eq_true rfl)) dX8_operators_17 ⟨Nat.zero_le _, Nat.zero_le _⟩) (fun r_23 q_24 => ?_)
  rw [q_24]
  refine lv_istore_n (lv' := [(3, .int r_22), (2, .int r_18), (1, .int (cI u 16)), (0, .ref (Z 229))]) hx hb dX8_operators_20 rfl hl (by decide) rfl (fun ls hl => ?_)
  refine lv_iconst (v := 0) hx hb dX8_operators_21 (by decide) ?_
  refine lv_istore (lv' := [(4, .int 0), (3, .int r_22), (2, .int r_18), (1, .int (cI u 16)), (0, .ref (Z 229))]) hx hb dX8_operators_22 hl (by decide) rfl (fun ls hl => ?_)
  exact bl_X8_operators_24 X hE hst hX hC hF hL hrec hFd hLd _ _ _ _ _ _  h _ _ _ hS (lv_sub hl [4, 3, 2, 1, 0] rfl)
def F_X8_operators (N : Nat) (ro : Nat → Nat → Int32 → Int32 → CSt → Option (Sum Nat Int32 × CSt)) (u : CSt) : Option ((Sum Nat Int32) × CSt) := B_X8_operators_0 N ro u
set_option maxHeartbeats 4000000 in
theorem k_X8_operators (l : Launch) (hst : l.stackTraces = false) (D : va_G) (kA : Nat → ClassId) (V Z : Nat → Nat) (N : Nat) {d : Nat} (ro : Nat → Nat → Int32 → Int32 → CSt → Option (Sum Nat Int32 × CSt)) (hrec : RecOK_TE l D kA V Z d ro) (u : CSt) (sz : Nat) {y : (Sum Nat Int32)} {w : CSt} (h : F_X8_operators N ro u = some (y, w)) : vx_Met l yX8_operators (Cond.code yX8_operators cX8_operators 5 (some .int) :: GW) { frames := d + 1 + 20, cells := 1, slots := 6, locals := 60 * (d + 1) + 700 } (cPc D kA V Z [.ref (Z 229)] u sz) (cQix D kA Z u sz y w) (cXc D kA Z u sz y w) 1 6 (va_A (CW kA Z u) sz) := by
  refine vx_ofW (cc := cX8_operators) (maxL := 5) (ret := (some .int)) (by decide) rfl ?_
  intro p e s m args below meth c s₁ Bd hml hxt hv
  obtain ⟨rfl, hsz, hP, hK, hD0, hE⟩ := hv
  have hts := atoms_spec (ws := Cond.code yX8_operators cX8_operators 5 (some .int) :: GW) Bd.pre
  have hl := lv_entry ([.ref (Z 229)]) (n := 5) (Nat.le_of_ble_eq_true rfl)
  rw [lg_entry_eq]
  generalize (lg_sl ([.ref (Z 229)]) ++ List.replicate (5 - (lg_sl ([.ref (Z 229)])).length) Slot.unset).toArray = ls at hl ⊢
  have hl : lv_has ls 5 [(0, .ref (Z 229))] := hl
  subst hsz
  have X : CC p s m ([.ref (Z 229)]).toArray c cX8_operators 5 (Cond.code yX8_operators cX8_operators 5 (some .int)) RX8 D kA V (va_A (CW kA Z u) s.heap.size) := ⟨⟨Bd.exec, Bd.bytes, hml, findClass_of_methodNamed Bd.named, hts⟩, hK, hE, fun q h => Or.inr h⟩
  refine b_X8_operators_0 X (cend_ix X Bd.returns Bd.notSynchronized) hst (cend_X X hxt Bd.notSynchronized) ⟨Nat.le_refl _, Nat.le_refl _⟩ (Nat.le_trans (Nat.le_of_ble_eq_true rfl) (Nat.le_add_left 20 _)) (Nat.le_trans (Nat.le_of_ble_eq_true rfl) (Nat.le_add_left 700 _)) hrec (Nat.le_refl _) (Nat.le_refl _) h  ⟨hP, hD0.self, va_S.rf⟩ (lv_sub hl [0] rfl)
def B_X8_operand_0 (N : Nat) (ro : Nat → Nat → Int32 → Int32 → CSt → Option (Sum Nat Int32 × CSt)) (u : CSt) : Option ((Sum Nat Int32) × CSt) := bc (F_X9_here N u) fun r_2 u_1 => bc (F_X9_type N u_1) fun r_4 u_3 => if r_4 = 29 then (ok (cR u_3 3 < 2) inferInstance <| bc (F_X6_step N (cR u_3 3) 66 0 0 r_2 u_3) fun r_8 u_7 => bc (F_X9_next N u_7) fun _ u_9 => pc (xI u_9 17 0) fun u_10 => some (.inr 3, u_10)) else (if r_4 = 33 then (bt (ro 3 0 r_2 0 u_3) fun r_13 u_12 => some (.inr r_13, u_12)) else (if r_4 = 40 then (bt (ro 4 0 r_2 0 u_3) fun r_17 u_16 => some (.inr r_17, u_16)) else (if r_4 = 45 then (bt (ro 3 0 r_2 0 u_3) fun r_21 u_20 => some (.inr r_21, u_20)) else (if r_4 = 126 then (bt (ro 3 0 r_2 0 u_3) fun r_25 u_24 => some (.inr r_25, u_24)) else (if r_4 = 129 then (bt (F_X8_number N r_2 u_3) fun r_29 u_28 => some (.inr r_29, u_28)) else (if r_4 = 130 then (bt (F_X8_number N r_2 u_3) fun r_33 u_32 => some (.inr r_33, u_32)) else (bt (ro 5 0 r_2 0 u_3) fun r_36 u_35 => some (.inr r_36, u_35))))))))
set_option maxHeartbeats 4000000 in
theorem b_X8_operand_0 {y : (Sum Nat Int32)} {ro : Nat → Nat → Int32 → Int32 → CSt → Option (Sum Nat Int32 × CSt)} (X : CC p s m args c cX8_operand 2 (Cond.code yX8_operand cX8_operand 2 (some .int)) RX8 D kA V A) (hE : CEix p l e R s m args below meth c cX8_operand D kA Z A Q y w) (hst : l.stackTraces = false) (hX : CX p l e R s m args below meth c D kA Z A Q y w) (hC : 1 ≤ R.cells ∧ 6 ≤ R.slots) (hF : 9 ≤ R.frames) (hL : 166 ≤ R.locals) (hrec : RecOK_TE l D kA V Z d ro) (hFd : d + 1 + 20 ≤ R.frames) (hLd : 60 * (d + 1) + 700 ≤ R.locals) {u : CSt}  (h : B_X8_operand_0 N ro u = some (y, w))  (hS : CS D kA Z A s u H locs) (hl : lv_has ls 2 [(0, .ref (Z 229))]) : W p l e R s m args below meth c H locs 0 0 Q (F0 m 0 ls []) := by
  obtain ⟨⟨hx, hb, hml, hown, hts⟩, hK, hEV, hA⟩ := id X
  have hG : ∀ w ∈ GW, w.before args s = true := fun w h => hts w (List.mem_cons_of_mem _ h)
  unfold B_X8_operand_0 at h
  refine lv_aload_n hx hb dX8_operand_0 rfl (lv_at hl 0 rfl) ?_
  refine cg_X8_24 X hS dX8_operand_1 ?_
  obtain ⟨r_2, u_1, h_u_1, h⟩ := bc_of h
  refine kc_X9_here_RX8 X  hS h_u_1 (Nat.le_trans (Nat.le_of_ble_eq_true rfl) hF) (Nat.le_trans (Nat.le_of_ble_eq_true rfl) hL) hl.1 (Nat.le_of_ble_eq_true rfl) dX8_operand_4 (fun H locs hS => ?_)
  refine lv_istore_n (lv' := [(1, .int r_2), (0, .ref (Z 229))]) hx hb dX8_operand_7 rfl hl (by decide) rfl (fun ls hl => ?_)
  refine lv_aload_n hx hb dX8_operand_8 rfl (lv_at hl 1 rfl) ?_
  refine cg_X8_24 X hS dX8_operand_9 ?_
  obtain ⟨r_4, u_3, h_u_3, h⟩ := bc_of h
  refine kc_X9_type_RX8 X  hS h_u_3 (Nat.le_trans (Nat.le_of_ble_eq_true rfl) hF) (Nat.le_trans (Nat.le_of_ble_eq_true rfl) hL) hl.1 (Nat.le_of_ble_eq_true rfl) dX8_operand_12 (fun H locs hS => ?_)
  by_cases e_5 : r_4 = 29
  · have h := ip e_5 h
    refine lv_lookup (off := 83) (tgt := 98) hx hb dX8_operand_15 (by decide) (by rw [e_5]; decide) (by decide) ?_
    refine lv_aload_n hx hb dX8_operand_98 rfl (lv_at hl 1 rfl) ?_
    refine cg_X8_28 X hS dX8_operand_99 ?_
    obtain ⟨z_6, h⟩ := ok_of h
    refine lv_bipush (v := 66) hx hb dX8_operand_102 (by decide) ?_
    refine lv_iconst (v := 0) hx hb dX8_operand_104 (by decide) ?_
    refine lv_iconst (v := 0) hx hb dX8_operand_105 (by decide) ?_
    refine lv_iload_n hx hb dX8_operand_106 rfl (lv_at hl 0 rfl) ?_
    obtain ⟨r_8, u_7, h_u_7, h⟩ := bc_of h
    refine kc_X6_step_RX8 X z_6 hS h_u_7 (Nat.le_trans (Nat.le_of_ble_eq_true rfl) hF) (Nat.le_trans (Nat.le_of_ble_eq_true rfl) hL) hl.1 (Nat.le_of_ble_eq_true rfl) dX8_operand_107 (fun H locs hS => ?_)
    refine lv_pop hx hb dX8_operand_110 rfl ?_
    refine lv_aload_n hx hb dX8_operand_111 rfl (lv_at hl 1 rfl) ?_
    refine cg_X8_24 X hS dX8_operand_112 ?_
    obtain ⟨r_u_9, u_9, h_u_9, h⟩ := bc_of h
    refine kc_X9_next_RX8 X  hS h_u_9 (Nat.le_trans (Nat.le_of_ble_eq_true rfl) hF) (Nat.le_trans (Nat.le_of_ble_eq_true rfl) hL) hl.1 (Nat.le_of_ble_eq_true rfl) dX8_operand_115 (fun H locs hS => ?_)
    refine lv_aload_n hx hb dX8_operand_118 rfl (lv_at hl 1 rfl) ?_
    refine lv_iconst (v := 0) hx hb dX8_operand_119 (by decide) ?_
    obtain ⟨u_10, e_u_10, h⟩ := pc_of h
    refine cp_X8_100 X hS e_u_10 (Or.inl rfl) dX8_operand_120 (fun H locs hS => ?_)
    refine lv_iconst (v := 3) hx hb dX8_operand_123 (by decide) ?_
    obtain ⟨e9, rfl⟩ := so9 h
    exact hE _ e9.symm _ _ _ _ hS dX8_operand_124
  have h := im e_5 h
  by_cases e_11 : r_4 = 33
  · have h := ip e_11 h
    refine lv_lookup (off := 65) (tgt := 80) hx hb dX8_operand_15 (by decide) (by rw [e_11]; decide) (by decide) ?_
    refine lv_aload_n hx hb dX8_operand_80 rfl (lv_at hl 1 rfl) ?_
    refine lv_iload_n hx hb dX8_operand_81 rfl (lv_at hl 0 rfl) ?_
    obtain ⟨y_14, u_12, h_u_12, h⟩ := bt_of h
    refine kc_X8_signed X hrec  hS h_u_12 hFd hLd hC hl.1 (Nat.le_of_ble_eq_true rfl) dX8_operand_82 (fun r_13 hr_u_12 H locs hS => ?_) (fun x9 hn H locs q9 ce hS a1 a2 a3 => by obtain ⟨e2, rfl⟩ := bt_no h hn; exact hX _ e2 _ _ _ _ _ _ _ hS a1 a2 a3)
    replace h := bt_ok h hr_u_12
    obtain ⟨e9, rfl⟩ := so9 h
    exact hE _ e9.symm _ _ _ _ hS dX8_operand_85
  have h := im e_11 h
  by_cases e_15 : r_4 = 40
  · have h := ip e_15 h
    refine lv_lookup (off := 71) (tgt := 86) hx hb dX8_operand_15 (by decide) (by rw [e_15]; decide) (by decide) ?_
    refine lv_aload_n hx hb dX8_operand_86 rfl (lv_at hl 1 rfl) ?_
    refine lv_iload_n hx hb dX8_operand_87 rfl (lv_at hl 0 rfl) ?_
    obtain ⟨y_18, u_16, h_u_16, h⟩ := bt_of h
    refine kc_X8_bracket X hrec  hS h_u_16 hFd hLd hC hl.1 (Nat.le_of_ble_eq_true rfl) dX8_operand_88 (fun r_17 hr_u_16 H locs hS => ?_) (fun x9 hn H locs q9 ce hS a1 a2 a3 => by obtain ⟨e2, rfl⟩ := bt_no h hn; exact hX _ e2 _ _ _ _ _ _ _ hS a1 a2 a3)
    replace h := bt_ok h hr_u_16
    obtain ⟨e9, rfl⟩ := so9 h
    exact hE _ e9.symm _ _ _ _ hS dX8_operand_91
  have h := im e_15 h
  by_cases e_19 : r_4 = 45
  · have h := ip e_19 h
    refine lv_lookup (off := 65) (tgt := 80) hx hb dX8_operand_15 (by decide) (by rw [e_19]; decide) (by decide) ?_
    refine lv_aload_n hx hb dX8_operand_80 rfl (lv_at hl 1 rfl) ?_
    refine lv_iload_n hx hb dX8_operand_81 rfl (lv_at hl 0 rfl) ?_
    obtain ⟨y_22, u_20, h_u_20, h⟩ := bt_of h
    refine kc_X8_signed X hrec  hS h_u_20 hFd hLd hC hl.1 (Nat.le_of_ble_eq_true rfl) dX8_operand_82 (fun r_21 hr_u_20 H locs hS => ?_) (fun x9 hn H locs q9 ce hS a1 a2 a3 => by obtain ⟨e2, rfl⟩ := bt_no h hn; exact hX _ e2 _ _ _ _ _ _ _ hS a1 a2 a3)
    replace h := bt_ok h hr_u_20
    obtain ⟨e9, rfl⟩ := so9 h
    exact hE _ e9.symm _ _ _ _ hS dX8_operand_85
  have h := im e_19 h
  by_cases e_23 : r_4 = 126
  · have h := ip e_23 h
    refine lv_lookup (off := 65) (tgt := 80) hx hb dX8_operand_15 (by decide) (by rw [e_23]; decide) (by decide) ?_
    refine lv_aload_n hx hb dX8_operand_80 rfl (lv_at hl 1 rfl) ?_
    refine lv_iload_n hx hb dX8_operand_81 rfl (lv_at hl 0 rfl) ?_
    obtain ⟨y_26, u_24, h_u_24, h⟩ := bt_of h
    refine kc_X8_signed X hrec  hS h_u_24 hFd hLd hC hl.1 (Nat.le_of_ble_eq_true rfl) dX8_operand_82 (fun r_25 hr_u_24 H locs hS => ?_) (fun x9 hn H locs q9 ce hS a1 a2 a3 => by obtain ⟨e2, rfl⟩ := bt_no h hn; exact hX _ e2 _ _ _ _ _ _ _ hS a1 a2 a3)
    replace h := bt_ok h hr_u_24
    obtain ⟨e9, rfl⟩ := so9 h
    exact hE _ e9.symm _ _ _ _ hS dX8_operand_85
  have h := im e_23 h
  by_cases e_27 : r_4 = 129
  · have h := ip e_27 h
    refine lv_lookup (off := 77) (tgt := 92) hx hb dX8_operand_15 (by decide) (by rw [e_27]; decide) (by decide) ?_
    refine lv_aload_n hx hb dX8_operand_92 rfl (lv_at hl 1 rfl) ?_
    refine lv_iload_n hx hb dX8_operand_93 rfl (lv_at hl 0 rfl) ?_
    obtain ⟨y_30, u_28, h_u_28, h⟩ := bt_of h
    refine kc_X8_number_RX8 hst X  hS h_u_28 (Nat.le_trans (Nat.le_of_ble_eq_true rfl) hF) (Nat.le_trans (Nat.le_of_ble_eq_true rfl) hL) hC hl.1 (Nat.le_of_ble_eq_true rfl) dX8_operand_94 (fun r_29 hr_u_28 H locs hS => ?_) (fun x9 hn H locs q9 ce hS a1 a2 a3 => by obtain ⟨e2, rfl⟩ := bt_no h hn; exact hX _ e2 _ _ _ _ _ _ _ hS a1 a2 a3)
    replace h := bt_ok h hr_u_28
    obtain ⟨e9, rfl⟩ := so9 h
    exact hE _ e9.symm _ _ _ _ hS dX8_operand_97
  have h := im e_27 h
  by_cases e_31 : r_4 = 130
  · have h := ip e_31 h
    refine lv_lookup (off := 77) (tgt := 92) hx hb dX8_operand_15 (by decide) (by rw [e_31]; decide) (by decide) ?_
    refine lv_aload_n hx hb dX8_operand_92 rfl (lv_at hl 1 rfl) ?_
    refine lv_iload_n hx hb dX8_operand_93 rfl (lv_at hl 0 rfl) ?_
    obtain ⟨y_34, u_32, h_u_32, h⟩ := bt_of h
    refine kc_X8_number_RX8 hst X  hS h_u_32 (Nat.le_trans (Nat.le_of_ble_eq_true rfl) hF) (Nat.le_trans (Nat.le_of_ble_eq_true rfl) hL) hC hl.1 (Nat.le_of_ble_eq_true rfl) dX8_operand_94 (fun r_33 hr_u_32 H locs hS => ?_) (fun x9 hn H locs q9 ce hS a1 a2 a3 => by obtain ⟨e2, rfl⟩ := bt_no h hn; exact hX _ e2 _ _ _ _ _ _ _ hS a1 a2 a3)
    replace h := bt_ok h hr_u_32
    obtain ⟨e9, rfl⟩ := so9 h
    exact hE _ e9.symm _ _ _ _ hS dX8_operand_97
  have h := im e_31 h
  have ne_5 : ¬ (29 : Int) = (r_4).toInt := fun q => e_5 (Int32.toInt_inj.mp (q.symm.trans (by decide)))
  have ne_11 : ¬ (33 : Int) = (r_4).toInt := fun q => e_11 (Int32.toInt_inj.mp (q.symm.trans (by decide)))
  have ne_15 : ¬ (40 : Int) = (r_4).toInt := fun q => e_15 (Int32.toInt_inj.mp (q.symm.trans (by decide)))
  have ne_19 : ¬ (45 : Int) = (r_4).toInt := fun q => e_19 (Int32.toInt_inj.mp (q.symm.trans (by decide)))
  have ne_23 : ¬ (126 : Int) = (r_4).toInt := fun q => e_23 (Int32.toInt_inj.mp (q.symm.trans (by decide)))
  have ne_27 : ¬ (129 : Int) = (r_4).toInt := fun q => e_27 (Int32.toInt_inj.mp (q.symm.trans (by decide)))
  have ne_31 : ¬ (130 : Int) = (r_4).toInt := fun q => e_31 (Int32.toInt_inj.mp (q.symm.trans (by decide)))
  refine lv_lookup (off := 110) (tgt := 125) hx hb dX8_operand_15 (by decide) (by simp [Op.lookupswitch.offset, ne_5, ne_11, ne_15, ne_19, ne_23, ne_27, ne_31]) (by decide) ?_
  refine lv_aload_n hx hb dX8_operand_125 rfl (lv_at hl 1 rfl) ?_
  refine lv_iload_n hx hb dX8_operand_126 rfl (lv_at hl 0 rfl) ?_
  obtain ⟨y_37, u_35, h_u_35, h⟩ := bt_of h
  refine kc_X8_named X hrec  hS h_u_35 hFd hLd hC hl.1 (Nat.le_of_ble_eq_true rfl) dX8_operand_127 (fun r_36 hr_u_35 H locs hS => ?_) (fun x9 hn H locs q9 ce hS a1 a2 a3 => by obtain ⟨e2, rfl⟩ := bt_no h hn; exact hX _ e2 _ _ _ _ _ _ _ hS a1 a2 a3)
  replace h := bt_ok h hr_u_35
  obtain ⟨e9, rfl⟩ := so9 h
  exact hE _ e9.symm _ _ _ _ hS dX8_operand_130
def F_X8_operand (N : Nat) (ro : Nat → Nat → Int32 → Int32 → CSt → Option (Sum Nat Int32 × CSt)) (u : CSt) : Option ((Sum Nat Int32) × CSt) := B_X8_operand_0 N ro u
set_option maxHeartbeats 4000000 in
theorem k_X8_operand (l : Launch) (hst : l.stackTraces = false) (D : va_G) (kA : Nat → ClassId) (V Z : Nat → Nat) (N : Nat) {d : Nat} (ro : Nat → Nat → Int32 → Int32 → CSt → Option (Sum Nat Int32 × CSt)) (hrec : RecOK_TE l D kA V Z d ro) (u : CSt) (sz : Nat) {y : (Sum Nat Int32)} {w : CSt} (h : F_X8_operand N ro u = some (y, w)) : vx_Met l yX8_operand (Cond.code yX8_operand cX8_operand 2 (some .int) :: GW) { frames := d + 1 + 20, cells := 1, slots := 6, locals := 60 * (d + 1) + 700 } (cPc D kA V Z [.ref (Z 229)] u sz) (cQix D kA Z u sz y w) (cXc D kA Z u sz y w) 1 6 (va_A (CW kA Z u) sz) := by
  refine vx_ofW (cc := cX8_operand) (maxL := 2) (ret := (some .int)) (by decide) rfl ?_
  intro p e s m args below meth c s₁ Bd hml hxt hv
  obtain ⟨rfl, hsz, hP, hK, hD0, hE⟩ := hv
  have hts := atoms_spec (ws := Cond.code yX8_operand cX8_operand 2 (some .int) :: GW) Bd.pre
  have hl := lv_entry ([.ref (Z 229)]) (n := 2) (Nat.le_of_ble_eq_true rfl)
  rw [lg_entry_eq]
  generalize (lg_sl ([.ref (Z 229)]) ++ List.replicate (2 - (lg_sl ([.ref (Z 229)])).length) Slot.unset).toArray = ls at hl ⊢
  have hl : lv_has ls 2 [(0, .ref (Z 229))] := hl
  subst hsz
  have X : CC p s m ([.ref (Z 229)]).toArray c cX8_operand 2 (Cond.code yX8_operand cX8_operand 2 (some .int)) RX8 D kA V (va_A (CW kA Z u) s.heap.size) := ⟨⟨Bd.exec, Bd.bytes, hml, findClass_of_methodNamed Bd.named, hts⟩, hK, hE, fun q h => Or.inr h⟩
  refine b_X8_operand_0 X (cend_ix X Bd.returns Bd.notSynchronized) hst (cend_X X hxt Bd.notSynchronized) ⟨Nat.le_refl _, Nat.le_refl _⟩ (Nat.le_trans (Nat.le_of_ble_eq_true rfl) (Nat.le_add_left 20 _)) (Nat.le_trans (Nat.le_of_ble_eq_true rfl) (Nat.le_add_left 700 _)) hrec (Nat.le_refl _) (Nat.le_refl _) h  ⟨hP, hD0.self, va_S.rf⟩ (lv_sub hl [0] rfl)
def B_X8_signed_146 (N : Nat) (ro : Nat → Nat → Int32 → Int32 → CSt → Option (Sum Nat Int32 × CSt)) (l2 : Int32) (l4 : Int32) (s1 : Int32) (u : CSt) : Option ((Sum Nat Int32) × CSt) := pc (xL u 0 (n_neg s1 (cL u 0))) fun u_3 => if l2 = (33 : Int32) then (some (.inr 3, u_3)) else (some (.inr l4, u_3))
set_option maxHeartbeats 4000000 in
theorem b_X8_signed_146 {y : (Sum Nat Int32)} {ro : Nat → Nat → Int32 → Int32 → CSt → Option (Sum Nat Int32 × CSt)} (X : CC p s m args c cX8_signed 6 (Cond.code yX8_signed cX8_signed 6 (some .int)) RX8 D kA V A) (hE : CEix p l e R s m args below meth c cX8_signed D kA Z A Q y w) (hst : l.stackTraces = false) (hX : CX p l e R s m args below meth c D kA Z A Q y w) (hC : 1 ≤ R.cells ∧ 6 ≤ R.slots) (hF : 2 ≤ R.frames) (hL : 45 ≤ R.locals) (hrec : RecOK_TE l D kA V Z d ro) (hFd : d + 1 + 20 ≤ R.frames) (hLd : 60 * (d + 1) + 700 ≤ R.locals) {l2 : Int32} {l4 : Int32} {s1 : Int32} {u : CSt}  (h : B_X8_signed_146 N ro l2 l4 s1 u = some (y, w))  (hS : CS D kA Z A s u H locs) (hl : lv_has ls 6 [(0, .ref (Z 229)), (2, .int l2), (4, .int l4)]) : W p l e R s m args below meth c H locs 0 0 Q (F0 m 146 ls [.int s1, .ref (Z 229)]) := by
  obtain ⟨⟨hx, hb, hml, hown, hts⟩, hK, hEV, hA⟩ := id X
  have hG : ∀ w ∈ GW, w.before args s = true := fun w h => hts w (List.mem_cons_of_mem _ h)
  unfold B_X8_signed_146 at h
  refine lv_aload_n hx hb dX8_signed_146 rfl (lv_at hl 0 rfl) ?_
  refine cg_X8_103 X hS dX8_signed_147 ?_
  refine vp_callSl (W.runS (As := [.int s1, .long (cL u 0)]) (rest := [.ref (Z 229)]) X.1 (c_X5_negative l s1 (cL u 0)) (va_cwS 2 hts (gw_P gw_1147 gw_1071 gw_24 gwp_X5_negative) rfl rfl rfl (by decide +kernel) ⟨Nat.le_trans (Nat.le_of_ble_eq_true rfl) hF, Nat.le_trans (Nat.le_of_ble_eq_true rfl) hL⟩) ⟨fun _ _ _ _ q => q, fun _ _ _ => ⟨rfl, trivial⟩⟩ rfl rfl hl.1 rfl (lv_room (Nat.le_of_ble_eq_true rfl)) dX8_signed_150 ⟨Nat.zero_le _, Nat.zero_le _⟩) (fun r_1 q_2 => ?_)
  subst q_2
  obtain ⟨u_3, e_u_3, h⟩ := pc_of h
  refine cp_X8_103 X hS e_u_3 dX8_signed_153 (fun H locs hS => ?_)
  refine lv_iload_n hx hb dX8_signed_156 rfl (lv_at hl 1 rfl) ?_
  refine lv_bipush (v := 33) hx hb dX8_signed_157 (by decide) ?_
  refine lv_icmp_ne (tgt := 166) hx hb dX8_signed_159 (by decide) (fun c_4 => ?_) (fun c_4 => ?_)
  · have h := im (c_4) h
    refine lv_iload hx hb dX8_signed_166 (lv_at hl 2 rfl) ?_
    obtain ⟨e9, rfl⟩ := so9 h
    exact hE _ e9.symm _ _ _ _ hS dX8_signed_168
  · have h := ip (c_4) h
    refine lv_iconst (v := 3) hx hb dX8_signed_162 (by decide) ?_
    refine lv_goto (tgt := 168) hx hb dX8_signed_163 (by decide) ?_
    obtain ⟨e9, rfl⟩ := so9 h
    exact hE _ e9.symm _ _ _ _ hS dX8_signed_168
def B_X8_signed_131 (N : Nat) (ro : Nat → Nat → Int32 → Int32 → CSt → Option (Sum Nat Int32 × CSt)) (l2 : Int32) (l4 : Int32) (s1 : Int32) (u : CSt) : Option ((Sum Nat Int32) × CSt) := zr s1 <| pc (xI u 17 s1) fun u_5 => if l4 = (4 : Int32) then (B_X8_signed_146 N ro l2 l4 1 u_5) else (B_X8_signed_146 N ro l2 l4 0 u_5)
set_option maxHeartbeats 4000000 in
theorem b_X8_signed_131 {y : (Sum Nat Int32)} {ro : Nat → Nat → Int32 → Int32 → CSt → Option (Sum Nat Int32 × CSt)} (X : CC p s m args c cX8_signed 6 (Cond.code yX8_signed cX8_signed 6 (some .int)) RX8 D kA V A) (hE : CEix p l e R s m args below meth c cX8_signed D kA Z A Q y w) (hst : l.stackTraces = false) (hX : CX p l e R s m args below meth c D kA Z A Q y w) (hC : 1 ≤ R.cells ∧ 6 ≤ R.slots) (hF : 2 ≤ R.frames) (hL : 45 ≤ R.locals) (hrec : RecOK_TE l D kA V Z d ro) (hFd : d + 1 + 20 ≤ R.frames) (hLd : 60 * (d + 1) + 700 ≤ R.locals) {l2 : Int32} {l4 : Int32} {s1 : Int32} {u : CSt}  (h : B_X8_signed_131 N ro l2 l4 s1 u = some (y, w))  (hS : CS D kA Z A s u H locs) (hl : lv_has ls 6 [(0, .ref (Z 229)), (2, .int l2), (4, .int l4)]) : W p l e R s m args below meth c H locs 0 0 Q (F0 m 131 ls [.int s1, .ref (Z 229)]) := by
  obtain ⟨⟨hx, hb, hml, hown, hts⟩, hK, hEV, hA⟩ := id X
  have hG : ∀ w ∈ GW, w.before args s = true := fun w h => hts w (List.mem_cons_of_mem _ h)
  unfold B_X8_signed_131 at h
  obtain ⟨z_6, h⟩ := zr_of h
  obtain ⟨u_5, e_u_5, h⟩ := pc_of h
  refine cp_X8_100 X hS e_u_5 z_6 dX8_signed_131 (fun H locs hS => ?_)
  refine lv_aload_n hx hb dX8_signed_134 rfl (lv_at hl 0 rfl) ?_
  refine lv_iload hx hb dX8_signed_135 (lv_at hl 2 rfl) ?_
  refine lv_iconst (v := 4) hx hb dX8_signed_137 (by decide) ?_
  refine lv_icmp_ne (tgt := 145) hx hb dX8_signed_138 (by decide) (fun c_7 => ?_) (fun c_7 => ?_)
  · have h := im (c_7) h
    refine lv_iconst (v := 0) hx hb dX8_signed_145 (by decide) ?_
    exact b_X8_signed_146 X hE hst hX hC hF hL hrec hFd hLd h  hS (lv_sub hl [0, 1, 2] rfl)
  · have h := ip (c_7) h
    refine lv_iconst (v := 1) hx hb dX8_signed_141 (by decide) ?_
    refine lv_goto (tgt := 146) hx hb dX8_signed_142 (by decide) ?_
    exact b_X8_signed_146 X hE hst hX hC hF hL hrec hFd hLd h  hS (lv_sub hl [0, 1, 2] rfl)
def B_X8_signed_130 (N : Nat) (ro : Nat → Nat → Int32 → Int32 → CSt → Option (Sum Nat Int32 × CSt)) (l2 : Int32) (l4 : Int32) (u : CSt) : Option ((Sum Nat Int32) × CSt) := B_X8_signed_131 N ro l2 l4 0 u
set_option maxHeartbeats 4000000 in
theorem b_X8_signed_130 {y : (Sum Nat Int32)} {ro : Nat → Nat → Int32 → Int32 → CSt → Option (Sum Nat Int32 × CSt)} (X : CC p s m args c cX8_signed 6 (Cond.code yX8_signed cX8_signed 6 (some .int)) RX8 D kA V A) (hE : CEix p l e R s m args below meth c cX8_signed D kA Z A Q y w) (hst : l.stackTraces = false) (hX : CX p l e R s m args below meth c D kA Z A Q y w) (hC : 1 ≤ R.cells ∧ 6 ≤ R.slots) (hF : 2 ≤ R.frames) (hL : 45 ≤ R.locals) (hrec : RecOK_TE l D kA V Z d ro) (hFd : d + 1 + 20 ≤ R.frames) (hLd : 60 * (d + 1) + 700 ≤ R.locals) {l2 : Int32} {l4 : Int32} {u : CSt}  (h : B_X8_signed_130 N ro l2 l4 u = some (y, w))  (hS : CS D kA Z A s u H locs) (hl : lv_has ls 6 [(0, .ref (Z 229)), (2, .int l2), (4, .int l4)]) : W p l e R s m args below meth c H locs 0 0 Q (F0 m 130 ls [.ref (Z 229)]) := by
  obtain ⟨⟨hx, hb, hml, hown, hts⟩, hK, hEV, hA⟩ := id X
  have hG : ∀ w ∈ GW, w.before args s = true := fun w h => hts w (List.mem_cons_of_mem _ h)
  unfold B_X8_signed_130 at h
  refine lv_iconst (v := 0) hx hb dX8_signed_130 (by decide) ?_
  exact b_X8_signed_131 X hE hst hX hC hF hL hrec hFd hLd h  hS (lv_sub hl [0, 1, 2] rfl)
def B_X8_signed_110 (N : Nat) (ro : Nat → Nat → Int32 → Int32 → CSt → Option (Sum Nat Int32 × CSt)) (l1 : Int32) (l2 : Int32) (l3 : Int32) (l4 : Int32) (s0 : Nat) (s1 : Int32) (s2 : Int32) (s3 : Int32) (u : CSt) : Option ((Sum Nat Int32) × CSt) := bc (F_X6_step N s0 s1 s2 s3 l1 u) fun r_9 u_8 => if l2 = (45 : Int32) then (if l3 = (0 : Int32) then (B_X8_signed_130 N ro l2 l4 u_8) else (B_X8_signed_131 N ro l2 l4 1 u_8)) else (B_X8_signed_130 N ro l2 l4 u_8)
set_option maxHeartbeats 4000000 in
theorem b_X8_signed_110 {y : (Sum Nat Int32)} {ro : Nat → Nat → Int32 → Int32 → CSt → Option (Sum Nat Int32 × CSt)} (X : CC p s m args c cX8_signed 6 (Cond.code yX8_signed cX8_signed 6 (some .int)) RX8 D kA V A) (hE : CEix p l e R s m args below meth c cX8_signed D kA Z A Q y w) (hst : l.stackTraces = false) (hX : CX p l e R s m args below meth c D kA Z A Q y w) (hC : 1 ≤ R.cells ∧ 6 ≤ R.slots) (hF : 2 ≤ R.frames) (hL : 45 ≤ R.locals) (hrec : RecOK_TE l D kA V Z d ro) (hFd : d + 1 + 20 ≤ R.frames) (hLd : 60 * (d + 1) + 700 ≤ R.locals) {l1 : Int32} {l2 : Int32} {l3 : Int32} {l4 : Int32} {s0 : Nat} {s1 : Int32} {s2 : Int32} {s3 : Int32} {u : CSt}  (h : B_X8_signed_110 N ro l1 l2 l3 l4 s0 s1 s2 s3 u = some (y, w)) (h_s0 : s0 < 2) (hS : CS D kA Z A s u H locs) (hl : lv_has ls 6 [(0, .ref (Z 229)), (1, .int l1), (2, .int l2), (3, .int l3), (4, .int l4)]) : W p l e R s m args below meth c H locs 0 0 Q (F0 m 110 ls [.int s3, .int s2, .int s1, .ref (Z (300 + 50 * s0))]) := by
  obtain ⟨⟨hx, hb, hml, hown, hts⟩, hK, hEV, hA⟩ := id X
  have hG : ∀ w ∈ GW, w.before args s = true := fun w h => hts w (List.mem_cons_of_mem _ h)
  unfold B_X8_signed_110 at h
  refine lv_iload_n hx hb dX8_signed_110 rfl (lv_at hl 1 rfl) ?_
  obtain ⟨r_9, u_8, h_u_8, h⟩ := bc_of h
  refine kc_X6_step_RX8 X h_s0 hS h_u_8 (Nat.le_trans (Nat.le_of_ble_eq_true rfl) hF) (Nat.le_trans (Nat.le_of_ble_eq_true rfl) hL) hl.1 (Nat.le_of_ble_eq_true rfl) dX8_signed_111 (fun H locs hS => ?_)
  refine lv_pop hx hb dX8_signed_114 rfl ?_
  refine lv_aload_n hx hb dX8_signed_115 rfl (lv_at hl 0 rfl) ?_
  refine lv_iload_n hx hb dX8_signed_116 rfl (lv_at hl 2 rfl) ?_
  refine lv_bipush (v := 45) hx hb dX8_signed_117 (by decide) ?_
  refine lv_icmp_ne (tgt := 130) hx hb dX8_signed_119 (by decide) (fun c_10 => ?_) (fun c_10 => ?_)
  · have h := im (c_10) h
    exact b_X8_signed_130 X hE hst hX hC hF hL hrec hFd hLd h  hS (lv_sub hl [0, 2, 4] rfl)
  · have h := ip (c_10) h
    refine lv_iload_n hx hb dX8_signed_122 rfl (lv_at hl 3 rfl) ?_
    refine lv_if_eq (tgt := 130) hx hb dX8_signed_123 (by decide) (fun c_11 => ?_) (fun c_11 => ?_)
    · have h := ip (c_11) h
      exact b_X8_signed_130 X hE hst hX hC hF hL hrec hFd hLd h  hS (lv_sub hl [0, 2, 4] rfl)
    · have h := im (c_11) h
      refine lv_iconst (v := 1) hx hb dX8_signed_126 (by decide) ?_
      refine lv_goto (tgt := 131) hx hb dX8_signed_127 (by decide) ?_
      exact b_X8_signed_131 X hE hst hX hC hF hL hrec hFd hLd h  hS (lv_sub hl [0, 2, 4] rfl)
def B_X8_signed_89 (N : Nat) (ro : Nat → Nat → Int32 → Int32 → CSt → Option (Sum Nat Int32 × CSt)) (l1 : Int32) (l2 : Int32) (l3 : Int32) (l4 : Int32) (s0 : Int32) (u : CSt) : Option ((Sum Nat Int32) × CSt) := ok (cR u 3 < 2) inferInstance <| if l4 = (4 : Int32) then (B_X8_signed_110 N ro l1 l2 l3 l4 (cR u 3) 24 s0 1 u) else (B_X8_signed_110 N ro l1 l2 l3 l4 (cR u 3) 24 s0 0 u)
set_option maxHeartbeats 4000000 in
theorem b_X8_signed_89 {y : (Sum Nat Int32)} {ro : Nat → Nat → Int32 → Int32 → CSt → Option (Sum Nat Int32 × CSt)} (X : CC p s m args c cX8_signed 6 (Cond.code yX8_signed cX8_signed 6 (some .int)) RX8 D kA V A) (hE : CEix p l e R s m args below meth c cX8_signed D kA Z A Q y w) (hst : l.stackTraces = false) (hX : CX p l e R s m args below meth c D kA Z A Q y w) (hC : 1 ≤ R.cells ∧ 6 ≤ R.slots) (hF : 2 ≤ R.frames) (hL : 45 ≤ R.locals) (hrec : RecOK_TE l D kA V Z d ro) (hFd : d + 1 + 20 ≤ R.frames) (hLd : 60 * (d + 1) + 700 ≤ R.locals) {l1 : Int32} {l2 : Int32} {l3 : Int32} {l4 : Int32} {s0 : Int32} {u : CSt}  (h : B_X8_signed_89 N ro l1 l2 l3 l4 s0 u = some (y, w))  (hS : CS D kA Z A s u H locs) (hl : lv_has ls 6 [(0, .ref (Z 229)), (1, .int l1), (2, .int l2), (3, .int l3), (4, .int l4)]) : W p l e R s m args below meth c H locs 0 0 Q (F0 m 89 ls [.int s0]) := by
  obtain ⟨⟨hx, hb, hml, hown, hts⟩, hK, hEV, hA⟩ := id X
  have hG : ∀ w ∈ GW, w.before args s = true := fun w h => hts w (List.mem_cons_of_mem _ h)
  unfold B_X8_signed_89 at h
  refine lv_istore (lv' := [(5, .int s0), (0, .ref (Z 229)), (1, .int l1), (2, .int l2), (3, .int l3), (4, .int l4)]) hx hb dX8_signed_89 hl (by decide) rfl (fun ls hl => ?_)
  refine lv_aload_n hx hb dX8_signed_91 rfl (lv_at hl 1 rfl) ?_
  refine cg_X8_28 X hS dX8_signed_92 ?_
  obtain ⟨z_12, h⟩ := ok_of h
  refine lv_bipush (v := 24) hx hb dX8_signed_95 (by decide) ?_
  refine lv_iload hx hb dX8_signed_97 (lv_at hl 0 rfl) ?_
  refine lv_iload hx hb dX8_signed_99 (lv_at hl 5 rfl) ?_
  refine lv_iconst (v := 4) hx hb dX8_signed_101 (by decide) ?_
  refine lv_icmp_ne (tgt := 109) hx hb dX8_signed_102 (by decide) (fun c_13 => ?_) (fun c_13 => ?_)
  · have h := im (c_13) h
    refine lv_iconst (v := 0) hx hb dX8_signed_109 (by decide) ?_
    exact b_X8_signed_110 X hE hst hX hC hF hL hrec hFd hLd h z_12 hS (lv_sub hl [1, 2, 3, 4, 5] rfl)
  · have h := ip (c_13) h
    refine lv_iconst (v := 1) hx hb dX8_signed_105 (by decide) ?_
    refine lv_goto (tgt := 110) hx hb dX8_signed_106 (by decide) ?_
    exact b_X8_signed_110 X hE hst hX hC hF hL hrec hFd hLd h z_12 hS (lv_sub hl [1, 2, 3, 4, 5] rfl)
def B_X8_signed_54 (N : Nat) (ro : Nat → Nat → Int32 → Int32 → CSt → Option (Sum Nat Int32 × CSt)) (l1 : Int32) (l2 : Int32) (s0 : Int32) (u : CSt) : Option ((Sum Nat Int32) × CSt) := bt (ro 2 0 0 0 u) fun r_15 u_14 => if l2 = (45 : Int32) then (B_X8_signed_89 N ro l1 l2 s0 (n_as r_15 3) 14 u_14) else (if l2 = (126 : Int32) then (B_X8_signed_89 N ro l1 l2 s0 (n_as r_15 3) 15 u_14) else (B_X8_signed_89 N ro l1 l2 s0 (n_as r_15 3) 16 u_14))
set_option maxHeartbeats 4000000 in
theorem b_X8_signed_54 {y : (Sum Nat Int32)} {ro : Nat → Nat → Int32 → Int32 → CSt → Option (Sum Nat Int32 × CSt)} (X : CC p s m args c cX8_signed 6 (Cond.code yX8_signed cX8_signed 6 (some .int)) RX8 D kA V A) (hE : CEix p l e R s m args below meth c cX8_signed D kA Z A Q y w) (hst : l.stackTraces = false) (hX : CX p l e R s m args below meth c D kA Z A Q y w) (hC : 1 ≤ R.cells ∧ 6 ≤ R.slots) (hF : 2 ≤ R.frames) (hL : 45 ≤ R.locals) (hrec : RecOK_TE l D kA V Z d ro) (hFd : d + 1 + 20 ≤ R.frames) (hLd : 60 * (d + 1) + 700 ≤ R.locals) {l1 : Int32} {l2 : Int32} {s0 : Int32} {u : CSt}  (h : B_X8_signed_54 N ro l1 l2 s0 u = some (y, w))  (hS : CS D kA Z A s u H locs) (hl : lv_has ls 6 [(0, .ref (Z 229)), (1, .int l1), (2, .int l2)]) : W p l e R s m args below meth c H locs 0 0 Q (F0 m 54 ls [.int s0]) := by
  obtain ⟨⟨hx, hb, hml, hown, hts⟩, hK, hEV, hA⟩ := id X
  have hG : ∀ w ∈ GW, w.before args s = true := fun w h => hts w (List.mem_cons_of_mem _ h)
  unfold B_X8_signed_54 at h
  refine lv_istore_n (lv' := [(3, .int s0), (0, .ref (Z 229)), (1, .int l1), (2, .int l2)]) hx hb dX8_signed_54 rfl hl (by decide) rfl (fun ls hl => ?_)
  refine lv_aload_n hx hb dX8_signed_55 rfl (lv_at hl 1 rfl) ?_
  obtain ⟨y_16, u_14, h_u_14, h⟩ := bt_of h
  refine kc_X8_operand X hrec  hS h_u_14 hFd hLd hC hl.1 (Nat.le_of_ble_eq_true rfl) dX8_signed_56 (fun r_15 hr_u_14 H locs hS => ?_) (fun x9 hn H locs q9 ce hS a1 a2 a3 => by obtain ⟨e2, rfl⟩ := bt_no h hn; exact hX _ e2 _ _ _ _ _ _ _ hS a1 a2 a3)
  replace h := bt_ok h hr_u_14
  refine lv_iconst (v := 3) hx hb dX8_signed_59 (by decide) ?_
  refine vp_callSi (W.runS (As := [.int r_15, .int 3]) (rest := []) X.1 (c_X5_workedAs l r_15 3) (va_cwS 2 hts (gw_P gw_1143 gw_1144 gw_24 gwp_X5_workedAs) rfl rfl rfl (by decide +kernel) ⟨Nat.le_trans (Nat.le_of_ble_eq_true rfl) hF, Nat.le_trans (Nat.le_of_ble_eq_true rfl) hL⟩) ⟨fun _ _ _ _ q => q, fun _ _ _ => ⟨rfl, trivial⟩⟩ rfl rfl hl.1 rfl (lv_room (Nat.le_of_ble_eq_true rfl)) dX8_signed_60 ⟨Nat.zero_le _, Nat.zero_le _⟩) (fun r_17 q_18 => ?_)
  subst q_18
  refine lv_istore (lv' := [(4, .int (n_as r_15 3)), (3, .int s0), (0, .ref (Z 229)), (1, .int l1), (2, .int l2)]) hx hb dX8_signed_63 hl (by decide) rfl (fun ls hl => ?_)
  refine lv_iload_n hx hb dX8_signed_65 rfl (lv_at hl 4 rfl) ?_
  refine lv_bipush (v := 45) hx hb dX8_signed_66 (by decide) ?_
  refine lv_icmp_ne (tgt := 76) hx hb dX8_signed_68 (by decide) (fun c_19 => ?_) (fun c_19 => ?_)
  · have h := im (c_19) h
    refine lv_iload_n hx hb dX8_signed_76 rfl (lv_at hl 4 rfl) ?_
    refine lv_bipush (v := 126) hx hb dX8_signed_77 (by decide) ?_
    refine lv_icmp_ne (tgt := 87) hx hb dX8_signed_79 (by decide) (fun c_20 => ?_) (fun c_20 => ?_)
    · have h := im (c_20) h
      refine lv_bipush (v := 16) hx hb dX8_signed_87 (by decide) ?_
      exact b_X8_signed_89 X hE hst hX hC hF hL hrec hFd hLd h  hS (lv_sub hl [2, 3, 4, 1, 0] rfl)
    · have h := ip (c_20) h
      refine lv_bipush (v := 15) hx hb dX8_signed_82 (by decide) ?_
      refine lv_goto (tgt := 89) hx hb dX8_signed_84 (by decide) ?_
      exact b_X8_signed_89 X hE hst hX hC hF hL hrec hFd hLd h  hS (lv_sub hl [2, 3, 4, 1, 0] rfl)
  · have h := ip (c_19) h
    refine lv_bipush (v := 14) hx hb dX8_signed_71 (by decide) ?_
    refine lv_goto (tgt := 89) hx hb dX8_signed_73 (by decide) ?_
    exact b_X8_signed_89 X hE hst hX hC hF hL hrec hFd hLd h  hS (lv_sub hl [2, 3, 4, 1, 0] rfl)
def B_X8_signed_49 (N : Nat) (ro : Nat → Nat → Int32 → Int32 → CSt → Option (Sum Nat Int32 × CSt)) (l1 : Int32) (l2 : Int32) (u : CSt) : Option ((Sum Nat Int32) × CSt) := B_X8_signed_54 N ro l1 l2 1 u
set_option maxHeartbeats 4000000 in
theorem b_X8_signed_49 {y : (Sum Nat Int32)} {ro : Nat → Nat → Int32 → Int32 → CSt → Option (Sum Nat Int32 × CSt)} (X : CC p s m args c cX8_signed 6 (Cond.code yX8_signed cX8_signed 6 (some .int)) RX8 D kA V A) (hE : CEix p l e R s m args below meth c cX8_signed D kA Z A Q y w) (hst : l.stackTraces = false) (hX : CX p l e R s m args below meth c D kA Z A Q y w) (hC : 1 ≤ R.cells ∧ 6 ≤ R.slots) (hF : 2 ≤ R.frames) (hL : 45 ≤ R.locals) (hrec : RecOK_TE l D kA V Z d ro) (hFd : d + 1 + 20 ≤ R.frames) (hLd : 60 * (d + 1) + 700 ≤ R.locals) {l1 : Int32} {l2 : Int32} {u : CSt}  (h : B_X8_signed_49 N ro l1 l2 u = some (y, w))  (hS : CS D kA Z A s u H locs) (hl : lv_has ls 6 [(0, .ref (Z 229)), (1, .int l1), (2, .int l2)]) : W p l e R s m args below meth c H locs 0 0 Q (F0 m 49 ls []) := by
  obtain ⟨⟨hx, hb, hml, hown, hts⟩, hK, hEV, hA⟩ := id X
  have hG : ∀ w ∈ GW, w.before args s = true := fun w h => hts w (List.mem_cons_of_mem _ h)
  unfold B_X8_signed_49 at h
  refine lv_iconst (v := 1) hx hb dX8_signed_49 (by decide) ?_
  refine lv_goto (tgt := 54) hx hb dX8_signed_50 (by decide) ?_
  exact b_X8_signed_54 X hE hst hX hC hF hL hrec hFd hLd h  hS (lv_sub hl [0, 1, 2] rfl)
def B_X8_signed_0 (N : Nat) (ro : Nat → Nat → Int32 → Int32 → CSt → Option (Sum Nat Int32 × CSt)) (l1 : Int32) (u : CSt) : Option ((Sum Nat Int32) × CSt) := bc (F_X9_type N u) fun r_22 u_21 => ok (cR u_21 3 < 2) inferInstance <| bc (F_X6_cost N (cR u_21 3) l1 u_21) fun _ u_24 => bc (F_X9_next N u_24) fun _ u_25 => bc (F_X9_is N 129 u_25) fun r_27 u_26 => if r_27 = (0 : Int32) then (bc (F_X9_is N 130 u_26) fun r_30 u_29 => if r_30 = (0 : Int32) then (B_X8_signed_54 N ro l1 r_22 0 u_29) else (B_X8_signed_49 N ro l1 r_22 u_29)) else (B_X8_signed_49 N ro l1 r_22 u_26)
set_option maxHeartbeats 4000000 in
theorem b_X8_signed_0 {y : (Sum Nat Int32)} {ro : Nat → Nat → Int32 → Int32 → CSt → Option (Sum Nat Int32 × CSt)} (X : CC p s m args c cX8_signed 6 (Cond.code yX8_signed cX8_signed 6 (some .int)) RX8 D kA V A) (hE : CEix p l e R s m args below meth c cX8_signed D kA Z A Q y w) (hst : l.stackTraces = false) (hX : CX p l e R s m args below meth c D kA Z A Q y w) (hC : 1 ≤ R.cells ∧ 6 ≤ R.slots) (hF : 2 ≤ R.frames) (hL : 45 ≤ R.locals) (hrec : RecOK_TE l D kA V Z d ro) (hFd : d + 1 + 20 ≤ R.frames) (hLd : 60 * (d + 1) + 700 ≤ R.locals) {l1 : Int32} {u : CSt}  (h : B_X8_signed_0 N ro l1 u = some (y, w))  (hS : CS D kA Z A s u H locs) (hl : lv_has ls 6 [(0, .ref (Z 229)), (1, .int l1)]) : W p l e R s m args below meth c H locs 0 0 Q (F0 m 0 ls []) := by
  obtain ⟨⟨hx, hb, hml, hown, hts⟩, hK, hEV, hA⟩ := id X
  have hG : ∀ w ∈ GW, w.before args s = true := fun w h => hts w (List.mem_cons_of_mem _ h)
  unfold B_X8_signed_0 at h
  refine lv_aload_n hx hb dX8_signed_0 rfl (lv_at hl 0 rfl) ?_
  refine cg_X8_24 X hS dX8_signed_1 ?_
  obtain ⟨r_22, u_21, h_u_21, h⟩ := bc_of h
  refine kc_X9_type_RX8 X  hS h_u_21 (Nat.le_trans (Nat.le_of_ble_eq_true rfl) hF) (Nat.le_trans (Nat.le_of_ble_eq_true rfl) hL) hl.1 (Nat.le_of_ble_eq_true rfl) dX8_signed_4 (fun H locs hS => ?_)
  refine lv_istore_n (lv' := [(2, .int r_22), (0, .ref (Z 229)), (1, .int l1)]) hx hb dX8_signed_7 rfl hl (by decide) rfl (fun ls hl => ?_)
  refine lv_aload_n hx hb dX8_signed_8 rfl (lv_at hl 1 rfl) ?_
  refine cg_X8_28 X hS dX8_signed_9 ?_
  obtain ⟨z_23, h⟩ := ok_of h
  refine lv_iload_n hx hb dX8_signed_12 rfl (lv_at hl 2 rfl) ?_
  obtain ⟨r_u_24, u_24, h_u_24, h⟩ := bc_of h
  refine kc_X6_cost_RX8 X z_23 hS h_u_24 (Nat.le_trans (Nat.le_of_ble_eq_true rfl) hF) (Nat.le_trans (Nat.le_of_ble_eq_true rfl) hL) hl.1 (Nat.le_of_ble_eq_true rfl) dX8_signed_13 (fun H locs hS => ?_)
  refine lv_aload_n hx hb dX8_signed_16 rfl (lv_at hl 1 rfl) ?_
  refine cg_X8_24 X hS dX8_signed_17 ?_
  obtain ⟨r_u_25, u_25, h_u_25, h⟩ := bc_of h
  refine kc_X9_next_RX8 X  hS h_u_25 (Nat.le_trans (Nat.le_of_ble_eq_true rfl) hF) (Nat.le_trans (Nat.le_of_ble_eq_true rfl) hL) hl.1 (Nat.le_of_ble_eq_true rfl) dX8_signed_20 (fun H locs hS => ?_)
  refine lv_aload_n hx hb dX8_signed_23 rfl (lv_at hl 1 rfl) ?_
  refine cg_X8_24 X hS dX8_signed_24 ?_
  refine lv_sipush (v := 129) hx hb dX8_signed_27 (by decide) ?_
  obtain ⟨r_27, u_26, h_u_26, h⟩ := bc_of h
  refine kc_X9_is_RX8 X  hS h_u_26 (Nat.le_trans (Nat.le_of_ble_eq_true rfl) hF) (Nat.le_trans (Nat.le_of_ble_eq_true rfl) hL) hl.1 (Nat.le_of_ble_eq_true rfl) dX8_signed_30 (fun H locs hS => ?_)
  refine lv_if_ne (tgt := 49) hx hb dX8_signed_33 (by decide) (fun c_28 => ?_) (fun c_28 => ?_)
  · have h := im (c_28) h
    exact b_X8_signed_49 X hE hst hX hC hF hL hrec hFd hLd h  hS (lv_sub hl [1, 2, 0] rfl)
  · have h := ip (c_28) h
    refine lv_aload_n hx hb dX8_signed_36 rfl (lv_at hl 1 rfl) ?_
    refine cg_X8_24 X hS dX8_signed_37 ?_
    refine lv_sipush (v := 130) hx hb dX8_signed_40 (by decide) ?_
    obtain ⟨r_30, u_29, h_u_29, h⟩ := bc_of h
    refine kc_X9_is_RX8 X  hS h_u_29 (Nat.le_trans (Nat.le_of_ble_eq_true rfl) hF) (Nat.le_trans (Nat.le_of_ble_eq_true rfl) hL) hl.1 (Nat.le_of_ble_eq_true rfl) dX8_signed_43 (fun H locs hS => ?_)
    refine lv_if_eq (tgt := 53) hx hb dX8_signed_46 (by decide) (fun c_31 => ?_) (fun c_31 => ?_)
    · have h := ip (c_31) h
      refine lv_iconst (v := 0) hx hb dX8_signed_53 (by decide) ?_
      exact b_X8_signed_54 X hE hst hX hC hF hL hrec hFd hLd h  hS (lv_sub hl [1, 2, 0] rfl)
    · have h := im (c_31) h
      exact b_X8_signed_49 X hE hst hX hC hF hL hrec hFd hLd h  hS (lv_sub hl [1, 2, 0] rfl)
def F_X8_signed (N : Nat) (ro : Nat → Nat → Int32 → Int32 → CSt → Option (Sum Nat Int32 × CSt)) (l1 : Int32) (u : CSt) : Option ((Sum Nat Int32) × CSt) := B_X8_signed_0 N ro l1 u
set_option maxHeartbeats 4000000 in
theorem k_X8_signed (l : Launch) (hst : l.stackTraces = false) (D : va_G) (kA : Nat → ClassId) (V Z : Nat → Nat) (N : Nat) {d : Nat} (ro : Nat → Nat → Int32 → Int32 → CSt → Option (Sum Nat Int32 × CSt)) (hrec : RecOK_TE l D kA V Z d ro) (l1 : Int32) (u : CSt) (sz : Nat) {y : (Sum Nat Int32)} {w : CSt} (h : F_X8_signed N ro l1 u = some (y, w)) : vx_Met l yX8_signed (Cond.code yX8_signed cX8_signed 6 (some .int) :: GW) { frames := d + 1 + 20, cells := 1, slots := 6, locals := 60 * (d + 1) + 700 } (cPc D kA V Z [.ref (Z 229), .int l1] u sz) (cQix D kA Z u sz y w) (cXc D kA Z u sz y w) 1 6 (va_A (CW kA Z u) sz) := by
  refine vx_ofW (cc := cX8_signed) (maxL := 6) (ret := (some .int)) (by decide) rfl ?_
  intro p e s m args below meth c s₁ Bd hml hxt hv
  obtain ⟨rfl, hsz, hP, hK, hD0, hE⟩ := hv
  have hts := atoms_spec (ws := Cond.code yX8_signed cX8_signed 6 (some .int) :: GW) Bd.pre
  have hl := lv_entry ([.ref (Z 229), .int l1]) (n := 6) (Nat.le_of_ble_eq_true rfl)
  rw [lg_entry_eq]
  generalize (lg_sl ([.ref (Z 229), .int l1]) ++ List.replicate (6 - (lg_sl ([.ref (Z 229), .int l1])).length) Slot.unset).toArray = ls at hl ⊢
  have hl : lv_has ls 6 [(0, .ref (Z 229)), (1, .int l1)] := hl
  subst hsz
  have X : CC p s m ([.ref (Z 229), .int l1]).toArray c cX8_signed 6 (Cond.code yX8_signed cX8_signed 6 (some .int)) RX8 D kA V (va_A (CW kA Z u) s.heap.size) := ⟨⟨Bd.exec, Bd.bytes, hml, findClass_of_methodNamed Bd.named, hts⟩, hK, hE, fun q h => Or.inr h⟩
  refine b_X8_signed_0 X (cend_ix X Bd.returns Bd.notSynchronized) hst (cend_X X hxt Bd.notSynchronized) ⟨Nat.le_refl _, Nat.le_refl _⟩ (Nat.le_trans (Nat.le_of_ble_eq_true rfl) (Nat.le_add_left 20 _)) (Nat.le_trans (Nat.le_of_ble_eq_true rfl) (Nat.le_add_left 700 _)) hrec (Nat.le_refl _) (Nat.le_refl _) h  ⟨hP, hD0.self, va_S.rf⟩ (lv_sub hl [0, 1] rfl)
def B_X8_bracket_0 (N : Nat) (ro : Nat → Nat → Int32 → Int32 → CSt → Option (Sum Nat Int32 × CSt)) (l1 : Int32) (u : CSt) : Option ((Sum Nat Int32) × CSt) := bc (F_X9_next N u) fun _ u_1 => bc (F_X9_isKindWord N u_1) fun r_3 u_2 => if r_3 = (0 : Int32) then (bt (ro 0 0 0 0 u_2) fun r_18 u_17 => bc (F_X9_next N u_17) fun _ u_20 => some (.inr r_18, u_20)) else (bc (F_X9_takeKind N u_2) fun r_6 u_5 => bc (F_X9_next N u_5) fun _ u_7 => ok (cR u_7 3 < 2) inferInstance <| bc (F_X6_cost N (cR u_7 3) l1 u_7) fun _ u_9 => bt (ro 2 0 0 0 u_9) fun r_11 u_10 => ok (cR u_10 3 < 2) inferInstance <| bc (F_X6_step N (cR u_10 3) 25 r_6 0 l1 u_10) fun r_15 u_14 => pc (xI u_14 17 0) fun u_16 => some (.inr r_6, u_16))
set_option maxHeartbeats 4000000 in
theorem b_X8_bracket_0 {y : (Sum Nat Int32)} {ro : Nat → Nat → Int32 → Int32 → CSt → Option (Sum Nat Int32 × CSt)} (X : CC p s m args c cX8_bracket 3 (Cond.code yX8_bracket cX8_bracket 3 (some .int)) RX8 D kA V A) (hE : CEix p l e R s m args below meth c cX8_bracket D kA Z A Q y w) (hst : l.stackTraces = false) (hX : CX p l e R s m args below meth c D kA Z A Q y w) (hC : 1 ≤ R.cells ∧ 6 ≤ R.slots) (hF : 2 ≤ R.frames) (hL : 45 ≤ R.locals) (hrec : RecOK_TE l D kA V Z d ro) (hFd : d + 1 + 20 ≤ R.frames) (hLd : 60 * (d + 1) + 700 ≤ R.locals) {l1 : Int32} {u : CSt}  (h : B_X8_bracket_0 N ro l1 u = some (y, w))  (hS : CS D kA Z A s u H locs) (hl : lv_has ls 3 [(0, .ref (Z 229)), (1, .int l1)]) : W p l e R s m args below meth c H locs 0 0 Q (F0 m 0 ls []) := by
  obtain ⟨⟨hx, hb, hml, hown, hts⟩, hK, hEV, hA⟩ := id X
  have hG : ∀ w ∈ GW, w.before args s = true := fun w h => hts w (List.mem_cons_of_mem _ h)
  unfold B_X8_bracket_0 at h
  refine lv_aload_n hx hb dX8_bracket_0 rfl (lv_at hl 0 rfl) ?_
  refine cg_X8_24 X hS dX8_bracket_1 ?_
  obtain ⟨r_u_1, u_1, h_u_1, h⟩ := bc_of h
  refine kc_X9_next_RX8 X  hS h_u_1 (Nat.le_trans (Nat.le_of_ble_eq_true rfl) hF) (Nat.le_trans (Nat.le_of_ble_eq_true rfl) hL) hl.1 (Nat.le_of_ble_eq_true rfl) dX8_bracket_4 (fun H locs hS => ?_)
  refine lv_aload_n hx hb dX8_bracket_7 rfl (lv_at hl 0 rfl) ?_
  refine cg_X8_24 X hS dX8_bracket_8 ?_
  obtain ⟨r_3, u_2, h_u_2, h⟩ := bc_of h
  refine kc_X9_isKindWord_RX8 X  hS h_u_2 (Nat.le_trans (Nat.le_of_ble_eq_true rfl) hF) (Nat.le_trans (Nat.le_of_ble_eq_true rfl) hL) hl.1 (Nat.le_of_ble_eq_true rfl) dX8_bracket_11 (fun H locs hS => ?_)
  refine lv_if_ne (tgt := 31) hx hb dX8_bracket_14 (by decide) (fun c_4 => ?_) (fun c_4 => ?_)
  · have h := im (c_4) h
    refine lv_aload_n hx hb dX8_bracket_31 rfl (lv_at hl 0 rfl) ?_
    refine cg_X8_24 X hS dX8_bracket_32 ?_
    obtain ⟨r_6, u_5, h_u_5, h⟩ := bc_of h
    refine kc_X9_takeKind_RX8 X  hS h_u_5 (Nat.le_trans (Nat.le_of_ble_eq_true rfl) hF) (Nat.le_trans (Nat.le_of_ble_eq_true rfl) hL) hl.1 (Nat.le_of_ble_eq_true rfl) dX8_bracket_35 (fun H locs hS => ?_)
    refine lv_istore_n (lv' := [(2, .int r_6), (0, .ref (Z 229)), (1, .int l1)]) hx hb dX8_bracket_38 rfl hl (by decide) rfl (fun ls hl => ?_)
    refine lv_aload_n hx hb dX8_bracket_39 rfl (lv_at hl 1 rfl) ?_
    refine cg_X8_24 X hS dX8_bracket_40 ?_
    obtain ⟨r_u_7, u_7, h_u_7, h⟩ := bc_of h
    refine kc_X9_next_RX8 X  hS h_u_7 (Nat.le_trans (Nat.le_of_ble_eq_true rfl) hF) (Nat.le_trans (Nat.le_of_ble_eq_true rfl) hL) hl.1 (Nat.le_of_ble_eq_true rfl) dX8_bracket_43 (fun H locs hS => ?_)
    refine lv_aload_n hx hb dX8_bracket_46 rfl (lv_at hl 1 rfl) ?_
    refine cg_X8_28 X hS dX8_bracket_47 ?_
    obtain ⟨z_8, h⟩ := ok_of h
    refine lv_iload_n hx hb dX8_bracket_50 rfl (lv_at hl 2 rfl) ?_
    obtain ⟨r_u_9, u_9, h_u_9, h⟩ := bc_of h
    refine kc_X6_cost_RX8 X z_8 hS h_u_9 (Nat.le_trans (Nat.le_of_ble_eq_true rfl) hF) (Nat.le_trans (Nat.le_of_ble_eq_true rfl) hL) hl.1 (Nat.le_of_ble_eq_true rfl) dX8_bracket_51 (fun H locs hS => ?_)
    refine lv_aload_n hx hb dX8_bracket_54 rfl (lv_at hl 1 rfl) ?_
    obtain ⟨y_12, u_10, h_u_10, h⟩ := bt_of h
    refine kc_X8_operand X hrec  hS h_u_10 hFd hLd hC hl.1 (Nat.le_of_ble_eq_true rfl) dX8_bracket_55 (fun r_11 hr_u_10 H locs hS => ?_) (fun x9 hn H locs q9 ce hS a1 a2 a3 => by obtain ⟨e2, rfl⟩ := bt_no h hn; exact hX _ e2 _ _ _ _ _ _ _ hS a1 a2 a3)
    replace h := bt_ok h hr_u_10
    refine lv_pop hx hb dX8_bracket_58 rfl ?_
    refine lv_aload_n hx hb dX8_bracket_59 rfl (lv_at hl 1 rfl) ?_
    refine cg_X8_28 X hS dX8_bracket_60 ?_
    obtain ⟨z_13, h⟩ := ok_of h
    refine lv_bipush (v := 25) hx hb dX8_bracket_63 (by decide) ?_
    refine lv_iload_n hx hb dX8_bracket_65 rfl (lv_at hl 0 rfl) ?_
    refine lv_iconst (v := 0) hx hb dX8_bracket_66 (by decide) ?_
    refine lv_iload_n hx hb dX8_bracket_67 rfl (lv_at hl 2 rfl) ?_
    obtain ⟨r_15, u_14, h_u_14, h⟩ := bc_of h
    refine kc_X6_step_RX8 X z_13 hS h_u_14 (Nat.le_trans (Nat.le_of_ble_eq_true rfl) hF) (Nat.le_trans (Nat.le_of_ble_eq_true rfl) hL) hl.1 (Nat.le_of_ble_eq_true rfl) dX8_bracket_68 (fun H locs hS => ?_)
    refine lv_pop hx hb dX8_bracket_71 rfl ?_
    refine lv_aload_n hx hb dX8_bracket_72 rfl (lv_at hl 1 rfl) ?_
    refine lv_iconst (v := 0) hx hb dX8_bracket_73 (by decide) ?_
    obtain ⟨u_16, e_u_16, h⟩ := pc_of h
    refine cp_X8_100 X hS e_u_16 (Or.inl rfl) dX8_bracket_74 (fun H locs hS => ?_)
    refine lv_iload_n hx hb dX8_bracket_77 rfl (lv_at hl 0 rfl) ?_
    obtain ⟨e9, rfl⟩ := so9 h
    exact hE _ e9.symm _ _ _ _ hS dX8_bracket_78
  · have h := ip (c_4) h
    refine lv_aload_n hx hb dX8_bracket_17 rfl (lv_at hl 0 rfl) ?_
    obtain ⟨y_19, u_17, h_u_17, h⟩ := bt_of h
    refine kc_X8_expression X hrec  hS h_u_17 hFd hLd hC hl.1 (Nat.le_of_ble_eq_true rfl) dX8_bracket_18 (fun r_18 hr_u_17 H locs hS => ?_) (fun x9 hn H locs q9 ce hS a1 a2 a3 => by obtain ⟨e2, rfl⟩ := bt_no h hn; exact hX _ e2 _ _ _ _ _ _ _ hS a1 a2 a3)
    replace h := bt_ok h hr_u_17
    refine lv_istore_n (lv' := [(2, .int r_18), (0, .ref (Z 229)), (1, .int l1)]) hx hb dX8_bracket_21 rfl hl (by decide) rfl (fun ls hl => ?_)
    refine lv_aload_n hx hb dX8_bracket_22 rfl (lv_at hl 1 rfl) ?_
    refine cg_X8_24 X hS dX8_bracket_23 ?_
    obtain ⟨r_u_20, u_20, h_u_20, h⟩ := bc_of h
    refine kc_X9_next_RX8 X  hS h_u_20 (Nat.le_trans (Nat.le_of_ble_eq_true rfl) hF) (Nat.le_trans (Nat.le_of_ble_eq_true rfl) hL) hl.1 (Nat.le_of_ble_eq_true rfl) dX8_bracket_26 (fun H locs hS => ?_)
    refine lv_iload_n hx hb dX8_bracket_29 rfl (lv_at hl 0 rfl) ?_
    obtain ⟨e9, rfl⟩ := so9 h
    exact hE _ e9.symm _ _ _ _ hS dX8_bracket_30
def F_X8_bracket (N : Nat) (ro : Nat → Nat → Int32 → Int32 → CSt → Option (Sum Nat Int32 × CSt)) (l1 : Int32) (u : CSt) : Option ((Sum Nat Int32) × CSt) := B_X8_bracket_0 N ro l1 u
set_option maxHeartbeats 4000000 in
theorem k_X8_bracket (l : Launch) (hst : l.stackTraces = false) (D : va_G) (kA : Nat → ClassId) (V Z : Nat → Nat) (N : Nat) {d : Nat} (ro : Nat → Nat → Int32 → Int32 → CSt → Option (Sum Nat Int32 × CSt)) (hrec : RecOK_TE l D kA V Z d ro) (l1 : Int32) (u : CSt) (sz : Nat) {y : (Sum Nat Int32)} {w : CSt} (h : F_X8_bracket N ro l1 u = some (y, w)) : vx_Met l yX8_bracket (Cond.code yX8_bracket cX8_bracket 3 (some .int) :: GW) { frames := d + 1 + 20, cells := 1, slots := 6, locals := 60 * (d + 1) + 700 } (cPc D kA V Z [.ref (Z 229), .int l1] u sz) (cQix D kA Z u sz y w) (cXc D kA Z u sz y w) 1 6 (va_A (CW kA Z u) sz) := by
  refine vx_ofW (cc := cX8_bracket) (maxL := 3) (ret := (some .int)) (by decide) rfl ?_
  intro p e s m args below meth c s₁ Bd hml hxt hv
  obtain ⟨rfl, hsz, hP, hK, hD0, hE⟩ := hv
  have hts := atoms_spec (ws := Cond.code yX8_bracket cX8_bracket 3 (some .int) :: GW) Bd.pre
  have hl := lv_entry ([.ref (Z 229), .int l1]) (n := 3) (Nat.le_of_ble_eq_true rfl)
  rw [lg_entry_eq]
  generalize (lg_sl ([.ref (Z 229), .int l1]) ++ List.replicate (3 - (lg_sl ([.ref (Z 229), .int l1])).length) Slot.unset).toArray = ls at hl ⊢
  have hl : lv_has ls 3 [(0, .ref (Z 229)), (1, .int l1)] := hl
  subst hsz
  have X : CC p s m ([.ref (Z 229), .int l1]).toArray c cX8_bracket 3 (Cond.code yX8_bracket cX8_bracket 3 (some .int)) RX8 D kA V (va_A (CW kA Z u) s.heap.size) := ⟨⟨Bd.exec, Bd.bytes, hml, findClass_of_methodNamed Bd.named, hts⟩, hK, hE, fun q h => Or.inr h⟩
  refine b_X8_bracket_0 X (cend_ix X Bd.returns Bd.notSynchronized) hst (cend_X X hxt Bd.notSynchronized) ⟨Nat.le_refl _, Nat.le_refl _⟩ (Nat.le_trans (Nat.le_of_ble_eq_true rfl) (Nat.le_add_left 20 _)) (Nat.le_trans (Nat.le_of_ble_eq_true rfl) (Nat.le_add_left 700 _)) hrec (Nat.le_refl _) (Nat.le_refl _) h  ⟨hP, hD0.self, va_S.rf⟩ (lv_sub hl [0, 1] rfl)
def B_X8_named_58 (N : Nat) (ro : Nat → Nat → Int32 → Int32 → CSt → Option (Sum Nat Int32 × CSt)) (l1 : Int32) (u : CSt) : Option ((Sum Nat Int32) × CSt) := bt (ro 6 0 l1 0 u) fun r_2 u_1 => pc (xI u_1 17 0) fun u_4 => some (.inr r_2, u_4)
set_option maxHeartbeats 4000000 in
theorem b_X8_named_58 {y : (Sum Nat Int32)} {ro : Nat → Nat → Int32 → Int32 → CSt → Option (Sum Nat Int32 × CSt)} (X : CC p s m args c cX8_named 3 (Cond.code yX8_named cX8_named 3 (some .int)) RX8 D kA V A) (hE : CEix p l e R s m args below meth c cX8_named D kA Z A Q y w) (hst : l.stackTraces = false) (hX : CX p l e R s m args below meth c D kA Z A Q y w) (hC : 1 ≤ R.cells ∧ 6 ≤ R.slots) (hF : 1 ≤ R.frames) (hL : 21 ≤ R.locals) (hrec : RecOK_TE l D kA V Z d ro) (hFd : d + 1 + 20 ≤ R.frames) (hLd : 60 * (d + 1) + 700 ≤ R.locals) {l1 : Int32} {u : CSt}  (h : B_X8_named_58 N ro l1 u = some (y, w))  (hS : CS D kA Z A s u H locs) (hl : lv_has ls 3 [(0, .ref (Z 229)), (1, .int l1)]) : W p l e R s m args below meth c H locs 0 0 Q (F0 m 58 ls []) := by
  obtain ⟨⟨hx, hb, hml, hown, hts⟩, hK, hEV, hA⟩ := id X
  have hG : ∀ w ∈ GW, w.before args s = true := fun w h => hts w (List.mem_cons_of_mem _ h)
  unfold B_X8_named_58 at h
  refine lv_aload_n hx hb dX8_named_58 rfl (lv_at hl 0 rfl) ?_
  refine lv_iload_n hx hb dX8_named_59 rfl (lv_at hl 1 rfl) ?_
  obtain ⟨y_3, u_1, h_u_1, h⟩ := bt_of h
  refine kc_X8_ofPlace X hrec  hS h_u_1 hFd hLd hC hl.1 (Nat.le_of_ble_eq_true rfl) dX8_named_60 (fun r_2 hr_u_1 H locs hS => ?_) (fun x9 hn H locs q9 ce hS a1 a2 a3 => by obtain ⟨e2, rfl⟩ := bt_no h hn; exact hX _ e2 _ _ _ _ _ _ _ hS a1 a2 a3)
  replace h := bt_ok h hr_u_1
  refine lv_istore_n (lv' := [(2, .int r_2), (0, .ref (Z 229)), (1, .int l1)]) hx hb dX8_named_63 rfl hl (by decide) rfl (fun ls hl => ?_)
  refine lv_aload_n hx hb dX8_named_64 rfl (lv_at hl 1 rfl) ?_
  refine lv_iconst (v := 0) hx hb dX8_named_65 (by decide) ?_
  obtain ⟨u_4, e_u_4, h⟩ := pc_of h
  refine cp_X8_100 X hS e_u_4 (Or.inl rfl) dX8_named_66 (fun H locs hS => ?_)
  refine lv_iload_n hx hb dX8_named_69 rfl (lv_at hl 0 rfl) ?_
  obtain ⟨e9, rfl⟩ := so9 h
  exact hE _ e9.symm _ _ _ _ hS dX8_named_70
def B_X8_named_0 (N : Nat) (ro : Nat → Nat → Int32 → Int32 → CSt → Option (Sum Nat Int32 × CSt)) (l1 : Int32) (u : CSt) : Option ((Sum Nat Int32) × CSt) := bc (F_X9_typeAhead N 1 u) fun r_6 u_5 => if r_6 = (40 : Int32) then (bt (ro 8 0 l1 0 u_5) fun r_19 u_18 => pc (xI u_18 17 0) fun u_21 => some (.inr r_19, u_21)) else (bc (F_X9_typeAhead N 1 u_5) fun r_9 u_8 => if r_9 = (46 : Int32) then (bc (F_X9_typeAhead N 2 u_8) fun r_12 u_11 => if r_12 = (128 : Int32) then (bt (ro 7 0 l1 0 u_11) fun r_15 u_14 => pc (xI u_14 17 0) fun u_17 => some (.inr r_15, u_17)) else (B_X8_named_58 N ro l1 u_11)) else (B_X8_named_58 N ro l1 u_8))
set_option maxHeartbeats 4000000 in
theorem b_X8_named_0 {y : (Sum Nat Int32)} {ro : Nat → Nat → Int32 → Int32 → CSt → Option (Sum Nat Int32 × CSt)} (X : CC p s m args c cX8_named 3 (Cond.code yX8_named cX8_named 3 (some .int)) RX8 D kA V A) (hE : CEix p l e R s m args below meth c cX8_named D kA Z A Q y w) (hst : l.stackTraces = false) (hX : CX p l e R s m args below meth c D kA Z A Q y w) (hC : 1 ≤ R.cells ∧ 6 ≤ R.slots) (hF : 1 ≤ R.frames) (hL : 21 ≤ R.locals) (hrec : RecOK_TE l D kA V Z d ro) (hFd : d + 1 + 20 ≤ R.frames) (hLd : 60 * (d + 1) + 700 ≤ R.locals) {l1 : Int32} {u : CSt}  (h : B_X8_named_0 N ro l1 u = some (y, w))  (hS : CS D kA Z A s u H locs) (hl : lv_has ls 3 [(0, .ref (Z 229)), (1, .int l1)]) : W p l e R s m args below meth c H locs 0 0 Q (F0 m 0 ls []) := by
  obtain ⟨⟨hx, hb, hml, hown, hts⟩, hK, hEV, hA⟩ := id X
  have hG : ∀ w ∈ GW, w.before args s = true := fun w h => hts w (List.mem_cons_of_mem _ h)
  unfold B_X8_named_0 at h
  refine lv_aload_n hx hb dX8_named_0 rfl (lv_at hl 0 rfl) ?_
  refine cg_X8_24 X hS dX8_named_1 ?_
  refine lv_iconst (v := 1) hx hb dX8_named_4 (by decide) ?_
  obtain ⟨r_6, u_5, h_u_5, h⟩ := bc_of h
  refine kc_X9_typeAhead_RX8 X  hS h_u_5 (Nat.le_trans (Nat.le_of_ble_eq_true rfl) hF) (Nat.le_trans (Nat.le_of_ble_eq_true rfl) hL) hl.1 (Nat.le_of_ble_eq_true rfl) dX8_named_5 (fun H locs hS => ?_)
  refine lv_bipush (v := 40) hx hb dX8_named_8 (by decide) ?_
  refine lv_icmp_ne (tgt := 22) hx hb dX8_named_10 (by decide) (fun c_7 => ?_) (fun c_7 => ?_)
  · have h := im (c_7) h
    refine lv_aload_n hx hb dX8_named_22 rfl (lv_at hl 0 rfl) ?_
    refine cg_X8_24 X hS dX8_named_23 ?_
    refine lv_iconst (v := 1) hx hb dX8_named_26 (by decide) ?_
    obtain ⟨r_9, u_8, h_u_8, h⟩ := bc_of h
    refine kc_X9_typeAhead_RX8 X  hS h_u_8 (Nat.le_trans (Nat.le_of_ble_eq_true rfl) hF) (Nat.le_trans (Nat.le_of_ble_eq_true rfl) hL) hl.1 (Nat.le_of_ble_eq_true rfl) dX8_named_27 (fun H locs hS => ?_)
    refine lv_bipush (v := 46) hx hb dX8_named_30 (by decide) ?_
    refine lv_icmp_ne (tgt := 58) hx hb dX8_named_32 (by decide) (fun c_10 => ?_) (fun c_10 => ?_)
    · have h := im (c_10) h
      exact b_X8_named_58 X hE hst hX hC hF hL hrec hFd hLd h  hS (lv_sub hl [0, 1] rfl)
    · have h := ip (c_10) h
      refine lv_aload_n hx hb dX8_named_35 rfl (lv_at hl 0 rfl) ?_
      refine cg_X8_24 X hS dX8_named_36 ?_
      refine lv_iconst (v := 2) hx hb dX8_named_39 (by decide) ?_
      obtain ⟨r_12, u_11, h_u_11, h⟩ := bc_of h
      refine kc_X9_typeAhead_RX8 X  hS h_u_11 (Nat.le_trans (Nat.le_of_ble_eq_true rfl) hF) (Nat.le_trans (Nat.le_of_ble_eq_true rfl) hL) hl.1 (Nat.le_of_ble_eq_true rfl) dX8_named_40 (fun H locs hS => ?_)
      refine lv_sipush (v := 128) hx hb dX8_named_43 (by decide) ?_
      refine lv_icmp_ne (tgt := 58) hx hb dX8_named_46 (by decide) (fun c_13 => ?_) (fun c_13 => ?_)
      · have h := im (c_13) h
        exact b_X8_named_58 X hE hst hX hC hF hL hrec hFd hLd h  hS (lv_sub hl [0, 1] rfl)
      · have h := ip (c_13) h
        refine lv_aload_n hx hb dX8_named_49 rfl (lv_at hl 0 rfl) ?_
        refine lv_iload_n hx hb dX8_named_50 rfl (lv_at hl 1 rfl) ?_
        obtain ⟨y_16, u_14, h_u_14, h⟩ := bt_of h
        refine kc_X8_ofInstance X hrec  hS h_u_14 hFd hLd hC hl.1 (Nat.le_of_ble_eq_true rfl) dX8_named_51 (fun r_15 hr_u_14 H locs hS => ?_) (fun x9 hn H locs q9 ce hS a1 a2 a3 => by obtain ⟨e2, rfl⟩ := bt_no h hn; exact hX _ e2 _ _ _ _ _ _ _ hS a1 a2 a3)
        replace h := bt_ok h hr_u_14
        refine lv_istore_n (lv' := [(2, .int r_15), (0, .ref (Z 229)), (1, .int l1)]) hx hb dX8_named_54 rfl hl (by decide) rfl (fun ls hl => ?_)
        refine lv_goto (tgt := 64) hx hb dX8_named_55 (by decide) ?_
        refine lv_aload_n hx hb dX8_named_64 rfl (lv_at hl 1 rfl) ?_
        refine lv_iconst (v := 0) hx hb dX8_named_65 (by decide) ?_
        obtain ⟨u_17, e_u_17, h⟩ := pc_of h
        refine cp_X8_100 X hS e_u_17 (Or.inl rfl) dX8_named_66 (fun H locs hS => ?_)
        refine lv_iload_n hx hb dX8_named_69 rfl (lv_at hl 0 rfl) ?_
        obtain ⟨e9, rfl⟩ := so9 h
        exact hE _ e9.symm _ _ _ _ hS dX8_named_70
  · have h := ip (c_7) h
    refine lv_aload_n hx hb dX8_named_13 rfl (lv_at hl 0 rfl) ?_
    refine lv_iload_n hx hb dX8_named_14 rfl (lv_at hl 1 rfl) ?_
    obtain ⟨y_20, u_18, h_u_18, h⟩ := bt_of h
    refine kc_X8_called X hrec  hS h_u_18 hFd hLd hC hl.1 (Nat.le_of_ble_eq_true rfl) dX8_named_15 (fun r_19 hr_u_18 H locs hS => ?_) (fun x9 hn H locs q9 ce hS a1 a2 a3 => by obtain ⟨e2, rfl⟩ := bt_no h hn; exact hX _ e2 _ _ _ _ _ _ _ hS a1 a2 a3)
    replace h := bt_ok h hr_u_18
    refine lv_istore_n (lv' := [(2, .int r_19), (0, .ref (Z 229)), (1, .int l1)]) hx hb dX8_named_18 rfl hl (by decide) rfl (fun ls hl => ?_)
    refine lv_goto (tgt := 64) hx hb dX8_named_19 (by decide) ?_
    refine lv_aload_n hx hb dX8_named_64 rfl (lv_at hl 1 rfl) ?_
    refine lv_iconst (v := 0) hx hb dX8_named_65 (by decide) ?_
    obtain ⟨u_21, e_u_21, h⟩ := pc_of h
    refine cp_X8_100 X hS e_u_21 (Or.inl rfl) dX8_named_66 (fun H locs hS => ?_)
    refine lv_iload_n hx hb dX8_named_69 rfl (lv_at hl 0 rfl) ?_
    obtain ⟨e9, rfl⟩ := so9 h
    exact hE _ e9.symm _ _ _ _ hS dX8_named_70
def F_X8_named (N : Nat) (ro : Nat → Nat → Int32 → Int32 → CSt → Option (Sum Nat Int32 × CSt)) (l1 : Int32) (u : CSt) : Option ((Sum Nat Int32) × CSt) := B_X8_named_0 N ro l1 u
set_option maxHeartbeats 4000000 in
theorem k_X8_named (l : Launch) (hst : l.stackTraces = false) (D : va_G) (kA : Nat → ClassId) (V Z : Nat → Nat) (N : Nat) {d : Nat} (ro : Nat → Nat → Int32 → Int32 → CSt → Option (Sum Nat Int32 × CSt)) (hrec : RecOK_TE l D kA V Z d ro) (l1 : Int32) (u : CSt) (sz : Nat) {y : (Sum Nat Int32)} {w : CSt} (h : F_X8_named N ro l1 u = some (y, w)) : vx_Met l yX8_named (Cond.code yX8_named cX8_named 3 (some .int) :: GW) { frames := d + 1 + 20, cells := 1, slots := 6, locals := 60 * (d + 1) + 700 } (cPc D kA V Z [.ref (Z 229), .int l1] u sz) (cQix D kA Z u sz y w) (cXc D kA Z u sz y w) 1 6 (va_A (CW kA Z u) sz) := by
  refine vx_ofW (cc := cX8_named) (maxL := 3) (ret := (some .int)) (by decide) rfl ?_
  intro p e s m args below meth c s₁ Bd hml hxt hv
  obtain ⟨rfl, hsz, hP, hK, hD0, hE⟩ := hv
  have hts := atoms_spec (ws := Cond.code yX8_named cX8_named 3 (some .int) :: GW) Bd.pre
  have hl := lv_entry ([.ref (Z 229), .int l1]) (n := 3) (Nat.le_of_ble_eq_true rfl)
  rw [lg_entry_eq]
  generalize (lg_sl ([.ref (Z 229), .int l1]) ++ List.replicate (3 - (lg_sl ([.ref (Z 229), .int l1])).length) Slot.unset).toArray = ls at hl ⊢
  have hl : lv_has ls 3 [(0, .ref (Z 229)), (1, .int l1)] := hl
  subst hsz
  have X : CC p s m ([.ref (Z 229), .int l1]).toArray c cX8_named 3 (Cond.code yX8_named cX8_named 3 (some .int)) RX8 D kA V (va_A (CW kA Z u) s.heap.size) := ⟨⟨Bd.exec, Bd.bytes, hml, findClass_of_methodNamed Bd.named, hts⟩, hK, hE, fun q h => Or.inr h⟩
  refine b_X8_named_0 X (cend_ix X Bd.returns Bd.notSynchronized) hst (cend_X X hxt Bd.notSynchronized) ⟨Nat.le_refl _, Nat.le_refl _⟩ (Nat.le_trans (Nat.le_of_ble_eq_true rfl) (Nat.le_add_left 20 _)) (Nat.le_trans (Nat.le_of_ble_eq_true rfl) (Nat.le_add_left 700 _)) hrec (Nat.le_refl _) (Nat.le_refl _) h  ⟨hP, hD0.self, va_S.rf⟩ (lv_sub hl [0, 1] rfl)
def B_X8_ofPlace_58 (N : Nat) (ro : Nat → Nat → Int32 → Int32 → CSt → Option (Sum Nat Int32 × CSt)) (l1 : Int32) (l2 : Nat) (u : CSt) : Option ((Sum Nat Int32) × CSt) := bc (F_X9_is N 46 u) fun r_2 u_1 => if r_2 = (0 : Int32) then (some (.inr (mI u_1 l2 5), u_1)) else (ok (cR u_1 3 < 2) inferInstance <| bt (F_X8_bit N (mI u_1 l2 5) u_1) fun r_6 u_5 => bc (F_X6_step N (cR u_1 3) 20 r_6 0 l1 u_5) fun r_9 u_8 => some (.inr 3, u_8))
set_option maxHeartbeats 4000000 in
theorem b_X8_ofPlace_58 {y : (Sum Nat Int32)} {ro : Nat → Nat → Int32 → Int32 → CSt → Option (Sum Nat Int32 × CSt)} (X : CC p s m args c cX8_ofPlace 3 (Cond.code yX8_ofPlace cX8_ofPlace 3 (some .int)) RX8 D kA V A) (hE : CEix p l e R s m args below meth c cX8_ofPlace D kA Z A Q y w) (hst : l.stackTraces = false) (hX : CX p l e R s m args below meth c D kA Z A Q y w) (hC : 1 ≤ R.cells ∧ 6 ≤ R.slots) (hF : 9 ≤ R.frames) (hL : 169 ≤ R.locals) (hrec : RecOK_TE l D kA V Z d ro) (hFd : d + 1 + 20 ≤ R.frames) (hLd : 60 * (d + 1) + 700 ≤ R.locals) {l1 : Int32} {l2 : Nat} {u : CSt}  (h : B_X8_ofPlace_58 N ro l1 l2 u = some (y, w)) (h_l2 : l2 < 338) (hS : CS D kA Z A s u H locs) (hl : lv_has ls 3 [(0, .ref (Z 229)), (1, .int l1), (2, .ref (Z (1000 + l2)))]) : W p l e R s m args below meth c H locs 0 0 Q (F0 m 58 ls []) := by
  obtain ⟨⟨hx, hb, hml, hown, hts⟩, hK, hEV, hA⟩ := id X
  have hG : ∀ w ∈ GW, w.before args s = true := fun w h => hts w (List.mem_cons_of_mem _ h)
  unfold B_X8_ofPlace_58 at h
  refine lv_aload_n hx hb dX8_ofPlace_58 rfl (lv_at hl 0 rfl) ?_
  refine cg_X8_24 X hS dX8_ofPlace_59 ?_
  refine lv_bipush (v := 46) hx hb dX8_ofPlace_62 (by decide) ?_
  obtain ⟨r_2, u_1, h_u_1, h⟩ := bc_of h
  refine kc_X9_is_RX8 X  hS h_u_1 (Nat.le_trans (Nat.le_of_ble_eq_true rfl) hF) (Nat.le_trans (Nat.le_of_ble_eq_true rfl) hL) hl.1 (Nat.le_of_ble_eq_true rfl) dX8_ofPlace_64 (fun H locs hS => ?_)
  refine lv_if_ne (tgt := 75) hx hb dX8_ofPlace_67 (by decide) (fun c_3 => ?_) (fun c_3 => ?_)
  · have h := im (c_3) h
    refine lv_aload_n hx hb dX8_ofPlace_75 rfl (lv_at hl 0 rfl) ?_
    refine cg_X8_28 X hS dX8_ofPlace_76 ?_
    obtain ⟨z_4, h⟩ := ok_of h
    refine lv_bipush (v := 20) hx hb dX8_ofPlace_79 (by decide) ?_
    refine lv_aload_n hx hb dX8_ofPlace_81 rfl (lv_at hl 0 rfl) ?_
    refine lv_aload_n hx hb dX8_ofPlace_82 rfl (lv_at hl 2 rfl) ?_
    refine cg_X8_220 X h_l2 hS dX8_ofPlace_83 ?_
    obtain ⟨y_7, u_5, h_u_5, h⟩ := bt_of h
    refine kc_X8_bit_RX8 hst X  hS h_u_5 (Nat.le_trans (Nat.le_of_ble_eq_true rfl) hF) (Nat.le_trans (Nat.le_of_ble_eq_true rfl) hL) hC hl.1 (Nat.le_of_ble_eq_true rfl) dX8_ofPlace_86 (fun r_6 hr_u_5 H locs hS => ?_) (fun x9 hn H locs q9 ce hS a1 a2 a3 => by obtain ⟨e2, rfl⟩ := bt_no h hn; exact hX _ e2 _ _ _ _ _ _ _ hS a1 a2 a3)
    replace h := bt_ok h hr_u_5
    refine lv_iconst (v := 0) hx hb dX8_ofPlace_89 (by decide) ?_
    refine lv_iload_n hx hb dX8_ofPlace_90 rfl (lv_at hl 1 rfl) ?_
    obtain ⟨r_9, u_8, h_u_8, h⟩ := bc_of h
    refine kc_X6_step_RX8 X z_4 hS h_u_8 (Nat.le_trans (Nat.le_of_ble_eq_true rfl) hF) (Nat.le_trans (Nat.le_of_ble_eq_true rfl) hL) hl.1 (Nat.le_of_ble_eq_true rfl) dX8_ofPlace_91 (fun H locs hS => ?_)
    refine lv_pop hx hb dX8_ofPlace_94 rfl ?_
    refine lv_iconst (v := 3) hx hb dX8_ofPlace_95 (by decide) ?_
    obtain ⟨e9, rfl⟩ := so9 h
    exact hE _ e9.symm _ _ _ _ hS dX8_ofPlace_96
  · have h := ip (c_3) h
    refine lv_aload_n hx hb dX8_ofPlace_70 rfl (lv_at hl 2 rfl) ?_
    refine cg_X8_220 X h_l2 hS dX8_ofPlace_71 ?_
    obtain ⟨e9, rfl⟩ := so9 h
    exact hE _ e9.symm _ _ _ _ hS dX8_ofPlace_74
def B_X8_ofPlace_0 (N : Nat) (ro : Nat → Nat → Int32 → Int32 → CSt → Option (Sum Nat Int32 × CSt)) (l1 : Int32) (u : CSt) : Option ((Sum Nat Int32) × CSt) := bt (F_X8_placeName N 0 u) fun r_11 u_10 => ok (r_11 < 338) inferInstance <| bc (F_X9_next N u_10) fun _ u_14 => if (mI u_14 r_11 8) = (0 : Int32) then (bc (F_X8_get N r_11 64 l1 u_14) fun _ u_16 => B_X8_ofPlace_58 N ro l1 r_11 u_16) else (ok (cR u_14 3 < 2) inferInstance <| bc (F_X6_cost N (cR u_14 3) l1 u_14) fun _ u_18 => bt (ro 11 r_11 l1 0 u_18) fun _ u_19 => ok (cR u_19 3 < 2) inferInstance <| bc (F_X6_step N (cR u_19 3) 12 0 0 l1 u_19) fun r_23 u_22 => B_X8_ofPlace_58 N ro l1 r_11 u_22)
set_option maxHeartbeats 4000000 in
theorem b_X8_ofPlace_0 {y : (Sum Nat Int32)} {ro : Nat → Nat → Int32 → Int32 → CSt → Option (Sum Nat Int32 × CSt)} (X : CC p s m args c cX8_ofPlace 3 (Cond.code yX8_ofPlace cX8_ofPlace 3 (some .int)) RX8 D kA V A) (hE : CEix p l e R s m args below meth c cX8_ofPlace D kA Z A Q y w) (hst : l.stackTraces = false) (hX : CX p l e R s m args below meth c D kA Z A Q y w) (hC : 1 ≤ R.cells ∧ 6 ≤ R.slots) (hF : 9 ≤ R.frames) (hL : 169 ≤ R.locals) (hrec : RecOK_TE l D kA V Z d ro) (hFd : d + 1 + 20 ≤ R.frames) (hLd : 60 * (d + 1) + 700 ≤ R.locals) {l1 : Int32} {u : CSt}  (h : B_X8_ofPlace_0 N ro l1 u = some (y, w))  (hS : CS D kA Z A s u H locs) (hl : lv_has ls 3 [(0, .ref (Z 229)), (1, .int l1)]) : W p l e R s m args below meth c H locs 0 0 Q (F0 m 0 ls []) := by
  obtain ⟨⟨hx, hb, hml, hown, hts⟩, hK, hEV, hA⟩ := id X
  have hG : ∀ w ∈ GW, w.before args s = true := fun w h => hts w (List.mem_cons_of_mem _ h)
  unfold B_X8_ofPlace_0 at h
  refine lv_aload_n hx hb dX8_ofPlace_0 rfl (lv_at hl 0 rfl) ?_
  refine lv_iconst (v := 0) hx hb dX8_ofPlace_1 (by decide) ?_
  obtain ⟨y_12, u_10, h_u_10, h⟩ := bt_of h
  refine kc_X8_placeName_RX8 hst X  hS h_u_10 (Nat.le_trans (Nat.le_of_ble_eq_true rfl) hF) (Nat.le_trans (Nat.le_of_ble_eq_true rfl) hL) hC hl.1 (Nat.le_of_ble_eq_true rfl) dX8_ofPlace_2 (fun r_11 hr_u_10 H locs hS => ?_) (fun x9 hn H locs q9 ce hS a1 a2 a3 => by obtain ⟨e2, rfl⟩ := bt_no h hn; exact hX _ e2 _ _ _ _ _ _ _ hS a1 a2 a3)
  replace h := bt_ok h hr_u_10
  obtain ⟨z_13, h⟩ := ok_of h
  refine lv_astore_n (lv' := [(2, .ref (Z (1000 + r_11))), (0, .ref (Z 229)), (1, .int l1)]) hx hb dX8_ofPlace_5 rfl hl (by decide) rfl (fun ls hl => ?_)
  refine lv_aload_n hx hb dX8_ofPlace_6 rfl (lv_at hl 1 rfl) ?_
  refine cg_X8_24 X hS dX8_ofPlace_7 ?_
  obtain ⟨r_u_14, u_14, h_u_14, h⟩ := bc_of h
  refine kc_X9_next_RX8 X  hS h_u_14 (Nat.le_trans (Nat.le_of_ble_eq_true rfl) hF) (Nat.le_trans (Nat.le_of_ble_eq_true rfl) hL) hl.1 (Nat.le_of_ble_eq_true rfl) dX8_ofPlace_10 (fun H locs hS => ?_)
  refine lv_aload_n hx hb dX8_ofPlace_13 rfl (lv_at hl 0 rfl) ?_
  refine cg_X8_83 X z_13 hS dX8_ofPlace_14 ?_
  refine lv_if_eq (tgt := 50) hx hb dX8_ofPlace_17 (by decide) (fun c_15 => ?_) (fun c_15 => ?_)
  · have h := ip (c_15) h
    refine lv_aload_n hx hb dX8_ofPlace_50 rfl (lv_at hl 1 rfl) ?_
    refine lv_aload_n hx hb dX8_ofPlace_51 rfl (lv_at hl 0 rfl) ?_
    refine lv_bipush (v := 64) hx hb dX8_ofPlace_52 (by decide) ?_
    refine lv_iload_n hx hb dX8_ofPlace_54 rfl (lv_at hl 2 rfl) ?_
    obtain ⟨r_u_16, u_16, h_u_16, h⟩ := bc_of h
    refine kc_X8_get_RX8 X z_13 hS h_u_16 (Nat.le_trans (Nat.le_of_ble_eq_true rfl) hF) (Nat.le_trans (Nat.le_of_ble_eq_true rfl) hL) hl.1 (Nat.le_of_ble_eq_true rfl) dX8_ofPlace_55 (fun H locs hS => ?_)
    exact b_X8_ofPlace_58 X hE hst hX hC hF hL hrec hFd hLd h z_13 hS (lv_sub hl [1, 2, 0] rfl)
  · have h := im (c_15) h
    refine lv_aload_n hx hb dX8_ofPlace_20 rfl (lv_at hl 1 rfl) ?_
    refine cg_X8_28 X hS dX8_ofPlace_21 ?_
    obtain ⟨z_17, h⟩ := ok_of h
    refine lv_iload_n hx hb dX8_ofPlace_24 rfl (lv_at hl 2 rfl) ?_
    obtain ⟨r_u_18, u_18, h_u_18, h⟩ := bc_of h
    refine kc_X6_cost_RX8 X z_17 hS h_u_18 (Nat.le_trans (Nat.le_of_ble_eq_true rfl) hF) (Nat.le_trans (Nat.le_of_ble_eq_true rfl) hL) hl.1 (Nat.le_of_ble_eq_true rfl) dX8_ofPlace_25 (fun H locs hS => ?_)
    refine lv_aload_n hx hb dX8_ofPlace_28 rfl (lv_at hl 1 rfl) ?_
    refine lv_aload_n hx hb dX8_ofPlace_29 rfl (lv_at hl 0 rfl) ?_
    refine lv_iload_n hx hb dX8_ofPlace_30 rfl (lv_at hl 2 rfl) ?_
    obtain ⟨y_20, u_19, h_u_19, h⟩ := bt_of h
    refine kc_X8_index X hrec z_13 hS h_u_19 hFd hLd hC hl.1 (Nat.le_of_ble_eq_true rfl) dX8_ofPlace_31 (fun r_u_19 hr_u_19 H locs hS => ?_) (fun x9 hn H locs q9 ce hS a1 a2 a3 => by obtain ⟨e2, rfl⟩ := bt_no h hn; exact hX _ e2 _ _ _ _ _ _ _ hS a1 a2 a3)
    replace h := bt_ok h hr_u_19
    refine lv_aload_n hx hb dX8_ofPlace_34 rfl (lv_at hl 1 rfl) ?_
    refine cg_X8_28 X hS dX8_ofPlace_35 ?_
    obtain ⟨z_21, h⟩ := ok_of h
    refine lv_bipush (v := 12) hx hb dX8_ofPlace_38 (by decide) ?_
    refine lv_iconst (v := 0) hx hb dX8_ofPlace_40 (by decide) ?_
    refine lv_iconst (v := 0) hx hb dX8_ofPlace_41 (by decide) ?_
    refine lv_iload_n hx hb dX8_ofPlace_42 rfl (lv_at hl 2 rfl) ?_
    obtain ⟨r_23, u_22, h_u_22, h⟩ := bc_of h
    refine kc_X6_step_RX8 X z_21 hS h_u_22 (Nat.le_trans (Nat.le_of_ble_eq_true rfl) hF) (Nat.le_trans (Nat.le_of_ble_eq_true rfl) hL) hl.1 (Nat.le_of_ble_eq_true rfl) dX8_ofPlace_43 (fun H locs hS => ?_)
    refine lv_pop hx hb dX8_ofPlace_46 rfl ?_
    refine lv_goto (tgt := 58) hx hb dX8_ofPlace_47 (by decide) ?_
    exact b_X8_ofPlace_58 X hE hst hX hC hF hL hrec hFd hLd h z_13 hS (lv_sub hl [1, 2, 0] rfl)
def F_X8_ofPlace (N : Nat) (ro : Nat → Nat → Int32 → Int32 → CSt → Option (Sum Nat Int32 × CSt)) (l1 : Int32) (u : CSt) : Option ((Sum Nat Int32) × CSt) := B_X8_ofPlace_0 N ro l1 u
set_option maxHeartbeats 4000000 in
theorem k_X8_ofPlace (l : Launch) (hst : l.stackTraces = false) (D : va_G) (kA : Nat → ClassId) (V Z : Nat → Nat) (N : Nat) {d : Nat} (ro : Nat → Nat → Int32 → Int32 → CSt → Option (Sum Nat Int32 × CSt)) (hrec : RecOK_TE l D kA V Z d ro) (l1 : Int32) (u : CSt) (sz : Nat) {y : (Sum Nat Int32)} {w : CSt} (h : F_X8_ofPlace N ro l1 u = some (y, w)) : vx_Met l yX8_ofPlace (Cond.code yX8_ofPlace cX8_ofPlace 3 (some .int) :: GW) { frames := d + 1 + 20, cells := 1, slots := 6, locals := 60 * (d + 1) + 700 } (cPc D kA V Z [.ref (Z 229), .int l1] u sz) (cQix D kA Z u sz y w) (cXc D kA Z u sz y w) 1 6 (va_A (CW kA Z u) sz) := by
  refine vx_ofW (cc := cX8_ofPlace) (maxL := 3) (ret := (some .int)) (by decide) rfl ?_
  intro p e s m args below meth c s₁ Bd hml hxt hv
  obtain ⟨rfl, hsz, hP, hK, hD0, hE⟩ := hv
  have hts := atoms_spec (ws := Cond.code yX8_ofPlace cX8_ofPlace 3 (some .int) :: GW) Bd.pre
  have hl := lv_entry ([.ref (Z 229), .int l1]) (n := 3) (Nat.le_of_ble_eq_true rfl)
  rw [lg_entry_eq]
  generalize (lg_sl ([.ref (Z 229), .int l1]) ++ List.replicate (3 - (lg_sl ([.ref (Z 229), .int l1])).length) Slot.unset).toArray = ls at hl ⊢
  have hl : lv_has ls 3 [(0, .ref (Z 229)), (1, .int l1)] := hl
  subst hsz
  have X : CC p s m ([.ref (Z 229), .int l1]).toArray c cX8_ofPlace 3 (Cond.code yX8_ofPlace cX8_ofPlace 3 (some .int)) RX8 D kA V (va_A (CW kA Z u) s.heap.size) := ⟨⟨Bd.exec, Bd.bytes, hml, findClass_of_methodNamed Bd.named, hts⟩, hK, hE, fun q h => Or.inr h⟩
  refine b_X8_ofPlace_0 X (cend_ix X Bd.returns Bd.notSynchronized) hst (cend_X X hxt Bd.notSynchronized) ⟨Nat.le_refl _, Nat.le_refl _⟩ (Nat.le_trans (Nat.le_of_ble_eq_true rfl) (Nat.le_add_left 20 _)) (Nat.le_trans (Nat.le_of_ble_eq_true rfl) (Nat.le_add_left 700 _)) hrec (Nat.le_refl _) (Nat.le_refl _) h  ⟨hP, hD0.self, va_S.rf⟩ (lv_sub hl [0, 1] rfl)
def B_X8_ofInstance_132 (N : Nat) (ro : Nat → Nat → Int32 → Int32 → CSt → Option (Sum Nat Int32 × CSt)) (l2 : Nat) (l3 : Int32) (l4 : Nat) (u : CSt) : Option ((Sum Nat Int32) × CSt) := bc (F_X9_next N u) fun _ u_1 => if (mI u_1 l4 8) = (0 : Int32) then (ok (cR u_1 3 < 2) inferInstance <| bc (F_X6_step N (cR u_1 3) 67 ((mI u_1 l2 9) + (mI u_1 l4 9)) 0 l3 u_1) fun r_5 u_4 => some (.inr (mI u_4 l4 5), u_4)) else (ok (cR u_1 3 < 2) inferInstance <| bc (F_X6_cost N (cR u_1 3) l3 u_1) fun _ u_7 => bt (ro 12 0 0 0 u_7) fun _ u_8 => ok (cR u_8 3 < 2) inferInstance <| bc (F_X6_step N (cR u_8 3) 10 ((mI u_1 l2 9) + (mI u_1 l4 9)) (mI u_8 l4 7) l3 u_8) fun r_12 u_11 => ok (cR u_11 3 < 2) inferInstance <| bc (F_X6_step N (cR u_11 3) 12 0 0 l3 u_11) fun r_15 u_14 => some (.inr (mI u_14 l4 5), u_14))
set_option maxHeartbeats 4000000 in
theorem b_X8_ofInstance_132 {y : (Sum Nat Int32)} {ro : Nat → Nat → Int32 → Int32 → CSt → Option (Sum Nat Int32 × CSt)} (X : CC p s m args c cX8_ofInstance 6 (Cond.code yX8_ofInstance cX8_ofInstance 6 (some .int)) RX8 D kA V A) (hE : CEix p l e R s m args below meth c cX8_ofInstance D kA Z A Q y w) (hst : l.stackTraces = false) (hX : CX p l e R s m args below meth c D kA Z A Q y w) (hC : 1 ≤ R.cells ∧ 6 ≤ R.slots) (hF : 7 ≤ R.frames) (hL : 122 ≤ R.locals) (hrec : RecOK_TE l D kA V Z d ro) (hFd : d + 1 + 20 ≤ R.frames) (hLd : 60 * (d + 1) + 700 ≤ R.locals) {l2 : Nat} {l3 : Int32} {l4 : Nat} {u : CSt}  (h : B_X8_ofInstance_132 N ro l2 l3 l4 u = some (y, w)) (h_l2 : l2 < 338) (h_l4 : l4 < 338) (hS : CS D kA Z A s u H locs) (hl : lv_has ls 6 [(0, .ref (Z 229)), (2, .ref (Z (1000 + l2))), (3, .int l3), (4, .ref (Z (1000 + l4)))]) : W p l e R s m args below meth c H locs 0 0 Q (F0 m 132 ls []) := by
  obtain ⟨⟨hx, hb, hml, hown, hts⟩, hK, hEV, hA⟩ := id X
  have hG : ∀ w ∈ GW, w.before args s = true := fun w h => hts w (List.mem_cons_of_mem _ h)
  unfold B_X8_ofInstance_132 at h
  refine lv_aload_n hx hb dX8_ofInstance_132 rfl (lv_at hl 0 rfl) ?_
  refine cg_X8_24 X hS dX8_ofInstance_133 ?_
  obtain ⟨r_u_1, u_1, h_u_1, h⟩ := bc_of h
  refine kc_X9_next_RX8 X  hS h_u_1 (Nat.le_trans (Nat.le_of_ble_eq_true rfl) hF) (Nat.le_trans (Nat.le_of_ble_eq_true rfl) hL) hl.1 (Nat.le_of_ble_eq_true rfl) dX8_ofInstance_136 (fun H locs hS => ?_)
  refine lv_aload_n hx hb dX8_ofInstance_139 rfl (lv_at hl 1 rfl) ?_
  refine cg_X8_229 X h_l2 hS dX8_ofInstance_140 ?_
  refine lv_aload hx hb dX8_ofInstance_143 (lv_at hl 3 rfl) ?_
  refine cg_X8_229 X h_l4 hS dX8_ofInstance_145 ?_
  refine lv_iadd hx hb dX8_ofInstance_148 ?_
  refine lv_istore (lv' := [(5, .int ((mI u_1 l2 9) + (mI u_1 l4 9))), (0, .ref (Z 229)), (2, .ref (Z (1000 + l2))), (3, .int l3), (4, .ref (Z (1000 + l4)))]) hx hb dX8_ofInstance_149 hl (by decide) rfl (fun ls hl => ?_)
  refine lv_aload hx hb dX8_ofInstance_151 (lv_at hl 4 rfl) ?_
  refine cg_X8_83 X h_l4 hS dX8_ofInstance_153 ?_
  refine lv_if_eq (tgt := 205) hx hb dX8_ofInstance_156 (by decide) (fun c_2 => ?_) (fun c_2 => ?_)
  · have h := ip (c_2) h
    refine lv_aload_n hx hb dX8_ofInstance_205 rfl (lv_at hl 1 rfl) ?_
    refine cg_X8_28 X hS dX8_ofInstance_206 ?_
    obtain ⟨z_3, h⟩ := ok_of h
    refine lv_bipush (v := 67) hx hb dX8_ofInstance_209 (by decide) ?_
    refine lv_iload hx hb dX8_ofInstance_211 (lv_at hl 0 rfl) ?_
    refine lv_iconst (v := 0) hx hb dX8_ofInstance_213 (by decide) ?_
    refine lv_iload_n hx hb dX8_ofInstance_214 rfl (lv_at hl 3 rfl) ?_
    obtain ⟨r_5, u_4, h_u_4, h⟩ := bc_of h
    refine kc_X6_step_RX8 X z_3 hS h_u_4 (Nat.le_trans (Nat.le_of_ble_eq_true rfl) hF) (Nat.le_trans (Nat.le_of_ble_eq_true rfl) hL) hl.1 (Nat.le_of_ble_eq_true rfl) dX8_ofInstance_215 (fun H locs hS => ?_)
    refine lv_pop hx hb dX8_ofInstance_218 rfl ?_
    refine lv_aload hx hb dX8_ofInstance_219 (lv_at hl 4 rfl) ?_
    refine cg_X8_220 X h_l4 hS dX8_ofInstance_221 ?_
    obtain ⟨e9, rfl⟩ := so9 h
    exact hE _ e9.symm _ _ _ _ hS dX8_ofInstance_224
  · have h := im (c_2) h
    refine lv_aload_n hx hb dX8_ofInstance_159 rfl (lv_at hl 1 rfl) ?_
    refine cg_X8_28 X hS dX8_ofInstance_160 ?_
    obtain ⟨z_6, h⟩ := ok_of h
    refine lv_iload_n hx hb dX8_ofInstance_163 rfl (lv_at hl 3 rfl) ?_
    obtain ⟨r_u_7, u_7, h_u_7, h⟩ := bc_of h
    refine kc_X6_cost_RX8 X z_6 hS h_u_7 (Nat.le_trans (Nat.le_of_ble_eq_true rfl) hF) (Nat.le_trans (Nat.le_of_ble_eq_true rfl) hL) hl.1 (Nat.le_of_ble_eq_true rfl) dX8_ofInstance_164 (fun H locs hS => ?_)
    refine lv_aload_n hx hb dX8_ofInstance_167 rfl (lv_at hl 1 rfl) ?_
    obtain ⟨y_9, u_8, h_u_8, h⟩ := bt_of h
    refine kc_X8_indexNumber X hrec  hS h_u_8 hFd hLd hC hl.1 (Nat.le_of_ble_eq_true rfl) dX8_ofInstance_168 (fun r_u_8 hr_u_8 H locs hS => ?_) (fun x9 hn H locs q9 ce hS a1 a2 a3 => by obtain ⟨e2, rfl⟩ := bt_no h hn; exact hX _ e2 _ _ _ _ _ _ _ hS a1 a2 a3)
    replace h := bt_ok h hr_u_8
    refine lv_aload_n hx hb dX8_ofInstance_171 rfl (lv_at hl 1 rfl) ?_
    refine cg_X8_28 X hS dX8_ofInstance_172 ?_
    obtain ⟨z_10, h⟩ := ok_of h
    refine lv_bipush (v := 10) hx hb dX8_ofInstance_175 (by decide) ?_
    refine lv_iload hx hb dX8_ofInstance_177 (lv_at hl 0 rfl) ?_
    refine lv_aload hx hb dX8_ofInstance_179 (lv_at hl 4 rfl) ?_
    refine cg_X8_235 X h_l4 hS dX8_ofInstance_181 ?_
    refine lv_iload_n hx hb dX8_ofInstance_184 rfl (lv_at hl 3 rfl) ?_
    obtain ⟨r_12, u_11, h_u_11, h⟩ := bc_of h
    refine kc_X6_step_RX8 X z_10 hS h_u_11 (Nat.le_trans (Nat.le_of_ble_eq_true rfl) hF) (Nat.le_trans (Nat.le_of_ble_eq_true rfl) hL) hl.1 (Nat.le_of_ble_eq_true rfl) dX8_ofInstance_185 (fun H locs hS => ?_)
    refine lv_pop hx hb dX8_ofInstance_188 rfl ?_
    refine lv_aload_n hx hb dX8_ofInstance_189 rfl (lv_at hl 1 rfl) ?_
    refine cg_X8_28 X hS dX8_ofInstance_190 ?_
    obtain ⟨z_13, h⟩ := ok_of h
    refine lv_bipush (v := 12) hx hb dX8_ofInstance_193 (by decide) ?_
    refine lv_iconst (v := 0) hx hb dX8_ofInstance_195 (by decide) ?_
    refine lv_iconst (v := 0) hx hb dX8_ofInstance_196 (by decide) ?_
    refine lv_iload_n hx hb dX8_ofInstance_197 rfl (lv_at hl 3 rfl) ?_
    obtain ⟨r_15, u_14, h_u_14, h⟩ := bc_of h
    refine kc_X6_step_RX8 X z_13 hS h_u_14 (Nat.le_trans (Nat.le_of_ble_eq_true rfl) hF) (Nat.le_trans (Nat.le_of_ble_eq_true rfl) hL) hl.1 (Nat.le_of_ble_eq_true rfl) dX8_ofInstance_198 (fun H locs hS => ?_)
    refine lv_pop hx hb dX8_ofInstance_201 rfl ?_
    refine lv_goto (tgt := 219) hx hb dX8_ofInstance_202 (by decide) ?_
    refine lv_aload hx hb dX8_ofInstance_219 (lv_at hl 4 rfl) ?_
    refine cg_X8_220 X h_l4 hS dX8_ofInstance_221 ?_
    obtain ⟨e9, rfl⟩ := so9 h
    exact hE _ e9.symm _ _ _ _ hS dX8_ofInstance_224
def B_X8_ofInstance_120 (N : Nat) (ro : Nat → Nat → Int32 → Int32 → CSt → Option (Sum Nat Int32 × CSt)) (l2 : Nat) (l3 : Int32) (l4 : Nat) (s0 : Int32) (s1 : Int32) (u : CSt) : Option ((Sum Nat Int32) × CSt) := if s0 = s1 then (B_X8_ofInstance_132 N ro l2 l3 l4 u) else (bt (F_X9_refuse N 4 l3 u) fun _ u_17 => B_X8_ofInstance_132 N ro l2 l3 l4 u_17)
set_option maxHeartbeats 4000000 in
theorem b_X8_ofInstance_120 {y : (Sum Nat Int32)} {ro : Nat → Nat → Int32 → Int32 → CSt → Option (Sum Nat Int32 × CSt)} (X : CC p s m args c cX8_ofInstance 6 (Cond.code yX8_ofInstance cX8_ofInstance 6 (some .int)) RX8 D kA V A) (hE : CEix p l e R s m args below meth c cX8_ofInstance D kA Z A Q y w) (hst : l.stackTraces = false) (hX : CX p l e R s m args below meth c D kA Z A Q y w) (hC : 1 ≤ R.cells ∧ 6 ≤ R.slots) (hF : 7 ≤ R.frames) (hL : 122 ≤ R.locals) (hrec : RecOK_TE l D kA V Z d ro) (hFd : d + 1 + 20 ≤ R.frames) (hLd : 60 * (d + 1) + 700 ≤ R.locals) {l2 : Nat} {l3 : Int32} {l4 : Nat} {s0 : Int32} {s1 : Int32} {u : CSt}  (h : B_X8_ofInstance_120 N ro l2 l3 l4 s0 s1 u = some (y, w)) (h_l2 : l2 < 338) (h_l4 : l4 < 338) (hS : CS D kA Z A s u H locs) (hl : lv_has ls 6 [(0, .ref (Z 229)), (2, .ref (Z (1000 + l2))), (3, .int l3), (4, .ref (Z (1000 + l4)))]) : W p l e R s m args below meth c H locs 0 0 Q (F0 m 120 ls [.int s1, .int s0]) := by
  obtain ⟨⟨hx, hb, hml, hown, hts⟩, hK, hEV, hA⟩ := id X
  have hG : ∀ w ∈ GW, w.before args s = true := fun w h => hts w (List.mem_cons_of_mem _ h)
  unfold B_X8_ofInstance_120 at h
  refine lv_icmp_eq (tgt := 132) hx hb dX8_ofInstance_120 (by decide) (fun c_16 => ?_) (fun c_16 => ?_)
  · have h := ip (c_16) h
    exact b_X8_ofInstance_132 X hE hst hX hC hF hL hrec hFd hLd h h_l2 h_l4 hS (lv_sub hl [0, 1, 2, 3] rfl)
  · have h := im (c_16) h
    refine lv_aload_n hx hb dX8_ofInstance_123 rfl (lv_at hl 0 rfl) ?_
    refine cg_X8_24 X hS dX8_ofInstance_124 ?_
    refine lv_iconst (v := 4) hx hb dX8_ofInstance_127 (by decide) ?_
    refine lv_iload_n hx hb dX8_ofInstance_128 rfl (lv_at hl 2 rfl) ?_
    obtain ⟨y_18, u_17, h_u_17, h⟩ := bt_of h
    refine kc_X9_refuse_RX8 hst X  hS h_u_17 (Nat.le_trans (Nat.le_of_ble_eq_true rfl) hF) (Nat.le_trans (Nat.le_of_ble_eq_true rfl) hL) hC hl.1 (Nat.le_of_ble_eq_true rfl) dX8_ofInstance_129 (fun r_u_17 hr_u_17 H locs hS => ?_) (fun x9 hn H locs q9 ce hS a1 a2 a3 => by obtain ⟨e2, rfl⟩ := bt_no h hn; exact hX _ e2 _ _ _ _ _ _ _ hS a1 a2 a3)
    replace h := bt_ok h hr_u_17
    exact b_X8_ofInstance_132 X hE hst hX hC hF hL hrec hFd hLd h h_l2 h_l4 hS (lv_sub hl [0, 1, 2, 3] rfl)
def B_X8_ofInstance_97 (N : Nat) (ro : Nat → Nat → Int32 → Int32 → CSt → Option (Sum Nat Int32 × CSt)) (l2 : Nat) (l3 : Int32) (l4 : Nat) (u : CSt) : Option ((Sum Nat Int32) × CSt) := bc (F_X9_typeAhead N 1 u) fun r_20 u_19 => if r_20 = (91 : Int32) then (B_X8_ofInstance_120 N ro l2 l3 l4 (mI u l4 8) 1 u_19) else (B_X8_ofInstance_120 N ro l2 l3 l4 (mI u l4 8) 0 u_19)
set_option maxHeartbeats 4000000 in
theorem b_X8_ofInstance_97 {y : (Sum Nat Int32)} {ro : Nat → Nat → Int32 → Int32 → CSt → Option (Sum Nat Int32 × CSt)} (X : CC p s m args c cX8_ofInstance 6 (Cond.code yX8_ofInstance cX8_ofInstance 6 (some .int)) RX8 D kA V A) (hE : CEix p l e R s m args below meth c cX8_ofInstance D kA Z A Q y w) (hst : l.stackTraces = false) (hX : CX p l e R s m args below meth c D kA Z A Q y w) (hC : 1 ≤ R.cells ∧ 6 ≤ R.slots) (hF : 7 ≤ R.frames) (hL : 122 ≤ R.locals) (hrec : RecOK_TE l D kA V Z d ro) (hFd : d + 1 + 20 ≤ R.frames) (hLd : 60 * (d + 1) + 700 ≤ R.locals) {l2 : Nat} {l3 : Int32} {l4 : Nat} {u : CSt}  (h : B_X8_ofInstance_97 N ro l2 l3 l4 u = some (y, w)) (h_l2 : l2 < 338) (h_l4 : l4 < 338) (hS : CS D kA Z A s u H locs) (hl : lv_has ls 6 [(0, .ref (Z 229)), (2, .ref (Z (1000 + l2))), (3, .int l3), (4, .ref (Z (1000 + l4)))]) : W p l e R s m args below meth c H locs 0 0 Q (F0 m 97 ls []) := by
  obtain ⟨⟨hx, hb, hml, hown, hts⟩, hK, hEV, hA⟩ := id X
  have hG : ∀ w ∈ GW, w.before args s = true := fun w h => hts w (List.mem_cons_of_mem _ h)
  unfold B_X8_ofInstance_97 at h
  refine lv_aload hx hb dX8_ofInstance_97 (lv_at hl 3 rfl) ?_
  refine cg_X8_83 X h_l4 hS dX8_ofInstance_99 ?_
  refine lv_aload_n hx hb dX8_ofInstance_102 rfl (lv_at hl 0 rfl) ?_
  refine cg_X8_24 X hS dX8_ofInstance_103 ?_
  refine lv_iconst (v := 1) hx hb dX8_ofInstance_106 (by decide) ?_
  obtain ⟨r_20, u_19, h_u_19, h⟩ := bc_of h
  refine kc_X9_typeAhead_RX8 X  hS h_u_19 (Nat.le_trans (Nat.le_of_ble_eq_true rfl) hF) (Nat.le_trans (Nat.le_of_ble_eq_true rfl) hL) hl.1 (Nat.le_of_ble_eq_true rfl) dX8_ofInstance_107 (fun H locs hS => ?_)
  refine lv_bipush (v := 91) hx hb dX8_ofInstance_110 (by decide) ?_
  refine lv_icmp_ne (tgt := 119) hx hb dX8_ofInstance_112 (by decide) (fun c_21 => ?_) (fun c_21 => ?_)
  · have h := im (c_21) h
    refine lv_iconst (v := 0) hx hb dX8_ofInstance_119 (by decide) ?_
    exact b_X8_ofInstance_120 X hE hst hX hC hF hL hrec hFd hLd h h_l2 h_l4 hS (lv_sub hl [0, 1, 2, 3] rfl)
  · have h := ip (c_21) h
    refine lv_iconst (v := 1) hx hb dX8_ofInstance_115 (by decide) ?_
    refine lv_goto (tgt := 120) hx hb dX8_ofInstance_116 (by decide) ?_
    exact b_X8_ofInstance_120 X hE hst hX hC hF hL hrec hFd hLd h h_l2 h_l4 hS (lv_sub hl [0, 1, 2, 3] rfl)
def B_X8_ofInstance_22 (N : Nat) (ro : Nat → Nat → Int32 → Int32 → CSt → Option (Sum Nat Int32 × CSt)) (l2 : Nat) (u : CSt) : Option ((Sum Nat Int32) × CSt) := bc (F_X9_next N u) fun _ u_22 => bc (F_X9_next N u_22) fun _ u_23 => bc (F_X9_here N u_23) fun r_25 u_24 => ok (cR u_24 3 < 2) inferInstance <| bc (F_X6_name N (cR u_24 3) (mI u_24 l2 14) u_24) fun r_28 u_27 => ok (r_28 < 338) inferInstance <| bc (F_X9_head N u_27) fun r_31 u_30 => bc (F_X9_tail N u_30) fun r_33 u_32 => bc (F_X6_localCalled N (cR u_24 3) r_28 r_31 r_33 u_32) fun r_35 u_34 => ok (r_35 < 338) inferInstance <| if (mI u_34 r_35 2) = (8 : Int32) then (bt (F_X9_refuse N 3 r_25 u_34) fun _ u_38 => B_X8_ofInstance_97 N ro l2 r_25 r_35 u_38) else (B_X8_ofInstance_97 N ro l2 r_25 r_35 u_34)
set_option maxHeartbeats 4000000 in
theorem b_X8_ofInstance_22 {y : (Sum Nat Int32)} {ro : Nat → Nat → Int32 → Int32 → CSt → Option (Sum Nat Int32 × CSt)} (X : CC p s m args c cX8_ofInstance 6 (Cond.code yX8_ofInstance cX8_ofInstance 6 (some .int)) RX8 D kA V A) (hE : CEix p l e R s m args below meth c cX8_ofInstance D kA Z A Q y w) (hst : l.stackTraces = false) (hX : CX p l e R s m args below meth c D kA Z A Q y w) (hC : 1 ≤ R.cells ∧ 6 ≤ R.slots) (hF : 7 ≤ R.frames) (hL : 122 ≤ R.locals) (hrec : RecOK_TE l D kA V Z d ro) (hFd : d + 1 + 20 ≤ R.frames) (hLd : 60 * (d + 1) + 700 ≤ R.locals) {l2 : Nat} {u : CSt}  (h : B_X8_ofInstance_22 N ro l2 u = some (y, w)) (h_l2 : l2 < 338) (hS : CS D kA Z A s u H locs) (hl : lv_has ls 6 [(0, .ref (Z 229)), (2, .ref (Z (1000 + l2)))]) : W p l e R s m args below meth c H locs 0 0 Q (F0 m 22 ls []) := by
  obtain ⟨⟨hx, hb, hml, hown, hts⟩, hK, hEV, hA⟩ := id X
  have hG : ∀ w ∈ GW, w.before args s = true := fun w h => hts w (List.mem_cons_of_mem _ h)
  unfold B_X8_ofInstance_22 at h
  refine lv_aload_n hx hb dX8_ofInstance_22 rfl (lv_at hl 0 rfl) ?_
  refine cg_X8_24 X hS dX8_ofInstance_23 ?_
  obtain ⟨r_u_22, u_22, h_u_22, h⟩ := bc_of h
  refine kc_X9_next_RX8 X  hS h_u_22 (Nat.le_trans (Nat.le_of_ble_eq_true rfl) hF) (Nat.le_trans (Nat.le_of_ble_eq_true rfl) hL) hl.1 (Nat.le_of_ble_eq_true rfl) dX8_ofInstance_26 (fun H locs hS => ?_)
  refine lv_aload_n hx hb dX8_ofInstance_29 rfl (lv_at hl 0 rfl) ?_
  refine cg_X8_24 X hS dX8_ofInstance_30 ?_
  obtain ⟨r_u_23, u_23, h_u_23, h⟩ := bc_of h
  refine kc_X9_next_RX8 X  hS h_u_23 (Nat.le_trans (Nat.le_of_ble_eq_true rfl) hF) (Nat.le_trans (Nat.le_of_ble_eq_true rfl) hL) hl.1 (Nat.le_of_ble_eq_true rfl) dX8_ofInstance_33 (fun H locs hS => ?_)
  refine lv_aload_n hx hb dX8_ofInstance_36 rfl (lv_at hl 0 rfl) ?_
  refine cg_X8_24 X hS dX8_ofInstance_37 ?_
  obtain ⟨r_25, u_24, h_u_24, h⟩ := bc_of h
  refine kc_X9_here_RX8 X  hS h_u_24 (Nat.le_trans (Nat.le_of_ble_eq_true rfl) hF) (Nat.le_trans (Nat.le_of_ble_eq_true rfl) hL) hl.1 (Nat.le_of_ble_eq_true rfl) dX8_ofInstance_40 (fun H locs hS => ?_)
  refine lv_istore_n (lv' := [(3, .int r_25), (0, .ref (Z 229)), (2, .ref (Z (1000 + l2)))]) hx hb dX8_ofInstance_43 rfl hl (by decide) rfl (fun ls hl => ?_)
  refine lv_aload_n hx hb dX8_ofInstance_44 rfl (lv_at hl 1 rfl) ?_
  refine cg_X8_28 X hS dX8_ofInstance_45 ?_
  obtain ⟨z_26, h⟩ := ok_of h
  refine lv_aload_n hx hb dX8_ofInstance_48 rfl (lv_at hl 1 rfl) ?_
  refine cg_X8_28 X hS dX8_ofInstance_49 ?_
  refine lv_aload_n hx hb dX8_ofInstance_52 rfl (lv_at hl 2 rfl) ?_
  refine cg_X8_226 X h_l2 hS dX8_ofInstance_53 ?_
  obtain ⟨r_28, u_27, h_u_27, h⟩ := bc_of h
  refine kc_X6_name_RX8 X z_26 hS h_u_27 (Nat.le_trans (Nat.le_of_ble_eq_true rfl) hF) (Nat.le_trans (Nat.le_of_ble_eq_true rfl) hL) hl.1 (Nat.le_of_ble_eq_true rfl) dX8_ofInstance_56 (fun H locs hS => ?_)
  obtain ⟨z_29, h⟩ := ok_of h
  refine lv_aload_n hx hb dX8_ofInstance_59 rfl (lv_at hl 1 rfl) ?_
  refine cg_X8_24 X hS dX8_ofInstance_60 ?_
  obtain ⟨r_31, u_30, h_u_30, h⟩ := bc_of h
  refine kc_X9_head_RX8 X  hS h_u_30 (Nat.le_trans (Nat.le_of_ble_eq_true rfl) hF) (Nat.le_trans (Nat.le_of_ble_eq_true rfl) hL) hl.1 (Nat.le_of_ble_eq_true rfl) dX8_ofInstance_63 (fun H locs hS => ?_)
  refine lv_aload_n hx hb dX8_ofInstance_66 rfl (lv_at hl 1 rfl) ?_
  refine cg_X8_24 X hS dX8_ofInstance_67 ?_
  obtain ⟨r_33, u_32, h_u_32, h⟩ := bc_of h
  refine kc_X9_tail_RX8 X  hS h_u_32 (Nat.le_trans (Nat.le_of_ble_eq_true rfl) hF) (Nat.le_trans (Nat.le_of_ble_eq_true rfl) hL) hl.1 (Nat.le_of_ble_eq_true rfl) dX8_ofInstance_70 (fun H locs hS => ?_)
  obtain ⟨r_35, u_34, h_u_34, h⟩ := bc_of h
  refine kc_X6_localCalled_RX8 X z_26 z_29 hS h_u_34 (Nat.le_trans (Nat.le_of_ble_eq_true rfl) hF) (Nat.le_trans (Nat.le_of_ble_eq_true rfl) hL) hl.1 (Nat.le_of_ble_eq_true rfl) dX8_ofInstance_73 (fun H locs hS => ?_)
  obtain ⟨z_36, h⟩ := ok_of h
  refine lv_astore (lv' := [(4, .ref (Z (1000 + r_35))), (3, .int r_25), (0, .ref (Z 229)), (2, .ref (Z (1000 + l2)))]) hx hb dX8_ofInstance_76 hl (by decide) rfl (fun ls hl => ?_)
  refine lv_aload hx hb dX8_ofInstance_78 (lv_at hl 0 rfl) ?_
  refine cg_X8_59 X z_36 hS dX8_ofInstance_80 ?_
  refine lv_bipush (v := 8) hx hb dX8_ofInstance_83 (by decide) ?_
  refine lv_icmp_ne (tgt := 97) hx hb dX8_ofInstance_85 (by decide) (fun c_37 => ?_) (fun c_37 => ?_)
  · have h := im (c_37) h
    exact b_X8_ofInstance_97 X hE hst hX hC hF hL hrec hFd hLd h h_l2 z_36 hS (lv_sub hl [2, 3, 1, 0] rfl)
  · have h := ip (c_37) h
    refine lv_aload_n hx hb dX8_ofInstance_88 rfl (lv_at hl 2 rfl) ?_
    refine cg_X8_24 X hS dX8_ofInstance_89 ?_
    refine lv_iconst (v := 3) hx hb dX8_ofInstance_92 (by decide) ?_
    refine lv_iload_n hx hb dX8_ofInstance_93 rfl (lv_at hl 1 rfl) ?_
    obtain ⟨y_39, u_38, h_u_38, h⟩ := bt_of h
    refine kc_X9_refuse_RX8 hst X  hS h_u_38 (Nat.le_trans (Nat.le_of_ble_eq_true rfl) hF) (Nat.le_trans (Nat.le_of_ble_eq_true rfl) hL) hC hl.1 (Nat.le_of_ble_eq_true rfl) dX8_ofInstance_94 (fun r_u_38 hr_u_38 H locs hS => ?_) (fun x9 hn H locs q9 ce hS a1 a2 a3 => by obtain ⟨e2, rfl⟩ := bt_no h hn; exact hX _ e2 _ _ _ _ _ _ _ hS a1 a2 a3)
    replace h := bt_ok h hr_u_38
    exact b_X8_ofInstance_97 X hE hst hX hC hF hL hrec hFd hLd h h_l2 z_36 hS (lv_sub hl [2, 3, 1, 0] rfl)
def B_X8_ofInstance_0 (N : Nat) (ro : Nat → Nat → Int32 → Int32 → CSt → Option (Sum Nat Int32 × CSt)) (l1 : Int32) (u : CSt) : Option ((Sum Nat Int32) × CSt) := bc (F_X8_known N u) fun r_41 u_40 => ok (r_41 < 338) inferInstance <| if (mI u_40 r_41 2) = (1 : Int32) then (B_X8_ofInstance_22 N ro r_41 u_40) else (bt (F_X9_refuse N 3 l1 u_40) fun _ u_44 => B_X8_ofInstance_22 N ro r_41 u_44)
set_option maxHeartbeats 4000000 in
theorem b_X8_ofInstance_0 {y : (Sum Nat Int32)} {ro : Nat → Nat → Int32 → Int32 → CSt → Option (Sum Nat Int32 × CSt)} (X : CC p s m args c cX8_ofInstance 6 (Cond.code yX8_ofInstance cX8_ofInstance 6 (some .int)) RX8 D kA V A) (hE : CEix p l e R s m args below meth c cX8_ofInstance D kA Z A Q y w) (hst : l.stackTraces = false) (hX : CX p l e R s m args below meth c D kA Z A Q y w) (hC : 1 ≤ R.cells ∧ 6 ≤ R.slots) (hF : 7 ≤ R.frames) (hL : 122 ≤ R.locals) (hrec : RecOK_TE l D kA V Z d ro) (hFd : d + 1 + 20 ≤ R.frames) (hLd : 60 * (d + 1) + 700 ≤ R.locals) {l1 : Int32} {u : CSt}  (h : B_X8_ofInstance_0 N ro l1 u = some (y, w))  (hS : CS D kA Z A s u H locs) (hl : lv_has ls 6 [(0, .ref (Z 229)), (1, .int l1)]) : W p l e R s m args below meth c H locs 0 0 Q (F0 m 0 ls []) := by
  obtain ⟨⟨hx, hb, hml, hown, hts⟩, hK, hEV, hA⟩ := id X
  have hG : ∀ w ∈ GW, w.before args s = true := fun w h => hts w (List.mem_cons_of_mem _ h)
  unfold B_X8_ofInstance_0 at h
  refine lv_aload_n hx hb dX8_ofInstance_0 rfl (lv_at hl 0 rfl) ?_
  obtain ⟨r_41, u_40, h_u_40, h⟩ := bc_of h
  refine kc_X8_known_RX8 X  hS h_u_40 (Nat.le_trans (Nat.le_of_ble_eq_true rfl) hF) (Nat.le_trans (Nat.le_of_ble_eq_true rfl) hL) hl.1 (Nat.le_of_ble_eq_true rfl) dX8_ofInstance_1 (fun H locs hS => ?_)
  obtain ⟨z_42, h⟩ := ok_of h
  refine lv_astore_n (lv' := [(2, .ref (Z (1000 + r_41))), (0, .ref (Z 229)), (1, .int l1)]) hx hb dX8_ofInstance_4 rfl hl (by decide) rfl (fun ls hl => ?_)
  refine lv_aload_n hx hb dX8_ofInstance_5 rfl (lv_at hl 0 rfl) ?_
  refine cg_X8_59 X z_42 hS dX8_ofInstance_6 ?_
  refine lv_iconst (v := 1) hx hb dX8_ofInstance_9 (by decide) ?_
  refine lv_icmp_eq (tgt := 22) hx hb dX8_ofInstance_10 (by decide) (fun c_43 => ?_) (fun c_43 => ?_)
  · have h := ip (c_43) h
    exact b_X8_ofInstance_22 X hE hst hX hC hF hL hrec hFd hLd h z_42 hS (lv_sub hl [1, 0] rfl)
  · have h := im (c_43) h
    refine lv_aload_n hx hb dX8_ofInstance_13 rfl (lv_at hl 1 rfl) ?_
    refine cg_X8_24 X hS dX8_ofInstance_14 ?_
    refine lv_iconst (v := 3) hx hb dX8_ofInstance_17 (by decide) ?_
    refine lv_iload_n hx hb dX8_ofInstance_18 rfl (lv_at hl 2 rfl) ?_
    obtain ⟨y_45, u_44, h_u_44, h⟩ := bt_of h
    refine kc_X9_refuse_RX8 hst X  hS h_u_44 (Nat.le_trans (Nat.le_of_ble_eq_true rfl) hF) (Nat.le_trans (Nat.le_of_ble_eq_true rfl) hL) hC hl.1 (Nat.le_of_ble_eq_true rfl) dX8_ofInstance_19 (fun r_u_44 hr_u_44 H locs hS => ?_) (fun x9 hn H locs q9 ce hS a1 a2 a3 => by obtain ⟨e2, rfl⟩ := bt_no h hn; exact hX _ e2 _ _ _ _ _ _ _ hS a1 a2 a3)
    replace h := bt_ok h hr_u_44
    exact b_X8_ofInstance_22 X hE hst hX hC hF hL hrec hFd hLd h z_42 hS (lv_sub hl [1, 0] rfl)
def F_X8_ofInstance (N : Nat) (ro : Nat → Nat → Int32 → Int32 → CSt → Option (Sum Nat Int32 × CSt)) (l1 : Int32) (u : CSt) : Option ((Sum Nat Int32) × CSt) := B_X8_ofInstance_0 N ro l1 u
set_option maxHeartbeats 4000000 in
theorem k_X8_ofInstance (l : Launch) (hst : l.stackTraces = false) (D : va_G) (kA : Nat → ClassId) (V Z : Nat → Nat) (N : Nat) {d : Nat} (ro : Nat → Nat → Int32 → Int32 → CSt → Option (Sum Nat Int32 × CSt)) (hrec : RecOK_TE l D kA V Z d ro) (l1 : Int32) (u : CSt) (sz : Nat) {y : (Sum Nat Int32)} {w : CSt} (h : F_X8_ofInstance N ro l1 u = some (y, w)) : vx_Met l yX8_ofInstance (Cond.code yX8_ofInstance cX8_ofInstance 6 (some .int) :: GW) { frames := d + 1 + 20, cells := 1, slots := 6, locals := 60 * (d + 1) + 700 } (cPc D kA V Z [.ref (Z 229), .int l1] u sz) (cQix D kA Z u sz y w) (cXc D kA Z u sz y w) 1 6 (va_A (CW kA Z u) sz) := by
  refine vx_ofW (cc := cX8_ofInstance) (maxL := 6) (ret := (some .int)) (by decide) rfl ?_
  intro p e s m args below meth c s₁ Bd hml hxt hv
  obtain ⟨rfl, hsz, hP, hK, hD0, hE⟩ := hv
  have hts := atoms_spec (ws := Cond.code yX8_ofInstance cX8_ofInstance 6 (some .int) :: GW) Bd.pre
  have hl := lv_entry ([.ref (Z 229), .int l1]) (n := 6) (Nat.le_of_ble_eq_true rfl)
  rw [lg_entry_eq]
  generalize (lg_sl ([.ref (Z 229), .int l1]) ++ List.replicate (6 - (lg_sl ([.ref (Z 229), .int l1])).length) Slot.unset).toArray = ls at hl ⊢
  have hl : lv_has ls 6 [(0, .ref (Z 229)), (1, .int l1)] := hl
  subst hsz
  have X : CC p s m ([.ref (Z 229), .int l1]).toArray c cX8_ofInstance 6 (Cond.code yX8_ofInstance cX8_ofInstance 6 (some .int)) RX8 D kA V (va_A (CW kA Z u) s.heap.size) := ⟨⟨Bd.exec, Bd.bytes, hml, findClass_of_methodNamed Bd.named, hts⟩, hK, hE, fun q h => Or.inr h⟩
  refine b_X8_ofInstance_0 X (cend_ix X Bd.returns Bd.notSynchronized) hst (cend_X X hxt Bd.notSynchronized) ⟨Nat.le_refl _, Nat.le_refl _⟩ (Nat.le_trans (Nat.le_of_ble_eq_true rfl) (Nat.le_add_left 20 _)) (Nat.le_trans (Nat.le_of_ble_eq_true rfl) (Nat.le_add_left 700 _)) hrec (Nat.le_refl _) (Nat.le_refl _) h  ⟨hP, hD0.self, va_S.rf⟩ (lv_sub hl [0, 1] rfl)
def B_X8_called_31 (N : Nat) (ro : Nat → Nat → Int32 → Int32 → CSt → Option (Sum Nat Int32 × CSt)) (l1 : Int32) (l2 : Nat) (u : CSt) : Option ((Sum Nat Int32) × CSt) := ok (cR u 3 < 2) inferInstance <| bc (F_X6_cost N (cR u 3) l1 u) fun _ u_2 => if (mI u_2 l2 2) = (7 : Int32) then (bt (ro 9 l2 l1 0 u_2) fun r_10 u_9 => some (.inr r_10, u_9)) else (bt (ro 10 l2 (-1) l1 u_2) fun _ u_4 => ok (cR u_4 3 < 2) inferInstance <| bc (F_X6_step N (cR u_4 3) 37 (mI u_4 l2 3) 0 l1 u_4) fun r_8 u_7 => some (.inr (mI u_7 l2 5), u_7))
set_option maxHeartbeats 4000000 in
theorem b_X8_called_31 {y : (Sum Nat Int32)} {ro : Nat → Nat → Int32 → Int32 → CSt → Option (Sum Nat Int32 × CSt)} (X : CC p s m args c cX8_called 3 (Cond.code yX8_called cX8_called 3 (some .int)) RX8 D kA V A) (hE : CEix p l e R s m args below meth c cX8_called D kA Z A Q y w) (hst : l.stackTraces = false) (hX : CX p l e R s m args below meth c D kA Z A Q y w) (hC : 1 ≤ R.cells ∧ 6 ≤ R.slots) (hF : 7 ≤ R.frames) (hL : 122 ≤ R.locals) (hrec : RecOK_TE l D kA V Z d ro) (hFd : d + 1 + 20 ≤ R.frames) (hLd : 60 * (d + 1) + 700 ≤ R.locals) {l1 : Int32} {l2 : Nat} {u : CSt}  (h : B_X8_called_31 N ro l1 l2 u = some (y, w)) (h_l2 : l2 < 338) (hS : CS D kA Z A s u H locs) (hl : lv_has ls 3 [(0, .ref (Z 229)), (1, .int l1), (2, .ref (Z (1000 + l2)))]) : W p l e R s m args below meth c H locs 0 0 Q (F0 m 31 ls []) := by
  obtain ⟨⟨hx, hb, hml, hown, hts⟩, hK, hEV, hA⟩ := id X
  have hG : ∀ w ∈ GW, w.before args s = true := fun w h => hts w (List.mem_cons_of_mem _ h)
  unfold B_X8_called_31 at h
  refine lv_aload_n hx hb dX8_called_31 rfl (lv_at hl 0 rfl) ?_
  refine cg_X8_28 X hS dX8_called_32 ?_
  obtain ⟨z_1, h⟩ := ok_of h
  refine lv_iload_n hx hb dX8_called_35 rfl (lv_at hl 1 rfl) ?_
  obtain ⟨r_u_2, u_2, h_u_2, h⟩ := bc_of h
  refine kc_X6_cost_RX8 X z_1 hS h_u_2 (Nat.le_trans (Nat.le_of_ble_eq_true rfl) hF) (Nat.le_trans (Nat.le_of_ble_eq_true rfl) hL) hl.1 (Nat.le_of_ble_eq_true rfl) dX8_called_36 (fun H locs hS => ?_)
  refine lv_aload_n hx hb dX8_called_39 rfl (lv_at hl 2 rfl) ?_
  refine cg_X8_59 X h_l2 hS dX8_called_40 ?_
  refine lv_bipush (v := 7) hx hb dX8_called_43 (by decide) ?_
  refine lv_icmp_ne (tgt := 55) hx hb dX8_called_45 (by decide) (fun c_3 => ?_) (fun c_3 => ?_)
  · have h := im (c_3) h
    refine lv_aload_n hx hb dX8_called_55 rfl (lv_at hl 0 rfl) ?_
    refine lv_aload_n hx hb dX8_called_56 rfl (lv_at hl 2 rfl) ?_
    refine lv_iconst (v := (-1)) hx hb dX8_called_57 (by decide) ?_
    refine lv_iload_n hx hb dX8_called_58 rfl (lv_at hl 1 rfl) ?_
    obtain ⟨y_5, u_4, h_u_4, h⟩ := bt_of h
    refine kc_X8_arguments X hrec h_l2 hS h_u_4 hFd hLd hC hl.1 (Nat.le_of_ble_eq_true rfl) dX8_called_59 (fun r_u_4 hr_u_4 H locs hS => ?_) (fun x9 hn H locs q9 ce hS a1 a2 a3 => by obtain ⟨e2, rfl⟩ := bt_no h hn; exact hX _ e2 _ _ _ _ _ _ _ hS a1 a2 a3)
    replace h := bt_ok h hr_u_4
    refine lv_aload_n hx hb dX8_called_62 rfl (lv_at hl 0 rfl) ?_
    refine cg_X8_28 X hS dX8_called_63 ?_
    obtain ⟨z_6, h⟩ := ok_of h
    refine lv_bipush (v := 37) hx hb dX8_called_66 (by decide) ?_
    refine lv_aload_n hx hb dX8_called_68 rfl (lv_at hl 2 rfl) ?_
    refine cg_X8_245 X h_l2 hS dX8_called_69 ?_
    refine lv_iconst (v := 0) hx hb dX8_called_72 (by decide) ?_
    refine lv_iload_n hx hb dX8_called_73 rfl (lv_at hl 1 rfl) ?_
    obtain ⟨r_8, u_7, h_u_7, h⟩ := bc_of h
    refine kc_X6_step_RX8 X z_6 hS h_u_7 (Nat.le_trans (Nat.le_of_ble_eq_true rfl) hF) (Nat.le_trans (Nat.le_of_ble_eq_true rfl) hL) hl.1 (Nat.le_of_ble_eq_true rfl) dX8_called_74 (fun H locs hS => ?_)
    refine lv_pop hx hb dX8_called_77 rfl ?_
    refine lv_aload_n hx hb dX8_called_78 rfl (lv_at hl 2 rfl) ?_
    refine cg_X8_220 X h_l2 hS dX8_called_79 ?_
    obtain ⟨e9, rfl⟩ := so9 h
    exact hE _ e9.symm _ _ _ _ hS dX8_called_82
  · have h := ip (c_3) h
    refine lv_aload_n hx hb dX8_called_48 rfl (lv_at hl 0 rfl) ?_
    refine lv_aload_n hx hb dX8_called_49 rfl (lv_at hl 2 rfl) ?_
    refine lv_iload_n hx hb dX8_called_50 rfl (lv_at hl 1 rfl) ?_
    obtain ⟨y_11, u_9, h_u_9, h⟩ := bt_of h
    refine kc_X8_builtIn X hrec h_l2 hS h_u_9 hFd hLd hC hl.1 (Nat.le_of_ble_eq_true rfl) dX8_called_51 (fun r_10 hr_u_9 H locs hS => ?_) (fun x9 hn H locs q9 ce hS a1 a2 a3 => by obtain ⟨e2, rfl⟩ := bt_no h hn; exact hX _ e2 _ _ _ _ _ _ _ hS a1 a2 a3)
    replace h := bt_ok h hr_u_9
    obtain ⟨e9, rfl⟩ := so9 h
    exact hE _ e9.symm _ _ _ _ hS dX8_called_54
def B_X8_called_0 (N : Nat) (ro : Nat → Nat → Int32 → Int32 → CSt → Option (Sum Nat Int32 × CSt)) (l1 : Int32) (u : CSt) : Option ((Sum Nat Int32) × CSt) := bc (F_X8_known N u) fun r_13 u_12 => ok (r_13 < 338) inferInstance <| if (mI u_12 r_13 2) = (4 : Int32) then (B_X8_called_31 N ro l1 r_13 u_12) else (if (mI u_12 r_13 2) = (7 : Int32) then (B_X8_called_31 N ro l1 r_13 u_12) else (bt (F_X9_refuse N 3 l1 u_12) fun _ u_17 => B_X8_called_31 N ro l1 r_13 u_17))
set_option maxHeartbeats 4000000 in
theorem b_X8_called_0 {y : (Sum Nat Int32)} {ro : Nat → Nat → Int32 → Int32 → CSt → Option (Sum Nat Int32 × CSt)} (X : CC p s m args c cX8_called 3 (Cond.code yX8_called cX8_called 3 (some .int)) RX8 D kA V A) (hE : CEix p l e R s m args below meth c cX8_called D kA Z A Q y w) (hst : l.stackTraces = false) (hX : CX p l e R s m args below meth c D kA Z A Q y w) (hC : 1 ≤ R.cells ∧ 6 ≤ R.slots) (hF : 7 ≤ R.frames) (hL : 122 ≤ R.locals) (hrec : RecOK_TE l D kA V Z d ro) (hFd : d + 1 + 20 ≤ R.frames) (hLd : 60 * (d + 1) + 700 ≤ R.locals) {l1 : Int32} {u : CSt}  (h : B_X8_called_0 N ro l1 u = some (y, w))  (hS : CS D kA Z A s u H locs) (hl : lv_has ls 3 [(0, .ref (Z 229)), (1, .int l1)]) : W p l e R s m args below meth c H locs 0 0 Q (F0 m 0 ls []) := by
  obtain ⟨⟨hx, hb, hml, hown, hts⟩, hK, hEV, hA⟩ := id X
  have hG : ∀ w ∈ GW, w.before args s = true := fun w h => hts w (List.mem_cons_of_mem _ h)
  unfold B_X8_called_0 at h
  refine lv_aload_n hx hb dX8_called_0 rfl (lv_at hl 0 rfl) ?_
  obtain ⟨r_13, u_12, h_u_12, h⟩ := bc_of h
  refine kc_X8_known_RX8 X  hS h_u_12 (Nat.le_trans (Nat.le_of_ble_eq_true rfl) hF) (Nat.le_trans (Nat.le_of_ble_eq_true rfl) hL) hl.1 (Nat.le_of_ble_eq_true rfl) dX8_called_1 (fun H locs hS => ?_)
  obtain ⟨z_14, h⟩ := ok_of h
  refine lv_astore_n (lv' := [(2, .ref (Z (1000 + r_13))), (0, .ref (Z 229)), (1, .int l1)]) hx hb dX8_called_4 rfl hl (by decide) rfl (fun ls hl => ?_)
  refine lv_aload_n hx hb dX8_called_5 rfl (lv_at hl 0 rfl) ?_
  refine cg_X8_59 X z_14 hS dX8_called_6 ?_
  refine lv_iconst (v := 4) hx hb dX8_called_9 (by decide) ?_
  refine lv_icmp_eq (tgt := 31) hx hb dX8_called_10 (by decide) (fun c_15 => ?_) (fun c_15 => ?_)
  · have h := ip (c_15) h
    exact b_X8_called_31 X hE hst hX hC hF hL hrec hFd hLd h z_14 hS (lv_sub hl [1, 2, 0] rfl)
  · have h := im (c_15) h
    refine lv_aload_n hx hb dX8_called_13 rfl (lv_at hl 0 rfl) ?_
    refine cg_X8_59 X z_14 hS dX8_called_14 ?_
    refine lv_bipush (v := 7) hx hb dX8_called_17 (by decide) ?_
    refine lv_icmp_eq (tgt := 31) hx hb dX8_called_19 (by decide) (fun c_16 => ?_) (fun c_16 => ?_)
    · have h := ip (c_16) h
      exact b_X8_called_31 X hE hst hX hC hF hL hrec hFd hLd h z_14 hS (lv_sub hl [1, 2, 0] rfl)
    · have h := im (c_16) h
      refine lv_aload_n hx hb dX8_called_22 rfl (lv_at hl 1 rfl) ?_
      refine cg_X8_24 X hS dX8_called_23 ?_
      refine lv_iconst (v := 3) hx hb dX8_called_26 (by decide) ?_
      refine lv_iload_n hx hb dX8_called_27 rfl (lv_at hl 2 rfl) ?_
      obtain ⟨y_18, u_17, h_u_17, h⟩ := bt_of h
      refine kc_X9_refuse_RX8 hst X  hS h_u_17 (Nat.le_trans (Nat.le_of_ble_eq_true rfl) hF) (Nat.le_trans (Nat.le_of_ble_eq_true rfl) hL) hC hl.1 (Nat.le_of_ble_eq_true rfl) dX8_called_28 (fun r_u_17 hr_u_17 H locs hS => ?_) (fun x9 hn H locs q9 ce hS a1 a2 a3 => by obtain ⟨e2, rfl⟩ := bt_no h hn; exact hX _ e2 _ _ _ _ _ _ _ hS a1 a2 a3)
      replace h := bt_ok h hr_u_17
      exact b_X8_called_31 X hE hst hX hC hF hL hrec hFd hLd h z_14 hS (lv_sub hl [1, 2, 0] rfl)
def F_X8_called (N : Nat) (ro : Nat → Nat → Int32 → Int32 → CSt → Option (Sum Nat Int32 × CSt)) (l1 : Int32) (u : CSt) : Option ((Sum Nat Int32) × CSt) := B_X8_called_0 N ro l1 u
set_option maxHeartbeats 4000000 in
theorem k_X8_called (l : Launch) (hst : l.stackTraces = false) (D : va_G) (kA : Nat → ClassId) (V Z : Nat → Nat) (N : Nat) {d : Nat} (ro : Nat → Nat → Int32 → Int32 → CSt → Option (Sum Nat Int32 × CSt)) (hrec : RecOK_TE l D kA V Z d ro) (l1 : Int32) (u : CSt) (sz : Nat) {y : (Sum Nat Int32)} {w : CSt} (h : F_X8_called N ro l1 u = some (y, w)) : vx_Met l yX8_called (Cond.code yX8_called cX8_called 3 (some .int) :: GW) { frames := d + 1 + 20, cells := 1, slots := 6, locals := 60 * (d + 1) + 700 } (cPc D kA V Z [.ref (Z 229), .int l1] u sz) (cQix D kA Z u sz y w) (cXc D kA Z u sz y w) 1 6 (va_A (CW kA Z u) sz) := by
  refine vx_ofW (cc := cX8_called) (maxL := 3) (ret := (some .int)) (by decide) rfl ?_
  intro p e s m args below meth c s₁ Bd hml hxt hv
  obtain ⟨rfl, hsz, hP, hK, hD0, hE⟩ := hv
  have hts := atoms_spec (ws := Cond.code yX8_called cX8_called 3 (some .int) :: GW) Bd.pre
  have hl := lv_entry ([.ref (Z 229), .int l1]) (n := 3) (Nat.le_of_ble_eq_true rfl)
  rw [lg_entry_eq]
  generalize (lg_sl ([.ref (Z 229), .int l1]) ++ List.replicate (3 - (lg_sl ([.ref (Z 229), .int l1])).length) Slot.unset).toArray = ls at hl ⊢
  have hl : lv_has ls 3 [(0, .ref (Z 229)), (1, .int l1)] := hl
  subst hsz
  have X : CC p s m ([.ref (Z 229), .int l1]).toArray c cX8_called 3 (Cond.code yX8_called cX8_called 3 (some .int)) RX8 D kA V (va_A (CW kA Z u) s.heap.size) := ⟨⟨Bd.exec, Bd.bytes, hml, findClass_of_methodNamed Bd.named, hts⟩, hK, hE, fun q h => Or.inr h⟩
  refine b_X8_called_0 X (cend_ix X Bd.returns Bd.notSynchronized) hst (cend_X X hxt Bd.notSynchronized) ⟨Nat.le_refl _, Nat.le_refl _⟩ (Nat.le_trans (Nat.le_of_ble_eq_true rfl) (Nat.le_add_left 20 _)) (Nat.le_trans (Nat.le_of_ble_eq_true rfl) (Nat.le_add_left 700 _)) hrec (Nat.le_refl _) (Nat.le_refl _) h  ⟨hP, hD0.self, va_S.rf⟩ (lv_sub hl [0, 1] rfl)
def B_X8_builtIn_71 (N : Nat) (ro : Nat → Nat → Int32 → Int32 → CSt → Option (Sum Nat Int32 × CSt)) (R_22 : Nat × Int32 × Int32 × Int32 × Int32 × CSt → Option ((Sum Nat Int32) × CSt)) (l1 : Nat) (l2 : Int32) (l4 : Int32) (l5 : Int32) (l6 : Int32) (s0 : Int32) (u : CSt) : Option ((Sum Nat Int32) × CSt) := R_22 (l1, l2, s0, (n_as l4 l6), (l5 + 1), u)
set_option maxHeartbeats 4000000 in
theorem b_X8_builtIn_71 {y : (Sum Nat Int32)} {ro : Nat → Nat → Int32 → Int32 → CSt → Option (Sum Nat Int32 × CSt)} (X : CC p s m args c cX8_builtIn 9 (Cond.code yX8_builtIn cX8_builtIn 9 (some .int)) RX8 D kA V A) (hE : CEix p l e R s m args below meth c cX8_builtIn D kA Z A Q y w) (hst : l.stackTraces = false) (hX : CX p l e R s m args below meth c D kA Z A Q y w) (hC : 1 ≤ R.cells ∧ 6 ≤ R.slots) (hF : 7 ≤ R.frames) (hL : 122 ≤ R.locals) (hrec : RecOK_TE l D kA V Z d ro) (hFd : d + 1 + 20 ≤ R.frames) (hLd : 60 * (d + 1) + 700 ≤ R.locals) {R_22 : Nat × Int32 × Int32 × Int32 × Int32 × CSt → Option ((Sum Nat Int32) × CSt)} {l1 : Nat} {l2 : Int32} {l4 : Int32} {l5 : Int32} {l6 : Int32} {s0 : Int32} {u : CSt} (hR_22 : ∀ (l1 : Nat) (l2 : Int32) (l3 : Int32) (l4 : Int32) (l5 : Int32) (u : CSt), l1 < 338 → R_22 (l1, l2, l3, l4, l5, u) = some (y, w) → ∀ (H : Heap) (locs : List Loc) (ls : Array Slot), CS D kA Z A s u H locs → lv_has ls 9 [(0, .ref (Z 229)), (1, .ref (Z (1000 + l1))), (2, .int l2), (3, .int l3), (4, .int l4), (5, .int l5)] → W p l e R s m args below meth c H locs 0 0 Q (F0 m 22 ls [])) (h : B_X8_builtIn_71 N ro R_22 l1 l2 l4 l5 l6 s0 u = some (y, w)) (h_l1 : l1 < 338) (hS : CS D kA Z A s u H locs) (hl : lv_has ls 9 [(0, .ref (Z 229)), (1, .ref (Z (1000 + l1))), (2, .int l2), (4, .int l4), (5, .int l5), (6, .int l6)]) : W p l e R s m args below meth c H locs 0 0 Q (F0 m 71 ls [.int s0]) := by
  obtain ⟨⟨hx, hb, hml, hown, hts⟩, hK, hEV, hA⟩ := id X
  have hG : ∀ w ∈ GW, w.before args s = true := fun w h => hts w (List.mem_cons_of_mem _ h)
  unfold B_X8_builtIn_71 at h
  refine lv_istore_n (lv' := [(3, .int s0), (0, .ref (Z 229)), (1, .ref (Z (1000 + l1))), (2, .int l2), (4, .int l4), (5, .int l5), (6, .int l6)]) hx hb dX8_builtIn_71 rfl hl (by decide) rfl (fun ls hl => ?_)
  refine lv_iload hx hb dX8_builtIn_72 (lv_at hl 4 rfl) ?_
  refine lv_iload hx hb dX8_builtIn_74 (lv_at hl 6 rfl) ?_
  refine vp_callSi (W.runS (As := [.int l4, .int l6]) (rest := []) X.1 (c_X5_workedAs l l4 l6) (va_cwS 2 hts (gw_P gw_1143 gw_1144 gw_24 gwp_X5_workedAs) rfl rfl rfl (by decide +kernel) ⟨Nat.le_trans (Nat.le_of_ble_eq_true rfl) hF, Nat.le_trans (Nat.le_of_ble_eq_true rfl) hL⟩) ⟨fun _ _ _ _ q => q, fun _ _ _ => ⟨rfl, trivial⟩⟩ rfl rfl hl.1 rfl (lv_room (Nat.le_of_ble_eq_true rfl)) dX8_builtIn_76 ⟨Nat.zero_le _, Nat.zero_le _⟩) (fun r_1 q_2 => ?_)
  subst q_2
  refine lv_istore (lv' := [(4, .int (n_as l4 l6)), (3, .int s0), (0, .ref (Z 229)), (1, .ref (Z (1000 + l1))), (2, .int l2), (5, .int l5), (6, .int l6)]) hx hb dX8_builtIn_79 hl (by decide) rfl (fun ls hl => ?_)
  refine lv_iinc (v := l5 + 1) (lv' := [(5, .int (l5 + 1)), (4, .int (n_as l4 l6)), (3, .int s0), (0, .ref (Z 229)), (1, .ref (Z (1000 + l1))), (2, .int l2), (6, .int l6)]) hx hb dX8_builtIn_81 hl (k := 5) rfl rfl (by decide) rfl (fun ls hl => ?_)
  refine lv_goto (tgt := 22) hx hb dX8_builtIn_84 (by decide) ?_
  exact hR_22 _ _ _ _ _ _ h_l1 h _ _ _ hS (lv_sub hl [3, 4, 5, 2, 1, 0] rfl)
def B_X8_builtIn_54 (N : Nat) (ro : Nat → Nat → Int32 → Int32 → CSt → Option (Sum Nat Int32 × CSt)) (R_22 : Nat × Int32 × Int32 × Int32 × Int32 × CSt → Option ((Sum Nat Int32) × CSt)) (l1 : Nat) (l2 : Int32) (l3 : Int32) (l4 : Int32) (l5 : Int32) (u : CSt) : Option ((Sum Nat Int32) × CSt) := bt (ro 0 0 0 0 u) fun r_4 u_3 => if l5 = (0 : Int32) then (B_X8_builtIn_71 N ro R_22 l1 l2 l4 l5 r_4 r_4 u_3) else (B_X8_builtIn_71 N ro R_22 l1 l2 l4 l5 r_4 l3 u_3)
set_option maxHeartbeats 4000000 in
theorem b_X8_builtIn_54 {y : (Sum Nat Int32)} {ro : Nat → Nat → Int32 → Int32 → CSt → Option (Sum Nat Int32 × CSt)} (X : CC p s m args c cX8_builtIn 9 (Cond.code yX8_builtIn cX8_builtIn 9 (some .int)) RX8 D kA V A) (hE : CEix p l e R s m args below meth c cX8_builtIn D kA Z A Q y w) (hst : l.stackTraces = false) (hX : CX p l e R s m args below meth c D kA Z A Q y w) (hC : 1 ≤ R.cells ∧ 6 ≤ R.slots) (hF : 7 ≤ R.frames) (hL : 122 ≤ R.locals) (hrec : RecOK_TE l D kA V Z d ro) (hFd : d + 1 + 20 ≤ R.frames) (hLd : 60 * (d + 1) + 700 ≤ R.locals) {R_22 : Nat × Int32 × Int32 × Int32 × Int32 × CSt → Option ((Sum Nat Int32) × CSt)} {l1 : Nat} {l2 : Int32} {l3 : Int32} {l4 : Int32} {l5 : Int32} {u : CSt} (hR_22 : ∀ (l1 : Nat) (l2 : Int32) (l3 : Int32) (l4 : Int32) (l5 : Int32) (u : CSt), l1 < 338 → R_22 (l1, l2, l3, l4, l5, u) = some (y, w) → ∀ (H : Heap) (locs : List Loc) (ls : Array Slot), CS D kA Z A s u H locs → lv_has ls 9 [(0, .ref (Z 229)), (1, .ref (Z (1000 + l1))), (2, .int l2), (3, .int l3), (4, .int l4), (5, .int l5)] → W p l e R s m args below meth c H locs 0 0 Q (F0 m 22 ls [])) (h : B_X8_builtIn_54 N ro R_22 l1 l2 l3 l4 l5 u = some (y, w)) (h_l1 : l1 < 338) (hS : CS D kA Z A s u H locs) (hl : lv_has ls 9 [(0, .ref (Z 229)), (1, .ref (Z (1000 + l1))), (2, .int l2), (3, .int l3), (4, .int l4), (5, .int l5)]) : W p l e R s m args below meth c H locs 0 0 Q (F0 m 54 ls []) := by
  obtain ⟨⟨hx, hb, hml, hown, hts⟩, hK, hEV, hA⟩ := id X
  have hG : ∀ w ∈ GW, w.before args s = true := fun w h => hts w (List.mem_cons_of_mem _ h)
  unfold B_X8_builtIn_54 at h
  refine lv_aload_n hx hb dX8_builtIn_54 rfl (lv_at hl 0 rfl) ?_
  obtain ⟨y_5, u_3, h_u_3, h⟩ := bt_of h
  refine kc_X8_expression X hrec  hS h_u_3 hFd hLd hC hl.1 (Nat.le_of_ble_eq_true rfl) dX8_builtIn_55 (fun r_4 hr_u_3 H locs hS => ?_) (fun x9 hn H locs q9 ce hS a1 a2 a3 => by obtain ⟨e2, rfl⟩ := bt_no h hn; exact hX _ e2 _ _ _ _ _ _ _ hS a1 a2 a3)
  replace h := bt_ok h hr_u_3
  refine lv_istore (lv' := [(6, .int r_4), (0, .ref (Z 229)), (1, .ref (Z (1000 + l1))), (2, .int l2), (3, .int l3), (4, .int l4), (5, .int l5)]) hx hb dX8_builtIn_58 hl (by decide) rfl (fun ls hl => ?_)
  refine lv_iload hx hb dX8_builtIn_60 (lv_at hl 6 rfl) ?_
  refine lv_if_ne (tgt := 70) hx hb dX8_builtIn_62 (by decide) (fun c_6 => ?_) (fun c_6 => ?_)
  · have h := im (c_6) h
    refine lv_iload_n hx hb dX8_builtIn_70 rfl (lv_at hl 4 rfl) ?_
    exact b_X8_builtIn_71 X hE hst hX hC hF hL hrec hFd hLd hR_22 h h_l1 hS (lv_sub hl [1, 2, 3, 5, 6, 0] rfl)
  · have h := ip (c_6) h
    refine lv_iload hx hb dX8_builtIn_65 (lv_at hl 0 rfl) ?_
    refine lv_goto (tgt := 71) hx hb dX8_builtIn_67 (by decide) ?_
    exact b_X8_builtIn_71 X hE hst hX hC hF hL hrec hFd hLd hR_22 h h_l1 hS (lv_sub hl [1, 2, 3, 5, 6, 0] rfl)
def B_X8_builtIn_215 (N : Nat) (ro : Nat → Nat → Int32 → Int32 → CSt → Option (Sum Nat Int32 × CSt)) (u : CSt) : Option ((Sum Nat Int32) × CSt) := some (.inr 3, u)
set_option maxHeartbeats 4000000 in
theorem b_X8_builtIn_215 {y : (Sum Nat Int32)} {ro : Nat → Nat → Int32 → Int32 → CSt → Option (Sum Nat Int32 × CSt)} (X : CC p s m args c cX8_builtIn 9 (Cond.code yX8_builtIn cX8_builtIn 9 (some .int)) RX8 D kA V A) (hE : CEix p l e R s m args below meth c cX8_builtIn D kA Z A Q y w) (hst : l.stackTraces = false) (hX : CX p l e R s m args below meth c D kA Z A Q y w) (hC : 1 ≤ R.cells ∧ 6 ≤ R.slots) (hF : 7 ≤ R.frames) (hL : 122 ≤ R.locals) (hrec : RecOK_TE l D kA V Z d ro) (hFd : d + 1 + 20 ≤ R.frames) (hLd : 60 * (d + 1) + 700 ≤ R.locals) {u : CSt}  (h : B_X8_builtIn_215 N ro u = some (y, w))  (hS : CS D kA Z A s u H locs) (hl : lv_has ls 9 []) : W p l e R s m args below meth c H locs 0 0 Q (F0 m 215 ls []) := by
  obtain ⟨⟨hx, hb, hml, hown, hts⟩, hK, hEV, hA⟩ := id X
  have hG : ∀ w ∈ GW, w.before args s = true := fun w h => hts w (List.mem_cons_of_mem _ h)
  unfold B_X8_builtIn_215 at h
  refine lv_iconst (v := 3) hx hb dX8_builtIn_215 (by decide) ?_
  refine lv_goto (tgt := 221) hx hb dX8_builtIn_216 (by decide) ?_
  obtain ⟨e9, rfl⟩ := so9 h
  exact hE _ e9.symm _ _ _ _ hS dX8_builtIn_221
def B_X8_builtIn_192 (N : Nat) (ro : Nat → Nat → Int32 → Int32 → CSt → Option (Sum Nat Int32 × CSt)) (l1 : Nat) (l2 : Int32) (l7 : Int32) (s0 : Nat) (s1 : Int32) (s2 : Int32) (s3 : Int32) (u : CSt) : Option ((Sum Nat Int32) × CSt) := bc (F_X6_step N s0 s1 s2 s3 l2 u) fun r_8 u_7 => if (mI u_7 l1 4) = (12 : Int32) then (B_X8_builtIn_215 N ro u_7) else (if (mI u_7 l1 4) = (13 : Int32) then (B_X8_builtIn_215 N ro u_7) else (some (.inr l7, u_7)))
set_option maxHeartbeats 4000000 in
theorem b_X8_builtIn_192 {y : (Sum Nat Int32)} {ro : Nat → Nat → Int32 → Int32 → CSt → Option (Sum Nat Int32 × CSt)} (X : CC p s m args c cX8_builtIn 9 (Cond.code yX8_builtIn cX8_builtIn 9 (some .int)) RX8 D kA V A) (hE : CEix p l e R s m args below meth c cX8_builtIn D kA Z A Q y w) (hst : l.stackTraces = false) (hX : CX p l e R s m args below meth c D kA Z A Q y w) (hC : 1 ≤ R.cells ∧ 6 ≤ R.slots) (hF : 7 ≤ R.frames) (hL : 122 ≤ R.locals) (hrec : RecOK_TE l D kA V Z d ro) (hFd : d + 1 + 20 ≤ R.frames) (hLd : 60 * (d + 1) + 700 ≤ R.locals) {l1 : Nat} {l2 : Int32} {l7 : Int32} {s0 : Nat} {s1 : Int32} {s2 : Int32} {s3 : Int32} {u : CSt}  (h : B_X8_builtIn_192 N ro l1 l2 l7 s0 s1 s2 s3 u = some (y, w)) (h_l1 : l1 < 338) (h_s0 : s0 < 2) (hS : CS D kA Z A s u H locs) (hl : lv_has ls 9 [(1, .ref (Z (1000 + l1))), (2, .int l2), (7, .int l7)]) : W p l e R s m args below meth c H locs 0 0 Q (F0 m 192 ls [.int s3, .int s2, .int s1, .ref (Z (300 + 50 * s0))]) := by
  obtain ⟨⟨hx, hb, hml, hown, hts⟩, hK, hEV, hA⟩ := id X
  have hG : ∀ w ∈ GW, w.before args s = true := fun w h => hts w (List.mem_cons_of_mem _ h)
  unfold B_X8_builtIn_192 at h
  refine lv_iload_n hx hb dX8_builtIn_192 rfl (lv_at hl 1 rfl) ?_
  obtain ⟨r_8, u_7, h_u_7, h⟩ := bc_of h
  refine kc_X6_step_RX8 X h_s0 hS h_u_7 (Nat.le_trans (Nat.le_of_ble_eq_true rfl) hF) (Nat.le_trans (Nat.le_of_ble_eq_true rfl) hL) hl.1 (Nat.le_of_ble_eq_true rfl) dX8_builtIn_193 (fun H locs hS => ?_)
  refine lv_pop hx hb dX8_builtIn_196 rfl ?_
  refine lv_aload_n hx hb dX8_builtIn_197 rfl (lv_at hl 0 rfl) ?_
  refine cg_X8_250 X h_l1 hS dX8_builtIn_198 ?_
  refine lv_bipush (v := 12) hx hb dX8_builtIn_201 (by decide) ?_
  refine lv_icmp_eq (tgt := 215) hx hb dX8_builtIn_203 (by decide) (fun c_9 => ?_) (fun c_9 => ?_)
  · have h := ip (c_9) h
    exact b_X8_builtIn_215 X hE hst hX hC hF hL hrec hFd hLd h  hS (lv_sub hl [] rfl)
  · have h := im (c_9) h
    refine lv_aload_n hx hb dX8_builtIn_206 rfl (lv_at hl 0 rfl) ?_
    refine cg_X8_250 X h_l1 hS dX8_builtIn_207 ?_
    refine lv_bipush (v := 13) hx hb dX8_builtIn_210 (by decide) ?_
    refine lv_icmp_ne (tgt := 219) hx hb dX8_builtIn_212 (by decide) (fun c_10 => ?_) (fun c_10 => ?_)
    · have h := im (c_10) h
      refine lv_iload hx hb dX8_builtIn_219 (lv_at hl 2 rfl) ?_
      obtain ⟨e9, rfl⟩ := so9 h
      exact hE _ e9.symm _ _ _ _ hS dX8_builtIn_221
    · have h := ip (c_10) h
      exact b_X8_builtIn_215 X hE hst hX hC hF hL hrec hFd hLd h  hS (lv_sub hl [] rfl)
def B_X8_builtIn_169 (N : Nat) (ro : Nat → Nat → Int32 → Int32 → CSt → Option (Sum Nat Int32 × CSt)) (l1 : Nat) (l2 : Int32) (l7 : Int32) (s0 : Int32) (u : CSt) : Option ((Sum Nat Int32) × CSt) := ok (cR u 3 < 2) inferInstance <| if l7 = (4 : Int32) then (B_X8_builtIn_192 N ro l1 l2 l7 (cR u 3) s0 (mI u l1 4) 1 u) else (B_X8_builtIn_192 N ro l1 l2 l7 (cR u 3) s0 (mI u l1 4) 0 u)
set_option maxHeartbeats 4000000 in
theorem b_X8_builtIn_169 {y : (Sum Nat Int32)} {ro : Nat → Nat → Int32 → Int32 → CSt → Option (Sum Nat Int32 × CSt)} (X : CC p s m args c cX8_builtIn 9 (Cond.code yX8_builtIn cX8_builtIn 9 (some .int)) RX8 D kA V A) (hE : CEix p l e R s m args below meth c cX8_builtIn D kA Z A Q y w) (hst : l.stackTraces = false) (hX : CX p l e R s m args below meth c D kA Z A Q y w) (hC : 1 ≤ R.cells ∧ 6 ≤ R.slots) (hF : 7 ≤ R.frames) (hL : 122 ≤ R.locals) (hrec : RecOK_TE l D kA V Z d ro) (hFd : d + 1 + 20 ≤ R.frames) (hLd : 60 * (d + 1) + 700 ≤ R.locals) {l1 : Nat} {l2 : Int32} {l7 : Int32} {s0 : Int32} {u : CSt}  (h : B_X8_builtIn_169 N ro l1 l2 l7 s0 u = some (y, w)) (h_l1 : l1 < 338) (hS : CS D kA Z A s u H locs) (hl : lv_has ls 9 [(0, .ref (Z 229)), (1, .ref (Z (1000 + l1))), (2, .int l2), (7, .int l7)]) : W p l e R s m args below meth c H locs 0 0 Q (F0 m 169 ls [.int s0]) := by
  obtain ⟨⟨hx, hb, hml, hown, hts⟩, hK, hEV, hA⟩ := id X
  have hG : ∀ w ∈ GW, w.before args s = true := fun w h => hts w (List.mem_cons_of_mem _ h)
  unfold B_X8_builtIn_169 at h
  refine lv_istore (lv' := [(8, .int s0), (0, .ref (Z 229)), (1, .ref (Z (1000 + l1))), (2, .int l2), (7, .int l7)]) hx hb dX8_builtIn_169 hl (by decide) rfl (fun ls hl => ?_)
  refine lv_aload_n hx hb dX8_builtIn_171 rfl (lv_at hl 1 rfl) ?_
  refine cg_X8_28 X hS dX8_builtIn_172 ?_
  obtain ⟨z_11, h⟩ := ok_of h
  refine lv_iload hx hb dX8_builtIn_175 (lv_at hl 0 rfl) ?_
  refine lv_aload_n hx hb dX8_builtIn_177 rfl (lv_at hl 2 rfl) ?_
  refine cg_X8_250 X h_l1 hS dX8_builtIn_178 ?_
  refine lv_iload hx hb dX8_builtIn_181 (lv_at hl 4 rfl) ?_
  refine lv_iconst (v := 4) hx hb dX8_builtIn_183 (by decide) ?_
  refine lv_icmp_ne (tgt := 191) hx hb dX8_builtIn_184 (by decide) (fun c_12 => ?_) (fun c_12 => ?_)
  · have h := im (c_12) h
    refine lv_iconst (v := 0) hx hb dX8_builtIn_191 (by decide) ?_
    exact b_X8_builtIn_192 X hE hst hX hC hF hL hrec hFd hLd h h_l1 z_11 hS (lv_sub hl [2, 3, 4] rfl)
  · have h := ip (c_12) h
    refine lv_iconst (v := 1) hx hb dX8_builtIn_187 (by decide) ?_
    refine lv_goto (tgt := 192) hx hb dX8_builtIn_188 (by decide) ?_
    exact b_X8_builtIn_192 X hE hst hX hC hF hL hrec hFd hLd h h_l1 z_11 hS (lv_sub hl [2, 3, 4] rfl)
def B_X8_builtIn_152 (N : Nat) (ro : Nat → Nat → Int32 → Int32 → CSt → Option (Sum Nat Int32 × CSt)) (l1 : Nat) (l2 : Int32) (s0 : Int32) (u : CSt) : Option ((Sum Nat Int32) × CSt) := if (mI u l1 11) = (2 : Int32) then (B_X8_builtIn_169 N ro l1 l2 s0 23 u) else (B_X8_builtIn_169 N ro l1 l2 s0 24 u)
set_option maxHeartbeats 4000000 in
theorem b_X8_builtIn_152 {y : (Sum Nat Int32)} {ro : Nat → Nat → Int32 → Int32 → CSt → Option (Sum Nat Int32 × CSt)} (X : CC p s m args c cX8_builtIn 9 (Cond.code yX8_builtIn cX8_builtIn 9 (some .int)) RX8 D kA V A) (hE : CEix p l e R s m args below meth c cX8_builtIn D kA Z A Q y w) (hst : l.stackTraces = false) (hX : CX p l e R s m args below meth c D kA Z A Q y w) (hC : 1 ≤ R.cells ∧ 6 ≤ R.slots) (hF : 7 ≤ R.frames) (hL : 122 ≤ R.locals) (hrec : RecOK_TE l D kA V Z d ro) (hFd : d + 1 + 20 ≤ R.frames) (hLd : 60 * (d + 1) + 700 ≤ R.locals) {l1 : Nat} {l2 : Int32} {s0 : Int32} {u : CSt}  (h : B_X8_builtIn_152 N ro l1 l2 s0 u = some (y, w)) (h_l1 : l1 < 338) (hS : CS D kA Z A s u H locs) (hl : lv_has ls 9 [(0, .ref (Z 229)), (1, .ref (Z (1000 + l1))), (2, .int l2)]) : W p l e R s m args below meth c H locs 0 0 Q (F0 m 152 ls [.int s0]) := by
  obtain ⟨⟨hx, hb, hml, hown, hts⟩, hK, hEV, hA⟩ := id X
  have hG : ∀ w ∈ GW, w.before args s = true := fun w h => hts w (List.mem_cons_of_mem _ h)
  unfold B_X8_builtIn_152 at h
  refine lv_istore (lv' := [(7, .int s0), (0, .ref (Z 229)), (1, .ref (Z (1000 + l1))), (2, .int l2)]) hx hb dX8_builtIn_152 hl (by decide) rfl (fun ls hl => ?_)
  refine lv_aload_n hx hb dX8_builtIn_154 rfl (lv_at hl 2 rfl) ?_
  refine cg_X8_247 X h_l1 hS dX8_builtIn_155 ?_
  refine lv_iconst (v := 2) hx hb dX8_builtIn_158 (by decide) ?_
  refine lv_icmp_ne (tgt := 167) hx hb dX8_builtIn_159 (by decide) (fun c_13 => ?_) (fun c_13 => ?_)
  · have h := im (c_13) h
    refine lv_bipush (v := 24) hx hb dX8_builtIn_167 (by decide) ?_
    exact b_X8_builtIn_169 X hE hst hX hC hF hL hrec hFd hLd h h_l1 hS (lv_sub hl [1, 2, 3, 0] rfl)
  · have h := ip (c_13) h
    refine lv_bipush (v := 23) hx hb dX8_builtIn_162 (by decide) ?_
    refine lv_goto (tgt := 169) hx hb dX8_builtIn_164 (by decide) ?_
    exact b_X8_builtIn_169 X hE hst hX hC hF hL hrec hFd hLd h h_l1 hS (lv_sub hl [1, 2, 3, 0] rfl)
def B_X8_builtIn_135 (N : Nat) (ro : Nat → Nat → Int32 → Int32 → CSt → Option (Sum Nat Int32 × CSt)) (l1 : Nat) (l2 : Int32) (l3 : Int32) (l4 : Int32) (s0 : Int32) (u : CSt) : Option ((Sum Nat Int32) × CSt) := if s0 = (0 : Int32) then (B_X8_builtIn_152 N ro l1 l2 l4 u) else (B_X8_builtIn_152 N ro l1 l2 (n_as l3 3) u)
set_option maxHeartbeats 4000000 in
theorem b_X8_builtIn_135 {y : (Sum Nat Int32)} {ro : Nat → Nat → Int32 → Int32 → CSt → Option (Sum Nat Int32 × CSt)} (X : CC p s m args c cX8_builtIn 9 (Cond.code yX8_builtIn cX8_builtIn 9 (some .int)) RX8 D kA V A) (hE : CEix p l e R s m args below meth c cX8_builtIn D kA Z A Q y w) (hst : l.stackTraces = false) (hX : CX p l e R s m args below meth c D kA Z A Q y w) (hC : 1 ≤ R.cells ∧ 6 ≤ R.slots) (hF : 7 ≤ R.frames) (hL : 122 ≤ R.locals) (hrec : RecOK_TE l D kA V Z d ro) (hFd : d + 1 + 20 ≤ R.frames) (hLd : 60 * (d + 1) + 700 ≤ R.locals) {l1 : Nat} {l2 : Int32} {l3 : Int32} {l4 : Int32} {s0 : Int32} {u : CSt}  (h : B_X8_builtIn_135 N ro l1 l2 l3 l4 s0 u = some (y, w)) (h_l1 : l1 < 338) (hS : CS D kA Z A s u H locs) (hl : lv_has ls 9 [(0, .ref (Z 229)), (1, .ref (Z (1000 + l1))), (2, .int l2), (3, .int l3), (4, .int l4)]) : W p l e R s m args below meth c H locs 0 0 Q (F0 m 135 ls [.int s0]) := by
  obtain ⟨⟨hx, hb, hml, hown, hts⟩, hK, hEV, hA⟩ := id X
  have hG : ∀ w ∈ GW, w.before args s = true := fun w h => hts w (List.mem_cons_of_mem _ h)
  unfold B_X8_builtIn_135 at h
  refine lv_istore (lv' := [(6, .int s0), (0, .ref (Z 229)), (1, .ref (Z (1000 + l1))), (2, .int l2), (3, .int l3), (4, .int l4)]) hx hb dX8_builtIn_135 hl (by decide) rfl (fun ls hl => ?_)
  refine lv_iload hx hb dX8_builtIn_137 (lv_at hl 0 rfl) ?_
  refine lv_if_eq (tgt := 150) hx hb dX8_builtIn_139 (by decide) (fun c_14 => ?_) (fun c_14 => ?_)
  · have h := ip (c_14) h
    refine lv_iload hx hb dX8_builtIn_150 (lv_at hl 5 rfl) ?_
    exact b_X8_builtIn_152 X hE hst hX hC hF hL hrec hFd hLd h h_l1 hS (lv_sub hl [1, 2, 3] rfl)
  · have h := im (c_14) h
    refine lv_iload_n hx hb dX8_builtIn_142 rfl (lv_at hl 4 rfl) ?_
    refine lv_iconst (v := 3) hx hb dX8_builtIn_143 (by decide) ?_
    refine vp_callSi (W.runS (As := [.int l3, .int 3]) (rest := []) X.1 (c_X5_workedAs l l3 3) (va_cwS 2 hts (gw_P gw_1143 gw_1144 gw_24 gwp_X5_workedAs) rfl rfl rfl (by decide +kernel) ⟨Nat.le_trans (Nat.le_of_ble_eq_true rfl) hF, Nat.le_trans (Nat.le_of_ble_eq_true rfl) hL⟩) ⟨fun _ _ _ _ q => q, fun _ _ _ => ⟨rfl, trivial⟩⟩ rfl rfl hl.1 rfl (lv_room (Nat.le_of_ble_eq_true rfl)) dX8_builtIn_144 ⟨Nat.zero_le _, Nat.zero_le _⟩) (fun r_15 q_16 => ?_)
    subst q_16
    refine lv_goto (tgt := 152) hx hb dX8_builtIn_147 (by decide) ?_
    exact b_X8_builtIn_152 X hE hst hX hC hF hL hrec hFd hLd h h_l1 hS (lv_sub hl [1, 2, 3] rfl)
def B_X8_builtIn_130 (N : Nat) (ro : Nat → Nat → Int32 → Int32 → CSt → Option (Sum Nat Int32 × CSt)) (l1 : Nat) (l2 : Int32) (l3 : Int32) (l4 : Int32) (u : CSt) : Option ((Sum Nat Int32) × CSt) := B_X8_builtIn_135 N ro l1 l2 l3 l4 1 u
set_option maxHeartbeats 4000000 in
theorem b_X8_builtIn_130 {y : (Sum Nat Int32)} {ro : Nat → Nat → Int32 → Int32 → CSt → Option (Sum Nat Int32 × CSt)} (X : CC p s m args c cX8_builtIn 9 (Cond.code yX8_builtIn cX8_builtIn 9 (some .int)) RX8 D kA V A) (hE : CEix p l e R s m args below meth c cX8_builtIn D kA Z A Q y w) (hst : l.stackTraces = false) (hX : CX p l e R s m args below meth c D kA Z A Q y w) (hC : 1 ≤ R.cells ∧ 6 ≤ R.slots) (hF : 7 ≤ R.frames) (hL : 122 ≤ R.locals) (hrec : RecOK_TE l D kA V Z d ro) (hFd : d + 1 + 20 ≤ R.frames) (hLd : 60 * (d + 1) + 700 ≤ R.locals) {l1 : Nat} {l2 : Int32} {l3 : Int32} {l4 : Int32} {u : CSt}  (h : B_X8_builtIn_130 N ro l1 l2 l3 l4 u = some (y, w)) (h_l1 : l1 < 338) (hS : CS D kA Z A s u H locs) (hl : lv_has ls 9 [(0, .ref (Z 229)), (1, .ref (Z (1000 + l1))), (2, .int l2), (3, .int l3), (4, .int l4)]) : W p l e R s m args below meth c H locs 0 0 Q (F0 m 130 ls []) := by
  obtain ⟨⟨hx, hb, hml, hown, hts⟩, hK, hEV, hA⟩ := id X
  have hG : ∀ w ∈ GW, w.before args s = true := fun w h => hts w (List.mem_cons_of_mem _ h)
  unfold B_X8_builtIn_130 at h
  refine lv_iconst (v := 1) hx hb dX8_builtIn_130 (by decide) ?_
  refine lv_goto (tgt := 135) hx hb dX8_builtIn_131 (by decide) ?_
  exact b_X8_builtIn_135 X hE hst hX hC hF hL hrec hFd hLd h h_l1 hS (lv_sub hl [0, 1, 2, 3, 4] rfl)
def B_X8_builtIn_112 (N : Nat) (ro : Nat → Nat → Int32 → Int32 → CSt → Option (Sum Nat Int32 × CSt)) (l1 : Nat) (l2 : Int32) (l3 : Int32) (l4 : Int32) (u : CSt) : Option ((Sum Nat Int32) × CSt) := if (mI u l1 4) = (8 : Int32) then (B_X8_builtIn_130 N ro l1 l2 l3 l4 u) else (if (mI u l1 4) = (9 : Int32) then (B_X8_builtIn_130 N ro l1 l2 l3 l4 u) else (B_X8_builtIn_135 N ro l1 l2 l3 l4 0 u))
set_option maxHeartbeats 4000000 in
theorem b_X8_builtIn_112 {y : (Sum Nat Int32)} {ro : Nat → Nat → Int32 → Int32 → CSt → Option (Sum Nat Int32 × CSt)} (X : CC p s m args c cX8_builtIn 9 (Cond.code yX8_builtIn cX8_builtIn 9 (some .int)) RX8 D kA V A) (hE : CEix p l e R s m args below meth c cX8_builtIn D kA Z A Q y w) (hst : l.stackTraces = false) (hX : CX p l e R s m args below meth c D kA Z A Q y w) (hC : 1 ≤ R.cells ∧ 6 ≤ R.slots) (hF : 7 ≤ R.frames) (hL : 122 ≤ R.locals) (hrec : RecOK_TE l D kA V Z d ro) (hFd : d + 1 + 20 ≤ R.frames) (hLd : 60 * (d + 1) + 700 ≤ R.locals) {l1 : Nat} {l2 : Int32} {l3 : Int32} {l4 : Int32} {u : CSt}  (h : B_X8_builtIn_112 N ro l1 l2 l3 l4 u = some (y, w)) (h_l1 : l1 < 338) (hS : CS D kA Z A s u H locs) (hl : lv_has ls 9 [(0, .ref (Z 229)), (1, .ref (Z (1000 + l1))), (2, .int l2), (3, .int l3), (4, .int l4)]) : W p l e R s m args below meth c H locs 0 0 Q (F0 m 112 ls []) := by
  obtain ⟨⟨hx, hb, hml, hown, hts⟩, hK, hEV, hA⟩ := id X
  have hG : ∀ w ∈ GW, w.before args s = true := fun w h => hts w (List.mem_cons_of_mem _ h)
  unfold B_X8_builtIn_112 at h
  refine lv_aload_n hx hb dX8_builtIn_112 rfl (lv_at hl 1 rfl) ?_
  refine cg_X8_250 X h_l1 hS dX8_builtIn_113 ?_
  refine lv_bipush (v := 8) hx hb dX8_builtIn_116 (by decide) ?_
  refine lv_icmp_eq (tgt := 130) hx hb dX8_builtIn_118 (by decide) (fun c_17 => ?_) (fun c_17 => ?_)
  · have h := ip (c_17) h
    exact b_X8_builtIn_130 X hE hst hX hC hF hL hrec hFd hLd h h_l1 hS (lv_sub hl [0, 1, 2, 3, 4] rfl)
  · have h := im (c_17) h
    refine lv_aload_n hx hb dX8_builtIn_121 rfl (lv_at hl 1 rfl) ?_
    refine cg_X8_250 X h_l1 hS dX8_builtIn_122 ?_
    refine lv_bipush (v := 9) hx hb dX8_builtIn_125 (by decide) ?_
    refine lv_icmp_ne (tgt := 134) hx hb dX8_builtIn_127 (by decide) (fun c_18 => ?_) (fun c_18 => ?_)
    · have h := im (c_18) h
      refine lv_iconst (v := 0) hx hb dX8_builtIn_134 (by decide) ?_
      exact b_X8_builtIn_135 X hE hst hX hC hF hL hrec hFd hLd h h_l1 hS (lv_sub hl [0, 1, 2, 3, 4] rfl)
    · have h := ip (c_18) h
      exact b_X8_builtIn_130 X hE hst hX hC hF hL hrec hFd hLd h h_l1 hS (lv_sub hl [0, 1, 2, 3, 4] rfl)
def B_X8_builtIn_87 (N : Nat) (ro : Nat → Nat → Int32 → Int32 → CSt → Option (Sum Nat Int32 × CSt)) (l1 : Nat) (l2 : Int32) (l3 : Int32) (l4 : Int32) (l5 : Int32) (u : CSt) : Option ((Sum Nat Int32) × CSt) := bc (F_X9_next N u) fun _ u_19 => if l5 = (mI u_19 l1 11) then (B_X8_builtIn_112 N ro l1 l2 l3 l4 u_19) else (bt (F_X9_refuse N 4 l2 u_19) fun _ u_21 => B_X8_builtIn_112 N ro l1 l2 l3 l4 u_21)
set_option maxHeartbeats 4000000 in
theorem b_X8_builtIn_87 {y : (Sum Nat Int32)} {ro : Nat → Nat → Int32 → Int32 → CSt → Option (Sum Nat Int32 × CSt)} (X : CC p s m args c cX8_builtIn 9 (Cond.code yX8_builtIn cX8_builtIn 9 (some .int)) RX8 D kA V A) (hE : CEix p l e R s m args below meth c cX8_builtIn D kA Z A Q y w) (hst : l.stackTraces = false) (hX : CX p l e R s m args below meth c D kA Z A Q y w) (hC : 1 ≤ R.cells ∧ 6 ≤ R.slots) (hF : 7 ≤ R.frames) (hL : 122 ≤ R.locals) (hrec : RecOK_TE l D kA V Z d ro) (hFd : d + 1 + 20 ≤ R.frames) (hLd : 60 * (d + 1) + 700 ≤ R.locals) {l1 : Nat} {l2 : Int32} {l3 : Int32} {l4 : Int32} {l5 : Int32} {u : CSt}  (h : B_X8_builtIn_87 N ro l1 l2 l3 l4 l5 u = some (y, w)) (h_l1 : l1 < 338) (hS : CS D kA Z A s u H locs) (hl : lv_has ls 9 [(0, .ref (Z 229)), (1, .ref (Z (1000 + l1))), (2, .int l2), (3, .int l3), (4, .int l4), (5, .int l5)]) : W p l e R s m args below meth c H locs 0 0 Q (F0 m 87 ls []) := by
  obtain ⟨⟨hx, hb, hml, hown, hts⟩, hK, hEV, hA⟩ := id X
  have hG : ∀ w ∈ GW, w.before args s = true := fun w h => hts w (List.mem_cons_of_mem _ h)
  unfold B_X8_builtIn_87 at h
  refine lv_aload_n hx hb dX8_builtIn_87 rfl (lv_at hl 0 rfl) ?_
  refine cg_X8_24 X hS dX8_builtIn_88 ?_
  obtain ⟨r_u_19, u_19, h_u_19, h⟩ := bc_of h
  refine kc_X9_next_RX8 X  hS h_u_19 (Nat.le_trans (Nat.le_of_ble_eq_true rfl) hF) (Nat.le_trans (Nat.le_of_ble_eq_true rfl) hL) hl.1 (Nat.le_of_ble_eq_true rfl) dX8_builtIn_91 (fun H locs hS => ?_)
  refine lv_iload hx hb dX8_builtIn_94 (lv_at hl 5 rfl) ?_
  refine lv_aload_n hx hb dX8_builtIn_96 rfl (lv_at hl 1 rfl) ?_
  refine cg_X8_247 X h_l1 hS dX8_builtIn_97 ?_
  refine lv_icmp_eq (tgt := 112) hx hb dX8_builtIn_100 (by decide) (fun c_20 => ?_) (fun c_20 => ?_)
  · have h := ip (c_20) h
    exact b_X8_builtIn_112 X hE hst hX hC hF hL hrec hFd hLd h h_l1 hS (lv_sub hl [0, 1, 2, 3, 4] rfl)
  · have h := im (c_20) h
    refine lv_aload_n hx hb dX8_builtIn_103 rfl (lv_at hl 0 rfl) ?_
    refine cg_X8_24 X hS dX8_builtIn_104 ?_
    refine lv_iconst (v := 4) hx hb dX8_builtIn_107 (by decide) ?_
    refine lv_iload_n hx hb dX8_builtIn_108 rfl (lv_at hl 2 rfl) ?_
    obtain ⟨y_22, u_21, h_u_21, h⟩ := bt_of h
    refine kc_X9_refuse_RX8 hst X  hS h_u_21 (Nat.le_trans (Nat.le_of_ble_eq_true rfl) hF) (Nat.le_trans (Nat.le_of_ble_eq_true rfl) hL) hC hl.1 (Nat.le_of_ble_eq_true rfl) dX8_builtIn_109 (fun r_u_21 hr_u_21 H locs hS => ?_) (fun x9 hn H locs q9 ce hS a1 a2 a3 => by obtain ⟨e2, rfl⟩ := bt_no h hn; exact hX _ e2 _ _ _ _ _ _ _ hS a1 a2 a3)
    replace h := bt_ok h hr_u_21
    exact b_X8_builtIn_112 X hE hst hX hC hF hL hrec hFd hLd h h_l1 hS (lv_sub hl [0, 1, 2, 3, 4] rfl)
def B_X8_builtIn_22 (N : Nat) (ro : Nat → Nat → Int32 → Int32 → CSt → Option (Sum Nat Int32 × CSt)) (R_22 : Nat × Int32 × Int32 × Int32 × Int32 × CSt → Option ((Sum Nat Int32) × CSt)) (l1 : Nat) (l2 : Int32) (l3 : Int32) (l4 : Int32) (l5 : Int32) (u : CSt) : Option ((Sum Nat Int32) × CSt) := if (1500 : Int32) ≤ l5 then (B_X8_builtIn_87 N ro l1 l2 l3 l4 l5 u) else (bc (F_X9_is N 41 u) fun r_25 u_24 => if r_25 = (0 : Int32) then (if l5 ≤ (0 : Int32) then (B_X8_builtIn_54 N ro R_22 l1 l2 l3 l4 l5 u_24) else (bc (F_X9_next N u_24) fun _ u_28 => B_X8_builtIn_54 N ro R_22 l1 l2 l3 l4 l5 u_28)) else (B_X8_builtIn_87 N ro l1 l2 l3 l4 l5 u_24))
set_option maxHeartbeats 4000000 in
theorem b_X8_builtIn_22 {y : (Sum Nat Int32)} {ro : Nat → Nat → Int32 → Int32 → CSt → Option (Sum Nat Int32 × CSt)} (X : CC p s m args c cX8_builtIn 9 (Cond.code yX8_builtIn cX8_builtIn 9 (some .int)) RX8 D kA V A) (hE : CEix p l e R s m args below meth c cX8_builtIn D kA Z A Q y w) (hst : l.stackTraces = false) (hX : CX p l e R s m args below meth c D kA Z A Q y w) (hC : 1 ≤ R.cells ∧ 6 ≤ R.slots) (hF : 7 ≤ R.frames) (hL : 122 ≤ R.locals) (hrec : RecOK_TE l D kA V Z d ro) (hFd : d + 1 + 20 ≤ R.frames) (hLd : 60 * (d + 1) + 700 ≤ R.locals) {R_22 : Nat × Int32 × Int32 × Int32 × Int32 × CSt → Option ((Sum Nat Int32) × CSt)} {l1 : Nat} {l2 : Int32} {l3 : Int32} {l4 : Int32} {l5 : Int32} {u : CSt} (hR_22 : ∀ (l1 : Nat) (l2 : Int32) (l3 : Int32) (l4 : Int32) (l5 : Int32) (u : CSt), l1 < 338 → R_22 (l1, l2, l3, l4, l5, u) = some (y, w) → ∀ (H : Heap) (locs : List Loc) (ls : Array Slot), CS D kA Z A s u H locs → lv_has ls 9 [(0, .ref (Z 229)), (1, .ref (Z (1000 + l1))), (2, .int l2), (3, .int l3), (4, .int l4), (5, .int l5)] → W p l e R s m args below meth c H locs 0 0 Q (F0 m 22 ls [])) (h : B_X8_builtIn_22 N ro R_22 l1 l2 l3 l4 l5 u = some (y, w)) (h_l1 : l1 < 338) (hS : CS D kA Z A s u H locs) (hl : lv_has ls 9 [(0, .ref (Z 229)), (1, .ref (Z (1000 + l1))), (2, .int l2), (3, .int l3), (4, .int l4), (5, .int l5)]) : W p l e R s m args below meth c H locs 0 0 Q (F0 m 22 ls []) := by
  obtain ⟨⟨hx, hb, hml, hown, hts⟩, hK, hEV, hA⟩ := id X
  have hG : ∀ w ∈ GW, w.before args s = true := fun w h => hts w (List.mem_cons_of_mem _ h)
  unfold B_X8_builtIn_22 at h
  refine lv_iload hx hb dX8_builtIn_22 (lv_at hl 5 rfl) ?_
  refine lv_sipush (v := 1500) hx hb dX8_builtIn_24 (by decide) ?_
  refine lv_icmp_ge (tgt := 87) hx hb dX8_builtIn_27 (by decide) (fun c_23 => ?_) (fun c_23 => ?_)
  · have h := ip (c_23) h
    exact b_X8_builtIn_87 X hE hst hX hC hF hL hrec hFd hLd h h_l1 hS (lv_sub hl [0, 1, 2, 3, 4, 5] rfl)
  · have h := im (c_23) h
    refine lv_aload_n hx hb dX8_builtIn_30 rfl (lv_at hl 0 rfl) ?_
    refine cg_X8_24 X hS dX8_builtIn_31 ?_
    refine lv_bipush (v := 41) hx hb dX8_builtIn_34 (by decide) ?_
    obtain ⟨r_25, u_24, h_u_24, h⟩ := bc_of h
    refine kc_X9_is_RX8 X  hS h_u_24 (Nat.le_trans (Nat.le_of_ble_eq_true rfl) hF) (Nat.le_trans (Nat.le_of_ble_eq_true rfl) hL) hl.1 (Nat.le_of_ble_eq_true rfl) dX8_builtIn_36 (fun H locs hS => ?_)
    refine lv_if_ne (tgt := 87) hx hb dX8_builtIn_39 (by decide) (fun c_26 => ?_) (fun c_26 => ?_)
    · have h := im (c_26) h
      exact b_X8_builtIn_87 X hE hst hX hC hF hL hrec hFd hLd h h_l1 hS (lv_sub hl [0, 1, 2, 3, 4, 5] rfl)
    · have h := ip (c_26) h
      refine lv_iload hx hb dX8_builtIn_42 (lv_at hl 5 rfl) ?_
      refine lv_if_le (tgt := 54) hx hb dX8_builtIn_44 (by decide) (fun c_27 => ?_) (fun c_27 => ?_)
      · have h := ip (c_27) h
        exact b_X8_builtIn_54 X hE hst hX hC hF hL hrec hFd hLd hR_22 h h_l1 hS (lv_sub hl [0, 1, 2, 3, 4, 5] rfl)
      · have h := im (c_27) h
        refine lv_aload_n hx hb dX8_builtIn_47 rfl (lv_at hl 0 rfl) ?_
        refine cg_X8_24 X hS dX8_builtIn_48 ?_
        obtain ⟨r_u_28, u_28, h_u_28, h⟩ := bc_of h
        refine kc_X9_next_RX8 X  hS h_u_28 (Nat.le_trans (Nat.le_of_ble_eq_true rfl) hF) (Nat.le_trans (Nat.le_of_ble_eq_true rfl) hL) hl.1 (Nat.le_of_ble_eq_true rfl) dX8_builtIn_51 (fun H locs hS => ?_)
        exact b_X8_builtIn_54 X hE hst hX hC hF hL hrec hFd hLd hR_22 h h_l1 hS (lv_sub hl [0, 1, 2, 3, 4, 5] rfl)
def LP_X8_builtIn_22 (N : Nat) (ro : Nat → Nat → Int32 → Int32 → CSt → Option (Sum Nat Int32 × CSt)) : Nat → Nat × Int32 × Int32 × Int32 × Int32 × CSt → Option ((Sum Nat Int32) × CSt) := lp (fun R a => B_X8_builtIn_22 N ro R a.1 a.2.1 a.2.2.1 a.2.2.2.1 a.2.2.2.2.1 a.2.2.2.2.2)
theorem bl_X8_builtIn_22 {y : (Sum Nat Int32)} {ro : Nat → Nat → Int32 → Int32 → CSt → Option (Sum Nat Int32 × CSt)} (X : CC p s m args c cX8_builtIn 9 (Cond.code yX8_builtIn cX8_builtIn 9 (some .int)) RX8 D kA V A) (hE : CEix p l e R s m args below meth c cX8_builtIn D kA Z A Q y w) (hst : l.stackTraces = false) (hX : CX p l e R s m args below meth c D kA Z A Q y w) (hC : 1 ≤ R.cells ∧ 6 ≤ R.slots) (hF : 7 ≤ R.frames) (hL : 122 ≤ R.locals) (hrec : RecOK_TE l D kA V Z d ro) (hFd : d + 1 + 20 ≤ R.frames) (hLd : 60 * (d + 1) + 700 ≤ R.locals)  : ∀ (n : Nat) (l1 : Nat) (l2 : Int32) (l3 : Int32) (l4 : Int32) (l5 : Int32) (u : CSt), l1 < 338 → LP_X8_builtIn_22 N ro n (l1, l2, l3, l4, l5, u) = some (y, w) → ∀ (H : Heap) (locs : List Loc) (ls : Array Slot), CS D kA Z A s u H locs → lv_has ls 9 [(0, .ref (Z 229)), (1, .ref (Z (1000 + l1))), (2, .int l2), (3, .int l3), (4, .int l4), (5, .int l5)] → W p l e R s m args below meth c H locs 0 0 Q (F0 m 22 ls []) := by
  intro n
  induction n with
  | zero => intro l1 l2 l3 l4 l5 u h_l1 h; exact nomatch h
  | succ n ih => intro l1 l2 l3 l4 l5 u h_l1 h H locs ls hS hl; exact b_X8_builtIn_22 (N := N) (R_22 := LP_X8_builtIn_22 N ro n) X hE hst hX hC hF hL hrec hFd hLd ih h h_l1 hS hl
def B_X8_builtIn_0 (N : Nat) (ro : Nat → Nat → Int32 → Int32 → CSt → Option (Sum Nat Int32 × CSt)) (l1 : Nat) (l2 : Int32) (u : CSt) : Option ((Sum Nat Int32) × CSt) := bc (F_X9_next N u) fun _ u_29 => bc (F_X9_next N u_29) fun _ u_30 => LP_X8_builtIn_22 N ro N (l1, l2, 3, 3, 0, u_30)
set_option maxHeartbeats 4000000 in
theorem b_X8_builtIn_0 {y : (Sum Nat Int32)} {ro : Nat → Nat → Int32 → Int32 → CSt → Option (Sum Nat Int32 × CSt)} (X : CC p s m args c cX8_builtIn 9 (Cond.code yX8_builtIn cX8_builtIn 9 (some .int)) RX8 D kA V A) (hE : CEix p l e R s m args below meth c cX8_builtIn D kA Z A Q y w) (hst : l.stackTraces = false) (hX : CX p l e R s m args below meth c D kA Z A Q y w) (hC : 1 ≤ R.cells ∧ 6 ≤ R.slots) (hF : 7 ≤ R.frames) (hL : 122 ≤ R.locals) (hrec : RecOK_TE l D kA V Z d ro) (hFd : d + 1 + 20 ≤ R.frames) (hLd : 60 * (d + 1) + 700 ≤ R.locals) {l1 : Nat} {l2 : Int32} {u : CSt}  (h : B_X8_builtIn_0 N ro l1 l2 u = some (y, w)) (h_l1 : l1 < 338) (hS : CS D kA Z A s u H locs) (hl : lv_has ls 9 [(0, .ref (Z 229)), (1, .ref (Z (1000 + l1))), (2, .int l2)]) : W p l e R s m args below meth c H locs 0 0 Q (F0 m 0 ls []) := by
  obtain ⟨⟨hx, hb, hml, hown, hts⟩, hK, hEV, hA⟩ := id X
  have hG : ∀ w ∈ GW, w.before args s = true := fun w h => hts w (List.mem_cons_of_mem _ h)
  unfold B_X8_builtIn_0 at h
  refine lv_aload_n hx hb dX8_builtIn_0 rfl (lv_at hl 0 rfl) ?_
  refine cg_X8_24 X hS dX8_builtIn_1 ?_
  obtain ⟨r_u_29, u_29, h_u_29, h⟩ := bc_of h
  refine kc_X9_next_RX8 X  hS h_u_29 (Nat.le_trans (Nat.le_of_ble_eq_true rfl) hF) (Nat.le_trans (Nat.le_of_ble_eq_true rfl) hL) hl.1 (Nat.le_of_ble_eq_true rfl) dX8_builtIn_4 (fun H locs hS => ?_)
  refine lv_aload_n hx hb dX8_builtIn_7 rfl (lv_at hl 0 rfl) ?_
  refine cg_X8_24 X hS dX8_builtIn_8 ?_
  obtain ⟨r_u_30, u_30, h_u_30, h⟩ := bc_of h
  refine kc_X9_next_RX8 X  hS h_u_30 (Nat.le_trans (Nat.le_of_ble_eq_true rfl) hF) (Nat.le_trans (Nat.le_of_ble_eq_true rfl) hL) hl.1 (Nat.le_of_ble_eq_true rfl) dX8_builtIn_11 (fun H locs hS => ?_)
  refine lv_iconst (v := 3) hx hb dX8_builtIn_14 (by decide) ?_
  refine lv_istore_n (lv' := [(3, .int 3), (0, .ref (Z 229)), (1, .ref (Z (1000 + l1))), (2, .int l2)]) hx hb dX8_builtIn_15 rfl hl (by decide) rfl (fun ls hl => ?_)
  refine lv_iconst (v := 3) hx hb dX8_builtIn_16 (by decide) ?_
  refine lv_istore (lv' := [(4, .int 3), (3, .int 3), (0, .ref (Z 229)), (1, .ref (Z (1000 + l1))), (2, .int l2)]) hx hb dX8_builtIn_17 hl (by decide) rfl (fun ls hl => ?_)
  refine lv_iconst (v := 0) hx hb dX8_builtIn_19 (by decide) ?_
  refine lv_istore (lv' := [(5, .int 0), (4, .int 3), (3, .int 3), (0, .ref (Z 229)), (1, .ref (Z (1000 + l1))), (2, .int l2)]) hx hb dX8_builtIn_20 hl (by decide) rfl (fun ls hl => ?_)
  exact bl_X8_builtIn_22 X hE hst hX hC hF hL hrec hFd hLd _ _ _ _ _ _ _ h_l1 h _ _ _ hS (lv_sub hl [3, 4, 5, 2, 1, 0] rfl)
def F_X8_builtIn (N : Nat) (ro : Nat → Nat → Int32 → Int32 → CSt → Option (Sum Nat Int32 × CSt)) (l1 : Nat) (l2 : Int32) (u : CSt) : Option ((Sum Nat Int32) × CSt) := B_X8_builtIn_0 N ro l1 l2 u
set_option maxHeartbeats 4000000 in
theorem k_X8_builtIn (l : Launch) (hst : l.stackTraces = false) (D : va_G) (kA : Nat → ClassId) (V Z : Nat → Nat) (N : Nat) {d : Nat} (ro : Nat → Nat → Int32 → Int32 → CSt → Option (Sum Nat Int32 × CSt)) (hrec : RecOK_TE l D kA V Z d ro) (l1 : Nat) (l2 : Int32) (h_l1 : l1 < 338) (u : CSt) (sz : Nat) {y : (Sum Nat Int32)} {w : CSt} (h : F_X8_builtIn N ro l1 l2 u = some (y, w)) : vx_Met l yX8_builtIn (Cond.code yX8_builtIn cX8_builtIn 9 (some .int) :: GW) { frames := d + 1 + 20, cells := 1, slots := 6, locals := 60 * (d + 1) + 700 } (cPc D kA V Z [.ref (Z 229), .ref (Z (1000 + l1)), .int l2] u sz) (cQix D kA Z u sz y w) (cXc D kA Z u sz y w) 1 6 (va_A (CW kA Z u) sz) := by
  refine vx_ofW (cc := cX8_builtIn) (maxL := 9) (ret := (some .int)) (by decide) rfl ?_
  intro p e s m args below meth c s₁ Bd hml hxt hv
  obtain ⟨rfl, hsz, hP, hK, hD0, hE⟩ := hv
  have hts := atoms_spec (ws := Cond.code yX8_builtIn cX8_builtIn 9 (some .int) :: GW) Bd.pre
  have hl := lv_entry ([.ref (Z 229), .ref (Z (1000 + l1)), .int l2]) (n := 9) (Nat.le_of_ble_eq_true rfl)
  rw [lg_entry_eq]
  generalize (lg_sl ([.ref (Z 229), .ref (Z (1000 + l1)), .int l2]) ++ List.replicate (9 - (lg_sl ([.ref (Z 229), .ref (Z (1000 + l1)), .int l2])).length) Slot.unset).toArray = ls at hl ⊢
  have hl : lv_has ls 9 [(0, .ref (Z 229)), (1, .ref (Z (1000 + l1))), (2, .int l2)] := hl
  subst hsz
  have X : CC p s m ([.ref (Z 229), .ref (Z (1000 + l1)), .int l2]).toArray c cX8_builtIn 9 (Cond.code yX8_builtIn cX8_builtIn 9 (some .int)) RX8 D kA V (va_A (CW kA Z u) s.heap.size) := ⟨⟨Bd.exec, Bd.bytes, hml, findClass_of_methodNamed Bd.named, hts⟩, hK, hE, fun q h => Or.inr h⟩
  refine b_X8_builtIn_0 X (cend_ix X Bd.returns Bd.notSynchronized) hst (cend_X X hxt Bd.notSynchronized) ⟨Nat.le_refl _, Nat.le_refl _⟩ (Nat.le_trans (Nat.le_of_ble_eq_true rfl) (Nat.le_add_left 20 _)) (Nat.le_trans (Nat.le_of_ble_eq_true rfl) (Nat.le_add_left 700 _)) hrec (Nat.le_refl _) (Nat.le_refl _) h h_l1 ⟨hP, hD0.self, va_S.rf⟩ (lv_sub hl [0, 1, 2] rfl)
def B_X8_arguments_147 (N : Nat) (ro : Nat → Nat → Int32 → Int32 → CSt → Option (Sum Nat Int32 × CSt)) (R_17 : Nat × Int32 × Int32 × Int32 × CSt → Option ((Sum Nat Int32) × CSt)) (l1 : Nat) (l2 : Int32) (l3 : Int32) (l4 : Int32) (u : CSt) : Option ((Sum Nat Int32) × CSt) := R_17 (l1, l2, l3, (l4 + 1), u)
set_option maxHeartbeats 4000000 in
theorem b_X8_arguments_147 {y : (Sum Nat Int32)} {ro : Nat → Nat → Int32 → Int32 → CSt → Option (Sum Nat Int32 × CSt)} (X : CC p s m args c cX8_arguments 8 (Cond.code yX8_arguments cX8_arguments 8 none) RX8 D kA V A) (hE : CEvx p l e R s m args below meth c cX8_arguments D kA Z A Q y w) (hst : l.stackTraces = false) (hX : CX p l e R s m args below meth c D kA Z A Q y w) (hC : 1 ≤ R.cells ∧ 6 ≤ R.slots) (hF : 7 ≤ R.frames) (hL : 122 ≤ R.locals) (hrec : RecOK_TE l D kA V Z d ro) (hFd : d + 1 + 20 ≤ R.frames) (hLd : 60 * (d + 1) + 700 ≤ R.locals) {R_17 : Nat × Int32 × Int32 × Int32 × CSt → Option ((Sum Nat Int32) × CSt)} {l1 : Nat} {l2 : Int32} {l3 : Int32} {l4 : Int32} {u : CSt} (hR_17 : ∀ (l1 : Nat) (l2 : Int32) (l3 : Int32) (l4 : Int32) (u : CSt), l1 < 338 → R_17 (l1, l2, l3, l4, u) = some (y, w) → ∀ (H : Heap) (locs : List Loc) (ls : Array Slot), CS D kA Z A s u H locs → lv_has ls 8 [(0, .ref (Z 229)), (1, .ref (Z (1000 + l1))), (2, .int l2), (3, .int l3), (4, .int l4)] → W p l e R s m args below meth c H locs 0 0 Q (F0 m 17 ls [])) (h : B_X8_arguments_147 N ro R_17 l1 l2 l3 l4 u = some (y, w)) (h_l1 : l1 < 338) (hS : CS D kA Z A s u H locs) (hl : lv_has ls 8 [(0, .ref (Z 229)), (1, .ref (Z (1000 + l1))), (2, .int l2), (3, .int l3), (4, .int l4)]) : W p l e R s m args below meth c H locs 0 0 Q (F0 m 147 ls []) := by
  obtain ⟨⟨hx, hb, hml, hown, hts⟩, hK, hEV, hA⟩ := id X
  have hG : ∀ w ∈ GW, w.before args s = true := fun w h => hts w (List.mem_cons_of_mem _ h)
  unfold B_X8_arguments_147 at h
  refine lv_iinc (v := l4 + 1) (lv' := [(4, .int (l4 + 1)), (0, .ref (Z 229)), (1, .ref (Z (1000 + l1))), (2, .int l2), (3, .int l3)]) hx hb dX8_arguments_147 hl (k := 4) rfl rfl (by decide) rfl (fun ls hl => ?_)
  refine lv_goto (tgt := 17) hx hb dX8_arguments_150 (by decide) ?_
  exact hR_17 _ _ _ _ _ h_l1 h _ _ _ hS (lv_sub hl [1, 2, 3, 4, 0] rfl)
def B_X8_arguments_109 (N : Nat) (ro : Nat → Nat → Int32 → Int32 → CSt → Option (Sum Nat Int32 × CSt)) (R_17 : Nat × Int32 × Int32 × Int32 × CSt → Option ((Sum Nat Int32) × CSt)) (l1 : Nat) (l2 : Int32) (l3 : Int32) (l4 : Int32) (l5 : Int32) (l7 : Nat) (u : CSt) : Option ((Sum Nat Int32) × CSt) := if (mI u l7 2) = (5 : Int32) then (if l2 = ((-1) : Int32) then (B_X8_arguments_147 N ro R_17 l1 l2 l3 l4 u) else (ok (cR u 3 < 2) inferInstance <| bc (F_X6_step N (cR u 3) 7 (l2 + (mI u l7 9)) (mI u l7 5) l5 u) fun r_5 u_4 => B_X8_arguments_147 N ro R_17 l1 l2 l3 l4 u_4)) else (B_X8_arguments_147 N ro R_17 l1 l2 l3 l4 u)
set_option maxHeartbeats 4000000 in
theorem b_X8_arguments_109 {y : (Sum Nat Int32)} {ro : Nat → Nat → Int32 → Int32 → CSt → Option (Sum Nat Int32 × CSt)} (X : CC p s m args c cX8_arguments 8 (Cond.code yX8_arguments cX8_arguments 8 none) RX8 D kA V A) (hE : CEvx p l e R s m args below meth c cX8_arguments D kA Z A Q y w) (hst : l.stackTraces = false) (hX : CX p l e R s m args below meth c D kA Z A Q y w) (hC : 1 ≤ R.cells ∧ 6 ≤ R.slots) (hF : 7 ≤ R.frames) (hL : 122 ≤ R.locals) (hrec : RecOK_TE l D kA V Z d ro) (hFd : d + 1 + 20 ≤ R.frames) (hLd : 60 * (d + 1) + 700 ≤ R.locals) {R_17 : Nat × Int32 × Int32 × Int32 × CSt → Option ((Sum Nat Int32) × CSt)} {l1 : Nat} {l2 : Int32} {l3 : Int32} {l4 : Int32} {l5 : Int32} {l7 : Nat} {u : CSt} (hR_17 : ∀ (l1 : Nat) (l2 : Int32) (l3 : Int32) (l4 : Int32) (u : CSt), l1 < 338 → R_17 (l1, l2, l3, l4, u) = some (y, w) → ∀ (H : Heap) (locs : List Loc) (ls : Array Slot), CS D kA Z A s u H locs → lv_has ls 8 [(0, .ref (Z 229)), (1, .ref (Z (1000 + l1))), (2, .int l2), (3, .int l3), (4, .int l4)] → W p l e R s m args below meth c H locs 0 0 Q (F0 m 17 ls [])) (h : B_X8_arguments_109 N ro R_17 l1 l2 l3 l4 l5 l7 u = some (y, w)) (h_l1 : l1 < 338) (h_l7 : l7 < 338) (hS : CS D kA Z A s u H locs) (hl : lv_has ls 8 [(0, .ref (Z 229)), (1, .ref (Z (1000 + l1))), (2, .int l2), (3, .int l3), (4, .int l4), (5, .int l5), (7, .ref (Z (1000 + l7)))]) : W p l e R s m args below meth c H locs 0 0 Q (F0 m 109 ls []) := by
  obtain ⟨⟨hx, hb, hml, hown, hts⟩, hK, hEV, hA⟩ := id X
  have hG : ∀ w ∈ GW, w.before args s = true := fun w h => hts w (List.mem_cons_of_mem _ h)
  unfold B_X8_arguments_109 at h
  refine lv_aload hx hb dX8_arguments_109 (lv_at hl 6 rfl) ?_
  refine cg_X8_59 X h_l7 hS dX8_arguments_111 ?_
  refine lv_iconst (v := 5) hx hb dX8_arguments_114 (by decide) ?_
  refine lv_icmp_ne (tgt := 147) hx hb dX8_arguments_115 (by decide) (fun c_1 => ?_) (fun c_1 => ?_)
  · have h := im (c_1) h
    exact b_X8_arguments_147 X hE hst hX hC hF hL hrec hFd hLd hR_17 h h_l1 hS (lv_sub hl [0, 1, 2, 3, 4] rfl)
  · have h := ip (c_1) h
    refine lv_iload_n hx hb dX8_arguments_118 rfl (lv_at hl 2 rfl) ?_
    refine lv_iconst (v := (-1)) hx hb dX8_arguments_119 (by decide) ?_
    refine lv_icmp_eq (tgt := 147) hx hb dX8_arguments_120 (by decide) (fun c_2 => ?_) (fun c_2 => ?_)
    · have h := ip (c_2) h
      exact b_X8_arguments_147 X hE hst hX hC hF hL hrec hFd hLd hR_17 h h_l1 hS (lv_sub hl [0, 1, 2, 3, 4] rfl)
    · have h := im (c_2) h
      refine lv_aload_n hx hb dX8_arguments_123 rfl (lv_at hl 0 rfl) ?_
      refine cg_X8_28 X hS dX8_arguments_124 ?_
      obtain ⟨z_3, h⟩ := ok_of h
      refine lv_bipush (v := 7) hx hb dX8_arguments_127 (by decide) ?_
      refine lv_iload_n hx hb dX8_arguments_129 rfl (lv_at hl 2 rfl) ?_
      refine lv_aload hx hb dX8_arguments_130 (lv_at hl 6 rfl) ?_
      refine cg_X8_229 X h_l7 hS dX8_arguments_132 ?_
      refine lv_iadd hx hb dX8_arguments_135 ?_
      refine lv_aload hx hb dX8_arguments_136 (lv_at hl 6 rfl) ?_
      refine cg_X8_220 X h_l7 hS dX8_arguments_138 ?_
      refine lv_iload hx hb dX8_arguments_141 (lv_at hl 5 rfl) ?_
      obtain ⟨r_5, u_4, h_u_4, h⟩ := bc_of h
      refine kc_X6_step_RX8 X z_3 hS h_u_4 (Nat.le_trans (Nat.le_of_ble_eq_true rfl) hF) (Nat.le_trans (Nat.le_of_ble_eq_true rfl) hL) hl.1 (Nat.le_of_ble_eq_true rfl) dX8_arguments_143 (fun H locs hS => ?_)
      refine lv_pop hx hb dX8_arguments_146 rfl ?_
      exact b_X8_arguments_147 X hE hst hX hC hF hL hrec hFd hLd hR_17 h h_l1 hS (lv_sub hl [0, 1, 2, 3, 4] rfl)
def B_X8_arguments_49 (N : Nat) (ro : Nat → Nat → Int32 → Int32 → CSt → Option (Sum Nat Int32 × CSt)) (R_17 : Nat × Int32 × Int32 × Int32 × CSt → Option ((Sum Nat Int32) × CSt)) (l1 : Nat) (l2 : Int32) (l3 : Int32) (l4 : Int32) (u : CSt) : Option ((Sum Nat Int32) × CSt) := bc (F_X9_here N u) fun r_7 u_6 => bt (ro 0 0 0 0 u_6) fun r_9 u_8 => ok (cR u_8 3 < 2) inferInstance <| bc (F_X6_local N (cR u_8 3) l1 l4 u_8) fun r_13 u_12 => ok (r_13 < 338) inferInstance <| if (mI u_12 r_13 2) = (5 : Int32) then (bc (F_X8_isTooWide N r_9 (mI u_12 r_13 5) u_12) fun r_17 u_16 => if r_17 = (0 : Int32) then (B_X8_arguments_109 N ro R_17 l1 l2 l3 l4 r_7 r_13 u_16) else (bt (F_X9_refuse N 4 r_7 u_16) fun _ u_19 => B_X8_arguments_109 N ro R_17 l1 l2 l3 l4 r_7 r_13 u_19)) else (B_X8_arguments_109 N ro R_17 l1 l2 l3 l4 r_7 r_13 u_12)
set_option maxHeartbeats 4000000 in
theorem b_X8_arguments_49 {y : (Sum Nat Int32)} {ro : Nat → Nat → Int32 → Int32 → CSt → Option (Sum Nat Int32 × CSt)} (X : CC p s m args c cX8_arguments 8 (Cond.code yX8_arguments cX8_arguments 8 none) RX8 D kA V A) (hE : CEvx p l e R s m args below meth c cX8_arguments D kA Z A Q y w) (hst : l.stackTraces = false) (hX : CX p l e R s m args below meth c D kA Z A Q y w) (hC : 1 ≤ R.cells ∧ 6 ≤ R.slots) (hF : 7 ≤ R.frames) (hL : 122 ≤ R.locals) (hrec : RecOK_TE l D kA V Z d ro) (hFd : d + 1 + 20 ≤ R.frames) (hLd : 60 * (d + 1) + 700 ≤ R.locals) {R_17 : Nat × Int32 × Int32 × Int32 × CSt → Option ((Sum Nat Int32) × CSt)} {l1 : Nat} {l2 : Int32} {l3 : Int32} {l4 : Int32} {u : CSt} (hR_17 : ∀ (l1 : Nat) (l2 : Int32) (l3 : Int32) (l4 : Int32) (u : CSt), l1 < 338 → R_17 (l1, l2, l3, l4, u) = some (y, w) → ∀ (H : Heap) (locs : List Loc) (ls : Array Slot), CS D kA Z A s u H locs → lv_has ls 8 [(0, .ref (Z 229)), (1, .ref (Z (1000 + l1))), (2, .int l2), (3, .int l3), (4, .int l4)] → W p l e R s m args below meth c H locs 0 0 Q (F0 m 17 ls [])) (h : B_X8_arguments_49 N ro R_17 l1 l2 l3 l4 u = some (y, w)) (h_l1 : l1 < 338) (hS : CS D kA Z A s u H locs) (hl : lv_has ls 8 [(0, .ref (Z 229)), (1, .ref (Z (1000 + l1))), (2, .int l2), (3, .int l3), (4, .int l4)]) : W p l e R s m args below meth c H locs 0 0 Q (F0 m 49 ls []) := by
  obtain ⟨⟨hx, hb, hml, hown, hts⟩, hK, hEV, hA⟩ := id X
  have hG : ∀ w ∈ GW, w.before args s = true := fun w h => hts w (List.mem_cons_of_mem _ h)
  unfold B_X8_arguments_49 at h
  refine lv_aload_n hx hb dX8_arguments_49 rfl (lv_at hl 0 rfl) ?_
  refine cg_X8_24 X hS dX8_arguments_50 ?_
  obtain ⟨r_7, u_6, h_u_6, h⟩ := bc_of h
  refine kc_X9_here_RX8 X  hS h_u_6 (Nat.le_trans (Nat.le_of_ble_eq_true rfl) hF) (Nat.le_trans (Nat.le_of_ble_eq_true rfl) hL) hl.1 (Nat.le_of_ble_eq_true rfl) dX8_arguments_53 (fun H locs hS => ?_)
  refine lv_istore (lv' := [(5, .int r_7), (0, .ref (Z 229)), (1, .ref (Z (1000 + l1))), (2, .int l2), (3, .int l3), (4, .int l4)]) hx hb dX8_arguments_56 hl (by decide) rfl (fun ls hl => ?_)
  refine lv_aload_n hx hb dX8_arguments_58 rfl (lv_at hl 1 rfl) ?_
  obtain ⟨y_10, u_8, h_u_8, h⟩ := bt_of h
  refine kc_X8_expression X hrec  hS h_u_8 hFd hLd hC hl.1 (Nat.le_of_ble_eq_true rfl) dX8_arguments_59 (fun r_9 hr_u_8 H locs hS => ?_) (fun x9 hn H locs q9 ce hS a1 a2 a3 => by obtain ⟨e2, rfl⟩ := bt_no h hn; exact hX _ e2 _ _ _ _ _ _ _ hS a1 a2 a3)
  replace h := bt_ok h hr_u_8
  refine lv_istore (lv' := [(6, .int r_9), (5, .int r_7), (0, .ref (Z 229)), (1, .ref (Z (1000 + l1))), (2, .int l2), (3, .int l3), (4, .int l4)]) hx hb dX8_arguments_62 hl (by decide) rfl (fun ls hl => ?_)
  refine lv_aload_n hx hb dX8_arguments_64 rfl (lv_at hl 2 rfl) ?_
  refine cg_X8_28 X hS dX8_arguments_65 ?_
  obtain ⟨z_11, h⟩ := ok_of h
  refine lv_aload_n hx hb dX8_arguments_68 rfl (lv_at hl 3 rfl) ?_
  refine lv_iload hx hb dX8_arguments_69 (lv_at hl 6 rfl) ?_
  obtain ⟨r_13, u_12, h_u_12, h⟩ := bc_of h
  refine kc_X6_local_RX8 X z_11 h_l1 hS h_u_12 (Nat.le_trans (Nat.le_of_ble_eq_true rfl) hF) (Nat.le_trans (Nat.le_of_ble_eq_true rfl) hL) hl.1 (Nat.le_of_ble_eq_true rfl) dX8_arguments_71 (fun H locs hS => ?_)
  obtain ⟨z_14, h⟩ := ok_of h
  refine lv_astore (lv' := [(7, .ref (Z (1000 + r_13))), (6, .int r_9), (5, .int r_7), (0, .ref (Z 229)), (1, .ref (Z (1000 + l1))), (2, .int l2), (3, .int l3), (4, .int l4)]) hx hb dX8_arguments_74 hl (by decide) rfl (fun ls hl => ?_)
  refine lv_aload hx hb dX8_arguments_76 (lv_at hl 0 rfl) ?_
  refine cg_X8_59 X z_14 hS dX8_arguments_78 ?_
  refine lv_iconst (v := 5) hx hb dX8_arguments_81 (by decide) ?_
  refine lv_icmp_ne (tgt := 109) hx hb dX8_arguments_82 (by decide) (fun c_15 => ?_) (fun c_15 => ?_)
  · have h := im (c_15) h
    exact b_X8_arguments_109 X hE hst hX hC hF hL hrec hFd hLd hR_17 h h_l1 z_14 hS (lv_sub hl [3, 4, 5, 6, 7, 2, 0] rfl)
  · have h := ip (c_15) h
    refine lv_aload_n hx hb dX8_arguments_85 rfl (lv_at hl 3 rfl) ?_
    refine lv_iload hx hb dX8_arguments_86 (lv_at hl 1 rfl) ?_
    refine lv_aload hx hb dX8_arguments_88 (lv_at hl 0 rfl) ?_
    refine cg_X8_220 X z_14 hS dX8_arguments_90 ?_
    obtain ⟨r_17, u_16, h_u_16, h⟩ := bc_of h
    refine kc_X8_isTooWide_RX8 X  hS h_u_16 (Nat.le_trans (Nat.le_of_ble_eq_true rfl) hF) (Nat.le_trans (Nat.le_of_ble_eq_true rfl) hL) hl.1 (Nat.le_of_ble_eq_true rfl) dX8_arguments_93 (fun H locs hS => ?_)
    refine lv_if_eq (tgt := 109) hx hb dX8_arguments_96 (by decide) (fun c_18 => ?_) (fun c_18 => ?_)
    · have h := ip (c_18) h
      exact b_X8_arguments_109 X hE hst hX hC hF hL hrec hFd hLd hR_17 h h_l1 z_14 hS (lv_sub hl [3, 4, 5, 6, 7, 2, 0] rfl)
    · have h := im (c_18) h
      refine lv_aload_n hx hb dX8_arguments_99 rfl (lv_at hl 3 rfl) ?_
      refine cg_X8_24 X hS dX8_arguments_100 ?_
      refine lv_iconst (v := 4) hx hb dX8_arguments_103 (by decide) ?_
      refine lv_iload hx hb dX8_arguments_104 (lv_at hl 2 rfl) ?_
      obtain ⟨y_20, u_19, h_u_19, h⟩ := bt_of h
      refine kc_X9_refuse_RX8 hst X  hS h_u_19 (Nat.le_trans (Nat.le_of_ble_eq_true rfl) hF) (Nat.le_trans (Nat.le_of_ble_eq_true rfl) hL) hC hl.1 (Nat.le_of_ble_eq_true rfl) dX8_arguments_106 (fun r_u_19 hr_u_19 H locs hS => ?_) (fun x9 hn H locs q9 ce hS a1 a2 a3 => by obtain ⟨e2, rfl⟩ := bt_no h hn; exact hX _ e2 _ _ _ _ _ _ _ hS a1 a2 a3)
      replace h := bt_ok h hr_u_19
      exact b_X8_arguments_109 X hE hst hX hC hF hL hrec hFd hLd hR_17 h h_l1 z_14 hS (lv_sub hl [3, 4, 5, 6, 7, 2, 0] rfl)
def B_X8_arguments_153 (N : Nat) (ro : Nat → Nat → Int32 → Int32 → CSt → Option (Sum Nat Int32 × CSt)) (l1 : Nat) (l3 : Int32) (l4 : Int32) (u : CSt) : Option ((Sum Nat Int32) × CSt) := bc (F_X9_next N u) fun _ u_21 => if l4 = (mI u_21 l1 11) then (some (.inr 0, u_21)) else (bt (F_X9_refuse N 4 l3 u_21) fun _ u_23 => some (.inr 0, u_23))
set_option maxHeartbeats 4000000 in
theorem b_X8_arguments_153 {y : (Sum Nat Int32)} {ro : Nat → Nat → Int32 → Int32 → CSt → Option (Sum Nat Int32 × CSt)} (X : CC p s m args c cX8_arguments 8 (Cond.code yX8_arguments cX8_arguments 8 none) RX8 D kA V A) (hE : CEvx p l e R s m args below meth c cX8_arguments D kA Z A Q y w) (hst : l.stackTraces = false) (hX : CX p l e R s m args below meth c D kA Z A Q y w) (hC : 1 ≤ R.cells ∧ 6 ≤ R.slots) (hF : 7 ≤ R.frames) (hL : 122 ≤ R.locals) (hrec : RecOK_TE l D kA V Z d ro) (hFd : d + 1 + 20 ≤ R.frames) (hLd : 60 * (d + 1) + 700 ≤ R.locals) {l1 : Nat} {l3 : Int32} {l4 : Int32} {u : CSt}  (h : B_X8_arguments_153 N ro l1 l3 l4 u = some (y, w)) (h_l1 : l1 < 338) (hS : CS D kA Z A s u H locs) (hl : lv_has ls 8 [(0, .ref (Z 229)), (1, .ref (Z (1000 + l1))), (3, .int l3), (4, .int l4)]) : W p l e R s m args below meth c H locs 0 0 Q (F0 m 153 ls []) := by
  obtain ⟨⟨hx, hb, hml, hown, hts⟩, hK, hEV, hA⟩ := id X
  have hG : ∀ w ∈ GW, w.before args s = true := fun w h => hts w (List.mem_cons_of_mem _ h)
  unfold B_X8_arguments_153 at h
  refine lv_aload_n hx hb dX8_arguments_153 rfl (lv_at hl 0 rfl) ?_
  refine cg_X8_24 X hS dX8_arguments_154 ?_
  obtain ⟨r_u_21, u_21, h_u_21, h⟩ := bc_of h
  refine kc_X9_next_RX8 X  hS h_u_21 (Nat.le_trans (Nat.le_of_ble_eq_true rfl) hF) (Nat.le_trans (Nat.le_of_ble_eq_true rfl) hL) hl.1 (Nat.le_of_ble_eq_true rfl) dX8_arguments_157 (fun H locs hS => ?_)
  refine lv_iload hx hb dX8_arguments_160 (lv_at hl 3 rfl) ?_
  refine lv_aload_n hx hb dX8_arguments_162 rfl (lv_at hl 1 rfl) ?_
  refine cg_X8_247 X h_l1 hS dX8_arguments_163 ?_
  refine lv_icmp_eq (tgt := 178) hx hb dX8_arguments_166 (by decide) (fun c_22 => ?_) (fun c_22 => ?_)
  · have h := ip (c_22) h
    obtain ⟨e9, rfl⟩ := so9 h
    exact hE _ e9.symm _ _ _ _ hS dX8_arguments_178
  · have h := im (c_22) h
    refine lv_aload_n hx hb dX8_arguments_169 rfl (lv_at hl 0 rfl) ?_
    refine cg_X8_24 X hS dX8_arguments_170 ?_
    refine lv_iconst (v := 4) hx hb dX8_arguments_173 (by decide) ?_
    refine lv_iload_n hx hb dX8_arguments_174 rfl (lv_at hl 2 rfl) ?_
    obtain ⟨y_24, u_23, h_u_23, h⟩ := bt_of h
    refine kc_X9_refuse_RX8 hst X  hS h_u_23 (Nat.le_trans (Nat.le_of_ble_eq_true rfl) hF) (Nat.le_trans (Nat.le_of_ble_eq_true rfl) hL) hC hl.1 (Nat.le_of_ble_eq_true rfl) dX8_arguments_175 (fun r_u_23 hr_u_23 H locs hS => ?_) (fun x9 hn H locs q9 ce hS a1 a2 a3 => by obtain ⟨e2, rfl⟩ := bt_no h hn; exact hX _ e2 _ _ _ _ _ _ _ hS a1 a2 a3)
    replace h := bt_ok h hr_u_23
    obtain ⟨e9, rfl⟩ := so9 h
    exact hE _ e9.symm _ _ _ _ hS dX8_arguments_178
def B_X8_arguments_17 (N : Nat) (ro : Nat → Nat → Int32 → Int32 → CSt → Option (Sum Nat Int32 × CSt)) (R_17 : Nat × Int32 × Int32 × Int32 × CSt → Option ((Sum Nat Int32) × CSt)) (l1 : Nat) (l2 : Int32) (l3 : Int32) (l4 : Int32) (u : CSt) : Option ((Sum Nat Int32) × CSt) := if (1500 : Int32) ≤ l4 then (B_X8_arguments_153 N ro l1 l3 l4 u) else (bc (F_X9_is N 41 u) fun r_27 u_26 => if r_27 = (0 : Int32) then (if l4 ≤ (0 : Int32) then (B_X8_arguments_49 N ro R_17 l1 l2 l3 l4 u_26) else (bc (F_X9_next N u_26) fun _ u_30 => B_X8_arguments_49 N ro R_17 l1 l2 l3 l4 u_30)) else (B_X8_arguments_153 N ro l1 l3 l4 u_26))
set_option maxHeartbeats 4000000 in
theorem b_X8_arguments_17 {y : (Sum Nat Int32)} {ro : Nat → Nat → Int32 → Int32 → CSt → Option (Sum Nat Int32 × CSt)} (X : CC p s m args c cX8_arguments 8 (Cond.code yX8_arguments cX8_arguments 8 none) RX8 D kA V A) (hE : CEvx p l e R s m args below meth c cX8_arguments D kA Z A Q y w) (hst : l.stackTraces = false) (hX : CX p l e R s m args below meth c D kA Z A Q y w) (hC : 1 ≤ R.cells ∧ 6 ≤ R.slots) (hF : 7 ≤ R.frames) (hL : 122 ≤ R.locals) (hrec : RecOK_TE l D kA V Z d ro) (hFd : d + 1 + 20 ≤ R.frames) (hLd : 60 * (d + 1) + 700 ≤ R.locals) {R_17 : Nat × Int32 × Int32 × Int32 × CSt → Option ((Sum Nat Int32) × CSt)} {l1 : Nat} {l2 : Int32} {l3 : Int32} {l4 : Int32} {u : CSt} (hR_17 : ∀ (l1 : Nat) (l2 : Int32) (l3 : Int32) (l4 : Int32) (u : CSt), l1 < 338 → R_17 (l1, l2, l3, l4, u) = some (y, w) → ∀ (H : Heap) (locs : List Loc) (ls : Array Slot), CS D kA Z A s u H locs → lv_has ls 8 [(0, .ref (Z 229)), (1, .ref (Z (1000 + l1))), (2, .int l2), (3, .int l3), (4, .int l4)] → W p l e R s m args below meth c H locs 0 0 Q (F0 m 17 ls [])) (h : B_X8_arguments_17 N ro R_17 l1 l2 l3 l4 u = some (y, w)) (h_l1 : l1 < 338) (hS : CS D kA Z A s u H locs) (hl : lv_has ls 8 [(0, .ref (Z 229)), (1, .ref (Z (1000 + l1))), (2, .int l2), (3, .int l3), (4, .int l4)]) : W p l e R s m args below meth c H locs 0 0 Q (F0 m 17 ls []) := by
  obtain ⟨⟨hx, hb, hml, hown, hts⟩, hK, hEV, hA⟩ := id X
  have hG : ∀ w ∈ GW, w.before args s = true := fun w h => hts w (List.mem_cons_of_mem _ h)
  unfold B_X8_arguments_17 at h
  refine lv_iload hx hb dX8_arguments_17 (lv_at hl 4 rfl) ?_
  refine lv_sipush (v := 1500) hx hb dX8_arguments_19 (by decide) ?_
  refine lv_icmp_ge (tgt := 153) hx hb dX8_arguments_22 (by decide) (fun c_25 => ?_) (fun c_25 => ?_)
  · have h := ip (c_25) h
    exact b_X8_arguments_153 X hE hst hX hC hF hL hrec hFd hLd h h_l1 hS (lv_sub hl [0, 1, 3, 4] rfl)
  · have h := im (c_25) h
    refine lv_aload_n hx hb dX8_arguments_25 rfl (lv_at hl 0 rfl) ?_
    refine cg_X8_24 X hS dX8_arguments_26 ?_
    refine lv_bipush (v := 41) hx hb dX8_arguments_29 (by decide) ?_
    obtain ⟨r_27, u_26, h_u_26, h⟩ := bc_of h
    refine kc_X9_is_RX8 X  hS h_u_26 (Nat.le_trans (Nat.le_of_ble_eq_true rfl) hF) (Nat.le_trans (Nat.le_of_ble_eq_true rfl) hL) hl.1 (Nat.le_of_ble_eq_true rfl) dX8_arguments_31 (fun H locs hS => ?_)
    refine lv_if_ne (tgt := 153) hx hb dX8_arguments_34 (by decide) (fun c_28 => ?_) (fun c_28 => ?_)
    · have h := im (c_28) h
      exact b_X8_arguments_153 X hE hst hX hC hF hL hrec hFd hLd h h_l1 hS (lv_sub hl [0, 1, 3, 4] rfl)
    · have h := ip (c_28) h
      refine lv_iload hx hb dX8_arguments_37 (lv_at hl 4 rfl) ?_
      refine lv_if_le (tgt := 49) hx hb dX8_arguments_39 (by decide) (fun c_29 => ?_) (fun c_29 => ?_)
      · have h := ip (c_29) h
        exact b_X8_arguments_49 X hE hst hX hC hF hL hrec hFd hLd hR_17 h h_l1 hS (lv_sub hl [0, 1, 2, 3, 4] rfl)
      · have h := im (c_29) h
        refine lv_aload_n hx hb dX8_arguments_42 rfl (lv_at hl 0 rfl) ?_
        refine cg_X8_24 X hS dX8_arguments_43 ?_
        obtain ⟨r_u_30, u_30, h_u_30, h⟩ := bc_of h
        refine kc_X9_next_RX8 X  hS h_u_30 (Nat.le_trans (Nat.le_of_ble_eq_true rfl) hF) (Nat.le_trans (Nat.le_of_ble_eq_true rfl) hL) hl.1 (Nat.le_of_ble_eq_true rfl) dX8_arguments_46 (fun H locs hS => ?_)
        exact b_X8_arguments_49 X hE hst hX hC hF hL hrec hFd hLd hR_17 h h_l1 hS (lv_sub hl [0, 1, 2, 3, 4] rfl)
def LP_X8_arguments_17 (N : Nat) (ro : Nat → Nat → Int32 → Int32 → CSt → Option (Sum Nat Int32 × CSt)) : Nat → Nat × Int32 × Int32 × Int32 × CSt → Option ((Sum Nat Int32) × CSt) := lp (fun R a => B_X8_arguments_17 N ro R a.1 a.2.1 a.2.2.1 a.2.2.2.1 a.2.2.2.2)
theorem bl_X8_arguments_17 {y : (Sum Nat Int32)} {ro : Nat → Nat → Int32 → Int32 → CSt → Option (Sum Nat Int32 × CSt)} (X : CC p s m args c cX8_arguments 8 (Cond.code yX8_arguments cX8_arguments 8 none) RX8 D kA V A) (hE : CEvx p l e R s m args below meth c cX8_arguments D kA Z A Q y w) (hst : l.stackTraces = false) (hX : CX p l e R s m args below meth c D kA Z A Q y w) (hC : 1 ≤ R.cells ∧ 6 ≤ R.slots) (hF : 7 ≤ R.frames) (hL : 122 ≤ R.locals) (hrec : RecOK_TE l D kA V Z d ro) (hFd : d + 1 + 20 ≤ R.frames) (hLd : 60 * (d + 1) + 700 ≤ R.locals)  : ∀ (n : Nat) (l1 : Nat) (l2 : Int32) (l3 : Int32) (l4 : Int32) (u : CSt), l1 < 338 → LP_X8_arguments_17 N ro n (l1, l2, l3, l4, u) = some (y, w) → ∀ (H : Heap) (locs : List Loc) (ls : Array Slot), CS D kA Z A s u H locs → lv_has ls 8 [(0, .ref (Z 229)), (1, .ref (Z (1000 + l1))), (2, .int l2), (3, .int l3), (4, .int l4)] → W p l e R s m args below meth c H locs 0 0 Q (F0 m 17 ls []) := by
  intro n
  induction n with
  | zero => intro l1 l2 l3 l4 u h_l1 h; exact nomatch h
  | succ n ih => intro l1 l2 l3 l4 u h_l1 h H locs ls hS hl; exact b_X8_arguments_17 (N := N) (R_17 := LP_X8_arguments_17 N ro n) X hE hst hX hC hF hL hrec hFd hLd ih h h_l1 hS hl
def B_X8_arguments_0 (N : Nat) (ro : Nat → Nat → Int32 → Int32 → CSt → Option (Sum Nat Int32 × CSt)) (l1 : Nat) (l2 : Int32) (l3 : Int32) (u : CSt) : Option ((Sum Nat Int32) × CSt) := bc (F_X9_next N u) fun _ u_31 => bc (F_X9_next N u_31) fun _ u_32 => LP_X8_arguments_17 N ro N (l1, l2, l3, 0, u_32)
set_option maxHeartbeats 4000000 in
theorem b_X8_arguments_0 {y : (Sum Nat Int32)} {ro : Nat → Nat → Int32 → Int32 → CSt → Option (Sum Nat Int32 × CSt)} (X : CC p s m args c cX8_arguments 8 (Cond.code yX8_arguments cX8_arguments 8 none) RX8 D kA V A) (hE : CEvx p l e R s m args below meth c cX8_arguments D kA Z A Q y w) (hst : l.stackTraces = false) (hX : CX p l e R s m args below meth c D kA Z A Q y w) (hC : 1 ≤ R.cells ∧ 6 ≤ R.slots) (hF : 7 ≤ R.frames) (hL : 122 ≤ R.locals) (hrec : RecOK_TE l D kA V Z d ro) (hFd : d + 1 + 20 ≤ R.frames) (hLd : 60 * (d + 1) + 700 ≤ R.locals) {l1 : Nat} {l2 : Int32} {l3 : Int32} {u : CSt}  (h : B_X8_arguments_0 N ro l1 l2 l3 u = some (y, w)) (h_l1 : l1 < 338) (hS : CS D kA Z A s u H locs) (hl : lv_has ls 8 [(0, .ref (Z 229)), (1, .ref (Z (1000 + l1))), (2, .int l2), (3, .int l3)]) : W p l e R s m args below meth c H locs 0 0 Q (F0 m 0 ls []) := by
  obtain ⟨⟨hx, hb, hml, hown, hts⟩, hK, hEV, hA⟩ := id X
  have hG : ∀ w ∈ GW, w.before args s = true := fun w h => hts w (List.mem_cons_of_mem _ h)
  unfold B_X8_arguments_0 at h
  refine lv_aload_n hx hb dX8_arguments_0 rfl (lv_at hl 0 rfl) ?_
  refine cg_X8_24 X hS dX8_arguments_1 ?_
  obtain ⟨r_u_31, u_31, h_u_31, h⟩ := bc_of h
  refine kc_X9_next_RX8 X  hS h_u_31 (Nat.le_trans (Nat.le_of_ble_eq_true rfl) hF) (Nat.le_trans (Nat.le_of_ble_eq_true rfl) hL) hl.1 (Nat.le_of_ble_eq_true rfl) dX8_arguments_4 (fun H locs hS => ?_)
  refine lv_aload_n hx hb dX8_arguments_7 rfl (lv_at hl 0 rfl) ?_
  refine cg_X8_24 X hS dX8_arguments_8 ?_
  obtain ⟨r_u_32, u_32, h_u_32, h⟩ := bc_of h
  refine kc_X9_next_RX8 X  hS h_u_32 (Nat.le_trans (Nat.le_of_ble_eq_true rfl) hF) (Nat.le_trans (Nat.le_of_ble_eq_true rfl) hL) hl.1 (Nat.le_of_ble_eq_true rfl) dX8_arguments_11 (fun H locs hS => ?_)
  refine lv_iconst (v := 0) hx hb dX8_arguments_14 (by decide) ?_
  refine lv_istore (lv' := [(4, .int 0), (0, .ref (Z 229)), (1, .ref (Z (1000 + l1))), (2, .int l2), (3, .int l3)]) hx hb dX8_arguments_15 hl (by decide) rfl (fun ls hl => ?_)
  exact bl_X8_arguments_17 X hE hst hX hC hF hL hrec hFd hLd _ _ _ _ _ _ h_l1 h _ _ _ hS (lv_sub hl [1, 2, 3, 4, 0] rfl)
def F_X8_arguments (N : Nat) (ro : Nat → Nat → Int32 → Int32 → CSt → Option (Sum Nat Int32 × CSt)) (l1 : Nat) (l2 : Int32) (l3 : Int32) (u : CSt) : Option ((Sum Nat Int32) × CSt) := B_X8_arguments_0 N ro l1 l2 l3 u
set_option maxHeartbeats 4000000 in
theorem k_X8_arguments (l : Launch) (hst : l.stackTraces = false) (D : va_G) (kA : Nat → ClassId) (V Z : Nat → Nat) (N : Nat) {d : Nat} (ro : Nat → Nat → Int32 → Int32 → CSt → Option (Sum Nat Int32 × CSt)) (hrec : RecOK_TE l D kA V Z d ro) (l1 : Nat) (l2 : Int32) (l3 : Int32) (h_l1 : l1 < 338) (u : CSt) (sz : Nat) {y : (Sum Nat Int32)} {w : CSt} (h : F_X8_arguments N ro l1 l2 l3 u = some (y, w)) : vx_Met l yX8_arguments (Cond.code yX8_arguments cX8_arguments 8 none :: GW) { frames := d + 1 + 20, cells := 1, slots := 6, locals := 60 * (d + 1) + 700 } (cPc D kA V Z [.ref (Z 229), .ref (Z (1000 + l1)), .int l2, .int l3] u sz) (cQvx D kA Z u sz y w) (cXc D kA Z u sz y w) 1 6 (va_A (CW kA Z u) sz) := by
  refine vx_ofW (cc := cX8_arguments) (maxL := 8) (ret := none) (by decide) rfl ?_
  intro p e s m args below meth c s₁ Bd hml hxt hv
  obtain ⟨rfl, hsz, hP, hK, hD0, hE⟩ := hv
  have hts := atoms_spec (ws := Cond.code yX8_arguments cX8_arguments 8 none :: GW) Bd.pre
  have hl := lv_entry ([.ref (Z 229), .ref (Z (1000 + l1)), .int l2, .int l3]) (n := 8) (Nat.le_of_ble_eq_true rfl)
  rw [lg_entry_eq]
  generalize (lg_sl ([.ref (Z 229), .ref (Z (1000 + l1)), .int l2, .int l3]) ++ List.replicate (8 - (lg_sl ([.ref (Z 229), .ref (Z (1000 + l1)), .int l2, .int l3])).length) Slot.unset).toArray = ls at hl ⊢
  have hl : lv_has ls 8 [(0, .ref (Z 229)), (1, .ref (Z (1000 + l1))), (2, .int l2), (3, .int l3)] := hl
  subst hsz
  have X : CC p s m ([.ref (Z 229), .ref (Z (1000 + l1)), .int l2, .int l3]).toArray c cX8_arguments 8 (Cond.code yX8_arguments cX8_arguments 8 none) RX8 D kA V (va_A (CW kA Z u) s.heap.size) := ⟨⟨Bd.exec, Bd.bytes, hml, findClass_of_methodNamed Bd.named, hts⟩, hK, hE, fun q h => Or.inr h⟩
  refine b_X8_arguments_0 X (cend_vx X Bd.returns Bd.notSynchronized) hst (cend_X X hxt Bd.notSynchronized) ⟨Nat.le_refl _, Nat.le_refl _⟩ (Nat.le_trans (Nat.le_of_ble_eq_true rfl) (Nat.le_add_left 20 _)) (Nat.le_trans (Nat.le_of_ble_eq_true rfl) (Nat.le_add_left 700 _)) hrec (Nat.le_refl _) (Nat.le_refl _) h h_l1 ⟨hP, hD0.self, va_S.rf⟩ (lv_sub hl [0, 1, 2, 3] rfl)
def B_X8_index_22 (N : Nat) (ro : Nat → Nat → Int32 → Int32 → CSt → Option (Sum Nat Int32 × CSt)) (l1 : Nat) (l2 : Int32) (s0 : Nat) (s1 : Int32) (u : CSt) : Option ((Sum Nat Int32) × CSt) := bc (F_X6_step N s0 s1 (mI u l1 9) (mI u l1 7) l2 u) fun r_2 u_1 => some (.inr 0, u_1)
set_option maxHeartbeats 4000000 in
theorem b_X8_index_22 {y : (Sum Nat Int32)} {ro : Nat → Nat → Int32 → Int32 → CSt → Option (Sum Nat Int32 × CSt)} (X : CC p s m args c cX8_index 3 (Cond.code yX8_index cX8_index 3 none) RX8 D kA V A) (hE : CEvx p l e R s m args below meth c cX8_index D kA Z A Q y w) (hst : l.stackTraces = false) (hX : CX p l e R s m args below meth c D kA Z A Q y w) (hC : 1 ≤ R.cells ∧ 6 ≤ R.slots) (hF : 1 ≤ R.frames) (hL : 24 ≤ R.locals) (hrec : RecOK_TE l D kA V Z d ro) (hFd : d + 1 + 20 ≤ R.frames) (hLd : 60 * (d + 1) + 700 ≤ R.locals) {l1 : Nat} {l2 : Int32} {s0 : Nat} {s1 : Int32} {u : CSt}  (h : B_X8_index_22 N ro l1 l2 s0 s1 u = some (y, w)) (h_l1 : l1 < 338) (h_s0 : s0 < 2) (hS : CS D kA Z A s u H locs) (hl : lv_has ls 3 [(1, .ref (Z (1000 + l1))), (2, .int l2)]) : W p l e R s m args below meth c H locs 0 0 Q (F0 m 22 ls [.int s1, .ref (Z (300 + 50 * s0))]) := by
  obtain ⟨⟨hx, hb, hml, hown, hts⟩, hK, hEV, hA⟩ := id X
  have hG : ∀ w ∈ GW, w.before args s = true := fun w h => hts w (List.mem_cons_of_mem _ h)
  unfold B_X8_index_22 at h
  refine lv_aload_n hx hb dX8_index_22 rfl (lv_at hl 0 rfl) ?_
  refine cg_X8_229 X h_l1 hS dX8_index_23 ?_
  refine lv_aload_n hx hb dX8_index_26 rfl (lv_at hl 0 rfl) ?_
  refine cg_X8_235 X h_l1 hS dX8_index_27 ?_
  refine lv_iload_n hx hb dX8_index_30 rfl (lv_at hl 1 rfl) ?_
  obtain ⟨r_2, u_1, h_u_1, h⟩ := bc_of h
  refine kc_X6_step_RX8 X h_s0 hS h_u_1 (Nat.le_trans (Nat.le_of_ble_eq_true rfl) hF) (Nat.le_trans (Nat.le_of_ble_eq_true rfl) hL) hl.1 (Nat.le_of_ble_eq_true rfl) dX8_index_31 (fun H locs hS => ?_)
  refine lv_pop hx hb dX8_index_34 rfl ?_
  obtain ⟨e9, rfl⟩ := so9 h
  exact hE _ e9.symm _ _ _ _ hS dX8_index_35
def B_X8_index_0 (N : Nat) (ro : Nat → Nat → Int32 → Int32 → CSt → Option (Sum Nat Int32 × CSt)) (l1 : Nat) (l2 : Int32) (u : CSt) : Option ((Sum Nat Int32) × CSt) := bt (ro 12 0 0 0 u) fun _ u_3 => ok (cR u_3 3 < 2) inferInstance <| bc (F_X4_isLocal N l1 u_3) fun r_7 u_6 => if r_7 = (0 : Int32) then (B_X8_index_22 N ro l1 l2 (cR u_3 3) 10 u_6) else (B_X8_index_22 N ro l1 l2 (cR u_3 3) 11 u_6)
set_option maxHeartbeats 4000000 in
theorem b_X8_index_0 {y : (Sum Nat Int32)} {ro : Nat → Nat → Int32 → Int32 → CSt → Option (Sum Nat Int32 × CSt)} (X : CC p s m args c cX8_index 3 (Cond.code yX8_index cX8_index 3 none) RX8 D kA V A) (hE : CEvx p l e R s m args below meth c cX8_index D kA Z A Q y w) (hst : l.stackTraces = false) (hX : CX p l e R s m args below meth c D kA Z A Q y w) (hC : 1 ≤ R.cells ∧ 6 ≤ R.slots) (hF : 1 ≤ R.frames) (hL : 24 ≤ R.locals) (hrec : RecOK_TE l D kA V Z d ro) (hFd : d + 1 + 20 ≤ R.frames) (hLd : 60 * (d + 1) + 700 ≤ R.locals) {l1 : Nat} {l2 : Int32} {u : CSt}  (h : B_X8_index_0 N ro l1 l2 u = some (y, w)) (h_l1 : l1 < 338) (hS : CS D kA Z A s u H locs) (hl : lv_has ls 3 [(0, .ref (Z 229)), (1, .ref (Z (1000 + l1))), (2, .int l2)]) : W p l e R s m args below meth c H locs 0 0 Q (F0 m 0 ls []) := by
  obtain ⟨⟨hx, hb, hml, hown, hts⟩, hK, hEV, hA⟩ := id X
  have hG : ∀ w ∈ GW, w.before args s = true := fun w h => hts w (List.mem_cons_of_mem _ h)
  unfold B_X8_index_0 at h
  refine lv_aload_n hx hb dX8_index_0 rfl (lv_at hl 0 rfl) ?_
  obtain ⟨y_4, u_3, h_u_3, h⟩ := bt_of h
  refine kc_X8_indexNumber X hrec  hS h_u_3 hFd hLd hC hl.1 (Nat.le_of_ble_eq_true rfl) dX8_index_1 (fun r_u_3 hr_u_3 H locs hS => ?_) (fun x9 hn H locs q9 ce hS a1 a2 a3 => by obtain ⟨e2, rfl⟩ := bt_no h hn; exact hX _ e2 _ _ _ _ _ _ _ hS a1 a2 a3)
  replace h := bt_ok h hr_u_3
  refine lv_aload_n hx hb dX8_index_4 rfl (lv_at hl 0 rfl) ?_
  refine cg_X8_28 X hS dX8_index_5 ?_
  obtain ⟨z_5, h⟩ := ok_of h
  refine lv_aload_n hx hb dX8_index_8 rfl (lv_at hl 1 rfl) ?_
  obtain ⟨r_7, u_6, h_u_6, h⟩ := bc_of h
  refine kc_X4_isLocal_RX8 X h_l1 hS h_u_6 (Nat.le_trans (Nat.le_of_ble_eq_true rfl) hF) (Nat.le_trans (Nat.le_of_ble_eq_true rfl) hL) hl.1 (Nat.le_of_ble_eq_true rfl) dX8_index_9 (fun H locs hS => ?_)
  refine lv_if_eq (tgt := 20) hx hb dX8_index_12 (by decide) (fun c_8 => ?_) (fun c_8 => ?_)
  · have h := ip (c_8) h
    refine lv_bipush (v := 10) hx hb dX8_index_20 (by decide) ?_
    exact b_X8_index_22 X hE hst hX hC hF hL hrec hFd hLd h h_l1 z_5 hS (lv_sub hl [1, 2] rfl)
  · have h := im (c_8) h
    refine lv_bipush (v := 11) hx hb dX8_index_15 (by decide) ?_
    refine lv_goto (tgt := 22) hx hb dX8_index_17 (by decide) ?_
    exact b_X8_index_22 X hE hst hX hC hF hL hrec hFd hLd h h_l1 z_5 hS (lv_sub hl [1, 2] rfl)
def F_X8_index (N : Nat) (ro : Nat → Nat → Int32 → Int32 → CSt → Option (Sum Nat Int32 × CSt)) (l1 : Nat) (l2 : Int32) (u : CSt) : Option ((Sum Nat Int32) × CSt) := B_X8_index_0 N ro l1 l2 u
set_option maxHeartbeats 4000000 in
theorem k_X8_index (l : Launch) (hst : l.stackTraces = false) (D : va_G) (kA : Nat → ClassId) (V Z : Nat → Nat) (N : Nat) {d : Nat} (ro : Nat → Nat → Int32 → Int32 → CSt → Option (Sum Nat Int32 × CSt)) (hrec : RecOK_TE l D kA V Z d ro) (l1 : Nat) (l2 : Int32) (h_l1 : l1 < 338) (u : CSt) (sz : Nat) {y : (Sum Nat Int32)} {w : CSt} (h : F_X8_index N ro l1 l2 u = some (y, w)) : vx_Met l yX8_index (Cond.code yX8_index cX8_index 3 none :: GW) { frames := d + 1 + 20, cells := 1, slots := 6, locals := 60 * (d + 1) + 700 } (cPc D kA V Z [.ref (Z 229), .ref (Z (1000 + l1)), .int l2] u sz) (cQvx D kA Z u sz y w) (cXc D kA Z u sz y w) 1 6 (va_A (CW kA Z u) sz) := by
  refine vx_ofW (cc := cX8_index) (maxL := 3) (ret := none) (by decide) rfl ?_
  intro p e s m args below meth c s₁ Bd hml hxt hv
  obtain ⟨rfl, hsz, hP, hK, hD0, hE⟩ := hv
  have hts := atoms_spec (ws := Cond.code yX8_index cX8_index 3 none :: GW) Bd.pre
  have hl := lv_entry ([.ref (Z 229), .ref (Z (1000 + l1)), .int l2]) (n := 3) (Nat.le_of_ble_eq_true rfl)
  rw [lg_entry_eq]
  generalize (lg_sl ([.ref (Z 229), .ref (Z (1000 + l1)), .int l2]) ++ List.replicate (3 - (lg_sl ([.ref (Z 229), .ref (Z (1000 + l1)), .int l2])).length) Slot.unset).toArray = ls at hl ⊢
  have hl : lv_has ls 3 [(0, .ref (Z 229)), (1, .ref (Z (1000 + l1))), (2, .int l2)] := hl
  subst hsz
  have X : CC p s m ([.ref (Z 229), .ref (Z (1000 + l1)), .int l2]).toArray c cX8_index 3 (Cond.code yX8_index cX8_index 3 none) RX8 D kA V (va_A (CW kA Z u) s.heap.size) := ⟨⟨Bd.exec, Bd.bytes, hml, findClass_of_methodNamed Bd.named, hts⟩, hK, hE, fun q h => Or.inr h⟩
  refine b_X8_index_0 X (cend_vx X Bd.returns Bd.notSynchronized) hst (cend_X X hxt Bd.notSynchronized) ⟨Nat.le_refl _, Nat.le_refl _⟩ (Nat.le_trans (Nat.le_of_ble_eq_true rfl) (Nat.le_add_left 20 _)) (Nat.le_trans (Nat.le_of_ble_eq_true rfl) (Nat.le_add_left 700 _)) hrec (Nat.le_refl _) (Nat.le_refl _) h h_l1 ⟨hP, hD0.self, va_S.rf⟩ (lv_sub hl [0, 1, 2] rfl)
def B_X8_indexNumber_32 (N : Nat) (ro : Nat → Nat → Int32 → Int32 → CSt → Option (Sum Nat Int32 × CSt)) (u : CSt) : Option ((Sum Nat Int32) × CSt) := bc (F_X9_next N u) fun _ u_1 => some (.inr 0, u_1)
set_option maxHeartbeats 4000000 in
theorem b_X8_indexNumber_32 {y : (Sum Nat Int32)} {ro : Nat → Nat → Int32 → Int32 → CSt → Option (Sum Nat Int32 × CSt)} (X : CC p s m args c cX8_indexNumber 2 (Cond.code yX8_indexNumber cX8_indexNumber 2 none) RX8 D kA V A) (hE : CEvx p l e R s m args below meth c cX8_indexNumber D kA Z A Q y w) (hst : l.stackTraces = false) (hX : CX p l e R s m args below meth c D kA Z A Q y w) (hC : 1 ≤ R.cells ∧ 6 ≤ R.slots) (hF : 7 ≤ R.frames) (hL : 122 ≤ R.locals) (hrec : RecOK_TE l D kA V Z d ro) (hFd : d + 1 + 20 ≤ R.frames) (hLd : 60 * (d + 1) + 700 ≤ R.locals) {u : CSt}  (h : B_X8_indexNumber_32 N ro u = some (y, w))  (hS : CS D kA Z A s u H locs) (hl : lv_has ls 2 [(0, .ref (Z 229))]) : W p l e R s m args below meth c H locs 0 0 Q (F0 m 32 ls []) := by
  obtain ⟨⟨hx, hb, hml, hown, hts⟩, hK, hEV, hA⟩ := id X
  have hG : ∀ w ∈ GW, w.before args s = true := fun w h => hts w (List.mem_cons_of_mem _ h)
  unfold B_X8_indexNumber_32 at h
  refine lv_aload_n hx hb dX8_indexNumber_32 rfl (lv_at hl 0 rfl) ?_
  refine cg_X8_24 X hS dX8_indexNumber_33 ?_
  obtain ⟨r_u_1, u_1, h_u_1, h⟩ := bc_of h
  refine kc_X9_next_RX8 X  hS h_u_1 (Nat.le_trans (Nat.le_of_ble_eq_true rfl) hF) (Nat.le_trans (Nat.le_of_ble_eq_true rfl) hL) hl.1 (Nat.le_of_ble_eq_true rfl) dX8_indexNumber_36 (fun H locs hS => ?_)
  obtain ⟨e9, rfl⟩ := so9 h
  exact hE _ e9.symm _ _ _ _ hS dX8_indexNumber_39
def B_X8_indexNumber_0 (N : Nat) (ro : Nat → Nat → Int32 → Int32 → CSt → Option (Sum Nat Int32 × CSt)) (u : CSt) : Option ((Sum Nat Int32) × CSt) := bc (F_X9_next N u) fun _ u_2 => bc (F_X9_here N u_2) fun r_4 u_3 => bt (ro 0 0 0 0 u_3) fun r_6 u_5 => if r_6 = (4 : Int32) then (bt (F_X9_refuse N 4 r_4 u_5) fun _ u_9 => B_X8_indexNumber_32 N ro u_9) else (B_X8_indexNumber_32 N ro u_5)
set_option maxHeartbeats 4000000 in
theorem b_X8_indexNumber_0 {y : (Sum Nat Int32)} {ro : Nat → Nat → Int32 → Int32 → CSt → Option (Sum Nat Int32 × CSt)} (X : CC p s m args c cX8_indexNumber 2 (Cond.code yX8_indexNumber cX8_indexNumber 2 none) RX8 D kA V A) (hE : CEvx p l e R s m args below meth c cX8_indexNumber D kA Z A Q y w) (hst : l.stackTraces = false) (hX : CX p l e R s m args below meth c D kA Z A Q y w) (hC : 1 ≤ R.cells ∧ 6 ≤ R.slots) (hF : 7 ≤ R.frames) (hL : 122 ≤ R.locals) (hrec : RecOK_TE l D kA V Z d ro) (hFd : d + 1 + 20 ≤ R.frames) (hLd : 60 * (d + 1) + 700 ≤ R.locals) {u : CSt}  (h : B_X8_indexNumber_0 N ro u = some (y, w))  (hS : CS D kA Z A s u H locs) (hl : lv_has ls 2 [(0, .ref (Z 229))]) : W p l e R s m args below meth c H locs 0 0 Q (F0 m 0 ls []) := by
  obtain ⟨⟨hx, hb, hml, hown, hts⟩, hK, hEV, hA⟩ := id X
  have hG : ∀ w ∈ GW, w.before args s = true := fun w h => hts w (List.mem_cons_of_mem _ h)
  unfold B_X8_indexNumber_0 at h
  refine lv_aload_n hx hb dX8_indexNumber_0 rfl (lv_at hl 0 rfl) ?_
  refine cg_X8_24 X hS dX8_indexNumber_1 ?_
  obtain ⟨r_u_2, u_2, h_u_2, h⟩ := bc_of h
  refine kc_X9_next_RX8 X  hS h_u_2 (Nat.le_trans (Nat.le_of_ble_eq_true rfl) hF) (Nat.le_trans (Nat.le_of_ble_eq_true rfl) hL) hl.1 (Nat.le_of_ble_eq_true rfl) dX8_indexNumber_4 (fun H locs hS => ?_)
  refine lv_aload_n hx hb dX8_indexNumber_7 rfl (lv_at hl 0 rfl) ?_
  refine cg_X8_24 X hS dX8_indexNumber_8 ?_
  obtain ⟨r_4, u_3, h_u_3, h⟩ := bc_of h
  refine kc_X9_here_RX8 X  hS h_u_3 (Nat.le_trans (Nat.le_of_ble_eq_true rfl) hF) (Nat.le_trans (Nat.le_of_ble_eq_true rfl) hL) hl.1 (Nat.le_of_ble_eq_true rfl) dX8_indexNumber_11 (fun H locs hS => ?_)
  refine lv_istore_n (lv' := [(1, .int r_4), (0, .ref (Z 229))]) hx hb dX8_indexNumber_14 rfl hl (by decide) rfl (fun ls hl => ?_)
  refine lv_aload_n hx hb dX8_indexNumber_15 rfl (lv_at hl 1 rfl) ?_
  obtain ⟨y_7, u_5, h_u_5, h⟩ := bt_of h
  refine kc_X8_expression X hrec  hS h_u_5 hFd hLd hC hl.1 (Nat.le_of_ble_eq_true rfl) dX8_indexNumber_16 (fun r_6 hr_u_5 H locs hS => ?_) (fun x9 hn H locs q9 ce hS a1 a2 a3 => by obtain ⟨e2, rfl⟩ := bt_no h hn; exact hX _ e2 _ _ _ _ _ _ _ hS a1 a2 a3)
  replace h := bt_ok h hr_u_5
  refine lv_iconst (v := 4) hx hb dX8_indexNumber_19 (by decide) ?_
  refine lv_icmp_ne (tgt := 32) hx hb dX8_indexNumber_20 (by decide) (fun c_8 => ?_) (fun c_8 => ?_)
  · have h := im (c_8) h
    exact b_X8_indexNumber_32 X hE hst hX hC hF hL hrec hFd hLd h  hS (lv_sub hl [1] rfl)
  · have h := ip (c_8) h
    refine lv_aload_n hx hb dX8_indexNumber_23 rfl (lv_at hl 1 rfl) ?_
    refine cg_X8_24 X hS dX8_indexNumber_24 ?_
    refine lv_iconst (v := 4) hx hb dX8_indexNumber_27 (by decide) ?_
    refine lv_iload_n hx hb dX8_indexNumber_28 rfl (lv_at hl 0 rfl) ?_
    obtain ⟨y_10, u_9, h_u_9, h⟩ := bt_of h
    refine kc_X9_refuse_RX8 hst X  hS h_u_9 (Nat.le_trans (Nat.le_of_ble_eq_true rfl) hF) (Nat.le_trans (Nat.le_of_ble_eq_true rfl) hL) hC hl.1 (Nat.le_of_ble_eq_true rfl) dX8_indexNumber_29 (fun r_u_9 hr_u_9 H locs hS => ?_) (fun x9 hn H locs q9 ce hS a1 a2 a3 => by obtain ⟨e2, rfl⟩ := bt_no h hn; exact hX _ e2 _ _ _ _ _ _ _ hS a1 a2 a3)
    replace h := bt_ok h hr_u_9
    exact b_X8_indexNumber_32 X hE hst hX hC hF hL hrec hFd hLd h  hS (lv_sub hl [1] rfl)
def F_X8_indexNumber (N : Nat) (ro : Nat → Nat → Int32 → Int32 → CSt → Option (Sum Nat Int32 × CSt)) (u : CSt) : Option ((Sum Nat Int32) × CSt) := B_X8_indexNumber_0 N ro u
set_option maxHeartbeats 4000000 in
theorem k_X8_indexNumber (l : Launch) (hst : l.stackTraces = false) (D : va_G) (kA : Nat → ClassId) (V Z : Nat → Nat) (N : Nat) {d : Nat} (ro : Nat → Nat → Int32 → Int32 → CSt → Option (Sum Nat Int32 × CSt)) (hrec : RecOK_TE l D kA V Z d ro) (u : CSt) (sz : Nat) {y : (Sum Nat Int32)} {w : CSt} (h : F_X8_indexNumber N ro u = some (y, w)) : vx_Met l yX8_indexNumber (Cond.code yX8_indexNumber cX8_indexNumber 2 none :: GW) { frames := d + 1 + 20, cells := 1, slots := 6, locals := 60 * (d + 1) + 700 } (cPc D kA V Z [.ref (Z 229)] u sz) (cQvx D kA Z u sz y w) (cXc D kA Z u sz y w) 1 6 (va_A (CW kA Z u) sz) := by
  refine vx_ofW (cc := cX8_indexNumber) (maxL := 2) (ret := none) (by decide) rfl ?_
  intro p e s m args below meth c s₁ Bd hml hxt hv
  obtain ⟨rfl, hsz, hP, hK, hD0, hE⟩ := hv
  have hts := atoms_spec (ws := Cond.code yX8_indexNumber cX8_indexNumber 2 none :: GW) Bd.pre
  have hl := lv_entry ([.ref (Z 229)]) (n := 2) (Nat.le_of_ble_eq_true rfl)
  rw [lg_entry_eq]
  generalize (lg_sl ([.ref (Z 229)]) ++ List.replicate (2 - (lg_sl ([.ref (Z 229)])).length) Slot.unset).toArray = ls at hl ⊢
  have hl : lv_has ls 2 [(0, .ref (Z 229))] := hl
  subst hsz
  have X : CC p s m ([.ref (Z 229)]).toArray c cX8_indexNumber 2 (Cond.code yX8_indexNumber cX8_indexNumber 2 none) RX8 D kA V (va_A (CW kA Z u) s.heap.size) := ⟨⟨Bd.exec, Bd.bytes, hml, findClass_of_methodNamed Bd.named, hts⟩, hK, hE, fun q h => Or.inr h⟩
  refine b_X8_indexNumber_0 X (cend_vx X Bd.returns Bd.notSynchronized) hst (cend_X X hxt Bd.notSynchronized) ⟨Nat.le_refl _, Nat.le_refl _⟩ (Nat.le_trans (Nat.le_of_ble_eq_true rfl) (Nat.le_add_left 20 _)) (Nat.le_trans (Nat.le_of_ble_eq_true rfl) (Nat.le_add_left 700 _)) hrec (Nat.le_refl _) (Nat.le_refl _) h  ⟨hP, hD0.self, va_S.rf⟩ (lv_sub hl [0] rfl)
def FTE_ (N : Nat) : Nat → Nat → Nat → Int32 → Int32 → CSt → Option (Sum Nat Int32 × CSt)
  | 0 => fun _ _ _ _ _ => none
  | d + 1 => fun q z a b u => if q = 0 then F_X8_expression N (FTE_ N d) u else if q = 1 then F_X8_operators N (FTE_ N d) u else if q = 2 then F_X8_operand N (FTE_ N d) u else if q = 3 then F_X8_signed N (FTE_ N d) a u else if q = 4 then F_X8_bracket N (FTE_ N d) a u else if q = 5 then F_X8_named N (FTE_ N d) a u else if q = 6 then F_X8_ofPlace N (FTE_ N d) a u else if q = 7 then F_X8_ofInstance N (FTE_ N d) a u else if q = 8 then F_X8_called N (FTE_ N d) a u else if q = 9 then F_X8_builtIn N (FTE_ N d) z a u else if q = 10 then F_X8_arguments N (FTE_ N d) z a b u else if q = 11 then F_X8_index N (FTE_ N d) z a u else if q = 12 then F_X8_indexNumber N (FTE_ N d) u else none
theorem okTE_ (l : Launch) (hst : l.stackTraces = false) (D : va_G) (kA : Nat → ClassId) (V Z : Nat → Nat) (N : Nat) : ∀ d : Nat, RecOK_TE l D kA V Z d (FTE_ N d) := by
  intro d
  induction d with
  | zero => exact ⟨fun u sz y w h => (nomatch h), fun u sz y w h => (nomatch h), fun u sz y w h => (nomatch h), fun l1 u sz y w h => (nomatch h), fun l1 u sz y w h => (nomatch h), fun l1 u sz y w h => (nomatch h), fun l1 u sz y w h => (nomatch h), fun l1 u sz y w h => (nomatch h), fun l1 u sz y w h => (nomatch h), fun l1 l2 u sz y w h_l1 h => (nomatch h), fun l1 l2 l3 u sz y w h_l1 h => (nomatch h), fun l1 l2 u sz y w h_l1 h => (nomatch h), fun u sz y w h => (nomatch h)⟩
  | succ d ih => exact ⟨fun u sz y w h => k_X8_expression l hst D kA V Z N (FTE_ N d) ih u sz h, fun u sz y w h => k_X8_operators l hst D kA V Z N (FTE_ N d) ih u sz h, fun u sz y w h => k_X8_operand l hst D kA V Z N (FTE_ N d) ih u sz h, fun l1 u sz y w h => k_X8_signed l hst D kA V Z N (FTE_ N d) ih l1 u sz h, fun l1 u sz y w h => k_X8_bracket l hst D kA V Z N (FTE_ N d) ih l1 u sz h, fun l1 u sz y w h => k_X8_named l hst D kA V Z N (FTE_ N d) ih l1 u sz h, fun l1 u sz y w h => k_X8_ofPlace l hst D kA V Z N (FTE_ N d) ih l1 u sz h, fun l1 u sz y w h => k_X8_ofInstance l hst D kA V Z N (FTE_ N d) ih l1 u sz h, fun l1 u sz y w h => k_X8_called l hst D kA V Z N (FTE_ N d) ih l1 u sz h, fun l1 l2 u sz y w h_l1 h => k_X8_builtIn l hst D kA V Z N (FTE_ N d) ih l1 l2 h_l1 u sz h, fun l1 l2 l3 u sz y w h_l1 h => k_X8_arguments l hst D kA V Z N (FTE_ N d) ih l1 l2 l3 h_l1 u sz h, fun l1 l2 u sz y w h_l1 h => k_X8_index l hst D kA V Z N (FTE_ N d) ih l1 l2 h_l1 u sz h, fun u sz y w h => k_X8_indexNumber l hst D kA V Z N (FTE_ N d) ih u sz h⟩
def G_X8_expression (N : Nat) (u : CSt) : Option (Sum Nat Int32 × CSt) := FTE_ N 300 0 0 0 0 u
theorem kg_X8_expression_RX3 {cc : ByteArray} {pc nL : Nat} {c0 : Cond} {rest : List Value} {u w1 : CSt} {y1 : Sum Nat Int32} (hst : l.stackTraces = false) (X : CC p s m args c cc nL c0 RX3 D kA V A)  (hS : CS D kA Z A s u H locs) (h : G_X8_expression N u = some (y1, w1)) (hF : 320 + 1 ≤ R.frames) (hL : 8 + (7 + 11) + 18700 ≤ R.locals) (hC : 1 ≤ R.cells ∧ 6 ≤ R.slots) (hl : ls.size = nL) (hc : (rest.map fun v => v.category).sum ≤ 8) (hdg : decode cc pc = .ok (.invokevirtual 281, 3)) (kk : ∀ r, y1 = .inr r → ∀ H locs, CS D kA Z A s w1 H locs → W p l e R s m args below meth c H locs 0 0 Q (F0 m (pc + 3) ls (.int r :: rest))) (kx : ∀ x, y1 = .inl x → ∀ (H : Heap) (locs : List Loc) (q : Addr) (ce : Cell), CS D kA Z A s w1 H locs → H[q]? = some ce → ce.vm = .none → s.vm.findClass (exN x) = some ce.cls → vx_W p l e R s m args below meth c H locs 1 6 Q (F0 m pc ls rest) q) : W p l e R s m args below meth c H locs 0 0 Q (F0 m pc ls (.ref (Z 229) :: rest)) :=
  ccall_ix (n := 0) (f9 := 300 + 20) (l9 := 60 * 300 + 700) X hS ((okTE_ l hst D kA V Z N 300).1 u H.size _ _  h) (gw_V gw_1122 gw_1123 gw_1124 gw_14 gw_1125) (by decide +kernel) (va_recv X.2.1 hS.1 (ci := 7) (q0 := 29) rfl (cw_lit rfl)) hF hL hC rfl hl hc rfl hdg kk kx
theorem kg_X8_expression_RX8 {cc : ByteArray} {pc nL : Nat} {c0 : Cond} {rest : List Value} {u w1 : CSt} {y1 : Sum Nat Int32} (hst : l.stackTraces = false) (X : CC p s m args c cc nL c0 RX8 D kA V A)  (hS : CS D kA Z A s u H locs) (h : G_X8_expression N u = some (y1, w1)) (hF : 320 + 1 ≤ R.frames) (hL : 8 + (7 + 11) + 18700 ≤ R.locals) (hC : 1 ≤ R.cells ∧ 6 ≤ R.slots) (hl : ls.size = nL) (hc : (rest.map fun v => v.category).sum ≤ 8) (hdg : decode cc pc = .ok (.invokevirtual 125, 3)) (kk : ∀ r, y1 = .inr r → ∀ H locs, CS D kA Z A s w1 H locs → W p l e R s m args below meth c H locs 0 0 Q (F0 m (pc + 3) ls (.int r :: rest))) (kx : ∀ x, y1 = .inl x → ∀ (H : Heap) (locs : List Loc) (q : Addr) (ce : Cell), CS D kA Z A s w1 H locs → H[q]? = some ce → ce.vm = .none → s.vm.findClass (exN x) = some ce.cls → vx_W p l e R s m args below meth c H locs 1 6 Q (F0 m pc ls rest) q) : W p l e R s m args below meth c H locs 0 0 Q (F0 m pc ls (.ref (Z 229) :: rest)) :=
  ccall_ix (n := 0) (f9 := 300 + 20) (l9 := 60 * 300 + 700) X hS ((okTE_ l hst D kA V Z N 300).1 u H.size _ _  h) (gw_V gw_1153 gw_1123 gw_1124 gw_14 gw_1125) (by decide +kernel) (va_recv X.2.1 hS.1 (ci := 7) (q0 := 29) rfl (cw_lit rfl)) hF hL hC rfl hl hc rfl hdg kk kx
def G_X8_operators (N : Nat) (u : CSt) : Option (Sum Nat Int32 × CSt) := FTE_ N 300 1 0 0 0 u
theorem kg_X8_operators_RX8 {cc : ByteArray} {pc nL : Nat} {c0 : Cond} {rest : List Value} {u w1 : CSt} {y1 : Sum Nat Int32} (hst : l.stackTraces = false) (X : CC p s m args c cc nL c0 RX8 D kA V A)  (hS : CS D kA Z A s u H locs) (h : G_X8_operators N u = some (y1, w1)) (hF : 320 + 1 ≤ R.frames) (hL : 8 + (5 + 11) + 18700 ≤ R.locals) (hC : 1 ≤ R.cells ∧ 6 ≤ R.slots) (hl : ls.size = nL) (hc : (rest.map fun v => v.category).sum ≤ 8) (hdg : decode cc pc = .ok (.invokevirtual 111, 3)) (kk : ∀ r, y1 = .inr r → ∀ H locs, CS D kA Z A s w1 H locs → W p l e R s m args below meth c H locs 0 0 Q (F0 m (pc + 3) ls (.int r :: rest))) (kx : ∀ x, y1 = .inl x → ∀ (H : Heap) (locs : List Loc) (q : Addr) (ce : Cell), CS D kA Z A s w1 H locs → H[q]? = some ce → ce.vm = .none → s.vm.findClass (exN x) = some ce.cls → vx_W p l e R s m args below meth c H locs 1 6 Q (F0 m pc ls rest) q) : W p l e R s m args below meth c H locs 0 0 Q (F0 m pc ls (.ref (Z 229) :: rest)) :=
  ccall_ix (n := 0) (f9 := 300 + 20) (l9 := 60 * 300 + 700) X hS ((okTE_ l hst D kA V Z N 300).2.1 u H.size _ _  h) (gw_V gw_1126 gw_1128 gs_4_5 gw_14 gw_1129) (by decide +kernel) (va_recv X.2.1 hS.1 (ci := 7) (q0 := 29) rfl (cw_lit rfl)) hF hL hC rfl hl hc rfl hdg kk kx
def G_X8_operand (N : Nat) (u : CSt) : Option (Sum Nat Int32 × CSt) := FTE_ N 300 2 0 0 0 u
theorem kg_X8_operand_RX8 {cc : ByteArray} {pc nL : Nat} {c0 : Cond} {rest : List Value} {u w1 : CSt} {y1 : Sum Nat Int32} (hst : l.stackTraces = false) (X : CC p s m args c cc nL c0 RX8 D kA V A)  (hS : CS D kA Z A s u H locs) (h : G_X8_operand N u = some (y1, w1)) (hF : 320 + 1 ≤ R.frames) (hL : 8 + (2 + 11) + 18700 ≤ R.locals) (hC : 1 ≤ R.cells ∧ 6 ≤ R.slots) (hl : ls.size = nL) (hc : (rest.map fun v => v.category).sum ≤ 8) (hdg : decode cc pc = .ok (.invokevirtual 136, 3)) (kk : ∀ r, y1 = .inr r → ∀ H locs, CS D kA Z A s w1 H locs → W p l e R s m args below meth c H locs 0 0 Q (F0 m (pc + 3) ls (.int r :: rest))) (kx : ∀ x, y1 = .inl x → ∀ (H : Heap) (locs : List Loc) (q : Addr) (ce : Cell), CS D kA Z A s w1 H locs → H[q]? = some ce → ce.vm = .none → s.vm.findClass (exN x) = some ce.cls → vx_W p l e R s m args below meth c H locs 1 6 Q (F0 m pc ls rest) q) : W p l e R s m args below meth c H locs 0 0 Q (F0 m pc ls (.ref (Z 229) :: rest)) :=
  ccall_ix (n := 0) (f9 := 300 + 20) (l9 := 60 * 300 + 700) X hS ((okTE_ l hst D kA V Z N 300).2.2.1 u H.size _ _  h) (gw_V gw_1130 gw_1132 gs_4_6 gw_14 gw_1133) (by decide +kernel) (va_recv X.2.1 hS.1 (ci := 7) (q0 := 29) rfl (cw_lit rfl)) hF hL hC rfl hl hc rfl hdg kk kx
def G_X8_signed (N : Nat) (l1 : Int32) (u : CSt) : Option (Sum Nat Int32 × CSt) := FTE_ N 300 3 0 l1 0 u
theorem kg_X8_signed_RX8 {cc : ByteArray} {pc nL : Nat} {c0 : Cond} {rest : List Value} {l1 : Int32} {u w1 : CSt} {y1 : Sum Nat Int32} (hst : l.stackTraces = false) (X : CC p s m args c cc nL c0 RX8 D kA V A)  (hS : CS D kA Z A s u H locs) (h : G_X8_signed N l1 u = some (y1, w1)) (hF : 320 + 1 ≤ R.frames) (hL : 8 + (6 + 11) + 18700 ≤ R.locals) (hC : 1 ≤ R.cells ∧ 6 ≤ R.slots) (hl : ls.size = nL) (hc : (rest.map fun v => v.category).sum ≤ 8) (hdg : decode cc pc = .ok (.invokevirtual 165, 3)) (kk : ∀ r, y1 = .inr r → ∀ H locs, CS D kA Z A s w1 H locs → W p l e R s m args below meth c H locs 0 0 Q (F0 m (pc + 3) ls (.int r :: rest))) (kx : ∀ x, y1 = .inl x → ∀ (H : Heap) (locs : List Loc) (q : Addr) (ce : Cell), CS D kA Z A s w1 H locs → H[q]? = some ce → ce.vm = .none → s.vm.findClass (exN x) = some ce.cls → vx_W p l e R s m args below meth c H locs 1 6 Q (F0 m pc ls rest) q) : W p l e R s m args below meth c H locs 0 0 Q (F0 m pc ls (.int l1 :: .ref (Z 229) :: rest)) :=
  ccall_ix (n := 1) (f9 := 300 + 20) (l9 := 60 * 300 + 700) X hS ((okTE_ l hst D kA V Z N 300).2.2.2.1 l1 u H.size _ _  h) (gw_V gw_1136 gw_1138 gs_4_7 gw_14 gw_1139) (by decide +kernel) (va_recv X.2.1 hS.1 (ci := 7) (q0 := 29) rfl (cw_lit rfl)) hF hL hC rfl hl hc rfl hdg kk kx
def G_X8_bracket (N : Nat) (l1 : Int32) (u : CSt) : Option (Sum Nat Int32 × CSt) := FTE_ N 300 4 0 l1 0 u
theorem kg_X8_bracket_RX8 {cc : ByteArray} {pc nL : Nat} {c0 : Cond} {rest : List Value} {l1 : Int32} {u w1 : CSt} {y1 : Sum Nat Int32} (hst : l.stackTraces = false) (X : CC p s m args c cc nL c0 RX8 D kA V A)  (hS : CS D kA Z A s u H locs) (h : G_X8_bracket N l1 u = some (y1, w1)) (hF : 320 + 1 ≤ R.frames) (hL : 8 + (3 + 11) + 18700 ≤ R.locals) (hC : 1 ≤ R.cells ∧ 6 ≤ R.slots) (hl : ls.size = nL) (hc : (rest.map fun v => v.category).sum ≤ 8) (hdg : decode cc pc = .ok (.invokevirtual 168, 3)) (kk : ∀ r, y1 = .inr r → ∀ H locs, CS D kA Z A s w1 H locs → W p l e R s m args below meth c H locs 0 0 Q (F0 m (pc + 3) ls (.int r :: rest))) (kx : ∀ x, y1 = .inl x → ∀ (H : Heap) (locs : List Loc) (q : Addr) (ce : Cell), CS D kA Z A s w1 H locs → H[q]? = some ce → ce.vm = .none → s.vm.findClass (exN x) = some ce.cls → vx_W p l e R s m args below meth c H locs 1 6 Q (F0 m pc ls rest) q) : W p l e R s m args below meth c H locs 0 0 Q (F0 m pc ls (.int l1 :: .ref (Z 229) :: rest)) :=
  ccall_ix (n := 1) (f9 := 300 + 20) (l9 := 60 * 300 + 700) X hS ((okTE_ l hst D kA V Z N 300).2.2.2.2.1 l1 u H.size _ _  h) (gw_V gw_1148 gw_1150 gs_4_8 gw_14 gw_1151) (by decide +kernel) (va_recv X.2.1 hS.1 (ci := 7) (q0 := 29) rfl (cw_lit rfl)) hF hL hC rfl hl hc rfl hdg kk kx
def G_X8_named (N : Nat) (l1 : Int32) (u : CSt) : Option (Sum Nat Int32 × CSt) := FTE_ N 300 5 0 l1 0 u
theorem kg_X8_named_RX8 {cc : ByteArray} {pc nL : Nat} {c0 : Cond} {rest : List Value} {l1 : Int32} {u w1 : CSt} {y1 : Sum Nat Int32} (hst : l.stackTraces = false) (X : CC p s m args c cc nL c0 RX8 D kA V A)  (hS : CS D kA Z A s u H locs) (h : G_X8_named N l1 u = some (y1, w1)) (hF : 320 + 1 ≤ R.frames) (hL : 8 + (3 + 11) + 18700 ≤ R.locals) (hC : 1 ≤ R.cells ∧ 6 ≤ R.slots) (hl : ls.size = nL) (hc : (rest.map fun v => v.category).sum ≤ 8) (hdg : decode cc pc = .ok (.invokevirtual 174, 3)) (kk : ∀ r, y1 = .inr r → ∀ H locs, CS D kA Z A s w1 H locs → W p l e R s m args below meth c H locs 0 0 Q (F0 m (pc + 3) ls (.int r :: rest))) (kx : ∀ x, y1 = .inl x → ∀ (H : Heap) (locs : List Loc) (q : Addr) (ce : Cell), CS D kA Z A s w1 H locs → H[q]? = some ce → ce.vm = .none → s.vm.findClass (exN x) = some ce.cls → vx_W p l e R s m args below meth c H locs 1 6 Q (F0 m pc ls rest) q) : W p l e R s m args below meth c H locs 0 0 Q (F0 m pc ls (.int l1 :: .ref (Z 229) :: rest)) :=
  ccall_ix (n := 1) (f9 := 300 + 20) (l9 := 60 * 300 + 700) X hS ((okTE_ l hst D kA V Z N 300).2.2.2.2.2.1 l1 u H.size _ _  h) (gw_V gw_1165 gw_1167 gs_4_10 gw_14 gw_1168) (by decide +kernel) (va_recv X.2.1 hS.1 (ci := 7) (q0 := 29) rfl (cw_lit rfl)) hF hL hC rfl hl hc rfl hdg kk kx
def G_X8_ofPlace (N : Nat) (l1 : Int32) (u : CSt) : Option (Sum Nat Int32 × CSt) := FTE_ N 300 6 0 l1 0 u
theorem kg_X8_ofPlace_RX8 {cc : ByteArray} {pc nL : Nat} {c0 : Cond} {rest : List Value} {l1 : Int32} {u w1 : CSt} {y1 : Sum Nat Int32} (hst : l.stackTraces = false) (X : CC p s m args c cc nL c0 RX8 D kA V A)  (hS : CS D kA Z A s u H locs) (h : G_X8_ofPlace N l1 u = some (y1, w1)) (hF : 320 + 1 ≤ R.frames) (hL : 8 + (3 + 11) + 18700 ≤ R.locals) (hC : 1 ≤ R.cells ∧ 6 ≤ R.slots) (hl : ls.size = nL) (hc : (rest.map fun v => v.category).sum ≤ 8) (hdg : decode cc pc = .ok (.invokevirtual 205, 3)) (kk : ∀ r, y1 = .inr r → ∀ H locs, CS D kA Z A s w1 H locs → W p l e R s m args below meth c H locs 0 0 Q (F0 m (pc + 3) ls (.int r :: rest))) (kx : ∀ x, y1 = .inl x → ∀ (H : Heap) (locs : List Loc) (q : Addr) (ce : Cell), CS D kA Z A s w1 H locs → H[q]? = some ce → ce.vm = .none → s.vm.findClass (exN x) = some ce.cls → vx_W p l e R s m args below meth c H locs 1 6 Q (F0 m pc ls rest) q) : W p l e R s m args below meth c H locs 0 0 Q (F0 m pc ls (.int l1 :: .ref (Z 229) :: rest)) :=
  ccall_ix (n := 1) (f9 := 300 + 20) (l9 := 60 * 300 + 700) X hS ((okTE_ l hst D kA V Z N 300).2.2.2.2.2.2.1 l1 u H.size _ _  h) (gw_V gw_1212 gw_1214 gs_4_15 gw_14 gw_1215) (by decide +kernel) (va_recv X.2.1 hS.1 (ci := 7) (q0 := 29) rfl (cw_lit rfl)) hF hL hC rfl hl hc rfl hdg kk kx
def G_X8_ofInstance (N : Nat) (l1 : Int32) (u : CSt) : Option (Sum Nat Int32 × CSt) := FTE_ N 300 7 0 l1 0 u
theorem kg_X8_ofInstance_RX8 {cc : ByteArray} {pc nL : Nat} {c0 : Cond} {rest : List Value} {l1 : Int32} {u w1 : CSt} {y1 : Sum Nat Int32} (hst : l.stackTraces = false) (X : CC p s m args c cc nL c0 RX8 D kA V A)  (hS : CS D kA Z A s u H locs) (h : G_X8_ofInstance N l1 u = some (y1, w1)) (hF : 320 + 1 ≤ R.frames) (hL : 8 + (6 + 11) + 18700 ≤ R.locals) (hC : 1 ≤ R.cells ∧ 6 ≤ R.slots) (hl : ls.size = nL) (hc : (rest.map fun v => v.category).sum ≤ 8) (hdg : decode cc pc = .ok (.invokevirtual 202, 3)) (kk : ∀ r, y1 = .inr r → ∀ H locs, CS D kA Z A s w1 H locs → W p l e R s m args below meth c H locs 0 0 Q (F0 m (pc + 3) ls (.int r :: rest))) (kx : ∀ x, y1 = .inl x → ∀ (H : Heap) (locs : List Loc) (q : Addr) (ce : Cell), CS D kA Z A s w1 H locs → H[q]? = some ce → ce.vm = .none → s.vm.findClass (exN x) = some ce.cls → vx_W p l e R s m args below meth c H locs 1 6 Q (F0 m pc ls rest) q) : W p l e R s m args below meth c H locs 0 0 Q (F0 m pc ls (.int l1 :: .ref (Z 229) :: rest)) :=
  ccall_ix (n := 1) (f9 := 300 + 20) (l9 := 60 * 300 + 700) X hS ((okTE_ l hst D kA V Z N 300).2.2.2.2.2.2.2.1 l1 u H.size _ _  h) (gw_V gw_1204 gw_1206 gs_4_13 gw_14 gw_1207) (by decide +kernel) (va_recv X.2.1 hS.1 (ci := 7) (q0 := 29) rfl (cw_lit rfl)) hF hL hC rfl hl hc rfl hdg kk kx
def G_X8_called (N : Nat) (l1 : Int32) (u : CSt) : Option (Sum Nat Int32 × CSt) := FTE_ N 300 8 0 l1 0 u
theorem kg_X8_called_RX8 {cc : ByteArray} {pc nL : Nat} {c0 : Cond} {rest : List Value} {l1 : Int32} {u w1 : CSt} {y1 : Sum Nat Int32} (hst : l.stackTraces = false) (X : CC p s m args c cc nL c0 RX8 D kA V A)  (hS : CS D kA Z A s u H locs) (h : G_X8_called N l1 u = some (y1, w1)) (hF : 320 + 1 ≤ R.frames) (hL : 8 + (3 + 11) + 18700 ≤ R.locals) (hC : 1 ≤ R.cells ∧ 6 ≤ R.slots) (hl : ls.size = nL) (hc : (rest.map fun v => v.category).sum ≤ 8) (hdg : decode cc pc = .ok (.invokevirtual 199, 3)) (kk : ∀ r, y1 = .inr r → ∀ H locs, CS D kA Z A s w1 H locs → W p l e R s m args below meth c H locs 0 0 Q (F0 m (pc + 3) ls (.int r :: rest))) (kx : ∀ x, y1 = .inl x → ∀ (H : Heap) (locs : List Loc) (q : Addr) (ce : Cell), CS D kA Z A s w1 H locs → H[q]? = some ce → ce.vm = .none → s.vm.findClass (exN x) = some ce.cls → vx_W p l e R s m args below meth c H locs 1 6 Q (F0 m pc ls rest) q) : W p l e R s m args below meth c H locs 0 0 Q (F0 m pc ls (.int l1 :: .ref (Z 229) :: rest)) :=
  ccall_ix (n := 1) (f9 := 300 + 20) (l9 := 60 * 300 + 700) X hS ((okTE_ l hst D kA V Z N 300).2.2.2.2.2.2.2.2.1 l1 u H.size _ _  h) (gw_V gw_1170 gw_1172 gs_4_11 gw_14 gw_1173) (by decide +kernel) (va_recv X.2.1 hS.1 (ci := 7) (q0 := 29) rfl (cw_lit rfl)) hF hL hC rfl hl hc rfl hdg kk kx
def G_X8_builtIn (N : Nat) (l1 : Nat) (l2 : Int32) (u : CSt) : Option (Sum Nat Int32 × CSt) := FTE_ N 300 9 l1 l2 0 u
theorem kg_X8_builtIn_RX8 {cc : ByteArray} {pc nL : Nat} {c0 : Cond} {rest : List Value} {l1 : Nat} {l2 : Int32} {u w1 : CSt} {y1 : Sum Nat Int32} (hst : l.stackTraces = false) (X : CC p s m args c cc nL c0 RX8 D kA V A) (h_l1 : l1 < 338) (hS : CS D kA Z A s u H locs) (h : G_X8_builtIn N l1 l2 u = some (y1, w1)) (hF : 320 + 1 ≤ R.frames) (hL : 8 + (9 + 11) + 18700 ≤ R.locals) (hC : 1 ≤ R.cells ∧ 6 ≤ R.slots) (hl : ls.size = nL) (hc : (rest.map fun v => v.category).sum ≤ 8) (hdg : decode cc pc = .ok (.invokevirtual 238, 3)) (kk : ∀ r, y1 = .inr r → ∀ H locs, CS D kA Z A s w1 H locs → W p l e R s m args below meth c H locs 0 0 Q (F0 m (pc + 3) ls (.int r :: rest))) (kx : ∀ x, y1 = .inl x → ∀ (H : Heap) (locs : List Loc) (q : Addr) (ce : Cell), CS D kA Z A s w1 H locs → H[q]? = some ce → ce.vm = .none → s.vm.findClass (exN x) = some ce.cls → vx_W p l e R s m args below meth c H locs 1 6 Q (F0 m pc ls rest) q) : W p l e R s m args below meth c H locs 0 0 Q (F0 m pc ls (.int l2 :: .ref (Z (1000 + l1)) :: .ref (Z 229) :: rest)) :=
  ccall_ix (n := 2) (f9 := 300 + 20) (l9 := 60 * 300 + 700) X hS ((okTE_ l hst D kA V Z N 300).2.2.2.2.2.2.2.2.2.1 l1 l2 u H.size _ _ h_l1 h) (gw_V gw_1184 gw_1186 gs_4_12 gw_14 gw_1187) (by decide +kernel) (va_recv X.2.1 hS.1 (ci := 7) (q0 := 29) rfl (cw_lit rfl)) hF hL hC rfl hl hc rfl hdg kk kx
def G_X8_arguments (N : Nat) (l1 : Nat) (l2 : Int32) (l3 : Int32) (u : CSt) : Option (Sum Nat Int32 × CSt) := FTE_ N 300 10 l1 l2 l3 u
theorem kg_X8_arguments_RX8 {cc : ByteArray} {pc nL : Nat} {c0 : Cond} {rest : List Value} {l1 : Nat} {l2 : Int32} {l3 : Int32} {u w1 : CSt} {y1 : Sum Nat Int32} (hst : l.stackTraces = false) (X : CC p s m args c cc nL c0 RX8 D kA V A) (h_l1 : l1 < 338) (hS : CS D kA Z A s u H locs) (h : G_X8_arguments N l1 l2 l3 u = some (y1, w1)) (hF : 320 + 1 ≤ R.frames) (hL : 8 + (8 + 11) + 18700 ≤ R.locals) (hC : 1 ≤ R.cells ∧ 6 ≤ R.slots) (hl : ls.size = nL) (hc : (rest.map fun v => v.category).sum ≤ 8) (hdg : decode cc pc = .ok (.invokevirtual 242, 3)) (kk : ∀ r, y1 = .inr r → ∀ H locs, CS D kA Z A s w1 H locs → W p l e R s m args below meth c H locs 0 0 Q (F0 m (pc + 3) ls (rest))) (kx : ∀ x, y1 = .inl x → ∀ (H : Heap) (locs : List Loc) (q : Addr) (ce : Cell), CS D kA Z A s w1 H locs → H[q]? = some ce → ce.vm = .none → s.vm.findClass (exN x) = some ce.cls → vx_W p l e R s m args below meth c H locs 1 6 Q (F0 m pc ls rest) q) : W p l e R s m args below meth c H locs 0 0 Q (F0 m pc ls (.int l3 :: .int l2 :: .ref (Z (1000 + l1)) :: .ref (Z 229) :: rest)) :=
  ccall_vx (n := 3) (f9 := 300 + 20) (l9 := 60 * 300 + 700) X hS ((okTE_ l hst D kA V Z N 300).2.2.2.2.2.2.2.2.2.2.1 l1 l2 l3 u H.size _ _ h_l1 h) (gw_V gw_1188 gw_1189 gw_1190 gw_14 gw_1191) (by decide +kernel) (va_recv X.2.1 hS.1 (ci := 7) (q0 := 29) rfl (cw_lit rfl)) hF hL hC rfl hl hc rfl hdg kk kx
theorem kg_X8_arguments_RX3 {cc : ByteArray} {pc nL : Nat} {c0 : Cond} {rest : List Value} {l1 : Nat} {l2 : Int32} {l3 : Int32} {u w1 : CSt} {y1 : Sum Nat Int32} (hst : l.stackTraces = false) (X : CC p s m args c cc nL c0 RX3 D kA V A) (h_l1 : l1 < 338) (hS : CS D kA Z A s u H locs) (h : G_X8_arguments N l1 l2 l3 u = some (y1, w1)) (hF : 320 + 1 ≤ R.frames) (hL : 8 + (8 + 11) + 18700 ≤ R.locals) (hC : 1 ≤ R.cells ∧ 6 ≤ R.slots) (hl : ls.size = nL) (hc : (rest.map fun v => v.category).sum ≤ 8) (hdg : decode cc pc = .ok (.invokevirtual 294, 3)) (kk : ∀ r, y1 = .inr r → ∀ H locs, CS D kA Z A s w1 H locs → W p l e R s m args below meth c H locs 0 0 Q (F0 m (pc + 3) ls (rest))) (kx : ∀ x, y1 = .inl x → ∀ (H : Heap) (locs : List Loc) (q : Addr) (ce : Cell), CS D kA Z A s w1 H locs → H[q]? = some ce → ce.vm = .none → s.vm.findClass (exN x) = some ce.cls → vx_W p l e R s m args below meth c H locs 1 6 Q (F0 m pc ls rest) q) : W p l e R s m args below meth c H locs 0 0 Q (F0 m pc ls (.int l3 :: .int l2 :: .ref (Z (1000 + l1)) :: .ref (Z 229) :: rest)) :=
  ccall_vx (n := 3) (f9 := 300 + 20) (l9 := 60 * 300 + 700) X hS ((okTE_ l hst D kA V Z N 300).2.2.2.2.2.2.2.2.2.2.1 l1 l2 l3 u H.size _ _ h_l1 h) (gw_V gw_1333 gw_1189 gw_1190 gw_14 gw_1191) (by decide +kernel) (va_recv X.2.1 hS.1 (ci := 7) (q0 := 29) rfl (cw_lit rfl)) hF hL hC rfl hl hc rfl hdg kk kx
def G_X8_index (N : Nat) (l1 : Nat) (l2 : Int32) (u : CSt) : Option (Sum Nat Int32 × CSt) := FTE_ N 300 11 l1 l2 0 u
theorem kg_X8_index_RX8 {cc : ByteArray} {pc nL : Nat} {c0 : Cond} {rest : List Value} {l1 : Nat} {l2 : Int32} {u w1 : CSt} {y1 : Sum Nat Int32} (hst : l.stackTraces = false) (X : CC p s m args c cc nL c0 RX8 D kA V A) (h_l1 : l1 < 338) (hS : CS D kA Z A s u H locs) (h : G_X8_index N l1 l2 u = some (y1, w1)) (hF : 320 + 1 ≤ R.frames) (hL : 8 + (3 + 11) + 18700 ≤ R.locals) (hC : 1 ≤ R.cells ∧ 6 ≤ R.slots) (hl : ls.size = nL) (hc : (rest.map fun v => v.category).sum ≤ 8) (hdg : decode cc pc = .ok (.invokevirtual 212, 3)) (kk : ∀ r, y1 = .inr r → ∀ H locs, CS D kA Z A s w1 H locs → W p l e R s m args below meth c H locs 0 0 Q (F0 m (pc + 3) ls (rest))) (kx : ∀ x, y1 = .inl x → ∀ (H : Heap) (locs : List Loc) (q : Addr) (ce : Cell), CS D kA Z A s w1 H locs → H[q]? = some ce → ce.vm = .none → s.vm.findClass (exN x) = some ce.cls → vx_W p l e R s m args below meth c H locs 1 6 Q (F0 m pc ls rest) q) : W p l e R s m args below meth c H locs 0 0 Q (F0 m pc ls (.int l2 :: .ref (Z (1000 + l1)) :: .ref (Z 229) :: rest)) :=
  ccall_vx (n := 2) (f9 := 300 + 20) (l9 := 60 * 300 + 700) X hS ((okTE_ l hst D kA V Z N 300).2.2.2.2.2.2.2.2.2.2.2.1 l1 l2 u H.size _ _ h_l1 h) (gw_V gw_1232 gw_1233 gw_1234 gw_14 gw_1235) (by decide +kernel) (va_recv X.2.1 hS.1 (ci := 7) (q0 := 29) rfl (cw_lit rfl)) hF hL hC rfl hl hc rfl hdg kk kx
theorem kg_X8_index_RX3 {cc : ByteArray} {pc nL : Nat} {c0 : Cond} {rest : List Value} {l1 : Nat} {l2 : Int32} {u w1 : CSt} {y1 : Sum Nat Int32} (hst : l.stackTraces = false) (X : CC p s m args c cc nL c0 RX3 D kA V A) (h_l1 : l1 < 338) (hS : CS D kA Z A s u H locs) (h : G_X8_index N l1 l2 u = some (y1, w1)) (hF : 320 + 1 ≤ R.frames) (hL : 8 + (3 + 11) + 18700 ≤ R.locals) (hC : 1 ≤ R.cells ∧ 6 ≤ R.slots) (hl : ls.size = nL) (hc : (rest.map fun v => v.category).sum ≤ 8) (hdg : decode cc pc = .ok (.invokevirtual 302, 3)) (kk : ∀ r, y1 = .inr r → ∀ H locs, CS D kA Z A s w1 H locs → W p l e R s m args below meth c H locs 0 0 Q (F0 m (pc + 3) ls (rest))) (kx : ∀ x, y1 = .inl x → ∀ (H : Heap) (locs : List Loc) (q : Addr) (ce : Cell), CS D kA Z A s w1 H locs → H[q]? = some ce → ce.vm = .none → s.vm.findClass (exN x) = some ce.cls → vx_W p l e R s m args below meth c H locs 1 6 Q (F0 m pc ls rest) q) : W p l e R s m args below meth c H locs 0 0 Q (F0 m pc ls (.int l2 :: .ref (Z (1000 + l1)) :: .ref (Z 229) :: rest)) :=
  ccall_vx (n := 2) (f9 := 300 + 20) (l9 := 60 * 300 + 700) X hS ((okTE_ l hst D kA V Z N 300).2.2.2.2.2.2.2.2.2.2.2.1 l1 l2 u H.size _ _ h_l1 h) (gw_V gw_1339 gw_1233 gw_1234 gw_14 gw_1235) (by decide +kernel) (va_recv X.2.1 hS.1 (ci := 7) (q0 := 29) rfl (cw_lit rfl)) hF hL hC rfl hl hc rfl hdg kk kx
def G_X8_indexNumber (N : Nat) (u : CSt) : Option (Sum Nat Int32 × CSt) := FTE_ N 300 12 0 0 0 u
theorem kg_X8_indexNumber_RX8 {cc : ByteArray} {pc nL : Nat} {c0 : Cond} {rest : List Value} {u w1 : CSt} {y1 : Sum Nat Int32} (hst : l.stackTraces = false) (X : CC p s m args c cc nL c0 RX8 D kA V A)  (hS : CS D kA Z A s u H locs) (h : G_X8_indexNumber N u = some (y1, w1)) (hF : 320 + 1 ≤ R.frames) (hL : 8 + (2 + 11) + 18700 ≤ R.locals) (hC : 1 ≤ R.cells ∧ 6 ≤ R.slots) (hl : ls.size = nL) (hc : (rest.map fun v => v.category).sum ≤ 8) (hdg : decode cc pc = .ok (.invokevirtual 232, 3)) (kk : ∀ r, y1 = .inr r → ∀ H locs, CS D kA Z A s w1 H locs → W p l e R s m args below meth c H locs 0 0 Q (F0 m (pc + 3) ls (rest))) (kx : ∀ x, y1 = .inl x → ∀ (H : Heap) (locs : List Loc) (q : Addr) (ce : Cell), CS D kA Z A s w1 H locs → H[q]? = some ce → ce.vm = .none → s.vm.findClass (exN x) = some ce.cls → vx_W p l e R s m args below meth c H locs 1 6 Q (F0 m pc ls rest) q) : W p l e R s m args below meth c H locs 0 0 Q (F0 m pc ls (.ref (Z 229) :: rest)) :=
  ccall_vx (n := 0) (f9 := 300 + 20) (l9 := 60 * 300 + 700) X hS ((okTE_ l hst D kA V Z N 300).2.2.2.2.2.2.2.2.2.2.2.2 u H.size _ _  h) (gw_V gw_1208 gw_1210 gs_4_14 gw_14 gw_1211) (by decide +kernel) (va_recv X.2.1 hS.1 (ci := 7) (q0 := 29) rfl (cw_lit rfl)) hF hL hC rfl hl hc rfl hdg kk kx
end C38btexpr
