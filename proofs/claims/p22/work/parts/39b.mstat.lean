abbrev cX3_body : ByteArray := prog_5_method_15_code
def yX3_body : MethodName := ⟨RX3, "body", "()V"⟩
def yX3_statements : MethodName := ⟨RX3, "statements", "()I"⟩
def yX3_cases : MethodName := ⟨RX3, "cases", "(I)V"⟩
abbrev cX3_cases : ByteArray := prog_5_method_28_code
def yX3_choice : MethodName := ⟨RX3, "choice", "(I)V"⟩
abbrev cX3_choice : ByteArray := prog_5_method_24_code
def yX3_counted : MethodName := ⟨RX3, "counted", "(I)V"⟩
abbrev cX3_counted : ByteArray := prog_5_method_27_code
def yX3_round : MethodName := ⟨RX3, "round", "(I)V"⟩
def yX3_loop : MethodName := ⟨RX3, "loop", "(I)V"⟩
abbrev cX3_loop : ByteArray := prog_5_method_25_code
abbrev cX3_round : ByteArray := prog_5_method_26_code
def yX3_statement : MethodName := ⟨RX3, "statement", "()V"⟩
abbrev cX3_statement : ByteArray := prog_5_method_17_code
abbrev cX3_statements : ByteArray := prog_5_method_16_code
theorem dX3_body_0 : decode cX3_body 0 = .ok (.aload_n 0, 1) := by decide +kernel
theorem dX3_body_1 : decode cX3_body 1 = .ok (.getfield 15, 3) := by decide +kernel
theorem dX3_body_4 : decode cX3_body 4 = .ok (.invokevirtual 73, 3) := by decide +kernel
theorem dX3_body_7 : decode cX3_body 7 = .ok (.aload_n 0, 1) := by decide +kernel
theorem dX3_body_8 : decode cX3_body 8 = .ok (.invokevirtual 233, 3) := by decide +kernel
theorem dX3_body_11 : decode cX3_body 11 = .ok (.pop, 1) := by decide +kernel
theorem dX3_body_12 : decode cX3_body 12 = .ok (.return_, 1) := by decide +kernel
theorem dX3_statements_0 : decode cX3_statements 0 = .ok (.iconst 0, 1) := by decide +kernel
theorem dX3_statements_1 : decode cX3_statements 1 = .ok (.istore_n 1, 1) := by decide +kernel
theorem dX3_statements_2 : decode cX3_statements 2 = .ok (.iload_n 1, 1) := by decide +kernel
theorem dX3_statements_3 : decode cX3_statements 3 = .ok (.sipush 1500, 3) := by decide +kernel
theorem dX3_statements_6 : decode cX3_statements 6 = .ok (.if_icmp .ge 25, 3) := by decide +kernel
theorem dX3_statements_9 : decode cX3_statements 9 = .ok (.aload_n 0, 1) := by decide +kernel
theorem dX3_statements_10 : decode cX3_statements 10 = .ok (.getfield 15, 3) := by decide +kernel
theorem dX3_statements_13 : decode cX3_statements 13 = .ok (.bipush 125, 2) := by decide +kernel
theorem dX3_statements_15 : decode cX3_statements 15 = .ok (.invokevirtual 65, 3) := by decide +kernel
theorem dX3_statements_18 : decode cX3_statements 18 = .ok (.ifCond .ne 13, 3) := by decide +kernel
theorem dX3_statements_21 : decode cX3_statements 21 = .ok (.aload_n 0, 1) := by decide +kernel
theorem dX3_statements_22 : decode cX3_statements 22 = .ok (.invokevirtual 257, 3) := by decide +kernel
theorem dX3_statements_25 : decode cX3_statements 25 = .ok (.iinc 1 1, 3) := by decide +kernel
theorem dX3_statements_28 : decode cX3_statements 28 = .ok (.goto (-26), 3) := by decide +kernel
theorem dX3_statements_31 : decode cX3_statements 31 = .ok (.aload_n 0, 1) := by decide +kernel
theorem dX3_statements_32 : decode cX3_statements 32 = .ok (.getfield 15, 3) := by decide +kernel
theorem dX3_statements_35 : decode cX3_statements 35 = .ok (.invokevirtual 96, 3) := by decide +kernel
theorem dX3_statements_38 : decode cX3_statements 38 = .ok (.istore_n 1, 1) := by decide +kernel
theorem dX3_statements_39 : decode cX3_statements 39 = .ok (.aload_n 0, 1) := by decide +kernel
theorem dX3_statements_40 : decode cX3_statements 40 = .ok (.getfield 15, 3) := by decide +kernel
theorem dX3_statements_43 : decode cX3_statements 43 = .ok (.invokevirtual 73, 3) := by decide +kernel
theorem dX3_statements_46 : decode cX3_statements 46 = .ok (.iload_n 1, 1) := by decide +kernel
theorem dX3_statements_47 : decode cX3_statements 47 = .ok (.ireturn, 1) := by decide +kernel
theorem dX3_statement_0 : decode cX3_statement 0 = .ok (.aload_n 0, 1) := by decide +kernel
theorem dX3_statement_1 : decode cX3_statement 1 = .ok (.getfield 15, 3) := by decide +kernel
theorem dX3_statement_4 : decode cX3_statement 4 = .ok (.invokevirtual 96, 3) := by decide +kernel
theorem dX3_statement_7 : decode cX3_statement 7 = .ok (.istore_n 1, 1) := by decide +kernel
theorem dX3_statement_8 : decode cX3_statement 8 = .ok (.aload_n 0, 1) := by decide +kernel
theorem dX3_statement_9 : decode cX3_statement 9 = .ok (.getfield 19, 3) := by decide +kernel
theorem dX3_statement_12 : decode cX3_statement 12 = .ok (.iload_n 1, 1) := by decide +kernel
theorem dX3_statement_13 : decode cX3_statement 13 = .ok (.invokevirtual 260, 3) := by decide +kernel
theorem dX3_statement_16 : decode cX3_statement 16 = .ok (.aload_n 0, 1) := by decide +kernel
theorem dX3_statement_17 : decode cX3_statement 17 = .ok (.getfield 15, 3) := by decide +kernel
theorem dX3_statement_20 : decode cX3_statement 20 = .ok (.invokevirtual 69, 3) := by decide +kernel
theorem dX3_statement_23 : decode cX3_statement 23 = .ok (.tableswitch 147 17 28 #[61, 147, 147, 69, 77, 85, 147, 147, 93, 93, 101, 109], 61) := by decide +kernel
theorem dX3_statement_84 : decode cX3_statement 84 = .ok (.aload_n 0, 1) := by decide +kernel
theorem dX3_statement_85 : decode cX3_statement 85 = .ok (.iload_n 1, 1) := by decide +kernel
theorem dX3_statement_86 : decode cX3_statement 86 = .ok (.invokevirtual 263, 3) := by decide +kernel
theorem dX3_statement_89 : decode cX3_statement 89 = .ok (.goto 107, 3) := by decide +kernel
theorem dX3_statement_92 : decode cX3_statement 92 = .ok (.aload_n 0, 1) := by decide +kernel
theorem dX3_statement_93 : decode cX3_statement 93 = .ok (.iload_n 1, 1) := by decide +kernel
theorem dX3_statement_94 : decode cX3_statement 94 = .ok (.invokevirtual 266, 3) := by decide +kernel
theorem dX3_statement_97 : decode cX3_statement 97 = .ok (.goto 99, 3) := by decide +kernel
theorem dX3_statement_100 : decode cX3_statement 100 = .ok (.aload_n 0, 1) := by decide +kernel
theorem dX3_statement_101 : decode cX3_statement 101 = .ok (.iload_n 1, 1) := by decide +kernel
theorem dX3_statement_102 : decode cX3_statement 102 = .ok (.invokevirtual 269, 3) := by decide +kernel
theorem dX3_statement_105 : decode cX3_statement 105 = .ok (.goto 91, 3) := by decide +kernel
theorem dX3_statement_108 : decode cX3_statement 108 = .ok (.aload_n 0, 1) := by decide +kernel
theorem dX3_statement_109 : decode cX3_statement 109 = .ok (.iload_n 1, 1) := by decide +kernel
theorem dX3_statement_110 : decode cX3_statement 110 = .ok (.invokevirtual 272, 3) := by decide +kernel
theorem dX3_statement_113 : decode cX3_statement 113 = .ok (.goto 83, 3) := by decide +kernel
theorem dX3_statement_116 : decode cX3_statement 116 = .ok (.aload_n 0, 1) := by decide +kernel
theorem dX3_statement_117 : decode cX3_statement 117 = .ok (.iload_n 1, 1) := by decide +kernel
theorem dX3_statement_118 : decode cX3_statement 118 = .ok (.invokevirtual 275, 3) := by decide +kernel
theorem dX3_statement_121 : decode cX3_statement 121 = .ok (.goto 75, 3) := by decide +kernel
theorem dX3_statement_124 : decode cX3_statement 124 = .ok (.aload_n 0, 1) := by decide +kernel
theorem dX3_statement_125 : decode cX3_statement 125 = .ok (.iload_n 1, 1) := by decide +kernel
theorem dX3_statement_126 : decode cX3_statement 126 = .ok (.invokevirtual 278, 3) := by decide +kernel
theorem dX3_statement_129 : decode cX3_statement 129 = .ok (.goto 67, 3) := by decide +kernel
theorem dX3_statement_132 : decode cX3_statement 132 = .ok (.aload_n 0, 1) := by decide +kernel
theorem dX3_statement_133 : decode cX3_statement 133 = .ok (.getfield 15, 3) := by decide +kernel
theorem dX3_statement_136 : decode cX3_statement 136 = .ok (.invokevirtual 73, 3) := by decide +kernel
theorem dX3_statement_139 : decode cX3_statement 139 = .ok (.aload_n 0, 1) := by decide +kernel
theorem dX3_statement_140 : decode cX3_statement 140 = .ok (.getfield 28, 3) := by decide +kernel
theorem dX3_statement_143 : decode cX3_statement 143 = .ok (.invokevirtual 281, 3) := by decide +kernel
theorem dX3_statement_146 : decode cX3_statement 146 = .ok (.pop, 1) := by decide +kernel
theorem dX3_statement_147 : decode cX3_statement 147 = .ok (.aload_n 0, 1) := by decide +kernel
theorem dX3_statement_148 : decode cX3_statement 148 = .ok (.getfield 19, 3) := by decide +kernel
theorem dX3_statement_151 : decode cX3_statement 151 = .ok (.bipush 41, 2) := by decide +kernel
theorem dX3_statement_153 : decode cX3_statement 153 = .ok (.iconst 0, 1) := by decide +kernel
theorem dX3_statement_154 : decode cX3_statement 154 = .ok (.iconst 0, 1) := by decide +kernel
theorem dX3_statement_155 : decode cX3_statement 155 = .ok (.iload_n 1, 1) := by decide +kernel
theorem dX3_statement_156 : decode cX3_statement 156 = .ok (.invokevirtual 239, 3) := by decide +kernel
theorem dX3_statement_159 : decode cX3_statement 159 = .ok (.pop, 1) := by decide +kernel
theorem dX3_statement_160 : decode cX3_statement 160 = .ok (.aload_n 0, 1) := by decide +kernel
theorem dX3_statement_161 : decode cX3_statement 161 = .ok (.getfield 15, 3) := by decide +kernel
theorem dX3_statement_164 : decode cX3_statement 164 = .ok (.invokevirtual 73, 3) := by decide +kernel
theorem dX3_statement_167 : decode cX3_statement 167 = .ok (.goto 29, 3) := by decide +kernel
theorem dX3_statement_170 : decode cX3_statement 170 = .ok (.aload_n 0, 1) := by decide +kernel
theorem dX3_statement_171 : decode cX3_statement 171 = .ok (.getfield 15, 3) := by decide +kernel
theorem dX3_statement_174 : decode cX3_statement 174 = .ok (.iconst 1, 1) := by decide +kernel
theorem dX3_statement_175 : decode cX3_statement 175 = .ok (.invokevirtual 284, 3) := by decide +kernel
theorem dX3_statement_178 : decode cX3_statement 178 = .ok (.bipush 40, 2) := by decide +kernel
theorem dX3_statement_180 : decode cX3_statement 180 = .ok (.if_icmp .ne 11, 3) := by decide +kernel
theorem dX3_statement_183 : decode cX3_statement 183 = .ok (.aload_n 0, 1) := by decide +kernel
theorem dX3_statement_184 : decode cX3_statement 184 = .ok (.iload_n 1, 1) := by decide +kernel
theorem dX3_statement_185 : decode cX3_statement 185 = .ok (.invokevirtual 288, 3) := by decide +kernel
theorem dX3_statement_188 : decode cX3_statement 188 = .ok (.goto 8, 3) := by decide +kernel
theorem dX3_statement_191 : decode cX3_statement 191 = .ok (.aload_n 0, 1) := by decide +kernel
theorem dX3_statement_192 : decode cX3_statement 192 = .ok (.iload_n 1, 1) := by decide +kernel
theorem dX3_statement_193 : decode cX3_statement 193 = .ok (.invokevirtual 291, 3) := by decide +kernel
theorem dX3_statement_196 : decode cX3_statement 196 = .ok (.return_, 1) := by decide +kernel
theorem dX3_choice_0 : decode cX3_choice 0 = .ok (.iconst (-1), 1) := by decide +kernel
theorem dX3_choice_1 : decode cX3_choice 1 = .ok (.istore_n 2, 1) := by decide +kernel
theorem dX3_choice_2 : decode cX3_choice 2 = .ok (.iconst 1, 1) := by decide +kernel
theorem dX3_choice_3 : decode cX3_choice 3 = .ok (.istore_n 3, 1) := by decide +kernel
theorem dX3_choice_4 : decode cX3_choice 4 = .ok (.iconst 0, 1) := by decide +kernel
theorem dX3_choice_5 : decode cX3_choice 5 = .ok (.istore 4, 2) := by decide +kernel
theorem dX3_choice_7 : decode cX3_choice 7 = .ok (.iload 4, 2) := by decide +kernel
theorem dX3_choice_9 : decode cX3_choice 9 = .ok (.sipush 1500, 3) := by decide +kernel
theorem dX3_choice_12 : decode cX3_choice 12 = .ok (.if_icmp .ge 78, 3) := by decide +kernel
theorem dX3_choice_15 : decode cX3_choice 15 = .ok (.iload_n 3, 1) := by decide +kernel
theorem dX3_choice_16 : decode cX3_choice 16 = .ok (.ifCond .eq 74, 3) := by decide +kernel
theorem dX3_choice_19 : decode cX3_choice 19 = .ok (.aload_n 0, 1) := by decide +kernel
theorem dX3_choice_20 : decode cX3_choice 20 = .ok (.getfield 15, 3) := by decide +kernel
theorem dX3_choice_23 : decode cX3_choice 23 = .ok (.invokevirtual 73, 3) := by decide +kernel
theorem dX3_choice_26 : decode cX3_choice 26 = .ok (.aload_n 0, 1) := by decide +kernel
theorem dX3_choice_27 : decode cX3_choice 27 = .ok (.getfield 28, 3) := by decide +kernel
theorem dX3_choice_30 : decode cX3_choice 30 = .ok (.invokevirtual 281, 3) := by decide +kernel
theorem dX3_choice_33 : decode cX3_choice 33 = .ok (.pop, 1) := by decide +kernel
theorem dX3_choice_34 : decode cX3_choice 34 = .ok (.aload_n 0, 1) := by decide +kernel
theorem dX3_choice_35 : decode cX3_choice 35 = .ok (.getfield 19, 3) := by decide +kernel
theorem dX3_choice_38 : decode cX3_choice 38 = .ok (.bipush 31, 2) := by decide +kernel
theorem dX3_choice_40 : decode cX3_choice 40 = .ok (.iconst (-1), 1) := by decide +kernel
theorem dX3_choice_41 : decode cX3_choice 41 = .ok (.iconst 0, 1) := by decide +kernel
theorem dX3_choice_42 : decode cX3_choice 42 = .ok (.iload_n 1, 1) := by decide +kernel
theorem dX3_choice_43 : decode cX3_choice 43 = .ok (.invokevirtual 239, 3) := by decide +kernel
theorem dX3_choice_46 : decode cX3_choice 46 = .ok (.istore 5, 2) := by decide +kernel
theorem dX3_choice_48 : decode cX3_choice 48 = .ok (.aload_n 0, 1) := by decide +kernel
theorem dX3_choice_49 : decode cX3_choice 49 = .ok (.invokevirtual 335, 3) := by decide +kernel
theorem dX3_choice_52 : decode cX3_choice 52 = .ok (.aload_n 0, 1) := by decide +kernel
theorem dX3_choice_53 : decode cX3_choice 53 = .ok (.getfield 19, 3) := by decide +kernel
theorem dX3_choice_56 : decode cX3_choice 56 = .ok (.bipush 30, 2) := by decide +kernel
theorem dX3_choice_58 : decode cX3_choice 58 = .ok (.iload_n 2, 1) := by decide +kernel
theorem dX3_choice_59 : decode cX3_choice 59 = .ok (.iconst 0, 1) := by decide +kernel
theorem dX3_choice_60 : decode cX3_choice 60 = .ok (.iload_n 1, 1) := by decide +kernel
theorem dX3_choice_61 : decode cX3_choice 61 = .ok (.invokevirtual 239, 3) := by decide +kernel
theorem dX3_choice_64 : decode cX3_choice 64 = .ok (.istore_n 2, 1) := by decide +kernel
theorem dX3_choice_65 : decode cX3_choice 65 = .ok (.aload_n 0, 1) := by decide +kernel
theorem dX3_choice_66 : decode cX3_choice 66 = .ok (.getfield 19, 3) := by decide +kernel
theorem dX3_choice_69 : decode cX3_choice 69 = .ok (.iload 5, 2) := by decide +kernel
theorem dX3_choice_71 : decode cX3_choice 71 = .ok (.invokevirtual 338, 3) := by decide +kernel
theorem dX3_choice_74 : decode cX3_choice 74 = .ok (.aload_n 0, 1) := by decide +kernel
theorem dX3_choice_75 : decode cX3_choice 75 = .ok (.getfield 15, 3) := by decide +kernel
theorem dX3_choice_78 : decode cX3_choice 78 = .ok (.bipush 18, 2) := by decide +kernel
theorem dX3_choice_80 : decode cX3_choice 80 = .ok (.invokevirtual 65, 3) := by decide +kernel
theorem dX3_choice_83 : decode cX3_choice 83 = .ok (.istore_n 3, 1) := by decide +kernel
theorem dX3_choice_84 : decode cX3_choice 84 = .ok (.iinc 4 1, 3) := by decide +kernel
theorem dX3_choice_87 : decode cX3_choice 87 = .ok (.goto (-80), 3) := by decide +kernel
theorem dX3_choice_90 : decode cX3_choice 90 = .ok (.aload_n 0, 1) := by decide +kernel
theorem dX3_choice_91 : decode cX3_choice 91 = .ok (.getfield 15, 3) := by decide +kernel
theorem dX3_choice_94 : decode cX3_choice 94 = .ok (.bipush 19, 2) := by decide +kernel
theorem dX3_choice_96 : decode cX3_choice 96 = .ok (.invokevirtual 65, 3) := by decide +kernel
theorem dX3_choice_99 : decode cX3_choice 99 = .ok (.ifCond .eq 14, 3) := by decide +kernel
theorem dX3_choice_102 : decode cX3_choice 102 = .ok (.aload_n 0, 1) := by decide +kernel
theorem dX3_choice_103 : decode cX3_choice 103 = .ok (.getfield 15, 3) := by decide +kernel
theorem dX3_choice_106 : decode cX3_choice 106 = .ok (.invokevirtual 73, 3) := by decide +kernel
theorem dX3_choice_109 : decode cX3_choice 109 = .ok (.aload_n 0, 1) := by decide +kernel
theorem dX3_choice_110 : decode cX3_choice 110 = .ok (.invokevirtual 335, 3) := by decide +kernel
theorem dX3_choice_113 : decode cX3_choice 113 = .ok (.aload_n 0, 1) := by decide +kernel
theorem dX3_choice_114 : decode cX3_choice 114 = .ok (.getfield 19, 3) := by decide +kernel
theorem dX3_choice_117 : decode cX3_choice 117 = .ok (.iload_n 2, 1) := by decide +kernel
theorem dX3_choice_118 : decode cX3_choice 118 = .ok (.invokevirtual 338, 3) := by decide +kernel
theorem dX3_choice_121 : decode cX3_choice 121 = .ok (.return_, 1) := by decide +kernel
theorem dX3_loop_0 : decode cX3_loop 0 = .ok (.aload_n 0, 1) := by decide +kernel
theorem dX3_loop_1 : decode cX3_loop 1 = .ok (.getfield 15, 3) := by decide +kernel
theorem dX3_loop_4 : decode cX3_loop 4 = .ok (.invokevirtual 73, 3) := by decide +kernel
theorem dX3_loop_7 : decode cX3_loop 7 = .ok (.aload_n 0, 1) := by decide +kernel
theorem dX3_loop_8 : decode cX3_loop 8 = .ok (.getfield 19, 3) := by decide +kernel
theorem dX3_loop_11 : decode cX3_loop 11 = .ok (.getfield 227, 3) := by decide +kernel
theorem dX3_loop_14 : decode cX3_loop 14 = .ok (.istore_n 2, 1) := by decide +kernel
theorem dX3_loop_15 : decode cX3_loop 15 = .ok (.aload_n 0, 1) := by decide +kernel
theorem dX3_loop_16 : decode cX3_loop 16 = .ok (.getfield 28, 3) := by decide +kernel
theorem dX3_loop_19 : decode cX3_loop 19 = .ok (.invokevirtual 281, 3) := by decide +kernel
theorem dX3_loop_22 : decode cX3_loop 22 = .ok (.pop, 1) := by decide +kernel
theorem dX3_loop_23 : decode cX3_loop 23 = .ok (.aload_n 0, 1) := by decide +kernel
theorem dX3_loop_24 : decode cX3_loop 24 = .ok (.getfield 54, 3) := by decide +kernel
theorem dX3_loop_27 : decode cX3_loop 27 = .ok (.istore_n 3, 1) := by decide +kernel
theorem dX3_loop_28 : decode cX3_loop 28 = .ok (.aload_n 0, 1) := by decide +kernel
theorem dX3_loop_29 : decode cX3_loop 29 = .ok (.aload_n 0, 1) := by decide +kernel
theorem dX3_loop_30 : decode cX3_loop 30 = .ok (.getfield 19, 3) := by decide +kernel
theorem dX3_loop_33 : decode cX3_loop 33 = .ok (.bipush 31, 2) := by decide +kernel
theorem dX3_loop_35 : decode cX3_loop 35 = .ok (.iconst (-1), 1) := by decide +kernel
theorem dX3_loop_36 : decode cX3_loop 36 = .ok (.iconst 0, 1) := by decide +kernel
theorem dX3_loop_37 : decode cX3_loop 37 = .ok (.iload_n 1, 1) := by decide +kernel
theorem dX3_loop_38 : decode cX3_loop 38 = .ok (.invokevirtual 239, 3) := by decide +kernel
theorem dX3_loop_41 : decode cX3_loop 41 = .ok (.putfield 54, 3) := by decide +kernel
theorem dX3_loop_44 : decode cX3_loop 44 = .ok (.aload_n 0, 1) := by decide +kernel
theorem dX3_loop_45 : decode cX3_loop 45 = .ok (.iload_n 1, 1) := by decide +kernel
theorem dX3_loop_46 : decode cX3_loop 46 = .ok (.invokevirtual 341, 3) := by decide +kernel
theorem dX3_loop_49 : decode cX3_loop 49 = .ok (.aload_n 0, 1) := by decide +kernel
theorem dX3_loop_50 : decode cX3_loop 50 = .ok (.getfield 19, 3) := by decide +kernel
theorem dX3_loop_53 : decode cX3_loop 53 = .ok (.bipush 30, 2) := by decide +kernel
theorem dX3_loop_55 : decode cX3_loop 55 = .ok (.iload_n 2, 1) := by decide +kernel
theorem dX3_loop_56 : decode cX3_loop 56 = .ok (.iconst 0, 1) := by decide +kernel
theorem dX3_loop_57 : decode cX3_loop 57 = .ok (.iload_n 1, 1) := by decide +kernel
theorem dX3_loop_58 : decode cX3_loop 58 = .ok (.invokevirtual 239, 3) := by decide +kernel
theorem dX3_loop_61 : decode cX3_loop 61 = .ok (.pop, 1) := by decide +kernel
theorem dX3_loop_62 : decode cX3_loop 62 = .ok (.aload_n 0, 1) := by decide +kernel
theorem dX3_loop_63 : decode cX3_loop 63 = .ok (.getfield 19, 3) := by decide +kernel
theorem dX3_loop_66 : decode cX3_loop 66 = .ok (.aload_n 0, 1) := by decide +kernel
theorem dX3_loop_67 : decode cX3_loop 67 = .ok (.getfield 54, 3) := by decide +kernel
theorem dX3_loop_70 : decode cX3_loop 70 = .ok (.invokevirtual 338, 3) := by decide +kernel
theorem dX3_loop_73 : decode cX3_loop 73 = .ok (.aload_n 0, 1) := by decide +kernel
theorem dX3_loop_74 : decode cX3_loop 74 = .ok (.iload_n 3, 1) := by decide +kernel
theorem dX3_loop_75 : decode cX3_loop 75 = .ok (.putfield 54, 3) := by decide +kernel
theorem dX3_loop_78 : decode cX3_loop 78 = .ok (.return_, 1) := by decide +kernel
theorem dX3_round_0 : decode cX3_round 0 = .ok (.aload_n 0, 1) := by decide +kernel
theorem dX3_round_1 : decode cX3_round 1 = .ok (.getfield 57, 3) := by decide +kernel
theorem dX3_round_4 : decode cX3_round 4 = .ok (.istore_n 2, 1) := by decide +kernel
theorem dX3_round_5 : decode cX3_round 5 = .ok (.aload_n 0, 1) := by decide +kernel
theorem dX3_round_6 : decode cX3_round 6 = .ok (.iconst (-1), 1) := by decide +kernel
theorem dX3_round_7 : decode cX3_round 7 = .ok (.putfield 57, 3) := by decide +kernel
theorem dX3_round_10 : decode cX3_round 10 = .ok (.aload_n 0, 1) := by decide +kernel
theorem dX3_round_11 : decode cX3_round 11 = .ok (.dup, 1) := by decide +kernel
theorem dX3_round_12 : decode cX3_round 12 = .ok (.getfield 51, 3) := by decide +kernel
theorem dX3_round_15 : decode cX3_round 15 = .ok (.iconst 1, 1) := by decide +kernel
theorem dX3_round_16 : decode cX3_round 16 = .ok (.iadd, 1) := by decide +kernel
theorem dX3_round_17 : decode cX3_round 17 = .ok (.putfield 51, 3) := by decide +kernel
theorem dX3_round_20 : decode cX3_round 20 = .ok (.aload_n 0, 1) := by decide +kernel
theorem dX3_round_21 : decode cX3_round 21 = .ok (.getfield 19, 3) := by decide +kernel
theorem dX3_round_24 : decode cX3_round 24 = .ok (.iload_n 1, 1) := by decide +kernel
theorem dX3_round_25 : decode cX3_round 25 = .ok (.invokevirtual 260, 3) := by decide +kernel
theorem dX3_round_28 : decode cX3_round 28 = .ok (.aload_n 0, 1) := by decide +kernel
theorem dX3_round_29 : decode cX3_round 29 = .ok (.invokevirtual 335, 3) := by decide +kernel
theorem dX3_round_32 : decode cX3_round 32 = .ok (.aload_n 0, 1) := by decide +kernel
theorem dX3_round_33 : decode cX3_round 33 = .ok (.dup, 1) := by decide +kernel
theorem dX3_round_34 : decode cX3_round 34 = .ok (.getfield 51, 3) := by decide +kernel
theorem dX3_round_37 : decode cX3_round 37 = .ok (.iconst 1, 1) := by decide +kernel
theorem dX3_round_38 : decode cX3_round 38 = .ok (.isub, 1) := by decide +kernel
theorem dX3_round_39 : decode cX3_round 39 = .ok (.putfield 51, 3) := by decide +kernel
theorem dX3_round_42 : decode cX3_round 42 = .ok (.aload_n 0, 1) := by decide +kernel
theorem dX3_round_43 : decode cX3_round 43 = .ok (.getfield 19, 3) := by decide +kernel
theorem dX3_round_46 : decode cX3_round 46 = .ok (.aload_n 0, 1) := by decide +kernel
theorem dX3_round_47 : decode cX3_round 47 = .ok (.getfield 57, 3) := by decide +kernel
theorem dX3_round_50 : decode cX3_round 50 = .ok (.invokevirtual 338, 3) := by decide +kernel
theorem dX3_round_53 : decode cX3_round 53 = .ok (.aload_n 0, 1) := by decide +kernel
theorem dX3_round_54 : decode cX3_round 54 = .ok (.iload_n 2, 1) := by decide +kernel
theorem dX3_round_55 : decode cX3_round 55 = .ok (.putfield 57, 3) := by decide +kernel
theorem dX3_round_58 : decode cX3_round 58 = .ok (.return_, 1) := by decide +kernel
theorem dX3_counted_0 : decode cX3_counted 0 = .ok (.aload_n 0, 1) := by decide +kernel
theorem dX3_counted_1 : decode cX3_counted 1 = .ok (.getfield 15, 3) := by decide +kernel
theorem dX3_counted_4 : decode cX3_counted 4 = .ok (.invokevirtual 73, 3) := by decide +kernel
theorem dX3_counted_7 : decode cX3_counted 7 = .ok (.aload_n 0, 1) := by decide +kernel
theorem dX3_counted_8 : decode cX3_counted 8 = .ok (.getfield 15, 3) := by decide +kernel
theorem dX3_counted_11 : decode cX3_counted 11 = .ok (.invokevirtual 96, 3) := by decide +kernel
theorem dX3_counted_14 : decode cX3_counted 14 = .ok (.istore_n 2, 1) := by decide +kernel
theorem dX3_counted_15 : decode cX3_counted 15 = .ok (.aload_n 0, 1) := by decide +kernel
theorem dX3_counted_16 : decode cX3_counted 16 = .ok (.getfield 28, 3) := by decide +kernel
theorem dX3_counted_19 : decode cX3_counted 19 = .ok (.invokevirtual 206, 3) := by decide +kernel
theorem dX3_counted_22 : decode cX3_counted 22 = .ok (.astore_n 3, 1) := by decide +kernel
theorem dX3_counted_23 : decode cX3_counted 23 = .ok (.aload_n 3, 1) := by decide +kernel
theorem dX3_counted_24 : decode cX3_counted 24 = .ok (.getfield 121, 3) := by decide +kernel
theorem dX3_counted_27 : decode cX3_counted 27 = .ok (.bipush 8, 2) := by decide +kernel
theorem dX3_counted_29 : decode cX3_counted 29 = .ok (.if_icmp .ne 12, 3) := by decide +kernel
theorem dX3_counted_32 : decode cX3_counted 32 = .ok (.aload_n 0, 1) := by decide +kernel
theorem dX3_counted_33 : decode cX3_counted 33 = .ok (.getfield 15, 3) := by decide +kernel
theorem dX3_counted_36 : decode cX3_counted 36 = .ok (.iconst 3, 1) := by decide +kernel
theorem dX3_counted_37 : decode cX3_counted 37 = .ok (.iload_n 2, 1) := by decide +kernel
theorem dX3_counted_38 : decode cX3_counted 38 = .ok (.invokevirtual 126, 3) := by decide +kernel
theorem dX3_counted_41 : decode cX3_counted 41 = .ok (.aload_n 3, 1) := by decide +kernel
theorem dX3_counted_42 : decode cX3_counted 42 = .ok (.invokevirtual 344, 3) := by decide +kernel
theorem dX3_counted_45 : decode cX3_counted 45 = .ok (.ifCond .eq 17, 3) := by decide +kernel
theorem dX3_counted_48 : decode cX3_counted 48 = .ok (.aload_n 3, 1) := by decide +kernel
theorem dX3_counted_49 : decode cX3_counted 49 = .ok (.getfield 152, 3) := by decide +kernel
theorem dX3_counted_52 : decode cX3_counted 52 = .ok (.ifCond .ne 10, 3) := by decide +kernel
theorem dX3_counted_55 : decode cX3_counted 55 = .ok (.aload_n 3, 1) := by decide +kernel
theorem dX3_counted_56 : decode cX3_counted 56 = .ok (.invokevirtual 347, 3) := by decide +kernel
theorem dX3_counted_59 : decode cX3_counted 59 = .ok (.ifCond .eq 12, 3) := by decide +kernel
theorem dX3_counted_62 : decode cX3_counted 62 = .ok (.aload_n 0, 1) := by decide +kernel
theorem dX3_counted_63 : decode cX3_counted 63 = .ok (.getfield 15, 3) := by decide +kernel
theorem dX3_counted_66 : decode cX3_counted 66 = .ok (.iconst 4, 1) := by decide +kernel
theorem dX3_counted_67 : decode cX3_counted 67 = .ok (.iload_n 2, 1) := by decide +kernel
theorem dX3_counted_68 : decode cX3_counted 68 = .ok (.invokevirtual 126, 3) := by decide +kernel
theorem dX3_counted_71 : decode cX3_counted 71 = .ok (.aload_n 0, 1) := by decide +kernel
theorem dX3_counted_72 : decode cX3_counted 72 = .ok (.getfield 15, 3) := by decide +kernel
theorem dX3_counted_75 : decode cX3_counted 75 = .ok (.invokevirtual 73, 3) := by decide +kernel
theorem dX3_counted_78 : decode cX3_counted 78 = .ok (.aload_n 0, 1) := by decide +kernel
theorem dX3_counted_79 : decode cX3_counted 79 = .ok (.aload_n 3, 1) := by decide +kernel
theorem dX3_counted_80 : decode cX3_counted 80 = .ok (.invokevirtual 310, 3) := by decide +kernel
theorem dX3_counted_83 : decode cX3_counted 83 = .ok (.aload_n 0, 1) := by decide +kernel
theorem dX3_counted_84 : decode cX3_counted 84 = .ok (.getfield 28, 3) := by decide +kernel
theorem dX3_counted_87 : decode cX3_counted 87 = .ok (.aload_n 3, 1) := by decide +kernel
theorem dX3_counted_88 : decode cX3_counted 88 = .ok (.iload_n 2, 1) := by decide +kernel
theorem dX3_counted_89 : decode cX3_counted 89 = .ok (.invokevirtual 332, 3) := by decide +kernel
theorem dX3_counted_92 : decode cX3_counted 92 = .ok (.aload_n 0, 1) := by decide +kernel
theorem dX3_counted_93 : decode cX3_counted 93 = .ok (.getfield 15, 3) := by decide +kernel
theorem dX3_counted_96 : decode cX3_counted 96 = .ok (.invokevirtual 73, 3) := by decide +kernel
theorem dX3_counted_99 : decode cX3_counted 99 = .ok (.aload_n 0, 1) := by decide +kernel
theorem dX3_counted_100 : decode cX3_counted 100 = .ok (.getfield 28, 3) := by decide +kernel
theorem dX3_counted_103 : decode cX3_counted 103 = .ok (.invokevirtual 281, 3) := by decide +kernel
theorem dX3_counted_106 : decode cX3_counted 106 = .ok (.pop, 1) := by decide +kernel
theorem dX3_counted_107 : decode cX3_counted 107 = .ok (.aload_n 0, 1) := by decide +kernel
theorem dX3_counted_108 : decode cX3_counted 108 = .ok (.getfield 19, 3) := by decide +kernel
theorem dX3_counted_111 : decode cX3_counted 111 = .ok (.getfield 227, 3) := by decide +kernel
theorem dX3_counted_114 : decode cX3_counted 114 = .ok (.istore 4, 2) := by decide +kernel
theorem dX3_counted_116 : decode cX3_counted 116 = .ok (.aload_n 0, 1) := by decide +kernel
theorem dX3_counted_117 : decode cX3_counted 117 = .ok (.getfield 28, 3) := by decide +kernel
theorem dX3_counted_120 : decode cX3_counted 120 = .ok (.aload_n 3, 1) := by decide +kernel
theorem dX3_counted_121 : decode cX3_counted 121 = .ok (.iconst 0, 1) := by decide +kernel
theorem dX3_counted_122 : decode cX3_counted 122 = .ok (.iload_n 2, 1) := by decide +kernel
theorem dX3_counted_123 : decode cX3_counted 123 = .ok (.invokevirtual 319, 3) := by decide +kernel
theorem dX3_counted_126 : decode cX3_counted 126 = .ok (.aload_n 0, 1) := by decide +kernel
theorem dX3_counted_127 : decode cX3_counted 127 = .ok (.getfield 54, 3) := by decide +kernel
theorem dX3_counted_130 : decode cX3_counted 130 = .ok (.istore 5, 2) := by decide +kernel
theorem dX3_counted_132 : decode cX3_counted 132 = .ok (.aload_n 0, 1) := by decide +kernel
theorem dX3_counted_133 : decode cX3_counted 133 = .ok (.aload_n 0, 1) := by decide +kernel
theorem dX3_counted_134 : decode cX3_counted 134 = .ok (.getfield 19, 3) := by decide +kernel
theorem dX3_counted_137 : decode cX3_counted 137 = .ok (.bipush 34, 2) := by decide +kernel
theorem dX3_counted_139 : decode cX3_counted 139 = .ok (.iconst (-1), 1) := by decide +kernel
theorem dX3_counted_140 : decode cX3_counted 140 = .ok (.iconst 0, 1) := by decide +kernel
theorem dX3_counted_141 : decode cX3_counted 141 = .ok (.iload_n 1, 1) := by decide +kernel
theorem dX3_counted_142 : decode cX3_counted 142 = .ok (.invokevirtual 239, 3) := by decide +kernel
theorem dX3_counted_145 : decode cX3_counted 145 = .ok (.putfield 54, 3) := by decide +kernel
theorem dX3_counted_148 : decode cX3_counted 148 = .ok (.aload_n 0, 1) := by decide +kernel
theorem dX3_counted_149 : decode cX3_counted 149 = .ok (.iload_n 1, 1) := by decide +kernel
theorem dX3_counted_150 : decode cX3_counted 150 = .ok (.invokevirtual 341, 3) := by decide +kernel
theorem dX3_counted_153 : decode cX3_counted 153 = .ok (.aload_n 0, 1) := by decide +kernel
theorem dX3_counted_154 : decode cX3_counted 154 = .ok (.getfield 28, 3) := by decide +kernel
theorem dX3_counted_157 : decode cX3_counted 157 = .ok (.aload_n 3, 1) := by decide +kernel
theorem dX3_counted_158 : decode cX3_counted 158 = .ok (.iconst 0, 1) := by decide +kernel
theorem dX3_counted_159 : decode cX3_counted 159 = .ok (.iload_n 2, 1) := by decide +kernel
theorem dX3_counted_160 : decode cX3_counted 160 = .ok (.invokevirtual 319, 3) := by decide +kernel
theorem dX3_counted_163 : decode cX3_counted 163 = .ok (.aload_n 0, 1) := by decide +kernel
theorem dX3_counted_164 : decode cX3_counted 164 = .ok (.aload_n 0, 1) := by decide +kernel
theorem dX3_counted_165 : decode cX3_counted 165 = .ok (.getfield 19, 3) := by decide +kernel
theorem dX3_counted_168 : decode cX3_counted 168 = .ok (.bipush 35, 2) := by decide +kernel
theorem dX3_counted_170 : decode cX3_counted 170 = .ok (.aload_n 0, 1) := by decide +kernel
theorem dX3_counted_171 : decode cX3_counted 171 = .ok (.getfield 54, 3) := by decide +kernel
theorem dX3_counted_174 : decode cX3_counted 174 = .ok (.iconst 0, 1) := by decide +kernel
theorem dX3_counted_175 : decode cX3_counted 175 = .ok (.iload_n 1, 1) := by decide +kernel
theorem dX3_counted_176 : decode cX3_counted 176 = .ok (.invokevirtual 239, 3) := by decide +kernel
theorem dX3_counted_179 : decode cX3_counted 179 = .ok (.putfield 54, 3) := by decide +kernel
theorem dX3_counted_182 : decode cX3_counted 182 = .ok (.aload_n 0, 1) := by decide +kernel
theorem dX3_counted_183 : decode cX3_counted 183 = .ok (.getfield 28, 3) := by decide +kernel
theorem dX3_counted_186 : decode cX3_counted 186 = .ok (.aload_n 3, 1) := by decide +kernel
theorem dX3_counted_187 : decode cX3_counted 187 = .ok (.iconst 0, 1) := by decide +kernel
theorem dX3_counted_188 : decode cX3_counted 188 = .ok (.iload_n 2, 1) := by decide +kernel
theorem dX3_counted_189 : decode cX3_counted 189 = .ok (.invokevirtual 319, 3) := by decide +kernel
theorem dX3_counted_192 : decode cX3_counted 192 = .ok (.aload_n 0, 1) := by decide +kernel
theorem dX3_counted_193 : decode cX3_counted 193 = .ok (.getfield 19, 3) := by decide +kernel
theorem dX3_counted_196 : decode cX3_counted 196 = .ok (.lconst 1, 1) := by decide +kernel
theorem dX3_counted_197 : decode cX3_counted 197 = .ok (.iconst 0, 1) := by decide +kernel
theorem dX3_counted_198 : decode cX3_counted 198 = .ok (.iload_n 2, 1) := by decide +kernel
theorem dX3_counted_199 : decode cX3_counted 199 = .ok (.invokevirtual 236, 3) := by decide +kernel
theorem dX3_counted_202 : decode cX3_counted 202 = .ok (.aload_n 0, 1) := by decide +kernel
theorem dX3_counted_203 : decode cX3_counted 203 = .ok (.getfield 28, 3) := by decide +kernel
theorem dX3_counted_206 : decode cX3_counted 206 = .ok (.iconst 0, 1) := by decide +kernel
theorem dX3_counted_207 : decode cX3_counted 207 = .ok (.aload_n 3, 1) := by decide +kernel
theorem dX3_counted_208 : decode cX3_counted 208 = .ok (.getfield 146, 3) := by decide +kernel
theorem dX3_counted_211 : decode cX3_counted 211 = .ok (.iconst 3, 1) := by decide +kernel
theorem dX3_counted_212 : decode cX3_counted 212 = .ok (.iload_n 2, 1) := by decide +kernel
theorem dX3_counted_213 : decode cX3_counted 213 = .ok (.invokevirtual 326, 3) := by decide +kernel
theorem dX3_counted_216 : decode cX3_counted 216 = .ok (.pop, 1) := by decide +kernel
theorem dX3_counted_217 : decode cX3_counted 217 = .ok (.aload_n 0, 1) := by decide +kernel
theorem dX3_counted_218 : decode cX3_counted 218 = .ok (.getfield 28, 3) := by decide +kernel
theorem dX3_counted_221 : decode cX3_counted 221 = .ok (.aload_n 3, 1) := by decide +kernel
theorem dX3_counted_222 : decode cX3_counted 222 = .ok (.iload_n 2, 1) := by decide +kernel
theorem dX3_counted_223 : decode cX3_counted 223 = .ok (.invokevirtual 332, 3) := by decide +kernel
theorem dX3_counted_226 : decode cX3_counted 226 = .ok (.aload_n 0, 1) := by decide +kernel
theorem dX3_counted_227 : decode cX3_counted 227 = .ok (.getfield 19, 3) := by decide +kernel
theorem dX3_counted_230 : decode cX3_counted 230 = .ok (.bipush 30, 2) := by decide +kernel
theorem dX3_counted_232 : decode cX3_counted 232 = .ok (.iload 4, 2) := by decide +kernel
theorem dX3_counted_234 : decode cX3_counted 234 = .ok (.iconst 0, 1) := by decide +kernel
theorem dX3_counted_235 : decode cX3_counted 235 = .ok (.iload_n 1, 1) := by decide +kernel
theorem dX3_counted_236 : decode cX3_counted 236 = .ok (.invokevirtual 239, 3) := by decide +kernel
theorem dX3_counted_239 : decode cX3_counted 239 = .ok (.pop, 1) := by decide +kernel
theorem dX3_counted_240 : decode cX3_counted 240 = .ok (.aload_n 0, 1) := by decide +kernel
theorem dX3_counted_241 : decode cX3_counted 241 = .ok (.getfield 19, 3) := by decide +kernel
theorem dX3_counted_244 : decode cX3_counted 244 = .ok (.aload_n 0, 1) := by decide +kernel
theorem dX3_counted_245 : decode cX3_counted 245 = .ok (.getfield 54, 3) := by decide +kernel
theorem dX3_counted_248 : decode cX3_counted 248 = .ok (.invokevirtual 338, 3) := by decide +kernel
theorem dX3_counted_251 : decode cX3_counted 251 = .ok (.aload_n 0, 1) := by decide +kernel
theorem dX3_counted_252 : decode cX3_counted 252 = .ok (.iload 5, 2) := by decide +kernel
theorem dX3_counted_254 : decode cX3_counted 254 = .ok (.putfield 54, 3) := by decide +kernel
theorem dX3_counted_257 : decode cX3_counted 257 = .ok (.aload_n 0, 1) := by decide +kernel
theorem dX3_counted_258 : decode cX3_counted 258 = .ok (.getfield 19, 3) := by decide +kernel
theorem dX3_counted_261 : decode cX3_counted 261 = .ok (.bipush 16, 2) := by decide +kernel
theorem dX3_counted_263 : decode cX3_counted 263 = .ok (.iconst 0, 1) := by decide +kernel
theorem dX3_counted_264 : decode cX3_counted 264 = .ok (.iconst 0, 1) := by decide +kernel
theorem dX3_counted_265 : decode cX3_counted 265 = .ok (.iload_n 1, 1) := by decide +kernel
theorem dX3_counted_266 : decode cX3_counted 266 = .ok (.invokevirtual 239, 3) := by decide +kernel
theorem dX3_counted_269 : decode cX3_counted 269 = .ok (.pop, 1) := by decide +kernel
theorem dX3_counted_270 : decode cX3_counted 270 = .ok (.return_, 1) := by decide +kernel
theorem dX3_cases_0 : decode cX3_cases 0 = .ok (.aload_n 0, 1) := by decide +kernel
theorem dX3_cases_1 : decode cX3_cases 1 = .ok (.getfield 15, 3) := by decide +kernel
theorem dX3_cases_4 : decode cX3_cases 4 = .ok (.invokevirtual 73, 3) := by decide +kernel
theorem dX3_cases_7 : decode cX3_cases 7 = .ok (.aload_n 0, 1) := by decide +kernel
theorem dX3_cases_8 : decode cX3_cases 8 = .ok (.getfield 28, 3) := by decide +kernel
theorem dX3_cases_11 : decode cX3_cases 11 = .ok (.invokevirtual 281, 3) := by decide +kernel
theorem dX3_cases_14 : decode cX3_cases 14 = .ok (.pop, 1) := by decide +kernel
theorem dX3_cases_15 : decode cX3_cases 15 = .ok (.aload_n 0, 1) := by decide +kernel
theorem dX3_cases_16 : decode cX3_cases 16 = .ok (.getfield 15, 3) := by decide +kernel
theorem dX3_cases_19 : decode cX3_cases 19 = .ok (.invokevirtual 73, 3) := by decide +kernel
theorem dX3_cases_22 : decode cX3_cases 22 = .ok (.iconst (-1), 1) := by decide +kernel
theorem dX3_cases_23 : decode cX3_cases 23 = .ok (.istore_n 2, 1) := by decide +kernel
theorem dX3_cases_24 : decode cX3_cases 24 = .ok (.iconst 0, 1) := by decide +kernel
theorem dX3_cases_25 : decode cX3_cases 25 = .ok (.istore_n 3, 1) := by decide +kernel
theorem dX3_cases_26 : decode cX3_cases 26 = .ok (.iload_n 3, 1) := by decide +kernel
theorem dX3_cases_27 : decode cX3_cases 27 = .ok (.sipush 1500, 3) := by decide +kernel
theorem dX3_cases_30 : decode cX3_cases 30 = .ok (.if_icmp .ge 110, 3) := by decide +kernel
theorem dX3_cases_33 : decode cX3_cases 33 = .ok (.aload_n 0, 1) := by decide +kernel
theorem dX3_cases_34 : decode cX3_cases 34 = .ok (.getfield 15, 3) := by decide +kernel
theorem dX3_cases_37 : decode cX3_cases 37 = .ok (.bipush 23, 2) := by decide +kernel
theorem dX3_cases_39 : decode cX3_cases 39 = .ok (.invokevirtual 65, 3) := by decide +kernel
theorem dX3_cases_42 : decode cX3_cases 42 = .ok (.ifCond .eq 98, 3) := by decide +kernel
theorem dX3_cases_45 : decode cX3_cases 45 = .ok (.aload_n 0, 1) := by decide +kernel
theorem dX3_cases_46 : decode cX3_cases 46 = .ok (.getfield 19, 3) := by decide +kernel
theorem dX3_cases_49 : decode cX3_cases 49 = .ok (.getfield 350, 3) := by decide +kernel
theorem dX3_cases_52 : decode cX3_cases 52 = .ok (.istore 4, 2) := by decide +kernel
theorem dX3_cases_54 : decode cX3_cases 54 = .ok (.aload_n 0, 1) := by decide +kernel
theorem dX3_cases_55 : decode cX3_cases 55 = .ok (.invokevirtual 353, 3) := by decide +kernel
theorem dX3_cases_58 : decode cX3_cases 58 = .ok (.aload_n 0, 1) := by decide +kernel
theorem dX3_cases_59 : decode cX3_cases 59 = .ok (.getfield 19, 3) := by decide +kernel
theorem dX3_cases_62 : decode cX3_cases 62 = .ok (.bipush 36, 2) := by decide +kernel
theorem dX3_cases_64 : decode cX3_cases 64 = .ok (.iload 4, 2) := by decide +kernel
theorem dX3_cases_66 : decode cX3_cases 66 = .ok (.aload_n 0, 1) := by decide +kernel
theorem dX3_cases_67 : decode cX3_cases 67 = .ok (.getfield 19, 3) := by decide +kernel
theorem dX3_cases_70 : decode cX3_cases 70 = .ok (.getfield 350, 3) := by decide +kernel
theorem dX3_cases_73 : decode cX3_cases 73 = .ok (.iload 4, 2) := by decide +kernel
theorem dX3_cases_75 : decode cX3_cases 75 = .ok (.isub, 1) := by decide +kernel
theorem dX3_cases_76 : decode cX3_cases 76 = .ok (.iload_n 1, 1) := by decide +kernel
theorem dX3_cases_77 : decode cX3_cases 77 = .ok (.invokevirtual 239, 3) := by decide +kernel
theorem dX3_cases_80 : decode cX3_cases 80 = .ok (.pop, 1) := by decide +kernel
theorem dX3_cases_81 : decode cX3_cases 81 = .ok (.aload_n 0, 1) := by decide +kernel
theorem dX3_cases_82 : decode cX3_cases 82 = .ok (.getfield 19, 3) := by decide +kernel
theorem dX3_cases_85 : decode cX3_cases 85 = .ok (.bipush 30, 2) := by decide +kernel
theorem dX3_cases_87 : decode cX3_cases 87 = .ok (.iconst (-1), 1) := by decide +kernel
theorem dX3_cases_88 : decode cX3_cases 88 = .ok (.iconst 0, 1) := by decide +kernel
theorem dX3_cases_89 : decode cX3_cases 89 = .ok (.iload_n 1, 1) := by decide +kernel
theorem dX3_cases_90 : decode cX3_cases 90 = .ok (.invokevirtual 239, 3) := by decide +kernel
theorem dX3_cases_93 : decode cX3_cases 93 = .ok (.istore 5, 2) := by decide +kernel
theorem dX3_cases_95 : decode cX3_cases 95 = .ok (.aload_n 0, 1) := by decide +kernel
theorem dX3_cases_96 : decode cX3_cases 96 = .ok (.getfield 19, 3) := by decide +kernel
theorem dX3_cases_99 : decode cX3_cases 99 = .ok (.bipush 16, 2) := by decide +kernel
theorem dX3_cases_101 : decode cX3_cases 101 = .ok (.iconst 0, 1) := by decide +kernel
theorem dX3_cases_102 : decode cX3_cases 102 = .ok (.iconst 0, 1) := by decide +kernel
theorem dX3_cases_103 : decode cX3_cases 103 = .ok (.iload_n 1, 1) := by decide +kernel
theorem dX3_cases_104 : decode cX3_cases 104 = .ok (.invokevirtual 239, 3) := by decide +kernel
theorem dX3_cases_107 : decode cX3_cases 107 = .ok (.pop, 1) := by decide +kernel
theorem dX3_cases_108 : decode cX3_cases 108 = .ok (.aload_n 0, 1) := by decide +kernel
theorem dX3_cases_109 : decode cX3_cases 109 = .ok (.invokevirtual 335, 3) := by decide +kernel
theorem dX3_cases_112 : decode cX3_cases 112 = .ok (.aload_n 0, 1) := by decide +kernel
theorem dX3_cases_113 : decode cX3_cases 113 = .ok (.getfield 19, 3) := by decide +kernel
theorem dX3_cases_116 : decode cX3_cases 116 = .ok (.bipush 30, 2) := by decide +kernel
theorem dX3_cases_118 : decode cX3_cases 118 = .ok (.iload_n 2, 1) := by decide +kernel
theorem dX3_cases_119 : decode cX3_cases 119 = .ok (.iconst 0, 1) := by decide +kernel
theorem dX3_cases_120 : decode cX3_cases 120 = .ok (.iload_n 1, 1) := by decide +kernel
theorem dX3_cases_121 : decode cX3_cases 121 = .ok (.invokevirtual 239, 3) := by decide +kernel
theorem dX3_cases_124 : decode cX3_cases 124 = .ok (.istore_n 2, 1) := by decide +kernel
theorem dX3_cases_125 : decode cX3_cases 125 = .ok (.aload_n 0, 1) := by decide +kernel
theorem dX3_cases_126 : decode cX3_cases 126 = .ok (.getfield 19, 3) := by decide +kernel
theorem dX3_cases_129 : decode cX3_cases 129 = .ok (.iload 5, 2) := by decide +kernel
theorem dX3_cases_131 : decode cX3_cases 131 = .ok (.invokevirtual 338, 3) := by decide +kernel
theorem dX3_cases_134 : decode cX3_cases 134 = .ok (.iinc 3 1, 3) := by decide +kernel
theorem dX3_cases_137 : decode cX3_cases 137 = .ok (.goto (-111), 3) := by decide +kernel
theorem dX3_cases_140 : decode cX3_cases 140 = .ok (.aload_n 0, 1) := by decide +kernel
theorem dX3_cases_141 : decode cX3_cases 141 = .ok (.getfield 19, 3) := by decide +kernel
theorem dX3_cases_144 : decode cX3_cases 144 = .ok (.bipush 16, 2) := by decide +kernel
theorem dX3_cases_146 : decode cX3_cases 146 = .ok (.iconst 0, 1) := by decide +kernel
theorem dX3_cases_147 : decode cX3_cases 147 = .ok (.iconst 0, 1) := by decide +kernel
theorem dX3_cases_148 : decode cX3_cases 148 = .ok (.iload_n 1, 1) := by decide +kernel
theorem dX3_cases_149 : decode cX3_cases 149 = .ok (.invokevirtual 239, 3) := by decide +kernel
theorem dX3_cases_152 : decode cX3_cases 152 = .ok (.pop, 1) := by decide +kernel
theorem dX3_cases_153 : decode cX3_cases 153 = .ok (.aload_n 0, 1) := by decide +kernel
theorem dX3_cases_154 : decode cX3_cases 154 = .ok (.getfield 15, 3) := by decide +kernel
theorem dX3_cases_157 : decode cX3_cases 157 = .ok (.bipush 24, 2) := by decide +kernel
theorem dX3_cases_159 : decode cX3_cases 159 = .ok (.invokevirtual 65, 3) := by decide +kernel
theorem dX3_cases_162 : decode cX3_cases 162 = .ok (.ifCond .eq 14, 3) := by decide +kernel
theorem dX3_cases_165 : decode cX3_cases 165 = .ok (.aload_n 0, 1) := by decide +kernel
theorem dX3_cases_166 : decode cX3_cases 166 = .ok (.getfield 15, 3) := by decide +kernel
theorem dX3_cases_169 : decode cX3_cases 169 = .ok (.invokevirtual 73, 3) := by decide +kernel
theorem dX3_cases_172 : decode cX3_cases 172 = .ok (.aload_n 0, 1) := by decide +kernel
theorem dX3_cases_173 : decode cX3_cases 173 = .ok (.invokevirtual 335, 3) := by decide +kernel
theorem dX3_cases_176 : decode cX3_cases 176 = .ok (.aload_n 0, 1) := by decide +kernel
theorem dX3_cases_177 : decode cX3_cases 177 = .ok (.getfield 15, 3) := by decide +kernel
theorem dX3_cases_180 : decode cX3_cases 180 = .ok (.invokevirtual 73, 3) := by decide +kernel
theorem dX3_cases_183 : decode cX3_cases 183 = .ok (.aload_n 0, 1) := by decide +kernel
theorem dX3_cases_184 : decode cX3_cases 184 = .ok (.getfield 19, 3) := by decide +kernel
theorem dX3_cases_187 : decode cX3_cases 187 = .ok (.iload_n 2, 1) := by decide +kernel
theorem dX3_cases_188 : decode cX3_cases 188 = .ok (.invokevirtual 338, 3) := by decide +kernel
theorem dX3_cases_191 : decode cX3_cases 191 = .ok (.return_, 1) := by decide +kernel
theorem gs_4_2 : Cond.selects "SoftController$Maker" ⟨"SoftController$Maker", "statements", "()I"⟩ ⟨"SoftController$Maker", "statements", "()I"⟩ ∈ GW := gw_s (List.mem_map.mpr ⟨_, pin_4 _ (List.mem_of_getElem? (i := 2) rfl), rfl⟩) rfl
theorem gs_4_3 : Cond.selects "SoftController$Maker" ⟨"SoftController$Maker", "statement", "()V"⟩ ⟨"SoftController$Maker", "statement", "()V"⟩ ∈ GW := gw_s (List.mem_map.mpr ⟨_, pin_4 _ (List.mem_of_getElem? (i := 3) rfl), rfl⟩) rfl
theorem gs_4_4 : Cond.selects "SoftController$Maker" ⟨"SoftController$Maker", "choice", "(I)V"⟩ ⟨"SoftController$Maker", "choice", "(I)V"⟩ ∈ GW := gw_s (List.mem_map.mpr ⟨_, pin_4 _ (List.mem_of_getElem? (i := 4) rfl), rfl⟩) rfl
theorem gs_5_2 : Cond.selects "SoftController$Maker" ⟨"SoftController$Maker", "body", "()V"⟩ ⟨"SoftController$Maker", "body", "()V"⟩ ∈ GW := gw_s (List.mem_map.mpr ⟨_, pin_5 _ (List.mem_of_getElem? (i := 2) rfl), rfl⟩) rfl
theorem gs_5_3 : Cond.selects "SoftController$Maker" ⟨"SoftController$Maker", "loop", "(I)V"⟩ ⟨"SoftController$Maker", "loop", "(I)V"⟩ ∈ GW := gw_s (List.mem_map.mpr ⟨_, pin_5 _ (List.mem_of_getElem? (i := 3) rfl), rfl⟩) rfl
theorem gs_5_4 : Cond.selects "SoftController$Maker" ⟨"SoftController$Maker", "round", "(I)V"⟩ ⟨"SoftController$Maker", "round", "(I)V"⟩ ∈ GW := gw_s (List.mem_map.mpr ⟨_, pin_5 _ (List.mem_of_getElem? (i := 4) rfl), rfl⟩) rfl
theorem gs_5_5 : Cond.selects "SoftController$Maker" ⟨"SoftController$Maker", "counted", "(I)V"⟩ ⟨"SoftController$Maker", "counted", "(I)V"⟩ ∈ GW := gw_s (List.mem_map.mpr ⟨_, pin_5 _ (List.mem_of_getElem? (i := 5) rfl), rfl⟩) rfl
theorem gs_5_7 : Cond.selects "SoftController$Maker" ⟨"SoftController$Maker", "cases", "(I)V"⟩ ⟨"SoftController$Maker", "cases", "(I)V"⟩ ∈ GW := gw_s (List.mem_map.mpr ⟨_, pin_5 _ (List.mem_of_getElem? (i := 7) rfl), rfl⟩) rfl
theorem gw_1102 : (Jvm.Cond.methodLink "SoftController$Maker" (233 : Nat) ({ cls := "SoftController$Maker", name := "statements", desc := "()I" } : Jvm.MethodName)) ∈ GW := gw_t (tin_5 _ (List.mem_of_getElem? (i := 142) rfl)) rfl
theorem gw_1104 : (Jvm.Cond.instanceMethod ({ cls := "SoftController$Maker", name := "statements", desc := "()I" } : Jvm.MethodName)) ∈ GW := gw_t (tin_5 _ (List.mem_of_getElem? (i := 144) rfl)) rfl
theorem gw_1105 : (Jvm.Cond.code ({ cls := "SoftController$Maker", name := "statements", desc := "()I" } : Jvm.MethodName) prog_5_method_16_code (2 : Nat) (Option.some Jvm.ClassFile.FieldType.int)) ∈ GW := gw_t (tin_5 _ (List.mem_of_getElem? (i := 145) rfl)) rfl
theorem gw_1106 : (Jvm.Cond.methodLink "SoftController$Maker" (257 : Nat) ({ cls := "SoftController$Maker", name := "statement", desc := "()V" } : Jvm.MethodName)) ∈ GW := gw_t (tin_5 _ (List.mem_of_getElem? (i := 146) rfl)) rfl
theorem gw_1108 : (Jvm.Cond.instanceMethod ({ cls := "SoftController$Maker", name := "statement", desc := "()V" } : Jvm.MethodName)) ∈ GW := gw_t (tin_5 _ (List.mem_of_getElem? (i := 148) rfl)) rfl
theorem gw_1109 : (Jvm.Cond.code ({ cls := "SoftController$Maker", name := "statement", desc := "()V" } : Jvm.MethodName) prog_5_method_17_code (2 : Nat) (Option.none : Option Jvm.ClassFile.FieldType)) ∈ GW := gw_t (tin_5 _ (List.mem_of_getElem? (i := 149) rfl)) rfl
theorem gw_1118 : (Jvm.Cond.methodLink "SoftController$Maker" (263 : Nat) ({ cls := "SoftController$Maker", name := "choice", desc := "(I)V" } : Jvm.MethodName)) ∈ GW := gw_t (tin_5 _ (List.mem_of_getElem? (i := 158) rfl)) rfl
theorem gw_1120 : (Jvm.Cond.instanceMethod ({ cls := "SoftController$Maker", name := "choice", desc := "(I)V" } : Jvm.MethodName)) ∈ GW := gw_t (tin_5 _ (List.mem_of_getElem? (i := 160) rfl)) rfl
theorem gw_1121 : (Jvm.Cond.code ({ cls := "SoftController$Maker", name := "choice", desc := "(I)V" } : Jvm.MethodName) prog_5_method_24_code (6 : Nat) (Option.none : Option Jvm.ClassFile.FieldType)) ∈ GW := gw_t (tin_5 _ (List.mem_of_getElem? (i := 161) rfl)) rfl
theorem gw_1276 : (Jvm.Cond.methodLink "SoftController$Maker" (335 : Nat) ({ cls := "SoftController$Maker", name := "body", desc := "()V" } : Jvm.MethodName)) ∈ GW := gw_t (tin_6 _ (List.mem_of_getElem? (i := 76) rfl)) rfl
theorem gw_1278 : (Jvm.Cond.instanceMethod ({ cls := "SoftController$Maker", name := "body", desc := "()V" } : Jvm.MethodName)) ∈ GW := gw_t (tin_6 _ (List.mem_of_getElem? (i := 78) rfl)) rfl
theorem gw_1279 : (Jvm.Cond.code ({ cls := "SoftController$Maker", name := "body", desc := "()V" } : Jvm.MethodName) prog_5_method_15_code (1 : Nat) (Option.none : Option Jvm.ClassFile.FieldType)) ∈ GW := gw_t (tin_6 _ (List.mem_of_getElem? (i := 79) rfl)) rfl
theorem gw_1281 : (Jvm.Cond.methodLink "SoftController$Maker" (266 : Nat) ({ cls := "SoftController$Maker", name := "loop", desc := "(I)V" } : Jvm.MethodName)) ∈ GW := gw_t (tin_6 _ (List.mem_of_getElem? (i := 81) rfl)) rfl
theorem gw_1283 : (Jvm.Cond.instanceMethod ({ cls := "SoftController$Maker", name := "loop", desc := "(I)V" } : Jvm.MethodName)) ∈ GW := gw_t (tin_6 _ (List.mem_of_getElem? (i := 83) rfl)) rfl
theorem gw_1284 : (Jvm.Cond.code ({ cls := "SoftController$Maker", name := "loop", desc := "(I)V" } : Jvm.MethodName) prog_5_method_25_code (4 : Nat) (Option.none : Option Jvm.ClassFile.FieldType)) ∈ GW := gw_t (tin_6 _ (List.mem_of_getElem? (i := 84) rfl)) rfl
theorem gw_1285 : (Jvm.Cond.methodLink "SoftController$Maker" (341 : Nat) ({ cls := "SoftController$Maker", name := "round", desc := "(I)V" } : Jvm.MethodName)) ∈ GW := gw_t (tin_6 _ (List.mem_of_getElem? (i := 85) rfl)) rfl
theorem gw_1287 : (Jvm.Cond.instanceMethod ({ cls := "SoftController$Maker", name := "round", desc := "(I)V" } : Jvm.MethodName)) ∈ GW := gw_t (tin_6 _ (List.mem_of_getElem? (i := 87) rfl)) rfl
theorem gw_1288 : (Jvm.Cond.code ({ cls := "SoftController$Maker", name := "round", desc := "(I)V" } : Jvm.MethodName) prog_5_method_26_code (3 : Nat) (Option.none : Option Jvm.ClassFile.FieldType)) ∈ GW := gw_t (tin_6 _ (List.mem_of_getElem? (i := 88) rfl)) rfl
theorem gw_1289 : (Jvm.Cond.methodLink "SoftController$Maker" (269 : Nat) ({ cls := "SoftController$Maker", name := "counted", desc := "(I)V" } : Jvm.MethodName)) ∈ GW := gw_t (tin_6 _ (List.mem_of_getElem? (i := 89) rfl)) rfl
theorem gw_1291 : (Jvm.Cond.instanceMethod ({ cls := "SoftController$Maker", name := "counted", desc := "(I)V" } : Jvm.MethodName)) ∈ GW := gw_t (tin_6 _ (List.mem_of_getElem? (i := 91) rfl)) rfl
theorem gw_1292 : (Jvm.Cond.code ({ cls := "SoftController$Maker", name := "counted", desc := "(I)V" } : Jvm.MethodName) prog_5_method_27_code (6 : Nat) (Option.none : Option Jvm.ClassFile.FieldType)) ∈ GW := gw_t (tin_6 _ (List.mem_of_getElem? (i := 92) rfl)) rfl
theorem gw_1308 : (Jvm.Cond.methodLink "SoftController$Maker" (272 : Nat) ({ cls := "SoftController$Maker", name := "cases", desc := "(I)V" } : Jvm.MethodName)) ∈ GW := gw_t (tin_6 _ (List.mem_of_getElem? (i := 108) rfl)) rfl
theorem gw_1310 : (Jvm.Cond.instanceMethod ({ cls := "SoftController$Maker", name := "cases", desc := "(I)V" } : Jvm.MethodName)) ∈ GW := gw_t (tin_6 _ (List.mem_of_getElem? (i := 110) rfl)) rfl
theorem gw_1311 : (Jvm.Cond.code ({ cls := "SoftController$Maker", name := "cases", desc := "(I)V" } : Jvm.MethodName) prog_5_method_28_code (6 : Nat) (Option.none : Option Jvm.ClassFile.FieldType)) ∈ GW := gw_t (tin_6 _ (List.mem_of_getElem? (i := 111) rfl)) rfl
theorem nw_396 : (Jvm.Cond.fieldLinkNest "SoftController$Maker" (227 : Nat) "SoftController$Program" "steps" "I" "SoftController") ∈ NWL := gw_n (tin_2 _ (List.mem_of_getElem? (i := 156) rfl)) rfl
theorem nw_398 : (Jvm.Cond.fieldLinkNest "SoftController$Maker" (350 : Nat) "SoftController$Program" "labels" "I" "SoftController") ∈ NWL := gw_n (tin_2 _ (List.mem_of_getElem? (i := 158) rfl)) rfl
section C39bmstatR
variable {p : Program} {l : Launch} {e : Env} {R : Room} {s : State} {m : MethodId} {args : Array Value} {below : List Frame} {meth : Method} {c : Code} {H : Heap} {locs : List Loc} {Q : State → Prop} {cells slots : Nat}
variable {cc : ByteArray} {pc nL : Nat} {c0 : Cond} {own : String} {ls : Array Slot} {rest : List Value} {D : va_G} {kA : Nat → ClassId} {V Z : Nat → Nat} {A : Nat → Prop}
variable {u u1 : CSt}
theorem cg_X3_227 (X : CC p s m args c cc nL c0 RX3 D kA V A) {q : Nat} (hq : q < 2) (hS : CS D kA Z A s u H locs) (hd : decode cc pc = .ok (.getfield 227, 3)) (kk : W p l e R s m args below meth c H locs cells slots Q (F0 m (pc + 3) ls (.int (pI u q 13) :: rest))) : W p l e R s m args below meth c H locs cells slots Q (F0 m pc ls (.ref (Z (300 + 50 * q)) :: rest)) := by
  obtain ⟨⟨hx, hb, hml, hown, hts⟩, hK, hE, hA⟩ := X
  have hG : ∀ w ∈ GW, w.before args s = true := fun w h => hts w (List.mem_cons_of_mem _ h)
  rcases (show q = 0 ∨ q = 1 by omega) with rfl | rfl
  · exact va_getN (D := D) (ci := 5) (v := .int (pI u 0 13)) (C := RX6) (T := TX6) (N := 16) hx hb hG gwl_X6 hown hK hS.1 40 (cw_lit rfl) rfl 13 (by decide) (va_Nw.use rfl (hE.1 _ nw_396)) (fun _ h9 => h9) rfl hd kk
  · exact va_getN (D := D) (ci := 5) (v := .int (pI u 1 13)) (C := RX6) (T := TX6) (N := 16) hx hb hG gwl_X6 hown hK hS.1 57 (cw_lit rfl) rfl 13 (by decide) (va_Nw.use rfl (hE.1 _ nw_396)) (fun _ h9 => h9) rfl hd kk
theorem cp_X3_51 (X : CC p s m args c cc nL c0 RX3 D kA V A) (hS : CS D kA Z A s u H locs) {v : Int32} (hu : xI u 13 v = u1) (hd : decode cc pc = .ok (.putfield 51, 3)) (kk : ∀ H locs, CS D kA Z A s u1 H locs → W p l e R s m args below meth c H locs cells slots Q (F0 m (pc + 3) ls rest)) : W p l e R s m args below meth c H locs cells slots Q (F0 m pc ls (.int v :: .ref (Z 227) :: rest)) := by
  obtain ⟨⟨hx, hb, hml, hown, hts⟩, hK, hE, hA⟩ := X
  have hG : ∀ w ∈ GW, w.before args s = true := fun w h => hts w (List.mem_cons_of_mem _ h)
  subst hu
  refine va_put (D := D) (ci := 3) (v := .int v) (ty := .int) (C := RX3) (T := TX3) (N := 8) hx hb hG gwl_X3 tyX3 tyX3_ok nmX3 hown hK hS.1 hS.2.1 hS.2.2 27 (cw_lit rfl) rfl 5 (by decide) (hG _ gw_480) (fun _ h9 => h9) rfl (by decide +kernel) rfl rfl (Nat.le_of_ble_eq_true rfl) hd (fun H1 locs1 hP hD hS1 => kk H1 locs1 ?_)
  have he := cw_setL (kA := kA) (Z := Z) (u := u) (w := xI u 13 v) (k := 27) (x := (Z 227, .inr (3, ([.ref (Z 202), .ref (Z 229), .ref (Z 228), .ref (Z (300 + 50 * cR u 2)), .int (cI u 12), .int (cI u 13), .int (cI u 14), .int (cI u 15)] : List Value).set 5 (.int v)))) (by decide) rfl rfl rfl
  exact cs_put he hP hD hS1
theorem cg_X3_350 (X : CC p s m args c cc nL c0 RX3 D kA V A) {q : Nat} (hq : q < 2) (hS : CS D kA Z A s u H locs) (hd : decode cc pc = .ok (.getfield 350, 3)) (kk : W p l e R s m args below meth c H locs cells slots Q (F0 m (pc + 3) ls (.int (pI u q 14) :: rest))) : W p l e R s m args below meth c H locs cells slots Q (F0 m pc ls (.ref (Z (300 + 50 * q)) :: rest)) := by
  obtain ⟨⟨hx, hb, hml, hown, hts⟩, hK, hE, hA⟩ := X
  have hG : ∀ w ∈ GW, w.before args s = true := fun w h => hts w (List.mem_cons_of_mem _ h)
  rcases (show q = 0 ∨ q = 1 by omega) with rfl | rfl
  · exact va_getN (D := D) (ci := 5) (v := .int (pI u 0 14)) (C := RX6) (T := TX6) (N := 16) hx hb hG gwl_X6 hown hK hS.1 40 (cw_lit rfl) rfl 14 (by decide) (va_Nw.use rfl (hE.1 _ nw_398)) (fun _ h9 => h9) rfl hd kk
  · exact va_getN (D := D) (ci := 5) (v := .int (pI u 1 14)) (C := RX6) (T := TX6) (N := 16) hx hb hG gwl_X6 hown hK hS.1 57 (cw_lit rfl) rfl 14 (by decide) (va_Nw.use rfl (hE.1 _ nw_398)) (fun _ h9 => h9) rfl hd kk
end C39bmstatR
section C39bmstat
variable {p : Program} {l : Launch} {e : Env} {R : Room} {s : State} {m : MethodId} {args : Array Value} {below : List Frame} {meth : Method} {c : Code} {H : Heap} {locs : List Loc} {Q : State → Prop} {cells slots : Nat}
variable {ls : Array Slot} {D : va_G} {kA : Nat → ClassId} {V Z : Nat → Nat} {A : Nat → Prop} {N d : Nat} {w : CSt}
/-- the contracts of the group, at a depth -/
def RecOK_MS (l : Launch) (D : va_G) (kA : Nat → ClassId) (V Z : Nat → Nat) (d : Nat) (ro : Nat → Nat → Int32 → Int32 → CSt → Option (Sum Nat Int32 × CSt)) : Prop := (∀ (u : CSt) (sz : Nat) (y : Sum Nat Int32) (w : CSt), ro 0 0 0 0 u = some (y, w) → vx_Met l yX3_body (Cond.code yX3_body cX3_body 1 none :: GW) { frames := d + 340, cells := 1, slots := 6, locals := 60 * d + 20000 } (cPc D kA V Z [.ref (Z 227)] u sz) (cQvx D kA Z u sz y w) (cXc D kA Z u sz y w) 1 6 (va_A (CW kA Z u) sz)) ∧ (∀ (u : CSt) (sz : Nat) (y : Sum Nat Int32) (w : CSt), ro 1 0 0 0 u = some (y, w) → vx_Met l yX3_statements (Cond.code yX3_statements cX3_statements 2 (some .int) :: GW) { frames := d + 340, cells := 1, slots := 6, locals := 60 * d + 20000 } (cPc D kA V Z [.ref (Z 227)] u sz) (cQix D kA Z u sz y w) (cXc D kA Z u sz y w) 1 6 (va_A (CW kA Z u) sz)) ∧ (∀ (u : CSt) (sz : Nat) (y : Sum Nat Int32) (w : CSt), ro 2 0 0 0 u = some (y, w) → vx_Met l yX3_statement (Cond.code yX3_statement cX3_statement 2 none :: GW) { frames := d + 340, cells := 1, slots := 6, locals := 60 * d + 20000 } (cPc D kA V Z [.ref (Z 227)] u sz) (cQvx D kA Z u sz y w) (cXc D kA Z u sz y w) 1 6 (va_A (CW kA Z u) sz)) ∧ (∀ (l1 : Int32) (u : CSt) (sz : Nat) (y : Sum Nat Int32) (w : CSt), ro 3 0 l1 0 u = some (y, w) → vx_Met l yX3_choice (Cond.code yX3_choice cX3_choice 6 none :: GW) { frames := d + 340, cells := 1, slots := 6, locals := 60 * d + 20000 } (cPc D kA V Z [.ref (Z 227), .int l1] u sz) (cQvx D kA Z u sz y w) (cXc D kA Z u sz y w) 1 6 (va_A (CW kA Z u) sz)) ∧ (∀ (l1 : Int32) (u : CSt) (sz : Nat) (y : Sum Nat Int32) (w : CSt), ro 4 0 l1 0 u = some (y, w) → vx_Met l yX3_loop (Cond.code yX3_loop cX3_loop 4 none :: GW) { frames := d + 340, cells := 1, slots := 6, locals := 60 * d + 20000 } (cPc D kA V Z [.ref (Z 227), .int l1] u sz) (cQvx D kA Z u sz y w) (cXc D kA Z u sz y w) 1 6 (va_A (CW kA Z u) sz)) ∧ (∀ (l1 : Int32) (u : CSt) (sz : Nat) (y : Sum Nat Int32) (w : CSt), ro 5 0 l1 0 u = some (y, w) → vx_Met l yX3_round (Cond.code yX3_round cX3_round 3 none :: GW) { frames := d + 340, cells := 1, slots := 6, locals := 60 * d + 20000 } (cPc D kA V Z [.ref (Z 227), .int l1] u sz) (cQvx D kA Z u sz y w) (cXc D kA Z u sz y w) 1 6 (va_A (CW kA Z u) sz)) ∧ (∀ (l1 : Int32) (u : CSt) (sz : Nat) (y : Sum Nat Int32) (w : CSt), ro 6 0 l1 0 u = some (y, w) → vx_Met l yX3_counted (Cond.code yX3_counted cX3_counted 6 none :: GW) { frames := d + 340, cells := 1, slots := 6, locals := 60 * d + 20000 } (cPc D kA V Z [.ref (Z 227), .int l1] u sz) (cQvx D kA Z u sz y w) (cXc D kA Z u sz y w) 1 6 (va_A (CW kA Z u) sz)) ∧ (∀ (l1 : Int32) (u : CSt) (sz : Nat) (y : Sum Nat Int32) (w : CSt), ro 7 0 l1 0 u = some (y, w) → vx_Met l yX3_cases (Cond.code yX3_cases cX3_cases 6 none :: GW) { frames := d + 340, cells := 1, slots := 6, locals := 60 * d + 20000 } (cPc D kA V Z [.ref (Z 227), .int l1] u sz) (cQvx D kA Z u sz y w) (cXc D kA Z u sz y w) 1 6 (va_A (CW kA Z u) sz))
theorem kc_X3_body {cc : ByteArray} {pc nL : Nat} {c0 : Cond} {rest : List Value} {ro : Nat → Nat → Int32 → Int32 → CSt → Option (Sum Nat Int32 × CSt)} {u w1 : CSt} {y1 : Sum Nat Int32} (X : CC p s m args c cc nL c0 RX3 D kA V A) (hrec : RecOK_MS l D kA V Z d ro)  (hS : CS D kA Z A s u H locs) (h : ro 0 0 0 0 u = some (y1, w1)) (hF : d + 1 + 340 ≤ R.frames) (hL : 60 * (d + 1) + 20000 ≤ R.locals) (hC : 1 ≤ R.cells ∧ 6 ≤ R.slots) (hl : ls.size = nL) (hc : (rest.map fun v => v.category).sum ≤ 8) (hdg : decode cc pc = .ok (.invokevirtual 335, 3)) (kk : ∀ r, y1 = .inr r → ∀ H locs, CS D kA Z A s w1 H locs → W p l e R s m args below meth c H locs 0 0 Q (F0 m (pc + 3) ls (rest))) (kx : ∀ x, y1 = .inl x → ∀ (H : Heap) (locs : List Loc) (q : Addr) (ce : Cell), CS D kA Z A s w1 H locs → H[q]? = some ce → ce.vm = .none → s.vm.findClass (exN x) = some ce.cls → vx_W p l e R s m args below meth c H locs 1 6 Q (F0 m pc ls rest) q) : W p l e R s m args below meth c H locs 0 0 Q (F0 m pc ls (.ref (Z 227) :: rest)) :=
  ccall_vx (n := 0)  X hS (hrec.1 u H.size _ _  h) (gw_V gw_1276 gw_1278 gs_5_2 gw_13 gw_1279) (by decide +kernel) (va_recv X.2.1 hS.1 (ci := 3) (q0 := 27) rfl (cw_lit rfl)) (rc_fr hF) (rc_lo hL (Nat.le_of_ble_eq_true rfl)) hC rfl hl hc rfl hdg kk kx
theorem kc_X3_statements {cc : ByteArray} {pc nL : Nat} {c0 : Cond} {rest : List Value} {ro : Nat → Nat → Int32 → Int32 → CSt → Option (Sum Nat Int32 × CSt)} {u w1 : CSt} {y1 : Sum Nat Int32} (X : CC p s m args c cc nL c0 RX3 D kA V A) (hrec : RecOK_MS l D kA V Z d ro)  (hS : CS D kA Z A s u H locs) (h : ro 1 0 0 0 u = some (y1, w1)) (hF : d + 1 + 340 ≤ R.frames) (hL : 60 * (d + 1) + 20000 ≤ R.locals) (hC : 1 ≤ R.cells ∧ 6 ≤ R.slots) (hl : ls.size = nL) (hc : (rest.map fun v => v.category).sum ≤ 8) (hdg : decode cc pc = .ok (.invokevirtual 233, 3)) (kk : ∀ r, y1 = .inr r → ∀ H locs, CS D kA Z A s w1 H locs → W p l e R s m args below meth c H locs 0 0 Q (F0 m (pc + 3) ls (.int r :: rest))) (kx : ∀ x, y1 = .inl x → ∀ (H : Heap) (locs : List Loc) (q : Addr) (ce : Cell), CS D kA Z A s w1 H locs → H[q]? = some ce → ce.vm = .none → s.vm.findClass (exN x) = some ce.cls → vx_W p l e R s m args below meth c H locs 1 6 Q (F0 m pc ls rest) q) : W p l e R s m args below meth c H locs 0 0 Q (F0 m pc ls (.ref (Z 227) :: rest)) :=
  ccall_ix (n := 0)  X hS (hrec.2.1 u H.size _ _  h) (gw_V gw_1102 gw_1104 gs_4_2 gw_13 gw_1105) (by decide +kernel) (va_recv X.2.1 hS.1 (ci := 3) (q0 := 27) rfl (cw_lit rfl)) (rc_fr hF) (rc_lo hL (Nat.le_of_ble_eq_true rfl)) hC rfl hl hc rfl hdg kk kx
theorem kc_X3_statement {cc : ByteArray} {pc nL : Nat} {c0 : Cond} {rest : List Value} {ro : Nat → Nat → Int32 → Int32 → CSt → Option (Sum Nat Int32 × CSt)} {u w1 : CSt} {y1 : Sum Nat Int32} (X : CC p s m args c cc nL c0 RX3 D kA V A) (hrec : RecOK_MS l D kA V Z d ro)  (hS : CS D kA Z A s u H locs) (h : ro 2 0 0 0 u = some (y1, w1)) (hF : d + 1 + 340 ≤ R.frames) (hL : 60 * (d + 1) + 20000 ≤ R.locals) (hC : 1 ≤ R.cells ∧ 6 ≤ R.slots) (hl : ls.size = nL) (hc : (rest.map fun v => v.category).sum ≤ 8) (hdg : decode cc pc = .ok (.invokevirtual 257, 3)) (kk : ∀ r, y1 = .inr r → ∀ H locs, CS D kA Z A s w1 H locs → W p l e R s m args below meth c H locs 0 0 Q (F0 m (pc + 3) ls (rest))) (kx : ∀ x, y1 = .inl x → ∀ (H : Heap) (locs : List Loc) (q : Addr) (ce : Cell), CS D kA Z A s w1 H locs → H[q]? = some ce → ce.vm = .none → s.vm.findClass (exN x) = some ce.cls → vx_W p l e R s m args below meth c H locs 1 6 Q (F0 m pc ls rest) q) : W p l e R s m args below meth c H locs 0 0 Q (F0 m pc ls (.ref (Z 227) :: rest)) :=
  ccall_vx (n := 0)  X hS (hrec.2.2.1 u H.size _ _  h) (gw_V gw_1106 gw_1108 gs_4_3 gw_13 gw_1109) (by decide +kernel) (va_recv X.2.1 hS.1 (ci := 3) (q0 := 27) rfl (cw_lit rfl)) (rc_fr hF) (rc_lo hL (Nat.le_of_ble_eq_true rfl)) hC rfl hl hc rfl hdg kk kx
theorem kc_X3_choice {cc : ByteArray} {pc nL : Nat} {c0 : Cond} {rest : List Value} {ro : Nat → Nat → Int32 → Int32 → CSt → Option (Sum Nat Int32 × CSt)} {l1 : Int32} {u w1 : CSt} {y1 : Sum Nat Int32} (X : CC p s m args c cc nL c0 RX3 D kA V A) (hrec : RecOK_MS l D kA V Z d ro)  (hS : CS D kA Z A s u H locs) (h : ro 3 0 l1 0 u = some (y1, w1)) (hF : d + 1 + 340 ≤ R.frames) (hL : 60 * (d + 1) + 20000 ≤ R.locals) (hC : 1 ≤ R.cells ∧ 6 ≤ R.slots) (hl : ls.size = nL) (hc : (rest.map fun v => v.category).sum ≤ 8) (hdg : decode cc pc = .ok (.invokevirtual 263, 3)) (kk : ∀ r, y1 = .inr r → ∀ H locs, CS D kA Z A s w1 H locs → W p l e R s m args below meth c H locs 0 0 Q (F0 m (pc + 3) ls (rest))) (kx : ∀ x, y1 = .inl x → ∀ (H : Heap) (locs : List Loc) (q : Addr) (ce : Cell), CS D kA Z A s w1 H locs → H[q]? = some ce → ce.vm = .none → s.vm.findClass (exN x) = some ce.cls → vx_W p l e R s m args below meth c H locs 1 6 Q (F0 m pc ls rest) q) : W p l e R s m args below meth c H locs 0 0 Q (F0 m pc ls (.int l1 :: .ref (Z 227) :: rest)) :=
  ccall_vx (n := 1)  X hS (hrec.2.2.2.1 l1 u H.size _ _  h) (gw_V gw_1118 gw_1120 gs_4_4 gw_13 gw_1121) (by decide +kernel) (va_recv X.2.1 hS.1 (ci := 3) (q0 := 27) rfl (cw_lit rfl)) (rc_fr hF) (rc_lo hL (Nat.le_of_ble_eq_true rfl)) hC rfl hl hc rfl hdg kk kx
theorem kc_X3_loop {cc : ByteArray} {pc nL : Nat} {c0 : Cond} {rest : List Value} {ro : Nat → Nat → Int32 → Int32 → CSt → Option (Sum Nat Int32 × CSt)} {l1 : Int32} {u w1 : CSt} {y1 : Sum Nat Int32} (X : CC p s m args c cc nL c0 RX3 D kA V A) (hrec : RecOK_MS l D kA V Z d ro)  (hS : CS D kA Z A s u H locs) (h : ro 4 0 l1 0 u = some (y1, w1)) (hF : d + 1 + 340 ≤ R.frames) (hL : 60 * (d + 1) + 20000 ≤ R.locals) (hC : 1 ≤ R.cells ∧ 6 ≤ R.slots) (hl : ls.size = nL) (hc : (rest.map fun v => v.category).sum ≤ 8) (hdg : decode cc pc = .ok (.invokevirtual 266, 3)) (kk : ∀ r, y1 = .inr r → ∀ H locs, CS D kA Z A s w1 H locs → W p l e R s m args below meth c H locs 0 0 Q (F0 m (pc + 3) ls (rest))) (kx : ∀ x, y1 = .inl x → ∀ (H : Heap) (locs : List Loc) (q : Addr) (ce : Cell), CS D kA Z A s w1 H locs → H[q]? = some ce → ce.vm = .none → s.vm.findClass (exN x) = some ce.cls → vx_W p l e R s m args below meth c H locs 1 6 Q (F0 m pc ls rest) q) : W p l e R s m args below meth c H locs 0 0 Q (F0 m pc ls (.int l1 :: .ref (Z 227) :: rest)) :=
  ccall_vx (n := 1)  X hS (hrec.2.2.2.2.1 l1 u H.size _ _  h) (gw_V gw_1281 gw_1283 gs_5_3 gw_13 gw_1284) (by decide +kernel) (va_recv X.2.1 hS.1 (ci := 3) (q0 := 27) rfl (cw_lit rfl)) (rc_fr hF) (rc_lo hL (Nat.le_of_ble_eq_true rfl)) hC rfl hl hc rfl hdg kk kx
theorem kc_X3_round {cc : ByteArray} {pc nL : Nat} {c0 : Cond} {rest : List Value} {ro : Nat → Nat → Int32 → Int32 → CSt → Option (Sum Nat Int32 × CSt)} {l1 : Int32} {u w1 : CSt} {y1 : Sum Nat Int32} (X : CC p s m args c cc nL c0 RX3 D kA V A) (hrec : RecOK_MS l D kA V Z d ro)  (hS : CS D kA Z A s u H locs) (h : ro 5 0 l1 0 u = some (y1, w1)) (hF : d + 1 + 340 ≤ R.frames) (hL : 60 * (d + 1) + 20000 ≤ R.locals) (hC : 1 ≤ R.cells ∧ 6 ≤ R.slots) (hl : ls.size = nL) (hc : (rest.map fun v => v.category).sum ≤ 8) (hdg : decode cc pc = .ok (.invokevirtual 341, 3)) (kk : ∀ r, y1 = .inr r → ∀ H locs, CS D kA Z A s w1 H locs → W p l e R s m args below meth c H locs 0 0 Q (F0 m (pc + 3) ls (rest))) (kx : ∀ x, y1 = .inl x → ∀ (H : Heap) (locs : List Loc) (q : Addr) (ce : Cell), CS D kA Z A s w1 H locs → H[q]? = some ce → ce.vm = .none → s.vm.findClass (exN x) = some ce.cls → vx_W p l e R s m args below meth c H locs 1 6 Q (F0 m pc ls rest) q) : W p l e R s m args below meth c H locs 0 0 Q (F0 m pc ls (.int l1 :: .ref (Z 227) :: rest)) :=
  ccall_vx (n := 1)  X hS (hrec.2.2.2.2.2.1 l1 u H.size _ _  h) (gw_V gw_1285 gw_1287 gs_5_4 gw_13 gw_1288) (by decide +kernel) (va_recv X.2.1 hS.1 (ci := 3) (q0 := 27) rfl (cw_lit rfl)) (rc_fr hF) (rc_lo hL (Nat.le_of_ble_eq_true rfl)) hC rfl hl hc rfl hdg kk kx
theorem kc_X3_counted {cc : ByteArray} {pc nL : Nat} {c0 : Cond} {rest : List Value} {ro : Nat → Nat → Int32 → Int32 → CSt → Option (Sum Nat Int32 × CSt)} {l1 : Int32} {u w1 : CSt} {y1 : Sum Nat Int32} (X : CC p s m args c cc nL c0 RX3 D kA V A) (hrec : RecOK_MS l D kA V Z d ro)  (hS : CS D kA Z A s u H locs) (h : ro 6 0 l1 0 u = some (y1, w1)) (hF : d + 1 + 340 ≤ R.frames) (hL : 60 * (d + 1) + 20000 ≤ R.locals) (hC : 1 ≤ R.cells ∧ 6 ≤ R.slots) (hl : ls.size = nL) (hc : (rest.map fun v => v.category).sum ≤ 8) (hdg : decode cc pc = .ok (.invokevirtual 269, 3)) (kk : ∀ r, y1 = .inr r → ∀ H locs, CS D kA Z A s w1 H locs → W p l e R s m args below meth c H locs 0 0 Q (F0 m (pc + 3) ls (rest))) (kx : ∀ x, y1 = .inl x → ∀ (H : Heap) (locs : List Loc) (q : Addr) (ce : Cell), CS D kA Z A s w1 H locs → H[q]? = some ce → ce.vm = .none → s.vm.findClass (exN x) = some ce.cls → vx_W p l e R s m args below meth c H locs 1 6 Q (F0 m pc ls rest) q) : W p l e R s m args below meth c H locs 0 0 Q (F0 m pc ls (.int l1 :: .ref (Z 227) :: rest)) :=
  ccall_vx (n := 1)  X hS (hrec.2.2.2.2.2.2.1 l1 u H.size _ _  h) (gw_V gw_1289 gw_1291 gs_5_5 gw_13 gw_1292) (by decide +kernel) (va_recv X.2.1 hS.1 (ci := 3) (q0 := 27) rfl (cw_lit rfl)) (rc_fr hF) (rc_lo hL (Nat.le_of_ble_eq_true rfl)) hC rfl hl hc rfl hdg kk kx
theorem kc_X3_cases {cc : ByteArray} {pc nL : Nat} {c0 : Cond} {rest : List Value} {ro : Nat → Nat → Int32 → Int32 → CSt → Option (Sum Nat Int32 × CSt)} {l1 : Int32} {u w1 : CSt} {y1 : Sum Nat Int32} (X : CC p s m args c cc nL c0 RX3 D kA V A) (hrec : RecOK_MS l D kA V Z d ro)  (hS : CS D kA Z A s u H locs) (h : ro 7 0 l1 0 u = some (y1, w1)) (hF : d + 1 + 340 ≤ R.frames) (hL : 60 * (d + 1) + 20000 ≤ R.locals) (hC : 1 ≤ R.cells ∧ 6 ≤ R.slots) (hl : ls.size = nL) (hc : (rest.map fun v => v.category).sum ≤ 8) (hdg : decode cc pc = .ok (.invokevirtual 272, 3)) (kk : ∀ r, y1 = .inr r → ∀ H locs, CS D kA Z A s w1 H locs → W p l e R s m args below meth c H locs 0 0 Q (F0 m (pc + 3) ls (rest))) (kx : ∀ x, y1 = .inl x → ∀ (H : Heap) (locs : List Loc) (q : Addr) (ce : Cell), CS D kA Z A s w1 H locs → H[q]? = some ce → ce.vm = .none → s.vm.findClass (exN x) = some ce.cls → vx_W p l e R s m args below meth c H locs 1 6 Q (F0 m pc ls rest) q) : W p l e R s m args below meth c H locs 0 0 Q (F0 m pc ls (.int l1 :: .ref (Z 227) :: rest)) :=
  ccall_vx (n := 1)  X hS (hrec.2.2.2.2.2.2.2 l1 u H.size _ _  h) (gw_V gw_1308 gw_1310 gs_5_7 gw_13 gw_1311) (by decide +kernel) (va_recv X.2.1 hS.1 (ci := 3) (q0 := 27) rfl (cw_lit rfl)) (rc_fr hF) (rc_lo hL (Nat.le_of_ble_eq_true rfl)) hC rfl hl hc rfl hdg kk kx
def B_X3_body_0 (N : Nat) (ro : Nat → Nat → Int32 → Int32 → CSt → Option (Sum Nat Int32 × CSt)) (u : CSt) : Option ((Sum Nat Int32) × CSt) := bc (F_X9_next N u) fun _ u_1 => bt (ro 1 0 0 0 u_1) fun r_3 u_2 => some (.inr 0, u_2)
set_option maxHeartbeats 4000000 in
theorem b_X3_body_0 {y : (Sum Nat Int32)} {ro : Nat → Nat → Int32 → Int32 → CSt → Option (Sum Nat Int32 × CSt)} (X : CC p s m args c cX3_body 1 (Cond.code yX3_body cX3_body 1 none) RX3 D kA V A) (hE : CEvx p l e R s m args below meth c cX3_body D kA Z A Q y w) (hst : l.stackTraces = false) (hX : CX p l e R s m args below meth c D kA Z A Q y w) (hC : 1 ≤ R.cells ∧ 6 ≤ R.slots) (hF : 1 ≤ R.frames) (hL : 20 ≤ R.locals) (hrec : RecOK_MS l D kA V Z d ro) (hFd : d + 1 + 340 ≤ R.frames) (hLd : 60 * (d + 1) + 20000 ≤ R.locals) {u : CSt}  (h : B_X3_body_0 N ro u = some (y, w))  (hS : CS D kA Z A s u H locs) (hl : lv_has ls 1 [(0, .ref (Z 227))]) : W p l e R s m args below meth c H locs 0 0 Q (F0 m 0 ls []) := by
  obtain ⟨⟨hx, hb, hml, hown, hts⟩, hK, hEV, hA⟩ := id X
  have hG : ∀ w ∈ GW, w.before args s = true := fun w h => hts w (List.mem_cons_of_mem _ h)
  unfold B_X3_body_0 at h
  refine lv_aload_n hx hb dX3_body_0 rfl (lv_at hl 0 rfl) ?_
  refine cg_X3_15 X hS dX3_body_1 ?_
  obtain ⟨r_u_1, u_1, h_u_1, h⟩ := bc_of h
  refine kc_X9_next_RX3 X  hS h_u_1 (Nat.le_trans (Nat.le_of_ble_eq_true rfl) hF) (Nat.le_trans (Nat.le_of_ble_eq_true rfl) hL) hl.1 (Nat.le_of_ble_eq_true rfl) dX3_body_4 (fun H locs hS => ?_)
  refine lv_aload_n hx hb dX3_body_7 rfl (lv_at hl 0 rfl) ?_
  obtain ⟨y_4, u_2, h_u_2, h⟩ := bt_of h
  refine kc_X3_statements X hrec  hS h_u_2 hFd hLd hC hl.1 (Nat.le_of_ble_eq_true rfl) dX3_body_8 (fun r_3 hr_u_2 H locs hS => ?_) (fun x9 hn H locs q9 ce hS a1 a2 a3 => by obtain ⟨e2, rfl⟩ := bt_no h hn; exact hX _ e2 _ _ _ _ _ _ _ hS a1 a2 a3)
  replace h := bt_ok h hr_u_2
  refine lv_pop hx hb dX3_body_11 rfl ?_
  obtain ⟨e9, rfl⟩ := so9 h
  exact hE _ e9.symm _ _ _ _ hS dX3_body_12
def F_X3_body (N : Nat) (ro : Nat → Nat → Int32 → Int32 → CSt → Option (Sum Nat Int32 × CSt)) (u : CSt) : Option ((Sum Nat Int32) × CSt) := B_X3_body_0 N ro u
set_option maxHeartbeats 4000000 in
theorem k_X3_body (l : Launch) (hst : l.stackTraces = false) (D : va_G) (kA : Nat → ClassId) (V Z : Nat → Nat) (N : Nat) {d : Nat} (ro : Nat → Nat → Int32 → Int32 → CSt → Option (Sum Nat Int32 × CSt)) (hrec : RecOK_MS l D kA V Z d ro) (u : CSt) (sz : Nat) {y : (Sum Nat Int32)} {w : CSt} (h : F_X3_body N ro u = some (y, w)) : vx_Met l yX3_body (Cond.code yX3_body cX3_body 1 none :: GW) { frames := d + 1 + 340, cells := 1, slots := 6, locals := 60 * (d + 1) + 20000 } (cPc D kA V Z [.ref (Z 227)] u sz) (cQvx D kA Z u sz y w) (cXc D kA Z u sz y w) 1 6 (va_A (CW kA Z u) sz) := by
  refine vx_ofW (cc := cX3_body) (maxL := 1) (ret := none) (by decide) rfl ?_
  intro p e s m args below meth c s₁ Bd hml hxt hv
  obtain ⟨rfl, hsz, hP, hK, hD0, hE⟩ := hv
  have hts := atoms_spec (ws := Cond.code yX3_body cX3_body 1 none :: GW) Bd.pre
  have hl := lv_entry ([.ref (Z 227)]) (n := 1) (Nat.le_of_ble_eq_true rfl)
  rw [lg_entry_eq]
  generalize (lg_sl ([.ref (Z 227)]) ++ List.replicate (1 - (lg_sl ([.ref (Z 227)])).length) Slot.unset).toArray = ls at hl ⊢
  have hl : lv_has ls 1 [(0, .ref (Z 227))] := hl
  subst hsz
  have X : CC p s m ([.ref (Z 227)]).toArray c cX3_body 1 (Cond.code yX3_body cX3_body 1 none) RX3 D kA V (va_A (CW kA Z u) s.heap.size) := ⟨⟨Bd.exec, Bd.bytes, hml, findClass_of_methodNamed Bd.named, hts⟩, hK, hE, fun q h => Or.inr h⟩
  refine b_X3_body_0 X (cend_vx X Bd.returns Bd.notSynchronized) hst (cend_X X hxt Bd.notSynchronized) ⟨Nat.le_refl _, Nat.le_refl _⟩ (Nat.le_trans (Nat.le_of_ble_eq_true rfl) (Nat.le_add_left 340 _)) (Nat.le_trans (Nat.le_of_ble_eq_true rfl) (Nat.le_add_left 20000 _)) hrec (Nat.le_refl _) (Nat.le_refl _) h  ⟨hP, hD0.self, va_S.rf⟩ (lv_sub hl [0] rfl)
def B_X3_statements_31 (N : Nat) (ro : Nat → Nat → Int32 → Int32 → CSt → Option (Sum Nat Int32 × CSt)) (u : CSt) : Option ((Sum Nat Int32) × CSt) := bc (F_X9_here N u) fun r_2 u_1 => bc (F_X9_next N u_1) fun _ u_3 => some (.inr r_2, u_3)
set_option maxHeartbeats 4000000 in
theorem b_X3_statements_31 {y : (Sum Nat Int32)} {ro : Nat → Nat → Int32 → Int32 → CSt → Option (Sum Nat Int32 × CSt)} (X : CC p s m args c cX3_statements 2 (Cond.code yX3_statements cX3_statements 2 (some .int)) RX3 D kA V A) (hE : CEix p l e R s m args below meth c cX3_statements D kA Z A Q y w) (hst : l.stackTraces = false) (hX : CX p l e R s m args below meth c D kA Z A Q y w) (hC : 1 ≤ R.cells ∧ 6 ≤ R.slots) (hF : 1 ≤ R.frames) (hL : 21 ≤ R.locals) (hrec : RecOK_MS l D kA V Z d ro) (hFd : d + 1 + 340 ≤ R.frames) (hLd : 60 * (d + 1) + 20000 ≤ R.locals) {u : CSt}  (h : B_X3_statements_31 N ro u = some (y, w))  (hS : CS D kA Z A s u H locs) (hl : lv_has ls 2 [(0, .ref (Z 227))]) : W p l e R s m args below meth c H locs 0 0 Q (F0 m 31 ls []) := by
  obtain ⟨⟨hx, hb, hml, hown, hts⟩, hK, hEV, hA⟩ := id X
  have hG : ∀ w ∈ GW, w.before args s = true := fun w h => hts w (List.mem_cons_of_mem _ h)
  unfold B_X3_statements_31 at h
  refine lv_aload_n hx hb dX3_statements_31 rfl (lv_at hl 0 rfl) ?_
  refine cg_X3_15 X hS dX3_statements_32 ?_
  obtain ⟨r_2, u_1, h_u_1, h⟩ := bc_of h
  refine kc_X9_here_RX3 X  hS h_u_1 (Nat.le_trans (Nat.le_of_ble_eq_true rfl) hF) (Nat.le_trans (Nat.le_of_ble_eq_true rfl) hL) hl.1 (Nat.le_of_ble_eq_true rfl) dX3_statements_35 (fun H locs hS => ?_)
  refine lv_istore_n (lv' := [(1, .int r_2), (0, .ref (Z 227))]) hx hb dX3_statements_38 rfl hl (by decide) rfl (fun ls hl => ?_)
  refine lv_aload_n hx hb dX3_statements_39 rfl (lv_at hl 1 rfl) ?_
  refine cg_X3_15 X hS dX3_statements_40 ?_
  obtain ⟨r_u_3, u_3, h_u_3, h⟩ := bc_of h
  refine kc_X9_next_RX3 X  hS h_u_3 (Nat.le_trans (Nat.le_of_ble_eq_true rfl) hF) (Nat.le_trans (Nat.le_of_ble_eq_true rfl) hL) hl.1 (Nat.le_of_ble_eq_true rfl) dX3_statements_43 (fun H locs hS => ?_)
  refine lv_iload_n hx hb dX3_statements_46 rfl (lv_at hl 0 rfl) ?_
  obtain ⟨e9, rfl⟩ := so9 h
  exact hE _ e9.symm _ _ _ _ hS dX3_statements_47
def B_X3_statements_2 (N : Nat) (ro : Nat → Nat → Int32 → Int32 → CSt → Option (Sum Nat Int32 × CSt)) (R_2 : Int32 × CSt → Option ((Sum Nat Int32) × CSt)) (l1 : Int32) (u : CSt) : Option ((Sum Nat Int32) × CSt) := if (1500 : Int32) ≤ l1 then (B_X3_statements_31 N ro u) else (bc (F_X9_is N 125 u) fun r_6 u_5 => if r_6 = (0 : Int32) then (bt (ro 2 0 0 0 u_5) fun _ u_8 => R_2 ((l1 + 1), u_8)) else (B_X3_statements_31 N ro u_5))
set_option maxHeartbeats 4000000 in
theorem b_X3_statements_2 {y : (Sum Nat Int32)} {ro : Nat → Nat → Int32 → Int32 → CSt → Option (Sum Nat Int32 × CSt)} (X : CC p s m args c cX3_statements 2 (Cond.code yX3_statements cX3_statements 2 (some .int)) RX3 D kA V A) (hE : CEix p l e R s m args below meth c cX3_statements D kA Z A Q y w) (hst : l.stackTraces = false) (hX : CX p l e R s m args below meth c D kA Z A Q y w) (hC : 1 ≤ R.cells ∧ 6 ≤ R.slots) (hF : 1 ≤ R.frames) (hL : 21 ≤ R.locals) (hrec : RecOK_MS l D kA V Z d ro) (hFd : d + 1 + 340 ≤ R.frames) (hLd : 60 * (d + 1) + 20000 ≤ R.locals) {R_2 : Int32 × CSt → Option ((Sum Nat Int32) × CSt)} {l1 : Int32} {u : CSt} (hR_2 : ∀ (l1 : Int32) (u : CSt), R_2 (l1, u) = some (y, w) → ∀ (H : Heap) (locs : List Loc) (ls : Array Slot), CS D kA Z A s u H locs → lv_has ls 2 [(0, .ref (Z 227)), (1, .int l1)] → W p l e R s m args below meth c H locs 0 0 Q (F0 m 2 ls [])) (h : B_X3_statements_2 N ro R_2 l1 u = some (y, w))  (hS : CS D kA Z A s u H locs) (hl : lv_has ls 2 [(0, .ref (Z 227)), (1, .int l1)]) : W p l e R s m args below meth c H locs 0 0 Q (F0 m 2 ls []) := by
  obtain ⟨⟨hx, hb, hml, hown, hts⟩, hK, hEV, hA⟩ := id X
  have hG : ∀ w ∈ GW, w.before args s = true := fun w h => hts w (List.mem_cons_of_mem _ h)
  unfold B_X3_statements_2 at h
  refine lv_iload_n hx hb dX3_statements_2 rfl (lv_at hl 1 rfl) ?_
  refine lv_sipush (v := 1500) hx hb dX3_statements_3 (by decide) ?_
  refine lv_icmp_ge (tgt := 31) hx hb dX3_statements_6 (by decide) (fun c_4 => ?_) (fun c_4 => ?_)
  · have h := ip (c_4) h
    exact b_X3_statements_31 X hE hst hX hC hF hL hrec hFd hLd h  hS (lv_sub hl [0] rfl)
  · have h := im (c_4) h
    refine lv_aload_n hx hb dX3_statements_9 rfl (lv_at hl 0 rfl) ?_
    refine cg_X3_15 X hS dX3_statements_10 ?_
    refine lv_bipush (v := 125) hx hb dX3_statements_13 (by decide) ?_
    obtain ⟨r_6, u_5, h_u_5, h⟩ := bc_of h
    refine kc_X9_is_RX3 X  hS h_u_5 (Nat.le_trans (Nat.le_of_ble_eq_true rfl) hF) (Nat.le_trans (Nat.le_of_ble_eq_true rfl) hL) hl.1 (Nat.le_of_ble_eq_true rfl) dX3_statements_15 (fun H locs hS => ?_)
    refine lv_if_ne (tgt := 31) hx hb dX3_statements_18 (by decide) (fun c_7 => ?_) (fun c_7 => ?_)
    · have h := im (c_7) h
      exact b_X3_statements_31 X hE hst hX hC hF hL hrec hFd hLd h  hS (lv_sub hl [0] rfl)
    · have h := ip (c_7) h
      refine lv_aload_n hx hb dX3_statements_21 rfl (lv_at hl 0 rfl) ?_
      obtain ⟨y_9, u_8, h_u_8, h⟩ := bt_of h
      refine kc_X3_statement X hrec  hS h_u_8 hFd hLd hC hl.1 (Nat.le_of_ble_eq_true rfl) dX3_statements_22 (fun r_u_8 hr_u_8 H locs hS => ?_) (fun x9 hn H locs q9 ce hS a1 a2 a3 => by obtain ⟨e2, rfl⟩ := bt_no h hn; exact hX _ e2 _ _ _ _ _ _ _ hS a1 a2 a3)
      replace h := bt_ok h hr_u_8
      refine lv_iinc (v := l1 + 1) (lv' := [(1, .int (l1 + 1)), (0, .ref (Z 227))]) hx hb dX3_statements_25 hl (k := 1) rfl rfl (by decide) rfl (fun ls hl => ?_)
      refine lv_goto (tgt := 2) hx hb dX3_statements_28 (by decide) ?_
      exact hR_2 _ _  h _ _ _ hS (lv_sub hl [1, 0] rfl)
def LP_X3_statements_2 (N : Nat) (ro : Nat → Nat → Int32 → Int32 → CSt → Option (Sum Nat Int32 × CSt)) : Nat → Int32 × CSt → Option ((Sum Nat Int32) × CSt) := lp (fun R a => B_X3_statements_2 N ro R a.1 a.2)
theorem bl_X3_statements_2 {y : (Sum Nat Int32)} {ro : Nat → Nat → Int32 → Int32 → CSt → Option (Sum Nat Int32 × CSt)} (X : CC p s m args c cX3_statements 2 (Cond.code yX3_statements cX3_statements 2 (some .int)) RX3 D kA V A) (hE : CEix p l e R s m args below meth c cX3_statements D kA Z A Q y w) (hst : l.stackTraces = false) (hX : CX p l e R s m args below meth c D kA Z A Q y w) (hC : 1 ≤ R.cells ∧ 6 ≤ R.slots) (hF : 1 ≤ R.frames) (hL : 21 ≤ R.locals) (hrec : RecOK_MS l D kA V Z d ro) (hFd : d + 1 + 340 ≤ R.frames) (hLd : 60 * (d + 1) + 20000 ≤ R.locals)  : ∀ (n : Nat) (l1 : Int32) (u : CSt), LP_X3_statements_2 N ro n (l1, u) = some (y, w) → ∀ (H : Heap) (locs : List Loc) (ls : Array Slot), CS D kA Z A s u H locs → lv_has ls 2 [(0, .ref (Z 227)), (1, .int l1)] → W p l e R s m args below meth c H locs 0 0 Q (F0 m 2 ls []) := by
  intro n
  induction n with
  | zero => intro l1 u h; exact nomatch h
  | succ n ih => intro l1 u h H locs ls hS hl; exact b_X3_statements_2 (N := N) (R_2 := LP_X3_statements_2 N ro n) X hE hst hX hC hF hL hrec hFd hLd ih h  hS hl
def B_X3_statements_0 (N : Nat) (ro : Nat → Nat → Int32 → Int32 → CSt → Option (Sum Nat Int32 × CSt)) (u : CSt) : Option ((Sum Nat Int32) × CSt) := LP_X3_statements_2 N ro N (0, u)
set_option maxHeartbeats 4000000 in
theorem b_X3_statements_0 {y : (Sum Nat Int32)} {ro : Nat → Nat → Int32 → Int32 → CSt → Option (Sum Nat Int32 × CSt)} (X : CC p s m args c cX3_statements 2 (Cond.code yX3_statements cX3_statements 2 (some .int)) RX3 D kA V A) (hE : CEix p l e R s m args below meth c cX3_statements D kA Z A Q y w) (hst : l.stackTraces = false) (hX : CX p l e R s m args below meth c D kA Z A Q y w) (hC : 1 ≤ R.cells ∧ 6 ≤ R.slots) (hF : 1 ≤ R.frames) (hL : 21 ≤ R.locals) (hrec : RecOK_MS l D kA V Z d ro) (hFd : d + 1 + 340 ≤ R.frames) (hLd : 60 * (d + 1) + 20000 ≤ R.locals) {u : CSt}  (h : B_X3_statements_0 N ro u = some (y, w))  (hS : CS D kA Z A s u H locs) (hl : lv_has ls 2 [(0, .ref (Z 227))]) : W p l e R s m args below meth c H locs 0 0 Q (F0 m 0 ls []) := by
  obtain ⟨⟨hx, hb, hml, hown, hts⟩, hK, hEV, hA⟩ := id X
  have hG : ∀ w ∈ GW, w.before args s = true := fun w h => hts w (List.mem_cons_of_mem _ h)
  unfold B_X3_statements_0 at h
  refine lv_iconst (v := 0) hx hb dX3_statements_0 (by decide) ?_
  refine lv_istore_n (lv' := [(1, .int 0), (0, .ref (Z 227))]) hx hb dX3_statements_1 rfl hl (by decide) rfl (fun ls hl => ?_)
  exact bl_X3_statements_2 X hE hst hX hC hF hL hrec hFd hLd _ _ _  h _ _ _ hS (lv_sub hl [1, 0] rfl)
def F_X3_statements (N : Nat) (ro : Nat → Nat → Int32 → Int32 → CSt → Option (Sum Nat Int32 × CSt)) (u : CSt) : Option ((Sum Nat Int32) × CSt) := B_X3_statements_0 N ro u
set_option maxHeartbeats 4000000 in
theorem k_X3_statements (l : Launch) (hst : l.stackTraces = false) (D : va_G) (kA : Nat → ClassId) (V Z : Nat → Nat) (N : Nat) {d : Nat} (ro : Nat → Nat → Int32 → Int32 → CSt → Option (Sum Nat Int32 × CSt)) (hrec : RecOK_MS l D kA V Z d ro) (u : CSt) (sz : Nat) {y : (Sum Nat Int32)} {w : CSt} (h : F_X3_statements N ro u = some (y, w)) : vx_Met l yX3_statements (Cond.code yX3_statements cX3_statements 2 (some .int) :: GW) { frames := d + 1 + 340, cells := 1, slots := 6, locals := 60 * (d + 1) + 20000 } (cPc D kA V Z [.ref (Z 227)] u sz) (cQix D kA Z u sz y w) (cXc D kA Z u sz y w) 1 6 (va_A (CW kA Z u) sz) := by
  refine vx_ofW (cc := cX3_statements) (maxL := 2) (ret := (some .int)) (by decide) rfl ?_
  intro p e s m args below meth c s₁ Bd hml hxt hv
  obtain ⟨rfl, hsz, hP, hK, hD0, hE⟩ := hv
  have hts := atoms_spec (ws := Cond.code yX3_statements cX3_statements 2 (some .int) :: GW) Bd.pre
  have hl := lv_entry ([.ref (Z 227)]) (n := 2) (Nat.le_of_ble_eq_true rfl)
  rw [lg_entry_eq]
  generalize (lg_sl ([.ref (Z 227)]) ++ List.replicate (2 - (lg_sl ([.ref (Z 227)])).length) Slot.unset).toArray = ls at hl ⊢
  have hl : lv_has ls 2 [(0, .ref (Z 227))] := hl
  subst hsz
  have X : CC p s m ([.ref (Z 227)]).toArray c cX3_statements 2 (Cond.code yX3_statements cX3_statements 2 (some .int)) RX3 D kA V (va_A (CW kA Z u) s.heap.size) := ⟨⟨Bd.exec, Bd.bytes, hml, findClass_of_methodNamed Bd.named, hts⟩, hK, hE, fun q h => Or.inr h⟩
  refine b_X3_statements_0 X (cend_ix X Bd.returns Bd.notSynchronized) hst (cend_X X hxt Bd.notSynchronized) ⟨Nat.le_refl _, Nat.le_refl _⟩ (Nat.le_trans (Nat.le_of_ble_eq_true rfl) (Nat.le_add_left 340 _)) (Nat.le_trans (Nat.le_of_ble_eq_true rfl) (Nat.le_add_left 20000 _)) hrec (Nat.le_refl _) (Nat.le_refl _) h  ⟨hP, hD0.self, va_S.rf⟩ (lv_sub hl [0] rfl)
def B_X3_statement_0 (N : Nat) (ro : Nat → Nat → Int32 → Int32 → CSt → Option (Sum Nat Int32 × CSt)) (u : CSt) : Option ((Sum Nat Int32) × CSt) := bc (F_X9_here N u) fun r_2 u_1 => ok (cR u_1 2 < 2) inferInstance <| bc (F_X6_cost N (cR u_1 2) r_2 u_1) fun _ u_4 => bc (F_X9_type N u_4) fun r_6 u_5 => if r_6 = 17 then (bt (ro 3 0 r_2 0 u_5) fun _ u_8 => some (.inr 0, u_8)) else (if r_6 = 20 then (bt (ro 4 0 r_2 0 u_5) fun _ u_11 => some (.inr 0, u_11)) else (if r_6 = 21 then (bt (ro 6 0 r_2 0 u_5) fun _ u_14 => some (.inr 0, u_14)) else (if r_6 = 22 then (bt (ro 7 0 r_2 0 u_5) fun _ u_17 => some (.inr 0, u_17)) else (if r_6 = 25 then (bt (F_X3_leave N r_2 u_5) fun _ u_20 => some (.inr 0, u_20)) else (if r_6 = 26 then (bt (F_X3_leave N r_2 u_5) fun _ u_23 => some (.inr 0, u_23)) else (if r_6 = 27 then (bt (F_X3_returned N r_2 u_5) fun _ u_26 => some (.inr 0, u_26)) else (if r_6 = 28 then (bc (F_X9_next N u_5) fun _ u_29 => bt (G_X8_expression N u_29) fun r_31 u_30 => ok (cR u_30 2 < 2) inferInstance <| bc (F_X6_step N (cR u_30 2) 41 0 0 r_2 u_30) fun r_35 u_34 => bc (F_X9_next N u_34) fun _ u_36 => some (.inr 0, u_36)) else (bc (F_X9_typeAhead N 1 u_5) fun r_38 u_37 => if r_38 = (40 : Int32) then (bt (F_X3_instanceCall N r_2 u_37) fun _ u_42 => some (.inr 0, u_42)) else (bt (F_X3_assignment N r_2 u_37) fun _ u_40 => some (.inr 0, u_40))))))))))
set_option maxHeartbeats 4000000 in
theorem b_X3_statement_0 {y : (Sum Nat Int32)} {ro : Nat → Nat → Int32 → Int32 → CSt → Option (Sum Nat Int32 × CSt)} (X : CC p s m args c cX3_statement 2 (Cond.code yX3_statement cX3_statement 2 none) RX3 D kA V A) (hE : CEvx p l e R s m args below meth c cX3_statement D kA Z A Q y w) (hst : l.stackTraces = false) (hX : CX p l e R s m args below meth c D kA Z A Q y w) (hC : 1 ≤ R.cells ∧ 6 ≤ R.slots) (hF : 323 ≤ R.frames) (hL : 18774 ≤ R.locals) (hrec : RecOK_MS l D kA V Z d ro) (hFd : d + 1 + 340 ≤ R.frames) (hLd : 60 * (d + 1) + 20000 ≤ R.locals) {u : CSt}  (h : B_X3_statement_0 N ro u = some (y, w))  (hS : CS D kA Z A s u H locs) (hl : lv_has ls 2 [(0, .ref (Z 227))]) : W p l e R s m args below meth c H locs 0 0 Q (F0 m 0 ls []) := by
  obtain ⟨⟨hx, hb, hml, hown, hts⟩, hK, hEV, hA⟩ := id X
  have hG : ∀ w ∈ GW, w.before args s = true := fun w h => hts w (List.mem_cons_of_mem _ h)
  unfold B_X3_statement_0 at h
  refine lv_aload_n hx hb dX3_statement_0 rfl (lv_at hl 0 rfl) ?_
  refine cg_X3_15 X hS dX3_statement_1 ?_
  obtain ⟨r_2, u_1, h_u_1, h⟩ := bc_of h
  refine kc_X9_here_RX3 X  hS h_u_1 (Nat.le_trans (Nat.le_of_ble_eq_true rfl) hF) (Nat.le_trans (Nat.le_of_ble_eq_true rfl) hL) hl.1 (Nat.le_of_ble_eq_true rfl) dX3_statement_4 (fun H locs hS => ?_)
  refine lv_istore_n (lv' := [(1, .int r_2), (0, .ref (Z 227))]) hx hb dX3_statement_7 rfl hl (by decide) rfl (fun ls hl => ?_)
  refine lv_aload_n hx hb dX3_statement_8 rfl (lv_at hl 1 rfl) ?_
  refine cg_X3_19 X hS dX3_statement_9 ?_
  obtain ⟨z_3, h⟩ := ok_of h
  refine lv_iload_n hx hb dX3_statement_12 rfl (lv_at hl 0 rfl) ?_
  obtain ⟨r_u_4, u_4, h_u_4, h⟩ := bc_of h
  refine kc_X6_cost_RX3 X z_3 hS h_u_4 (Nat.le_trans (Nat.le_of_ble_eq_true rfl) hF) (Nat.le_trans (Nat.le_of_ble_eq_true rfl) hL) hl.1 (Nat.le_of_ble_eq_true rfl) dX3_statement_13 (fun H locs hS => ?_)
  refine lv_aload_n hx hb dX3_statement_16 rfl (lv_at hl 1 rfl) ?_
  refine cg_X3_15 X hS dX3_statement_17 ?_
  obtain ⟨r_6, u_5, h_u_5, h⟩ := bc_of h
  refine kc_X9_type_RX3 X  hS h_u_5 (Nat.le_trans (Nat.le_of_ble_eq_true rfl) hF) (Nat.le_trans (Nat.le_of_ble_eq_true rfl) hL) hl.1 (Nat.le_of_ble_eq_true rfl) dX3_statement_20 (fun H locs hS => ?_)
  by_cases e_7 : r_6 = 17
  · have h := ip e_7 h
    refine lv_tableIn (off := 61) (tgt := 84) hx hb dX3_statement_23 (by rw [e_7]; decide) (by rw [e_7]; decide) (by rw [e_7]; rfl) (by decide) ?_
    refine lv_aload_n hx hb dX3_statement_84 rfl (lv_at hl 1 rfl) ?_
    refine lv_iload_n hx hb dX3_statement_85 rfl (lv_at hl 0 rfl) ?_
    obtain ⟨y_9, u_8, h_u_8, h⟩ := bt_of h
    refine kc_X3_choice X hrec  hS h_u_8 hFd hLd hC hl.1 (Nat.le_of_ble_eq_true rfl) dX3_statement_86 (fun r_u_8 hr_u_8 H locs hS => ?_) (fun x9 hn H locs q9 ce hS a1 a2 a3 => by obtain ⟨e2, rfl⟩ := bt_no h hn; exact hX _ e2 _ _ _ _ _ _ _ hS a1 a2 a3)
    replace h := bt_ok h hr_u_8
    refine lv_goto (tgt := 196) hx hb dX3_statement_89 (by decide) ?_
    obtain ⟨e9, rfl⟩ := so9 h
    exact hE _ e9.symm _ _ _ _ hS dX3_statement_196
  have h := im e_7 h
  by_cases e_10 : r_6 = 20
  · have h := ip e_10 h
    refine lv_tableIn (off := 69) (tgt := 92) hx hb dX3_statement_23 (by rw [e_10]; decide) (by rw [e_10]; decide) (by rw [e_10]; rfl) (by decide) ?_
    refine lv_aload_n hx hb dX3_statement_92 rfl (lv_at hl 1 rfl) ?_
    refine lv_iload_n hx hb dX3_statement_93 rfl (lv_at hl 0 rfl) ?_
    obtain ⟨y_12, u_11, h_u_11, h⟩ := bt_of h
    refine kc_X3_loop X hrec  hS h_u_11 hFd hLd hC hl.1 (Nat.le_of_ble_eq_true rfl) dX3_statement_94 (fun r_u_11 hr_u_11 H locs hS => ?_) (fun x9 hn H locs q9 ce hS a1 a2 a3 => by obtain ⟨e2, rfl⟩ := bt_no h hn; exact hX _ e2 _ _ _ _ _ _ _ hS a1 a2 a3)
    replace h := bt_ok h hr_u_11
    refine lv_goto (tgt := 196) hx hb dX3_statement_97 (by decide) ?_
    obtain ⟨e9, rfl⟩ := so9 h
    exact hE _ e9.symm _ _ _ _ hS dX3_statement_196
  have h := im e_10 h
  by_cases e_13 : r_6 = 21
  · have h := ip e_13 h
    refine lv_tableIn (off := 77) (tgt := 100) hx hb dX3_statement_23 (by rw [e_13]; decide) (by rw [e_13]; decide) (by rw [e_13]; rfl) (by decide) ?_
    refine lv_aload_n hx hb dX3_statement_100 rfl (lv_at hl 1 rfl) ?_
    refine lv_iload_n hx hb dX3_statement_101 rfl (lv_at hl 0 rfl) ?_
    obtain ⟨y_15, u_14, h_u_14, h⟩ := bt_of h
    refine kc_X3_counted X hrec  hS h_u_14 hFd hLd hC hl.1 (Nat.le_of_ble_eq_true rfl) dX3_statement_102 (fun r_u_14 hr_u_14 H locs hS => ?_) (fun x9 hn H locs q9 ce hS a1 a2 a3 => by obtain ⟨e2, rfl⟩ := bt_no h hn; exact hX _ e2 _ _ _ _ _ _ _ hS a1 a2 a3)
    replace h := bt_ok h hr_u_14
    refine lv_goto (tgt := 196) hx hb dX3_statement_105 (by decide) ?_
    obtain ⟨e9, rfl⟩ := so9 h
    exact hE _ e9.symm _ _ _ _ hS dX3_statement_196
  have h := im e_13 h
  by_cases e_16 : r_6 = 22
  · have h := ip e_16 h
    refine lv_tableIn (off := 85) (tgt := 108) hx hb dX3_statement_23 (by rw [e_16]; decide) (by rw [e_16]; decide) (by rw [e_16]; rfl) (by decide) ?_
    refine lv_aload_n hx hb dX3_statement_108 rfl (lv_at hl 1 rfl) ?_
    refine lv_iload_n hx hb dX3_statement_109 rfl (lv_at hl 0 rfl) ?_
    obtain ⟨y_18, u_17, h_u_17, h⟩ := bt_of h
    refine kc_X3_cases X hrec  hS h_u_17 hFd hLd hC hl.1 (Nat.le_of_ble_eq_true rfl) dX3_statement_110 (fun r_u_17 hr_u_17 H locs hS => ?_) (fun x9 hn H locs q9 ce hS a1 a2 a3 => by obtain ⟨e2, rfl⟩ := bt_no h hn; exact hX _ e2 _ _ _ _ _ _ _ hS a1 a2 a3)
    replace h := bt_ok h hr_u_17
    refine lv_goto (tgt := 196) hx hb dX3_statement_113 (by decide) ?_
    obtain ⟨e9, rfl⟩ := so9 h
    exact hE _ e9.symm _ _ _ _ hS dX3_statement_196
  have h := im e_16 h
  by_cases e_19 : r_6 = 25
  · have h := ip e_19 h
    refine lv_tableIn (off := 93) (tgt := 116) hx hb dX3_statement_23 (by rw [e_19]; decide) (by rw [e_19]; decide) (by rw [e_19]; rfl) (by decide) ?_
    refine lv_aload_n hx hb dX3_statement_116 rfl (lv_at hl 1 rfl) ?_
    refine lv_iload_n hx hb dX3_statement_117 rfl (lv_at hl 0 rfl) ?_
    obtain ⟨y_21, u_20, h_u_20, h⟩ := bt_of h
    refine kc_X3_leave_RX3 hst X  hS h_u_20 (Nat.le_trans (Nat.le_of_ble_eq_true rfl) hF) (Nat.le_trans (Nat.le_of_ble_eq_true rfl) hL) hC hl.1 (Nat.le_of_ble_eq_true rfl) dX3_statement_118 (fun r_u_20 hr_u_20 H locs hS => ?_) (fun x9 hn H locs q9 ce hS a1 a2 a3 => by obtain ⟨e2, rfl⟩ := bt_no h hn; exact hX _ e2 _ _ _ _ _ _ _ hS a1 a2 a3)
    replace h := bt_ok h hr_u_20
    refine lv_goto (tgt := 196) hx hb dX3_statement_121 (by decide) ?_
    obtain ⟨e9, rfl⟩ := so9 h
    exact hE _ e9.symm _ _ _ _ hS dX3_statement_196
  have h := im e_19 h
  by_cases e_22 : r_6 = 26
  · have h := ip e_22 h
    refine lv_tableIn (off := 93) (tgt := 116) hx hb dX3_statement_23 (by rw [e_22]; decide) (by rw [e_22]; decide) (by rw [e_22]; rfl) (by decide) ?_
    refine lv_aload_n hx hb dX3_statement_116 rfl (lv_at hl 1 rfl) ?_
    refine lv_iload_n hx hb dX3_statement_117 rfl (lv_at hl 0 rfl) ?_
    obtain ⟨y_24, u_23, h_u_23, h⟩ := bt_of h
    refine kc_X3_leave_RX3 hst X  hS h_u_23 (Nat.le_trans (Nat.le_of_ble_eq_true rfl) hF) (Nat.le_trans (Nat.le_of_ble_eq_true rfl) hL) hC hl.1 (Nat.le_of_ble_eq_true rfl) dX3_statement_118 (fun r_u_23 hr_u_23 H locs hS => ?_) (fun x9 hn H locs q9 ce hS a1 a2 a3 => by obtain ⟨e2, rfl⟩ := bt_no h hn; exact hX _ e2 _ _ _ _ _ _ _ hS a1 a2 a3)
    replace h := bt_ok h hr_u_23
    refine lv_goto (tgt := 196) hx hb dX3_statement_121 (by decide) ?_
    obtain ⟨e9, rfl⟩ := so9 h
    exact hE _ e9.symm _ _ _ _ hS dX3_statement_196
  have h := im e_22 h
  by_cases e_25 : r_6 = 27
  · have h := ip e_25 h
    refine lv_tableIn (off := 101) (tgt := 124) hx hb dX3_statement_23 (by rw [e_25]; decide) (by rw [e_25]; decide) (by rw [e_25]; rfl) (by decide) ?_
    refine lv_aload_n hx hb dX3_statement_124 rfl (lv_at hl 1 rfl) ?_
    refine lv_iload_n hx hb dX3_statement_125 rfl (lv_at hl 0 rfl) ?_
    obtain ⟨y_27, u_26, h_u_26, h⟩ := bt_of h
    refine kc_X3_returned_RX3 hst X  hS h_u_26 (Nat.le_trans (Nat.le_of_ble_eq_true rfl) hF) (Nat.le_trans (Nat.le_of_ble_eq_true rfl) hL) hC hl.1 (Nat.le_of_ble_eq_true rfl) dX3_statement_126 (fun r_u_26 hr_u_26 H locs hS => ?_) (fun x9 hn H locs q9 ce hS a1 a2 a3 => by obtain ⟨e2, rfl⟩ := bt_no h hn; exact hX _ e2 _ _ _ _ _ _ _ hS a1 a2 a3)
    replace h := bt_ok h hr_u_26
    refine lv_goto (tgt := 196) hx hb dX3_statement_129 (by decide) ?_
    obtain ⟨e9, rfl⟩ := so9 h
    exact hE _ e9.symm _ _ _ _ hS dX3_statement_196
  have h := im e_25 h
  by_cases e_28 : r_6 = 28
  · have h := ip e_28 h
    refine lv_tableIn (off := 109) (tgt := 132) hx hb dX3_statement_23 (by rw [e_28]; decide) (by rw [e_28]; decide) (by rw [e_28]; rfl) (by decide) ?_
    refine lv_aload_n hx hb dX3_statement_132 rfl (lv_at hl 1 rfl) ?_
    refine cg_X3_15 X hS dX3_statement_133 ?_
    obtain ⟨r_u_29, u_29, h_u_29, h⟩ := bc_of h
    refine kc_X9_next_RX3 X  hS h_u_29 (Nat.le_trans (Nat.le_of_ble_eq_true rfl) hF) (Nat.le_trans (Nat.le_of_ble_eq_true rfl) hL) hl.1 (Nat.le_of_ble_eq_true rfl) dX3_statement_136 (fun H locs hS => ?_)
    refine lv_aload_n hx hb dX3_statement_139 rfl (lv_at hl 1 rfl) ?_
    refine cg_X3_28 X hS dX3_statement_140 ?_
    obtain ⟨y_32, u_30, h_u_30, h⟩ := bt_of h
    refine kg_X8_expression_RX3 hst X  hS h_u_30 (Nat.le_trans (Nat.le_of_ble_eq_true rfl) hF) (Nat.le_trans (Nat.le_of_ble_eq_true rfl) hL) hC hl.1 (Nat.le_of_ble_eq_true rfl) dX3_statement_143 (fun r_31 hr_u_30 H locs hS => ?_) (fun x9 hn H locs q9 ce hS a1 a2 a3 => by obtain ⟨e2, rfl⟩ := bt_no h hn; exact hX _ e2 _ _ _ _ _ _ _ hS a1 a2 a3)
    replace h := bt_ok h hr_u_30
    refine lv_pop hx hb dX3_statement_146 rfl ?_
    refine lv_aload_n hx hb dX3_statement_147 rfl (lv_at hl 1 rfl) ?_
    refine cg_X3_19 X hS dX3_statement_148 ?_
    obtain ⟨z_33, h⟩ := ok_of h
    refine lv_bipush (v := 41) hx hb dX3_statement_151 (by decide) ?_
    refine lv_iconst (v := 0) hx hb dX3_statement_153 (by decide) ?_
    refine lv_iconst (v := 0) hx hb dX3_statement_154 (by decide) ?_
    refine lv_iload_n hx hb dX3_statement_155 rfl (lv_at hl 0 rfl) ?_
    obtain ⟨r_35, u_34, h_u_34, h⟩ := bc_of h
    refine kc_X6_step_RX3 X z_33 hS h_u_34 (Nat.le_trans (Nat.le_of_ble_eq_true rfl) hF) (Nat.le_trans (Nat.le_of_ble_eq_true rfl) hL) hl.1 (Nat.le_of_ble_eq_true rfl) dX3_statement_156 (fun H locs hS => ?_)
    refine lv_pop hx hb dX3_statement_159 rfl ?_
    refine lv_aload_n hx hb dX3_statement_160 rfl (lv_at hl 1 rfl) ?_
    refine cg_X3_15 X hS dX3_statement_161 ?_
    obtain ⟨r_u_36, u_36, h_u_36, h⟩ := bc_of h
    refine kc_X9_next_RX3 X  hS h_u_36 (Nat.le_trans (Nat.le_of_ble_eq_true rfl) hF) (Nat.le_trans (Nat.le_of_ble_eq_true rfl) hL) hl.1 (Nat.le_of_ble_eq_true rfl) dX3_statement_164 (fun H locs hS => ?_)
    refine lv_goto (tgt := 196) hx hb dX3_statement_167 (by decide) ?_
    obtain ⟨e9, rfl⟩ := so9 h
    exact hE _ e9.symm _ _ _ _ hS dX3_statement_196
  have h := im e_28 h
  refine lv_tableDef (tgt := 170) hx hb dX3_statement_23 (by decide) (fun off h1 h2 ho => by
    have hI : (r_6).toInt = 17 ∨ (r_6).toInt = 18 ∨ (r_6).toInt = 19 ∨ (r_6).toInt = 20 ∨ (r_6).toInt = 21 ∨ (r_6).toInt = 22 ∨ (r_6).toInt = 23 ∨ (r_6).toInt = 24 ∨ (r_6).toInt = 25 ∨ (r_6).toInt = 26 ∨ (r_6).toInt = 27 ∨ (r_6).toInt = 28 := by omega
    rcases hI with q | q | q | q | q | q | q | q | q | q | q | q
    · exact absurd (Int32.toInt_inj.mp (q.trans (by decide))) e_7
    · rw [q] at ho; simpa using ho
    · rw [q] at ho; simpa using ho
    · exact absurd (Int32.toInt_inj.mp (q.trans (by decide))) e_10
    · exact absurd (Int32.toInt_inj.mp (q.trans (by decide))) e_13
    · exact absurd (Int32.toInt_inj.mp (q.trans (by decide))) e_16
    · rw [q] at ho; simpa using ho
    · rw [q] at ho; simpa using ho
    · exact absurd (Int32.toInt_inj.mp (q.trans (by decide))) e_19
    · exact absurd (Int32.toInt_inj.mp (q.trans (by decide))) e_22
    · exact absurd (Int32.toInt_inj.mp (q.trans (by decide))) e_25
    · exact absurd (Int32.toInt_inj.mp (q.trans (by decide))) e_28) (by decide) ?_
  refine lv_aload_n hx hb dX3_statement_170 rfl (lv_at hl 1 rfl) ?_
  refine cg_X3_15 X hS dX3_statement_171 ?_
  refine lv_iconst (v := 1) hx hb dX3_statement_174 (by decide) ?_
  obtain ⟨r_38, u_37, h_u_37, h⟩ := bc_of h
  refine kc_X9_typeAhead_RX3 X  hS h_u_37 (Nat.le_trans (Nat.le_of_ble_eq_true rfl) hF) (Nat.le_trans (Nat.le_of_ble_eq_true rfl) hL) hl.1 (Nat.le_of_ble_eq_true rfl) dX3_statement_175 (fun H locs hS => ?_)
  refine lv_bipush (v := 40) hx hb dX3_statement_178 (by decide) ?_
  refine lv_icmp_ne (tgt := 191) hx hb dX3_statement_180 (by decide) (fun c_39 => ?_) (fun c_39 => ?_)
  · have h := im (c_39) h
    refine lv_aload_n hx hb dX3_statement_191 rfl (lv_at hl 1 rfl) ?_
    refine lv_iload_n hx hb dX3_statement_192 rfl (lv_at hl 0 rfl) ?_
    obtain ⟨y_41, u_40, h_u_40, h⟩ := bt_of h
    refine kc_X3_assignment_RX3 hst X  hS h_u_40 (Nat.le_trans (Nat.le_of_ble_eq_true rfl) hF) (Nat.le_trans (Nat.le_of_ble_eq_true rfl) hL) hC hl.1 (Nat.le_of_ble_eq_true rfl) dX3_statement_193 (fun r_u_40 hr_u_40 H locs hS => ?_) (fun x9 hn H locs q9 ce hS a1 a2 a3 => by obtain ⟨e2, rfl⟩ := bt_no h hn; exact hX _ e2 _ _ _ _ _ _ _ hS a1 a2 a3)
    replace h := bt_ok h hr_u_40
    obtain ⟨e9, rfl⟩ := so9 h
    exact hE _ e9.symm _ _ _ _ hS dX3_statement_196
  · have h := ip (c_39) h
    refine lv_aload_n hx hb dX3_statement_183 rfl (lv_at hl 1 rfl) ?_
    refine lv_iload_n hx hb dX3_statement_184 rfl (lv_at hl 0 rfl) ?_
    obtain ⟨y_43, u_42, h_u_42, h⟩ := bt_of h
    refine kc_X3_instanceCall_RX3 hst X  hS h_u_42 (Nat.le_trans (Nat.le_of_ble_eq_true rfl) hF) (Nat.le_trans (Nat.le_of_ble_eq_true rfl) hL) hC hl.1 (Nat.le_of_ble_eq_true rfl) dX3_statement_185 (fun r_u_42 hr_u_42 H locs hS => ?_) (fun x9 hn H locs q9 ce hS a1 a2 a3 => by obtain ⟨e2, rfl⟩ := bt_no h hn; exact hX _ e2 _ _ _ _ _ _ _ hS a1 a2 a3)
    replace h := bt_ok h hr_u_42
    refine lv_goto (tgt := 196) hx hb dX3_statement_188 (by decide) ?_
    obtain ⟨e9, rfl⟩ := so9 h
    exact hE _ e9.symm _ _ _ _ hS dX3_statement_196
def F_X3_statement (N : Nat) (ro : Nat → Nat → Int32 → Int32 → CSt → Option (Sum Nat Int32 × CSt)) (u : CSt) : Option ((Sum Nat Int32) × CSt) := B_X3_statement_0 N ro u
set_option maxHeartbeats 4000000 in
theorem k_X3_statement (l : Launch) (hst : l.stackTraces = false) (D : va_G) (kA : Nat → ClassId) (V Z : Nat → Nat) (N : Nat) {d : Nat} (ro : Nat → Nat → Int32 → Int32 → CSt → Option (Sum Nat Int32 × CSt)) (hrec : RecOK_MS l D kA V Z d ro) (u : CSt) (sz : Nat) {y : (Sum Nat Int32)} {w : CSt} (h : F_X3_statement N ro u = some (y, w)) : vx_Met l yX3_statement (Cond.code yX3_statement cX3_statement 2 none :: GW) { frames := d + 1 + 340, cells := 1, slots := 6, locals := 60 * (d + 1) + 20000 } (cPc D kA V Z [.ref (Z 227)] u sz) (cQvx D kA Z u sz y w) (cXc D kA Z u sz y w) 1 6 (va_A (CW kA Z u) sz) := by
  refine vx_ofW (cc := cX3_statement) (maxL := 2) (ret := none) (by decide) rfl ?_
  intro p e s m args below meth c s₁ Bd hml hxt hv
  obtain ⟨rfl, hsz, hP, hK, hD0, hE⟩ := hv
  have hts := atoms_spec (ws := Cond.code yX3_statement cX3_statement 2 none :: GW) Bd.pre
  have hl := lv_entry ([.ref (Z 227)]) (n := 2) (Nat.le_of_ble_eq_true rfl)
  rw [lg_entry_eq]
  generalize (lg_sl ([.ref (Z 227)]) ++ List.replicate (2 - (lg_sl ([.ref (Z 227)])).length) Slot.unset).toArray = ls at hl ⊢
  have hl : lv_has ls 2 [(0, .ref (Z 227))] := hl
  subst hsz
  have X : CC p s m ([.ref (Z 227)]).toArray c cX3_statement 2 (Cond.code yX3_statement cX3_statement 2 none) RX3 D kA V (va_A (CW kA Z u) s.heap.size) := ⟨⟨Bd.exec, Bd.bytes, hml, findClass_of_methodNamed Bd.named, hts⟩, hK, hE, fun q h => Or.inr h⟩
  refine b_X3_statement_0 X (cend_vx X Bd.returns Bd.notSynchronized) hst (cend_X X hxt Bd.notSynchronized) ⟨Nat.le_refl _, Nat.le_refl _⟩ (Nat.le_trans (Nat.le_of_ble_eq_true rfl) (Nat.le_add_left 340 _)) (Nat.le_trans (Nat.le_of_ble_eq_true rfl) (Nat.le_add_left 20000 _)) hrec (Nat.le_refl _) (Nat.le_refl _) h  ⟨hP, hD0.self, va_S.rf⟩ (lv_sub hl [0] rfl)
def B_X3_choice_113 (N : Nat) (ro : Nat → Nat → Int32 → Int32 → CSt → Option (Sum Nat Int32 × CSt)) (l2 : Int32) (u : CSt) : Option ((Sum Nat Int32) × CSt) := ok (cR u 2 < 2) inferInstance <| bc (F_X6_land N (cR u 2) l2 u) fun _ u_2 => some (.inr 0, u_2)
set_option maxHeartbeats 4000000 in
theorem b_X3_choice_113 {y : (Sum Nat Int32)} {ro : Nat → Nat → Int32 → Int32 → CSt → Option (Sum Nat Int32 × CSt)} (X : CC p s m args c cX3_choice 6 (Cond.code yX3_choice cX3_choice 6 none) RX3 D kA V A) (hE : CEvx p l e R s m args below meth c cX3_choice D kA Z A Q y w) (hst : l.stackTraces = false) (hX : CX p l e R s m args below meth c D kA Z A Q y w) (hC : 1 ≤ R.cells ∧ 6 ≤ R.slots) (hF : 321 ≤ R.frames) (hL : 18726 ≤ R.locals) (hrec : RecOK_MS l D kA V Z d ro) (hFd : d + 1 + 340 ≤ R.frames) (hLd : 60 * (d + 1) + 20000 ≤ R.locals) {l2 : Int32} {u : CSt}  (h : B_X3_choice_113 N ro l2 u = some (y, w))  (hS : CS D kA Z A s u H locs) (hl : lv_has ls 6 [(0, .ref (Z 227)), (2, .int l2)]) : W p l e R s m args below meth c H locs 0 0 Q (F0 m 113 ls []) := by
  obtain ⟨⟨hx, hb, hml, hown, hts⟩, hK, hEV, hA⟩ := id X
  have hG : ∀ w ∈ GW, w.before args s = true := fun w h => hts w (List.mem_cons_of_mem _ h)
  unfold B_X3_choice_113 at h
  refine lv_aload_n hx hb dX3_choice_113 rfl (lv_at hl 0 rfl) ?_
  refine cg_X3_19 X hS dX3_choice_114 ?_
  obtain ⟨z_1, h⟩ := ok_of h
  refine lv_iload_n hx hb dX3_choice_117 rfl (lv_at hl 1 rfl) ?_
  obtain ⟨r_u_2, u_2, h_u_2, h⟩ := bc_of h
  refine kc_X6_land_RX3 X z_1 hS h_u_2 (Nat.le_trans (Nat.le_of_ble_eq_true rfl) hF) (Nat.le_trans (Nat.le_of_ble_eq_true rfl) hL) hl.1 (Nat.le_of_ble_eq_true rfl) dX3_choice_118 (fun H locs hS => ?_)
  obtain ⟨e9, rfl⟩ := so9 h
  exact hE _ e9.symm _ _ _ _ hS dX3_choice_121
def B_X3_choice_90 (N : Nat) (ro : Nat → Nat → Int32 → Int32 → CSt → Option (Sum Nat Int32 × CSt)) (l2 : Int32) (u : CSt) : Option ((Sum Nat Int32) × CSt) := bc (F_X9_is N 19 u) fun r_4 u_3 => if r_4 = (0 : Int32) then (B_X3_choice_113 N ro l2 u_3) else (bc (F_X9_next N u_3) fun _ u_6 => bt (ro 0 0 0 0 u_6) fun _ u_7 => B_X3_choice_113 N ro l2 u_7)
set_option maxHeartbeats 4000000 in
theorem b_X3_choice_90 {y : (Sum Nat Int32)} {ro : Nat → Nat → Int32 → Int32 → CSt → Option (Sum Nat Int32 × CSt)} (X : CC p s m args c cX3_choice 6 (Cond.code yX3_choice cX3_choice 6 none) RX3 D kA V A) (hE : CEvx p l e R s m args below meth c cX3_choice D kA Z A Q y w) (hst : l.stackTraces = false) (hX : CX p l e R s m args below meth c D kA Z A Q y w) (hC : 1 ≤ R.cells ∧ 6 ≤ R.slots) (hF : 321 ≤ R.frames) (hL : 18726 ≤ R.locals) (hrec : RecOK_MS l D kA V Z d ro) (hFd : d + 1 + 340 ≤ R.frames) (hLd : 60 * (d + 1) + 20000 ≤ R.locals) {l2 : Int32} {u : CSt}  (h : B_X3_choice_90 N ro l2 u = some (y, w))  (hS : CS D kA Z A s u H locs) (hl : lv_has ls 6 [(0, .ref (Z 227)), (2, .int l2)]) : W p l e R s m args below meth c H locs 0 0 Q (F0 m 90 ls []) := by
  obtain ⟨⟨hx, hb, hml, hown, hts⟩, hK, hEV, hA⟩ := id X
  have hG : ∀ w ∈ GW, w.before args s = true := fun w h => hts w (List.mem_cons_of_mem _ h)
  unfold B_X3_choice_90 at h
  refine lv_aload_n hx hb dX3_choice_90 rfl (lv_at hl 0 rfl) ?_
  refine cg_X3_15 X hS dX3_choice_91 ?_
  refine lv_bipush (v := 19) hx hb dX3_choice_94 (by decide) ?_
  obtain ⟨r_4, u_3, h_u_3, h⟩ := bc_of h
  refine kc_X9_is_RX3 X  hS h_u_3 (Nat.le_trans (Nat.le_of_ble_eq_true rfl) hF) (Nat.le_trans (Nat.le_of_ble_eq_true rfl) hL) hl.1 (Nat.le_of_ble_eq_true rfl) dX3_choice_96 (fun H locs hS => ?_)
  refine lv_if_eq (tgt := 113) hx hb dX3_choice_99 (by decide) (fun c_5 => ?_) (fun c_5 => ?_)
  · have h := ip (c_5) h
    exact b_X3_choice_113 X hE hst hX hC hF hL hrec hFd hLd h  hS (lv_sub hl [0, 1] rfl)
  · have h := im (c_5) h
    refine lv_aload_n hx hb dX3_choice_102 rfl (lv_at hl 0 rfl) ?_
    refine cg_X3_15 X hS dX3_choice_103 ?_
    obtain ⟨r_u_6, u_6, h_u_6, h⟩ := bc_of h
    refine kc_X9_next_RX3 X  hS h_u_6 (Nat.le_trans (Nat.le_of_ble_eq_true rfl) hF) (Nat.le_trans (Nat.le_of_ble_eq_true rfl) hL) hl.1 (Nat.le_of_ble_eq_true rfl) dX3_choice_106 (fun H locs hS => ?_)
    refine lv_aload_n hx hb dX3_choice_109 rfl (lv_at hl 0 rfl) ?_
    obtain ⟨y_8, u_7, h_u_7, h⟩ := bt_of h
    refine kc_X3_body X hrec  hS h_u_7 hFd hLd hC hl.1 (Nat.le_of_ble_eq_true rfl) dX3_choice_110 (fun r_u_7 hr_u_7 H locs hS => ?_) (fun x9 hn H locs q9 ce hS a1 a2 a3 => by obtain ⟨e2, rfl⟩ := bt_no h hn; exact hX _ e2 _ _ _ _ _ _ _ hS a1 a2 a3)
    replace h := bt_ok h hr_u_7
    exact b_X3_choice_113 X hE hst hX hC hF hL hrec hFd hLd h  hS (lv_sub hl [0, 1] rfl)
def B_X3_choice_7 (N : Nat) (ro : Nat → Nat → Int32 → Int32 → CSt → Option (Sum Nat Int32 × CSt)) (R_7 : Int32 × Int32 × Int32 × Int32 × CSt → Option ((Sum Nat Int32) × CSt)) (l1 : Int32) (l2 : Int32) (l3 : Int32) (l4 : Int32) (u : CSt) : Option ((Sum Nat Int32) × CSt) := if (1500 : Int32) ≤ l4 then (B_X3_choice_90 N ro l2 u) else (if l3 = (0 : Int32) then (B_X3_choice_90 N ro l2 u) else (bc (F_X9_next N u) fun _ u_11 => bt (G_X8_expression N u_11) fun r_13 u_12 => ok (cR u_12 2 < 2) inferInstance <| bc (F_X6_step N (cR u_12 2) 31 (-1) 0 l1 u_12) fun r_17 u_16 => bt (ro 0 0 0 0 u_16) fun _ u_18 => ok (cR u_18 2 < 2) inferInstance <| bc (F_X6_step N (cR u_18 2) 30 l2 0 l1 u_18) fun r_22 u_21 => ok (cR u_21 2 < 2) inferInstance <| bc (F_X6_land N (cR u_21 2) r_17 u_21) fun _ u_24 => bc (F_X9_is N 18 u_24) fun r_26 u_25 => R_7 (l1, r_22, r_26, (l4 + 1), u_25)))
set_option maxHeartbeats 4000000 in
theorem b_X3_choice_7 {y : (Sum Nat Int32)} {ro : Nat → Nat → Int32 → Int32 → CSt → Option (Sum Nat Int32 × CSt)} (X : CC p s m args c cX3_choice 6 (Cond.code yX3_choice cX3_choice 6 none) RX3 D kA V A) (hE : CEvx p l e R s m args below meth c cX3_choice D kA Z A Q y w) (hst : l.stackTraces = false) (hX : CX p l e R s m args below meth c D kA Z A Q y w) (hC : 1 ≤ R.cells ∧ 6 ≤ R.slots) (hF : 321 ≤ R.frames) (hL : 18726 ≤ R.locals) (hrec : RecOK_MS l D kA V Z d ro) (hFd : d + 1 + 340 ≤ R.frames) (hLd : 60 * (d + 1) + 20000 ≤ R.locals) {R_7 : Int32 × Int32 × Int32 × Int32 × CSt → Option ((Sum Nat Int32) × CSt)} {l1 : Int32} {l2 : Int32} {l3 : Int32} {l4 : Int32} {u : CSt} (hR_7 : ∀ (l1 : Int32) (l2 : Int32) (l3 : Int32) (l4 : Int32) (u : CSt), R_7 (l1, l2, l3, l4, u) = some (y, w) → ∀ (H : Heap) (locs : List Loc) (ls : Array Slot), CS D kA Z A s u H locs → lv_has ls 6 [(0, .ref (Z 227)), (1, .int l1), (2, .int l2), (3, .int l3), (4, .int l4)] → W p l e R s m args below meth c H locs 0 0 Q (F0 m 7 ls [])) (h : B_X3_choice_7 N ro R_7 l1 l2 l3 l4 u = some (y, w))  (hS : CS D kA Z A s u H locs) (hl : lv_has ls 6 [(0, .ref (Z 227)), (1, .int l1), (2, .int l2), (3, .int l3), (4, .int l4)]) : W p l e R s m args below meth c H locs 0 0 Q (F0 m 7 ls []) := by
  obtain ⟨⟨hx, hb, hml, hown, hts⟩, hK, hEV, hA⟩ := id X
  have hG : ∀ w ∈ GW, w.before args s = true := fun w h => hts w (List.mem_cons_of_mem _ h)
  unfold B_X3_choice_7 at h
  refine lv_iload hx hb dX3_choice_7 (lv_at hl 4 rfl) ?_
  refine lv_sipush (v := 1500) hx hb dX3_choice_9 (by decide) ?_
  refine lv_icmp_ge (tgt := 90) hx hb dX3_choice_12 (by decide) (fun c_9 => ?_) (fun c_9 => ?_)
  · have h := ip (c_9) h
    exact b_X3_choice_90 X hE hst hX hC hF hL hrec hFd hLd h  hS (lv_sub hl [0, 2] rfl)
  · have h := im (c_9) h
    refine lv_iload_n hx hb dX3_choice_15 rfl (lv_at hl 3 rfl) ?_
    refine lv_if_eq (tgt := 90) hx hb dX3_choice_16 (by decide) (fun c_10 => ?_) (fun c_10 => ?_)
    · have h := ip (c_10) h
      exact b_X3_choice_90 X hE hst hX hC hF hL hrec hFd hLd h  hS (lv_sub hl [0, 2] rfl)
    · have h := im (c_10) h
      refine lv_aload_n hx hb dX3_choice_19 rfl (lv_at hl 0 rfl) ?_
      refine cg_X3_15 X hS dX3_choice_20 ?_
      obtain ⟨r_u_11, u_11, h_u_11, h⟩ := bc_of h
      refine kc_X9_next_RX3 X  hS h_u_11 (Nat.le_trans (Nat.le_of_ble_eq_true rfl) hF) (Nat.le_trans (Nat.le_of_ble_eq_true rfl) hL) hl.1 (Nat.le_of_ble_eq_true rfl) dX3_choice_23 (fun H locs hS => ?_)
      refine lv_aload_n hx hb dX3_choice_26 rfl (lv_at hl 0 rfl) ?_
      refine cg_X3_28 X hS dX3_choice_27 ?_
      obtain ⟨y_14, u_12, h_u_12, h⟩ := bt_of h
      refine kg_X8_expression_RX3 hst X  hS h_u_12 (Nat.le_trans (Nat.le_of_ble_eq_true rfl) hF) (Nat.le_trans (Nat.le_of_ble_eq_true rfl) hL) hC hl.1 (Nat.le_of_ble_eq_true rfl) dX3_choice_30 (fun r_13 hr_u_12 H locs hS => ?_) (fun x9 hn H locs q9 ce hS a1 a2 a3 => by obtain ⟨e2, rfl⟩ := bt_no h hn; exact hX _ e2 _ _ _ _ _ _ _ hS a1 a2 a3)
      replace h := bt_ok h hr_u_12
      refine lv_pop hx hb dX3_choice_33 rfl ?_
      refine lv_aload_n hx hb dX3_choice_34 rfl (lv_at hl 0 rfl) ?_
      refine cg_X3_19 X hS dX3_choice_35 ?_
      obtain ⟨z_15, h⟩ := ok_of h
      refine lv_bipush (v := 31) hx hb dX3_choice_38 (by decide) ?_
      refine lv_iconst (v := (-1)) hx hb dX3_choice_40 (by decide) ?_
      refine lv_iconst (v := 0) hx hb dX3_choice_41 (by decide) ?_
      refine lv_iload_n hx hb dX3_choice_42 rfl (lv_at hl 1 rfl) ?_
      obtain ⟨r_17, u_16, h_u_16, h⟩ := bc_of h
      refine kc_X6_step_RX3 X z_15 hS h_u_16 (Nat.le_trans (Nat.le_of_ble_eq_true rfl) hF) (Nat.le_trans (Nat.le_of_ble_eq_true rfl) hL) hl.1 (Nat.le_of_ble_eq_true rfl) dX3_choice_43 (fun H locs hS => ?_)
      refine lv_istore (lv' := [(5, .int r_17), (0, .ref (Z 227)), (1, .int l1), (2, .int l2), (3, .int l3), (4, .int l4)]) hx hb dX3_choice_46 hl (by decide) rfl (fun ls hl => ?_)
      refine lv_aload_n hx hb dX3_choice_48 rfl (lv_at hl 1 rfl) ?_
      obtain ⟨y_19, u_18, h_u_18, h⟩ := bt_of h
      refine kc_X3_body X hrec  hS h_u_18 hFd hLd hC hl.1 (Nat.le_of_ble_eq_true rfl) dX3_choice_49 (fun r_u_18 hr_u_18 H locs hS => ?_) (fun x9 hn H locs q9 ce hS a1 a2 a3 => by obtain ⟨e2, rfl⟩ := bt_no h hn; exact hX _ e2 _ _ _ _ _ _ _ hS a1 a2 a3)
      replace h := bt_ok h hr_u_18
      refine lv_aload_n hx hb dX3_choice_52 rfl (lv_at hl 1 rfl) ?_
      refine cg_X3_19 X hS dX3_choice_53 ?_
      obtain ⟨z_20, h⟩ := ok_of h
      refine lv_bipush (v := 30) hx hb dX3_choice_56 (by decide) ?_
      refine lv_iload_n hx hb dX3_choice_58 rfl (lv_at hl 3 rfl) ?_
      refine lv_iconst (v := 0) hx hb dX3_choice_59 (by decide) ?_
      refine lv_iload_n hx hb dX3_choice_60 rfl (lv_at hl 2 rfl) ?_
      obtain ⟨r_22, u_21, h_u_21, h⟩ := bc_of h
      refine kc_X6_step_RX3 X z_20 hS h_u_21 (Nat.le_trans (Nat.le_of_ble_eq_true rfl) hF) (Nat.le_trans (Nat.le_of_ble_eq_true rfl) hL) hl.1 (Nat.le_of_ble_eq_true rfl) dX3_choice_61 (fun H locs hS => ?_)
      refine lv_istore_n (lv' := [(2, .int r_22), (5, .int r_17), (0, .ref (Z 227)), (1, .int l1), (3, .int l3), (4, .int l4)]) hx hb dX3_choice_64 rfl hl (by decide) rfl (fun ls hl => ?_)
      refine lv_aload_n hx hb dX3_choice_65 rfl (lv_at hl 2 rfl) ?_
      refine cg_X3_19 X hS dX3_choice_66 ?_
      obtain ⟨z_23, h⟩ := ok_of h
      refine lv_iload hx hb dX3_choice_69 (lv_at hl 1 rfl) ?_
      obtain ⟨r_u_24, u_24, h_u_24, h⟩ := bc_of h
      refine kc_X6_land_RX3 X z_23 hS h_u_24 (Nat.le_trans (Nat.le_of_ble_eq_true rfl) hF) (Nat.le_trans (Nat.le_of_ble_eq_true rfl) hL) hl.1 (Nat.le_of_ble_eq_true rfl) dX3_choice_71 (fun H locs hS => ?_)
      refine lv_aload_n hx hb dX3_choice_74 rfl (lv_at hl 2 rfl) ?_
      refine cg_X3_15 X hS dX3_choice_75 ?_
      refine lv_bipush (v := 18) hx hb dX3_choice_78 (by decide) ?_
      obtain ⟨r_26, u_25, h_u_25, h⟩ := bc_of h
      refine kc_X9_is_RX3 X  hS h_u_25 (Nat.le_trans (Nat.le_of_ble_eq_true rfl) hF) (Nat.le_trans (Nat.le_of_ble_eq_true rfl) hL) hl.1 (Nat.le_of_ble_eq_true rfl) dX3_choice_80 (fun H locs hS => ?_)
      refine lv_istore_n (lv' := [(3, .int r_26), (2, .int r_22), (5, .int r_17), (0, .ref (Z 227)), (1, .int l1), (4, .int l4)]) hx hb dX3_choice_83 rfl hl (by decide) rfl (fun ls hl => ?_)
      refine lv_iinc (v := l4 + 1) (lv' := [(4, .int (l4 + 1)), (3, .int r_26), (2, .int r_22), (5, .int r_17), (0, .ref (Z 227)), (1, .int l1)]) hx hb dX3_choice_84 hl (k := 5) rfl rfl (by decide) rfl (fun ls hl => ?_)
      refine lv_goto (tgt := 7) hx hb dX3_choice_87 (by decide) ?_
      exact hR_7 _ _ _ _ _  h _ _ _ hS (lv_sub hl [4, 5, 2, 1, 0] rfl)
def LP_X3_choice_7 (N : Nat) (ro : Nat → Nat → Int32 → Int32 → CSt → Option (Sum Nat Int32 × CSt)) : Nat → Int32 × Int32 × Int32 × Int32 × CSt → Option ((Sum Nat Int32) × CSt) := lp (fun R a => B_X3_choice_7 N ro R a.1 a.2.1 a.2.2.1 a.2.2.2.1 a.2.2.2.2)
theorem bl_X3_choice_7 {y : (Sum Nat Int32)} {ro : Nat → Nat → Int32 → Int32 → CSt → Option (Sum Nat Int32 × CSt)} (X : CC p s m args c cX3_choice 6 (Cond.code yX3_choice cX3_choice 6 none) RX3 D kA V A) (hE : CEvx p l e R s m args below meth c cX3_choice D kA Z A Q y w) (hst : l.stackTraces = false) (hX : CX p l e R s m args below meth c D kA Z A Q y w) (hC : 1 ≤ R.cells ∧ 6 ≤ R.slots) (hF : 321 ≤ R.frames) (hL : 18726 ≤ R.locals) (hrec : RecOK_MS l D kA V Z d ro) (hFd : d + 1 + 340 ≤ R.frames) (hLd : 60 * (d + 1) + 20000 ≤ R.locals)  : ∀ (n : Nat) (l1 : Int32) (l2 : Int32) (l3 : Int32) (l4 : Int32) (u : CSt), LP_X3_choice_7 N ro n (l1, l2, l3, l4, u) = some (y, w) → ∀ (H : Heap) (locs : List Loc) (ls : Array Slot), CS D kA Z A s u H locs → lv_has ls 6 [(0, .ref (Z 227)), (1, .int l1), (2, .int l2), (3, .int l3), (4, .int l4)] → W p l e R s m args below meth c H locs 0 0 Q (F0 m 7 ls []) := by
  intro n
  induction n with
  | zero => intro l1 l2 l3 l4 u h; exact nomatch h
  | succ n ih => intro l1 l2 l3 l4 u h H locs ls hS hl; exact b_X3_choice_7 (N := N) (R_7 := LP_X3_choice_7 N ro n) X hE hst hX hC hF hL hrec hFd hLd ih h  hS hl
def B_X3_choice_0 (N : Nat) (ro : Nat → Nat → Int32 → Int32 → CSt → Option (Sum Nat Int32 × CSt)) (l1 : Int32) (u : CSt) : Option ((Sum Nat Int32) × CSt) := LP_X3_choice_7 N ro N (l1, (-1), 1, 0, u)
set_option maxHeartbeats 4000000 in
theorem b_X3_choice_0 {y : (Sum Nat Int32)} {ro : Nat → Nat → Int32 → Int32 → CSt → Option (Sum Nat Int32 × CSt)} (X : CC p s m args c cX3_choice 6 (Cond.code yX3_choice cX3_choice 6 none) RX3 D kA V A) (hE : CEvx p l e R s m args below meth c cX3_choice D kA Z A Q y w) (hst : l.stackTraces = false) (hX : CX p l e R s m args below meth c D kA Z A Q y w) (hC : 1 ≤ R.cells ∧ 6 ≤ R.slots) (hF : 321 ≤ R.frames) (hL : 18726 ≤ R.locals) (hrec : RecOK_MS l D kA V Z d ro) (hFd : d + 1 + 340 ≤ R.frames) (hLd : 60 * (d + 1) + 20000 ≤ R.locals) {l1 : Int32} {u : CSt}  (h : B_X3_choice_0 N ro l1 u = some (y, w))  (hS : CS D kA Z A s u H locs) (hl : lv_has ls 6 [(0, .ref (Z 227)), (1, .int l1)]) : W p l e R s m args below meth c H locs 0 0 Q (F0 m 0 ls []) := by
  obtain ⟨⟨hx, hb, hml, hown, hts⟩, hK, hEV, hA⟩ := id X
  have hG : ∀ w ∈ GW, w.before args s = true := fun w h => hts w (List.mem_cons_of_mem _ h)
  unfold B_X3_choice_0 at h
  refine lv_iconst (v := (-1)) hx hb dX3_choice_0 (by decide) ?_
  refine lv_istore_n (lv' := [(2, .int (-1)), (0, .ref (Z 227)), (1, .int l1)]) hx hb dX3_choice_1 rfl hl (by decide) rfl (fun ls hl => ?_)
  refine lv_iconst (v := 1) hx hb dX3_choice_2 (by decide) ?_
  refine lv_istore_n (lv' := [(3, .int 1), (2, .int (-1)), (0, .ref (Z 227)), (1, .int l1)]) hx hb dX3_choice_3 rfl hl (by decide) rfl (fun ls hl => ?_)
  refine lv_iconst (v := 0) hx hb dX3_choice_4 (by decide) ?_
  refine lv_istore (lv' := [(4, .int 0), (3, .int 1), (2, .int (-1)), (0, .ref (Z 227)), (1, .int l1)]) hx hb dX3_choice_5 hl (by decide) rfl (fun ls hl => ?_)
  exact bl_X3_choice_7 X hE hst hX hC hF hL hrec hFd hLd _ _ _ _ _ _  h _ _ _ hS (lv_sub hl [3, 4, 2, 1, 0] rfl)
def F_X3_choice (N : Nat) (ro : Nat → Nat → Int32 → Int32 → CSt → Option (Sum Nat Int32 × CSt)) (l1 : Int32) (u : CSt) : Option ((Sum Nat Int32) × CSt) := B_X3_choice_0 N ro l1 u
set_option maxHeartbeats 4000000 in
theorem k_X3_choice (l : Launch) (hst : l.stackTraces = false) (D : va_G) (kA : Nat → ClassId) (V Z : Nat → Nat) (N : Nat) {d : Nat} (ro : Nat → Nat → Int32 → Int32 → CSt → Option (Sum Nat Int32 × CSt)) (hrec : RecOK_MS l D kA V Z d ro) (l1 : Int32) (u : CSt) (sz : Nat) {y : (Sum Nat Int32)} {w : CSt} (h : F_X3_choice N ro l1 u = some (y, w)) : vx_Met l yX3_choice (Cond.code yX3_choice cX3_choice 6 none :: GW) { frames := d + 1 + 340, cells := 1, slots := 6, locals := 60 * (d + 1) + 20000 } (cPc D kA V Z [.ref (Z 227), .int l1] u sz) (cQvx D kA Z u sz y w) (cXc D kA Z u sz y w) 1 6 (va_A (CW kA Z u) sz) := by
  refine vx_ofW (cc := cX3_choice) (maxL := 6) (ret := none) (by decide) rfl ?_
  intro p e s m args below meth c s₁ Bd hml hxt hv
  obtain ⟨rfl, hsz, hP, hK, hD0, hE⟩ := hv
  have hts := atoms_spec (ws := Cond.code yX3_choice cX3_choice 6 none :: GW) Bd.pre
  have hl := lv_entry ([.ref (Z 227), .int l1]) (n := 6) (Nat.le_of_ble_eq_true rfl)
  rw [lg_entry_eq]
  generalize (lg_sl ([.ref (Z 227), .int l1]) ++ List.replicate (6 - (lg_sl ([.ref (Z 227), .int l1])).length) Slot.unset).toArray = ls at hl ⊢
  have hl : lv_has ls 6 [(0, .ref (Z 227)), (1, .int l1)] := hl
  subst hsz
  have X : CC p s m ([.ref (Z 227), .int l1]).toArray c cX3_choice 6 (Cond.code yX3_choice cX3_choice 6 none) RX3 D kA V (va_A (CW kA Z u) s.heap.size) := ⟨⟨Bd.exec, Bd.bytes, hml, findClass_of_methodNamed Bd.named, hts⟩, hK, hE, fun q h => Or.inr h⟩
  refine b_X3_choice_0 X (cend_vx X Bd.returns Bd.notSynchronized) hst (cend_X X hxt Bd.notSynchronized) ⟨Nat.le_refl _, Nat.le_refl _⟩ (Nat.le_trans (Nat.le_of_ble_eq_true rfl) (Nat.le_add_left 340 _)) (Nat.le_trans (Nat.le_of_ble_eq_true rfl) (Nat.le_add_left 20000 _)) hrec (Nat.le_refl _) (Nat.le_refl _) h  ⟨hP, hD0.self, va_S.rf⟩ (lv_sub hl [0, 1] rfl)
def B_X3_loop_0 (N : Nat) (ro : Nat → Nat → Int32 → Int32 → CSt → Option (Sum Nat Int32 × CSt)) (l1 : Int32) (u : CSt) : Option ((Sum Nat Int32) × CSt) := bc (F_X9_next N u) fun _ u_1 => ok (cR u_1 2 < 2) inferInstance <| bt (G_X8_expression N u_1) fun r_4 u_3 => ok (cR u_3 2 < 2) inferInstance <| bc (F_X6_step N (cR u_3 2) 31 (-1) 0 l1 u_3) fun r_8 u_7 => pc (xI u_7 14 r_8) fun u_9 => bt (ro 5 0 l1 0 u_9) fun _ u_10 => ok (cR u_10 2 < 2) inferInstance <| bc (F_X6_step N (cR u_10 2) 30 (pI u_1 (cR u_1 2) 13) 0 l1 u_10) fun r_14 u_13 => ok (cR u_13 2 < 2) inferInstance <| bc (F_X6_land N (cR u_13 2) (cI u_13 14) u_13) fun _ u_16 => pc (xI u_16 14 (cI u_3 14)) fun u_17 => some (.inr 0, u_17)
set_option maxHeartbeats 4000000 in
theorem b_X3_loop_0 {y : (Sum Nat Int32)} {ro : Nat → Nat → Int32 → Int32 → CSt → Option (Sum Nat Int32 × CSt)} (X : CC p s m args c cX3_loop 4 (Cond.code yX3_loop cX3_loop 4 none) RX3 D kA V A) (hE : CEvx p l e R s m args below meth c cX3_loop D kA Z A Q y w) (hst : l.stackTraces = false) (hX : CX p l e R s m args below meth c D kA Z A Q y w) (hC : 1 ≤ R.cells ∧ 6 ≤ R.slots) (hF : 321 ≤ R.frames) (hL : 18726 ≤ R.locals) (hrec : RecOK_MS l D kA V Z d ro) (hFd : d + 1 + 340 ≤ R.frames) (hLd : 60 * (d + 1) + 20000 ≤ R.locals) {l1 : Int32} {u : CSt}  (h : B_X3_loop_0 N ro l1 u = some (y, w))  (hS : CS D kA Z A s u H locs) (hl : lv_has ls 4 [(0, .ref (Z 227)), (1, .int l1)]) : W p l e R s m args below meth c H locs 0 0 Q (F0 m 0 ls []) := by
  obtain ⟨⟨hx, hb, hml, hown, hts⟩, hK, hEV, hA⟩ := id X
  have hG : ∀ w ∈ GW, w.before args s = true := fun w h => hts w (List.mem_cons_of_mem _ h)
  unfold B_X3_loop_0 at h
  refine lv_aload_n hx hb dX3_loop_0 rfl (lv_at hl 0 rfl) ?_
  refine cg_X3_15 X hS dX3_loop_1 ?_
  obtain ⟨r_u_1, u_1, h_u_1, h⟩ := bc_of h
  refine kc_X9_next_RX3 X  hS h_u_1 (Nat.le_trans (Nat.le_of_ble_eq_true rfl) hF) (Nat.le_trans (Nat.le_of_ble_eq_true rfl) hL) hl.1 (Nat.le_of_ble_eq_true rfl) dX3_loop_4 (fun H locs hS => ?_)
  refine lv_aload_n hx hb dX3_loop_7 rfl (lv_at hl 0 rfl) ?_
  refine cg_X3_19 X hS dX3_loop_8 ?_
  obtain ⟨z_2, h⟩ := ok_of h
  refine cg_X3_227 X z_2 hS dX3_loop_11 ?_
  refine lv_istore_n (lv' := [(2, .int (pI u_1 (cR u_1 2) 13)), (0, .ref (Z 227)), (1, .int l1)]) hx hb dX3_loop_14 rfl hl (by decide) rfl (fun ls hl => ?_)
  refine lv_aload_n hx hb dX3_loop_15 rfl (lv_at hl 1 rfl) ?_
  refine cg_X3_28 X hS dX3_loop_16 ?_
  obtain ⟨y_5, u_3, h_u_3, h⟩ := bt_of h
  refine kg_X8_expression_RX3 hst X  hS h_u_3 (Nat.le_trans (Nat.le_of_ble_eq_true rfl) hF) (Nat.le_trans (Nat.le_of_ble_eq_true rfl) hL) hC hl.1 (Nat.le_of_ble_eq_true rfl) dX3_loop_19 (fun r_4 hr_u_3 H locs hS => ?_) (fun x9 hn H locs q9 ce hS a1 a2 a3 => by obtain ⟨e2, rfl⟩ := bt_no h hn; exact hX _ e2 _ _ _ _ _ _ _ hS a1 a2 a3)
  replace h := bt_ok h hr_u_3
  refine lv_pop hx hb dX3_loop_22 rfl ?_
  refine lv_aload_n hx hb dX3_loop_23 rfl (lv_at hl 1 rfl) ?_
  refine cg_X3_54 X hS dX3_loop_24 ?_
  refine lv_istore_n (lv' := [(3, .int (cI u_3 14)), (2, .int (pI u_1 (cR u_1 2) 13)), (0, .ref (Z 227)), (1, .int l1)]) hx hb dX3_loop_27 rfl hl (by decide) rfl (fun ls hl => ?_)
  refine lv_aload_n hx hb dX3_loop_28 rfl (lv_at hl 2 rfl) ?_
  refine lv_aload_n hx hb dX3_loop_29 rfl (lv_at hl 2 rfl) ?_
  refine cg_X3_19 X hS dX3_loop_30 ?_
  obtain ⟨z_6, h⟩ := ok_of h
  refine lv_bipush (v := 31) hx hb dX3_loop_33 (by decide) ?_
  refine lv_iconst (v := (-1)) hx hb dX3_loop_35 (by decide) ?_
  refine lv_iconst (v := 0) hx hb dX3_loop_36 (by decide) ?_
  refine lv_iload_n hx hb dX3_loop_37 rfl (lv_at hl 3 rfl) ?_
  obtain ⟨r_8, u_7, h_u_7, h⟩ := bc_of h
  refine kc_X6_step_RX3 X z_6 hS h_u_7 (Nat.le_trans (Nat.le_of_ble_eq_true rfl) hF) (Nat.le_trans (Nat.le_of_ble_eq_true rfl) hL) hl.1 (Nat.le_of_ble_eq_true rfl) dX3_loop_38 (fun H locs hS => ?_)
  obtain ⟨u_9, e_u_9, h⟩ := pc_of h
  refine cp_X3_54 X hS e_u_9 dX3_loop_41 (fun H locs hS => ?_)
  refine lv_aload_n hx hb dX3_loop_44 rfl (lv_at hl 2 rfl) ?_
  refine lv_iload_n hx hb dX3_loop_45 rfl (lv_at hl 3 rfl) ?_
  obtain ⟨y_11, u_10, h_u_10, h⟩ := bt_of h
  refine kc_X3_round X hrec  hS h_u_10 hFd hLd hC hl.1 (Nat.le_of_ble_eq_true rfl) dX3_loop_46 (fun r_u_10 hr_u_10 H locs hS => ?_) (fun x9 hn H locs q9 ce hS a1 a2 a3 => by obtain ⟨e2, rfl⟩ := bt_no h hn; exact hX _ e2 _ _ _ _ _ _ _ hS a1 a2 a3)
  replace h := bt_ok h hr_u_10
  refine lv_aload_n hx hb dX3_loop_49 rfl (lv_at hl 2 rfl) ?_
  refine cg_X3_19 X hS dX3_loop_50 ?_
  obtain ⟨z_12, h⟩ := ok_of h
  refine lv_bipush (v := 30) hx hb dX3_loop_53 (by decide) ?_
  refine lv_iload_n hx hb dX3_loop_55 rfl (lv_at hl 1 rfl) ?_
  refine lv_iconst (v := 0) hx hb dX3_loop_56 (by decide) ?_
  refine lv_iload_n hx hb dX3_loop_57 rfl (lv_at hl 3 rfl) ?_
  obtain ⟨r_14, u_13, h_u_13, h⟩ := bc_of h
  refine kc_X6_step_RX3 X z_12 hS h_u_13 (Nat.le_trans (Nat.le_of_ble_eq_true rfl) hF) (Nat.le_trans (Nat.le_of_ble_eq_true rfl) hL) hl.1 (Nat.le_of_ble_eq_true rfl) dX3_loop_58 (fun H locs hS => ?_)
  refine lv_pop hx hb dX3_loop_61 rfl ?_
  refine lv_aload_n hx hb dX3_loop_62 rfl (lv_at hl 2 rfl) ?_
  refine cg_X3_19 X hS dX3_loop_63 ?_
  obtain ⟨z_15, h⟩ := ok_of h
  refine lv_aload_n hx hb dX3_loop_66 rfl (lv_at hl 2 rfl) ?_
  refine cg_X3_54 X hS dX3_loop_67 ?_
  obtain ⟨r_u_16, u_16, h_u_16, h⟩ := bc_of h
  refine kc_X6_land_RX3 X z_15 hS h_u_16 (Nat.le_trans (Nat.le_of_ble_eq_true rfl) hF) (Nat.le_trans (Nat.le_of_ble_eq_true rfl) hL) hl.1 (Nat.le_of_ble_eq_true rfl) dX3_loop_70 (fun H locs hS => ?_)
  refine lv_aload_n hx hb dX3_loop_73 rfl (lv_at hl 2 rfl) ?_
  refine lv_iload_n hx hb dX3_loop_74 rfl (lv_at hl 0 rfl) ?_
  obtain ⟨u_17, e_u_17, h⟩ := pc_of h
  refine cp_X3_54 X hS e_u_17 dX3_loop_75 (fun H locs hS => ?_)
  obtain ⟨e9, rfl⟩ := so9 h
  exact hE _ e9.symm _ _ _ _ hS dX3_loop_78
def F_X3_loop (N : Nat) (ro : Nat → Nat → Int32 → Int32 → CSt → Option (Sum Nat Int32 × CSt)) (l1 : Int32) (u : CSt) : Option ((Sum Nat Int32) × CSt) := B_X3_loop_0 N ro l1 u
set_option maxHeartbeats 4000000 in
theorem k_X3_loop (l : Launch) (hst : l.stackTraces = false) (D : va_G) (kA : Nat → ClassId) (V Z : Nat → Nat) (N : Nat) {d : Nat} (ro : Nat → Nat → Int32 → Int32 → CSt → Option (Sum Nat Int32 × CSt)) (hrec : RecOK_MS l D kA V Z d ro) (l1 : Int32) (u : CSt) (sz : Nat) {y : (Sum Nat Int32)} {w : CSt} (h : F_X3_loop N ro l1 u = some (y, w)) : vx_Met l yX3_loop (Cond.code yX3_loop cX3_loop 4 none :: GW) { frames := d + 1 + 340, cells := 1, slots := 6, locals := 60 * (d + 1) + 20000 } (cPc D kA V Z [.ref (Z 227), .int l1] u sz) (cQvx D kA Z u sz y w) (cXc D kA Z u sz y w) 1 6 (va_A (CW kA Z u) sz) := by
  refine vx_ofW (cc := cX3_loop) (maxL := 4) (ret := none) (by decide) rfl ?_
  intro p e s m args below meth c s₁ Bd hml hxt hv
  obtain ⟨rfl, hsz, hP, hK, hD0, hE⟩ := hv
  have hts := atoms_spec (ws := Cond.code yX3_loop cX3_loop 4 none :: GW) Bd.pre
  have hl := lv_entry ([.ref (Z 227), .int l1]) (n := 4) (Nat.le_of_ble_eq_true rfl)
  rw [lg_entry_eq]
  generalize (lg_sl ([.ref (Z 227), .int l1]) ++ List.replicate (4 - (lg_sl ([.ref (Z 227), .int l1])).length) Slot.unset).toArray = ls at hl ⊢
  have hl : lv_has ls 4 [(0, .ref (Z 227)), (1, .int l1)] := hl
  subst hsz
  have X : CC p s m ([.ref (Z 227), .int l1]).toArray c cX3_loop 4 (Cond.code yX3_loop cX3_loop 4 none) RX3 D kA V (va_A (CW kA Z u) s.heap.size) := ⟨⟨Bd.exec, Bd.bytes, hml, findClass_of_methodNamed Bd.named, hts⟩, hK, hE, fun q h => Or.inr h⟩
  refine b_X3_loop_0 X (cend_vx X Bd.returns Bd.notSynchronized) hst (cend_X X hxt Bd.notSynchronized) ⟨Nat.le_refl _, Nat.le_refl _⟩ (Nat.le_trans (Nat.le_of_ble_eq_true rfl) (Nat.le_add_left 340 _)) (Nat.le_trans (Nat.le_of_ble_eq_true rfl) (Nat.le_add_left 20000 _)) hrec (Nat.le_refl _) (Nat.le_refl _) h  ⟨hP, hD0.self, va_S.rf⟩ (lv_sub hl [0, 1] rfl)
def B_X3_round_0 (N : Nat) (ro : Nat → Nat → Int32 → Int32 → CSt → Option (Sum Nat Int32 × CSt)) (l1 : Int32) (u : CSt) : Option ((Sum Nat Int32) × CSt) := pc (xI u 15 (-1)) fun u_1 => pc (xI u_1 13 ((cI u_1 13) + 1)) fun u_2 => ok (cR u_2 2 < 2) inferInstance <| bc (F_X6_cost N (cR u_2 2) l1 u_2) fun _ u_4 => bt (ro 0 0 0 0 u_4) fun _ u_5 => pc (xI u_5 13 ((cI u_5 13) - 1)) fun u_7 => ok (cR u_7 2 < 2) inferInstance <| bc (F_X6_land N (cR u_7 2) (cI u_7 15) u_7) fun _ u_9 => pc (xI u_9 15 (cI u 15)) fun u_10 => some (.inr 0, u_10)
set_option maxHeartbeats 4000000 in
theorem b_X3_round_0 {y : (Sum Nat Int32)} {ro : Nat → Nat → Int32 → Int32 → CSt → Option (Sum Nat Int32 × CSt)} (X : CC p s m args c cX3_round 3 (Cond.code yX3_round cX3_round 3 none) RX3 D kA V A) (hE : CEvx p l e R s m args below meth c cX3_round D kA Z A Q y w) (hst : l.stackTraces = false) (hX : CX p l e R s m args below meth c D kA Z A Q y w) (hC : 1 ≤ R.cells ∧ 6 ≤ R.slots) (hF : 2 ≤ R.frames) (hL : 45 ≤ R.locals) (hrec : RecOK_MS l D kA V Z d ro) (hFd : d + 1 + 340 ≤ R.frames) (hLd : 60 * (d + 1) + 20000 ≤ R.locals) {l1 : Int32} {u : CSt}  (h : B_X3_round_0 N ro l1 u = some (y, w))  (hS : CS D kA Z A s u H locs) (hl : lv_has ls 3 [(0, .ref (Z 227)), (1, .int l1)]) : W p l e R s m args below meth c H locs 0 0 Q (F0 m 0 ls []) := by
  obtain ⟨⟨hx, hb, hml, hown, hts⟩, hK, hEV, hA⟩ := id X
  have hG : ∀ w ∈ GW, w.before args s = true := fun w h => hts w (List.mem_cons_of_mem _ h)
  unfold B_X3_round_0 at h
  refine lv_aload_n hx hb dX3_round_0 rfl (lv_at hl 0 rfl) ?_
  refine cg_X3_57 X hS dX3_round_1 ?_
  refine lv_istore_n (lv' := [(2, .int (cI u 15)), (0, .ref (Z 227)), (1, .int l1)]) hx hb dX3_round_4 rfl hl (by decide) rfl (fun ls hl => ?_)
  refine lv_aload_n hx hb dX3_round_5 rfl (lv_at hl 1 rfl) ?_
  refine lv_iconst (v := (-1)) hx hb dX3_round_6 (by decide) ?_
  obtain ⟨u_1, e_u_1, h⟩ := pc_of h
  refine cp_X3_57 X hS e_u_1 dX3_round_7 (fun H locs hS => ?_)
  refine lv_aload_n hx hb dX3_round_10 rfl (lv_at hl 1 rfl) ?_
  refine lv_dup hx hb dX3_round_11 rfl ?_
  refine cg_X3_51 X hS dX3_round_12 ?_
  refine lv_iconst (v := 1) hx hb dX3_round_15 (by decide) ?_
  refine lv_iadd hx hb dX3_round_16 ?_
  obtain ⟨u_2, e_u_2, h⟩ := pc_of h
  refine cp_X3_51 X hS e_u_2 dX3_round_17 (fun H locs hS => ?_)
  refine lv_aload_n hx hb dX3_round_20 rfl (lv_at hl 1 rfl) ?_
  refine cg_X3_19 X hS dX3_round_21 ?_
  obtain ⟨z_3, h⟩ := ok_of h
  refine lv_iload_n hx hb dX3_round_24 rfl (lv_at hl 2 rfl) ?_
  obtain ⟨r_u_4, u_4, h_u_4, h⟩ := bc_of h
  refine kc_X6_cost_RX3 X z_3 hS h_u_4 (Nat.le_trans (Nat.le_of_ble_eq_true rfl) hF) (Nat.le_trans (Nat.le_of_ble_eq_true rfl) hL) hl.1 (Nat.le_of_ble_eq_true rfl) dX3_round_25 (fun H locs hS => ?_)
  refine lv_aload_n hx hb dX3_round_28 rfl (lv_at hl 1 rfl) ?_
  obtain ⟨y_6, u_5, h_u_5, h⟩ := bt_of h
  refine kc_X3_body X hrec  hS h_u_5 hFd hLd hC hl.1 (Nat.le_of_ble_eq_true rfl) dX3_round_29 (fun r_u_5 hr_u_5 H locs hS => ?_) (fun x9 hn H locs q9 ce hS a1 a2 a3 => by obtain ⟨e2, rfl⟩ := bt_no h hn; exact hX _ e2 _ _ _ _ _ _ _ hS a1 a2 a3)
  replace h := bt_ok h hr_u_5
  refine lv_aload_n hx hb dX3_round_32 rfl (lv_at hl 1 rfl) ?_
  refine lv_dup hx hb dX3_round_33 rfl ?_
  refine cg_X3_51 X hS dX3_round_34 ?_
  refine lv_iconst (v := 1) hx hb dX3_round_37 (by decide) ?_
  refine lv_isub hx hb dX3_round_38 ?_
  obtain ⟨u_7, e_u_7, h⟩ := pc_of h
  refine cp_X3_51 X hS e_u_7 dX3_round_39 (fun H locs hS => ?_)
  refine lv_aload_n hx hb dX3_round_42 rfl (lv_at hl 1 rfl) ?_
  refine cg_X3_19 X hS dX3_round_43 ?_
  obtain ⟨z_8, h⟩ := ok_of h
  refine lv_aload_n hx hb dX3_round_46 rfl (lv_at hl 1 rfl) ?_
  refine cg_X3_57 X hS dX3_round_47 ?_
  obtain ⟨r_u_9, u_9, h_u_9, h⟩ := bc_of h
  refine kc_X6_land_RX3 X z_8 hS h_u_9 (Nat.le_trans (Nat.le_of_ble_eq_true rfl) hF) (Nat.le_trans (Nat.le_of_ble_eq_true rfl) hL) hl.1 (Nat.le_of_ble_eq_true rfl) dX3_round_50 (fun H locs hS => ?_)
  refine lv_aload_n hx hb dX3_round_53 rfl (lv_at hl 1 rfl) ?_
  refine lv_iload_n hx hb dX3_round_54 rfl (lv_at hl 0 rfl) ?_
  obtain ⟨u_10, e_u_10, h⟩ := pc_of h
  refine cp_X3_57 X hS e_u_10 dX3_round_55 (fun H locs hS => ?_)
  obtain ⟨e9, rfl⟩ := so9 h
  exact hE _ e9.symm _ _ _ _ hS dX3_round_58
def F_X3_round (N : Nat) (ro : Nat → Nat → Int32 → Int32 → CSt → Option (Sum Nat Int32 × CSt)) (l1 : Int32) (u : CSt) : Option ((Sum Nat Int32) × CSt) := B_X3_round_0 N ro l1 u
set_option maxHeartbeats 4000000 in
theorem k_X3_round (l : Launch) (hst : l.stackTraces = false) (D : va_G) (kA : Nat → ClassId) (V Z : Nat → Nat) (N : Nat) {d : Nat} (ro : Nat → Nat → Int32 → Int32 → CSt → Option (Sum Nat Int32 × CSt)) (hrec : RecOK_MS l D kA V Z d ro) (l1 : Int32) (u : CSt) (sz : Nat) {y : (Sum Nat Int32)} {w : CSt} (h : F_X3_round N ro l1 u = some (y, w)) : vx_Met l yX3_round (Cond.code yX3_round cX3_round 3 none :: GW) { frames := d + 1 + 340, cells := 1, slots := 6, locals := 60 * (d + 1) + 20000 } (cPc D kA V Z [.ref (Z 227), .int l1] u sz) (cQvx D kA Z u sz y w) (cXc D kA Z u sz y w) 1 6 (va_A (CW kA Z u) sz) := by
  refine vx_ofW (cc := cX3_round) (maxL := 3) (ret := none) (by decide) rfl ?_
  intro p e s m args below meth c s₁ Bd hml hxt hv
  obtain ⟨rfl, hsz, hP, hK, hD0, hE⟩ := hv
  have hts := atoms_spec (ws := Cond.code yX3_round cX3_round 3 none :: GW) Bd.pre
  have hl := lv_entry ([.ref (Z 227), .int l1]) (n := 3) (Nat.le_of_ble_eq_true rfl)
  rw [lg_entry_eq]
  generalize (lg_sl ([.ref (Z 227), .int l1]) ++ List.replicate (3 - (lg_sl ([.ref (Z 227), .int l1])).length) Slot.unset).toArray = ls at hl ⊢
  have hl : lv_has ls 3 [(0, .ref (Z 227)), (1, .int l1)] := hl
  subst hsz
  have X : CC p s m ([.ref (Z 227), .int l1]).toArray c cX3_round 3 (Cond.code yX3_round cX3_round 3 none) RX3 D kA V (va_A (CW kA Z u) s.heap.size) := ⟨⟨Bd.exec, Bd.bytes, hml, findClass_of_methodNamed Bd.named, hts⟩, hK, hE, fun q h => Or.inr h⟩
  refine b_X3_round_0 X (cend_vx X Bd.returns Bd.notSynchronized) hst (cend_X X hxt Bd.notSynchronized) ⟨Nat.le_refl _, Nat.le_refl _⟩ (Nat.le_trans (Nat.le_of_ble_eq_true rfl) (Nat.le_add_left 340 _)) (Nat.le_trans (Nat.le_of_ble_eq_true rfl) (Nat.le_add_left 20000 _)) hrec (Nat.le_refl _) (Nat.le_refl _) h  ⟨hP, hD0.self, va_S.rf⟩ (lv_sub hl [0, 1] rfl)
def B_X3_counted_71 (N : Nat) (ro : Nat → Nat → Int32 → Int32 → CSt → Option (Sum Nat Int32 × CSt)) (l1 : Int32) (l2 : Int32) (l3 : Nat) (u : CSt) : Option ((Sum Nat Int32) × CSt) := bc (F_X9_next N u) fun _ u_1 => bt (F_X3_setPlain N l3 u_1) fun _ u_2 => bc (F_X8_set N l3 l2 u_2) fun _ u_4 => bc (F_X9_next N u_4) fun _ u_5 => bt (G_X8_expression N u_5) fun r_7 u_6 => ok (cR u_6 2 < 2) inferInstance <| bc (F_X8_get N l3 0 l2 u_6) fun _ u_10 => ok (cR u_10 2 < 2) inferInstance <| bc (F_X6_step N (cR u_10 2) 34 (-1) 0 l1 u_10) fun r_13 u_12 => pc (xI u_12 14 r_13) fun u_14 => bt (ro 5 0 l1 0 u_14) fun _ u_15 => bc (F_X8_get N l3 0 l2 u_15) fun _ u_17 => ok (cR u_17 2 < 2) inferInstance <| bc (F_X6_step N (cR u_17 2) 35 (cI u_17 14) 0 l1 u_17) fun r_20 u_19 => pc (xI u_19 14 r_20) fun u_21 => bc (F_X8_get N l3 0 l2 u_21) fun _ u_22 => ok (cR u_22 2 < 2) inferInstance <| bc (F_X6_constant N (cR u_22 2) 1 0 l2 u_22) fun _ u_24 => bc (F_X8_combine N 0 (mI u_24 l3 5) 3 l2 u_24) fun r_26 u_25 => bc (F_X8_set N l3 l2 u_25) fun _ u_27 => ok (cR u_27 2 < 2) inferInstance <| bc (F_X6_step N (cR u_27 2) 30 (pI u_6 (cR u_6 2) 13) 0 l1 u_27) fun r_30 u_29 => ok (cR u_29 2 < 2) inferInstance <| bc (F_X6_land N (cR u_29 2) (cI u_29 14) u_29) fun _ u_32 => pc (xI u_32 14 (cI u_10 14)) fun u_33 => ok (cR u_33 2 < 2) inferInstance <| bc (F_X6_step N (cR u_33 2) 16 0 0 l1 u_33) fun r_36 u_35 => some (.inr 0, u_35)
set_option maxHeartbeats 4000000 in
theorem b_X3_counted_71 {y : (Sum Nat Int32)} {ro : Nat → Nat → Int32 → Int32 → CSt → Option (Sum Nat Int32 × CSt)} (X : CC p s m args c cX3_counted 6 (Cond.code yX3_counted cX3_counted 6 none) RX3 D kA V A) (hE : CEvx p l e R s m args below meth c cX3_counted D kA Z A Q y w) (hst : l.stackTraces = false) (hX : CX p l e R s m args below meth c D kA Z A Q y w) (hC : 1 ≤ R.cells ∧ 6 ≤ R.slots) (hF : 322 ≤ R.frames) (hL : 18749 ≤ R.locals) (hrec : RecOK_MS l D kA V Z d ro) (hFd : d + 1 + 340 ≤ R.frames) (hLd : 60 * (d + 1) + 20000 ≤ R.locals) {l1 : Int32} {l2 : Int32} {l3 : Nat} {u : CSt}  (h : B_X3_counted_71 N ro l1 l2 l3 u = some (y, w)) (h_l3 : l3 < 338) (hS : CS D kA Z A s u H locs) (hl : lv_has ls 6 [(0, .ref (Z 227)), (1, .int l1), (2, .int l2), (3, .ref (Z (1000 + l3)))]) : W p l e R s m args below meth c H locs 0 0 Q (F0 m 71 ls []) := by
  obtain ⟨⟨hx, hb, hml, hown, hts⟩, hK, hEV, hA⟩ := id X
  have hG : ∀ w ∈ GW, w.before args s = true := fun w h => hts w (List.mem_cons_of_mem _ h)
  unfold B_X3_counted_71 at h
  refine lv_aload_n hx hb dX3_counted_71 rfl (lv_at hl 0 rfl) ?_
  refine cg_X3_15 X hS dX3_counted_72 ?_
  obtain ⟨r_u_1, u_1, h_u_1, h⟩ := bc_of h
  refine kc_X9_next_RX3 X  hS h_u_1 (Nat.le_trans (Nat.le_of_ble_eq_true rfl) hF) (Nat.le_trans (Nat.le_of_ble_eq_true rfl) hL) hl.1 (Nat.le_of_ble_eq_true rfl) dX3_counted_75 (fun H locs hS => ?_)
  refine lv_aload_n hx hb dX3_counted_78 rfl (lv_at hl 0 rfl) ?_
  refine lv_aload_n hx hb dX3_counted_79 rfl (lv_at hl 3 rfl) ?_
  obtain ⟨y_3, u_2, h_u_2, h⟩ := bt_of h
  refine kc_X3_setPlain_RX3 hst X h_l3 hS h_u_2 (Nat.le_trans (Nat.le_of_ble_eq_true rfl) hF) (Nat.le_trans (Nat.le_of_ble_eq_true rfl) hL) hC hl.1 (Nat.le_of_ble_eq_true rfl) dX3_counted_80 (fun r_u_2 hr_u_2 H locs hS => ?_) (fun x9 hn H locs q9 ce hS a1 a2 a3 => by obtain ⟨e2, rfl⟩ := bt_no h hn; exact hX _ e2 _ _ _ _ _ _ _ hS a1 a2 a3)
  replace h := bt_ok h hr_u_2
  refine lv_aload_n hx hb dX3_counted_83 rfl (lv_at hl 0 rfl) ?_
  refine cg_X3_28 X hS dX3_counted_84 ?_
  refine lv_aload_n hx hb dX3_counted_87 rfl (lv_at hl 3 rfl) ?_
  refine lv_iload_n hx hb dX3_counted_88 rfl (lv_at hl 2 rfl) ?_
  obtain ⟨r_u_4, u_4, h_u_4, h⟩ := bc_of h
  refine kc_X8_set_RX3 X h_l3 hS h_u_4 (Nat.le_trans (Nat.le_of_ble_eq_true rfl) hF) (Nat.le_trans (Nat.le_of_ble_eq_true rfl) hL) hl.1 (Nat.le_of_ble_eq_true rfl) dX3_counted_89 (fun H locs hS => ?_)
  refine lv_aload_n hx hb dX3_counted_92 rfl (lv_at hl 0 rfl) ?_
  refine cg_X3_15 X hS dX3_counted_93 ?_
  obtain ⟨r_u_5, u_5, h_u_5, h⟩ := bc_of h
  refine kc_X9_next_RX3 X  hS h_u_5 (Nat.le_trans (Nat.le_of_ble_eq_true rfl) hF) (Nat.le_trans (Nat.le_of_ble_eq_true rfl) hL) hl.1 (Nat.le_of_ble_eq_true rfl) dX3_counted_96 (fun H locs hS => ?_)
  refine lv_aload_n hx hb dX3_counted_99 rfl (lv_at hl 0 rfl) ?_
  refine cg_X3_28 X hS dX3_counted_100 ?_
  obtain ⟨y_8, u_6, h_u_6, h⟩ := bt_of h
  refine kg_X8_expression_RX3 hst X  hS h_u_6 (Nat.le_trans (Nat.le_of_ble_eq_true rfl) hF) (Nat.le_trans (Nat.le_of_ble_eq_true rfl) hL) hC hl.1 (Nat.le_of_ble_eq_true rfl) dX3_counted_103 (fun r_7 hr_u_6 H locs hS => ?_) (fun x9 hn H locs q9 ce hS a1 a2 a3 => by obtain ⟨e2, rfl⟩ := bt_no h hn; exact hX _ e2 _ _ _ _ _ _ _ hS a1 a2 a3)
  replace h := bt_ok h hr_u_6
  refine lv_pop hx hb dX3_counted_106 rfl ?_
  refine lv_aload_n hx hb dX3_counted_107 rfl (lv_at hl 0 rfl) ?_
  refine cg_X3_19 X hS dX3_counted_108 ?_
  obtain ⟨z_9, h⟩ := ok_of h
  refine cg_X3_227 X z_9 hS dX3_counted_111 ?_
  refine lv_istore (lv' := [(4, .int (pI u_6 (cR u_6 2) 13)), (0, .ref (Z 227)), (1, .int l1), (2, .int l2), (3, .ref (Z (1000 + l3)))]) hx hb dX3_counted_114 hl (by decide) rfl (fun ls hl => ?_)
  refine lv_aload_n hx hb dX3_counted_116 rfl (lv_at hl 1 rfl) ?_
  refine cg_X3_28 X hS dX3_counted_117 ?_
  refine lv_aload_n hx hb dX3_counted_120 rfl (lv_at hl 4 rfl) ?_
  refine lv_iconst (v := 0) hx hb dX3_counted_121 (by decide) ?_
  refine lv_iload_n hx hb dX3_counted_122 rfl (lv_at hl 3 rfl) ?_
  obtain ⟨r_u_10, u_10, h_u_10, h⟩ := bc_of h
  refine kc_X8_get_RX3 X h_l3 hS h_u_10 (Nat.le_trans (Nat.le_of_ble_eq_true rfl) hF) (Nat.le_trans (Nat.le_of_ble_eq_true rfl) hL) hl.1 (Nat.le_of_ble_eq_true rfl) dX3_counted_123 (fun H locs hS => ?_)
  refine lv_aload_n hx hb dX3_counted_126 rfl (lv_at hl 1 rfl) ?_
  refine cg_X3_54 X hS dX3_counted_127 ?_
  refine lv_istore (lv' := [(5, .int (cI u_10 14)), (4, .int (pI u_6 (cR u_6 2) 13)), (0, .ref (Z 227)), (1, .int l1), (2, .int l2), (3, .ref (Z (1000 + l3)))]) hx hb dX3_counted_130 hl (by decide) rfl (fun ls hl => ?_)
  refine lv_aload_n hx hb dX3_counted_132 rfl (lv_at hl 2 rfl) ?_
  refine lv_aload_n hx hb dX3_counted_133 rfl (lv_at hl 2 rfl) ?_
  refine cg_X3_19 X hS dX3_counted_134 ?_
  obtain ⟨z_11, h⟩ := ok_of h
  refine lv_bipush (v := 34) hx hb dX3_counted_137 (by decide) ?_
  refine lv_iconst (v := (-1)) hx hb dX3_counted_139 (by decide) ?_
  refine lv_iconst (v := 0) hx hb dX3_counted_140 (by decide) ?_
  refine lv_iload_n hx hb dX3_counted_141 rfl (lv_at hl 3 rfl) ?_
  obtain ⟨r_13, u_12, h_u_12, h⟩ := bc_of h
  refine kc_X6_step_RX3 X z_11 hS h_u_12 (Nat.le_trans (Nat.le_of_ble_eq_true rfl) hF) (Nat.le_trans (Nat.le_of_ble_eq_true rfl) hL) hl.1 (Nat.le_of_ble_eq_true rfl) dX3_counted_142 (fun H locs hS => ?_)
  obtain ⟨u_14, e_u_14, h⟩ := pc_of h
  refine cp_X3_54 X hS e_u_14 dX3_counted_145 (fun H locs hS => ?_)
  refine lv_aload_n hx hb dX3_counted_148 rfl (lv_at hl 2 rfl) ?_
  refine lv_iload_n hx hb dX3_counted_149 rfl (lv_at hl 3 rfl) ?_
  obtain ⟨y_16, u_15, h_u_15, h⟩ := bt_of h
  refine kc_X3_round X hrec  hS h_u_15 hFd hLd hC hl.1 (Nat.le_of_ble_eq_true rfl) dX3_counted_150 (fun r_u_15 hr_u_15 H locs hS => ?_) (fun x9 hn H locs q9 ce hS a1 a2 a3 => by obtain ⟨e2, rfl⟩ := bt_no h hn; exact hX _ e2 _ _ _ _ _ _ _ hS a1 a2 a3)
  replace h := bt_ok h hr_u_15
  refine lv_aload_n hx hb dX3_counted_153 rfl (lv_at hl 2 rfl) ?_
  refine cg_X3_28 X hS dX3_counted_154 ?_
  refine lv_aload_n hx hb dX3_counted_157 rfl (lv_at hl 5 rfl) ?_
  refine lv_iconst (v := 0) hx hb dX3_counted_158 (by decide) ?_
  refine lv_iload_n hx hb dX3_counted_159 rfl (lv_at hl 4 rfl) ?_
  obtain ⟨r_u_17, u_17, h_u_17, h⟩ := bc_of h
  refine kc_X8_get_RX3 X h_l3 hS h_u_17 (Nat.le_trans (Nat.le_of_ble_eq_true rfl) hF) (Nat.le_trans (Nat.le_of_ble_eq_true rfl) hL) hl.1 (Nat.le_of_ble_eq_true rfl) dX3_counted_160 (fun H locs hS => ?_)
  refine lv_aload_n hx hb dX3_counted_163 rfl (lv_at hl 2 rfl) ?_
  refine lv_aload_n hx hb dX3_counted_164 rfl (lv_at hl 2 rfl) ?_
  refine cg_X3_19 X hS dX3_counted_165 ?_
  obtain ⟨z_18, h⟩ := ok_of h
  refine lv_bipush (v := 35) hx hb dX3_counted_168 (by decide) ?_
  refine lv_aload_n hx hb dX3_counted_170 rfl (lv_at hl 2 rfl) ?_
  refine cg_X3_54 X hS dX3_counted_171 ?_
  refine lv_iconst (v := 0) hx hb dX3_counted_174 (by decide) ?_
  refine lv_iload_n hx hb dX3_counted_175 rfl (lv_at hl 3 rfl) ?_
  obtain ⟨r_20, u_19, h_u_19, h⟩ := bc_of h
  refine kc_X6_step_RX3 X z_18 hS h_u_19 (Nat.le_trans (Nat.le_of_ble_eq_true rfl) hF) (Nat.le_trans (Nat.le_of_ble_eq_true rfl) hL) hl.1 (Nat.le_of_ble_eq_true rfl) dX3_counted_176 (fun H locs hS => ?_)
  obtain ⟨u_21, e_u_21, h⟩ := pc_of h
  refine cp_X3_54 X hS e_u_21 dX3_counted_179 (fun H locs hS => ?_)
  refine lv_aload_n hx hb dX3_counted_182 rfl (lv_at hl 2 rfl) ?_
  refine cg_X3_28 X hS dX3_counted_183 ?_
  refine lv_aload_n hx hb dX3_counted_186 rfl (lv_at hl 5 rfl) ?_
  refine lv_iconst (v := 0) hx hb dX3_counted_187 (by decide) ?_
  refine lv_iload_n hx hb dX3_counted_188 rfl (lv_at hl 4 rfl) ?_
  obtain ⟨r_u_22, u_22, h_u_22, h⟩ := bc_of h
  refine kc_X8_get_RX3 X h_l3 hS h_u_22 (Nat.le_trans (Nat.le_of_ble_eq_true rfl) hF) (Nat.le_trans (Nat.le_of_ble_eq_true rfl) hL) hl.1 (Nat.le_of_ble_eq_true rfl) dX3_counted_189 (fun H locs hS => ?_)
  refine lv_aload_n hx hb dX3_counted_192 rfl (lv_at hl 2 rfl) ?_
  refine cg_X3_19 X hS dX3_counted_193 ?_
  obtain ⟨z_23, h⟩ := ok_of h
  refine lv_lconst (v := 1) hx hb dX3_counted_196 (by decide) ?_
  refine lv_iconst (v := 0) hx hb dX3_counted_197 (by decide) ?_
  refine lv_iload_n hx hb dX3_counted_198 rfl (lv_at hl 4 rfl) ?_
  obtain ⟨r_u_24, u_24, h_u_24, h⟩ := bc_of h
  refine kc_X6_constant_RX3 X z_23 hS h_u_24 (Nat.le_trans (Nat.le_of_ble_eq_true rfl) hF) (Nat.le_trans (Nat.le_of_ble_eq_true rfl) hL) hl.1 (Nat.le_of_ble_eq_true rfl) dX3_counted_199 (fun H locs hS => ?_)
  refine lv_aload_n hx hb dX3_counted_202 rfl (lv_at hl 2 rfl) ?_
  refine cg_X3_28 X hS dX3_counted_203 ?_
  refine lv_iconst (v := 0) hx hb dX3_counted_206 (by decide) ?_
  refine lv_aload_n hx hb dX3_counted_207 rfl (lv_at hl 5 rfl) ?_
  refine cg_X3_146 X h_l3 hS dX3_counted_208 ?_
  refine lv_iconst (v := 3) hx hb dX3_counted_211 (by decide) ?_
  refine lv_iload_n hx hb dX3_counted_212 rfl (lv_at hl 4 rfl) ?_
  obtain ⟨r_26, u_25, h_u_25, h⟩ := bc_of h
  refine kc_X8_combine_RX3 X  hS h_u_25 (Nat.le_trans (Nat.le_of_ble_eq_true rfl) hF) (Nat.le_trans (Nat.le_of_ble_eq_true rfl) hL) hl.1 (Nat.le_of_ble_eq_true rfl) dX3_counted_213 (fun H locs hS => ?_)
  refine lv_pop hx hb dX3_counted_216 rfl ?_
  refine lv_aload_n hx hb dX3_counted_217 rfl (lv_at hl 2 rfl) ?_
  refine cg_X3_28 X hS dX3_counted_218 ?_
  refine lv_aload_n hx hb dX3_counted_221 rfl (lv_at hl 5 rfl) ?_
  refine lv_iload_n hx hb dX3_counted_222 rfl (lv_at hl 4 rfl) ?_
  obtain ⟨r_u_27, u_27, h_u_27, h⟩ := bc_of h
  refine kc_X8_set_RX3 X h_l3 hS h_u_27 (Nat.le_trans (Nat.le_of_ble_eq_true rfl) hF) (Nat.le_trans (Nat.le_of_ble_eq_true rfl) hL) hl.1 (Nat.le_of_ble_eq_true rfl) dX3_counted_223 (fun H locs hS => ?_)
  refine lv_aload_n hx hb dX3_counted_226 rfl (lv_at hl 2 rfl) ?_
  refine cg_X3_19 X hS dX3_counted_227 ?_
  obtain ⟨z_28, h⟩ := ok_of h
  refine lv_bipush (v := 30) hx hb dX3_counted_230 (by decide) ?_
  refine lv_iload hx hb dX3_counted_232 (lv_at hl 1 rfl) ?_
  refine lv_iconst (v := 0) hx hb dX3_counted_234 (by decide) ?_
  refine lv_iload_n hx hb dX3_counted_235 rfl (lv_at hl 3 rfl) ?_
  obtain ⟨r_30, u_29, h_u_29, h⟩ := bc_of h
  refine kc_X6_step_RX3 X z_28 hS h_u_29 (Nat.le_trans (Nat.le_of_ble_eq_true rfl) hF) (Nat.le_trans (Nat.le_of_ble_eq_true rfl) hL) hl.1 (Nat.le_of_ble_eq_true rfl) dX3_counted_236 (fun H locs hS => ?_)
  refine lv_pop hx hb dX3_counted_239 rfl ?_
  refine lv_aload_n hx hb dX3_counted_240 rfl (lv_at hl 2 rfl) ?_
  refine cg_X3_19 X hS dX3_counted_241 ?_
  obtain ⟨z_31, h⟩ := ok_of h
  refine lv_aload_n hx hb dX3_counted_244 rfl (lv_at hl 2 rfl) ?_
  refine cg_X3_54 X hS dX3_counted_245 ?_
  obtain ⟨r_u_32, u_32, h_u_32, h⟩ := bc_of h
  refine kc_X6_land_RX3 X z_31 hS h_u_32 (Nat.le_trans (Nat.le_of_ble_eq_true rfl) hF) (Nat.le_trans (Nat.le_of_ble_eq_true rfl) hL) hl.1 (Nat.le_of_ble_eq_true rfl) dX3_counted_248 (fun H locs hS => ?_)
  refine lv_aload_n hx hb dX3_counted_251 rfl (lv_at hl 2 rfl) ?_
  refine lv_iload hx hb dX3_counted_252 (lv_at hl 0 rfl) ?_
  obtain ⟨u_33, e_u_33, h⟩ := pc_of h
  refine cp_X3_54 X hS e_u_33 dX3_counted_254 (fun H locs hS => ?_)
  refine lv_aload_n hx hb dX3_counted_257 rfl (lv_at hl 2 rfl) ?_
  refine cg_X3_19 X hS dX3_counted_258 ?_
  obtain ⟨z_34, h⟩ := ok_of h
  refine lv_bipush (v := 16) hx hb dX3_counted_261 (by decide) ?_
  refine lv_iconst (v := 0) hx hb dX3_counted_263 (by decide) ?_
  refine lv_iconst (v := 0) hx hb dX3_counted_264 (by decide) ?_
  refine lv_iload_n hx hb dX3_counted_265 rfl (lv_at hl 3 rfl) ?_
  obtain ⟨r_36, u_35, h_u_35, h⟩ := bc_of h
  refine kc_X6_step_RX3 X z_34 hS h_u_35 (Nat.le_trans (Nat.le_of_ble_eq_true rfl) hF) (Nat.le_trans (Nat.le_of_ble_eq_true rfl) hL) hl.1 (Nat.le_of_ble_eq_true rfl) dX3_counted_266 (fun H locs hS => ?_)
  refine lv_pop hx hb dX3_counted_269 rfl ?_
  obtain ⟨e9, rfl⟩ := so9 h
  exact hE _ e9.symm _ _ _ _ hS dX3_counted_270
def B_X3_counted_62 (N : Nat) (ro : Nat → Nat → Int32 → Int32 → CSt → Option (Sum Nat Int32 × CSt)) (l1 : Int32) (l2 : Int32) (l3 : Nat) (u : CSt) : Option ((Sum Nat Int32) × CSt) := bt (F_X9_refuse N 4 l2 u) fun _ u_37 => B_X3_counted_71 N ro l1 l2 l3 u_37
set_option maxHeartbeats 4000000 in
theorem b_X3_counted_62 {y : (Sum Nat Int32)} {ro : Nat → Nat → Int32 → Int32 → CSt → Option (Sum Nat Int32 × CSt)} (X : CC p s m args c cX3_counted 6 (Cond.code yX3_counted cX3_counted 6 none) RX3 D kA V A) (hE : CEvx p l e R s m args below meth c cX3_counted D kA Z A Q y w) (hst : l.stackTraces = false) (hX : CX p l e R s m args below meth c D kA Z A Q y w) (hC : 1 ≤ R.cells ∧ 6 ≤ R.slots) (hF : 322 ≤ R.frames) (hL : 18749 ≤ R.locals) (hrec : RecOK_MS l D kA V Z d ro) (hFd : d + 1 + 340 ≤ R.frames) (hLd : 60 * (d + 1) + 20000 ≤ R.locals) {l1 : Int32} {l2 : Int32} {l3 : Nat} {u : CSt}  (h : B_X3_counted_62 N ro l1 l2 l3 u = some (y, w)) (h_l3 : l3 < 338) (hS : CS D kA Z A s u H locs) (hl : lv_has ls 6 [(0, .ref (Z 227)), (1, .int l1), (2, .int l2), (3, .ref (Z (1000 + l3)))]) : W p l e R s m args below meth c H locs 0 0 Q (F0 m 62 ls []) := by
  obtain ⟨⟨hx, hb, hml, hown, hts⟩, hK, hEV, hA⟩ := id X
  have hG : ∀ w ∈ GW, w.before args s = true := fun w h => hts w (List.mem_cons_of_mem _ h)
  unfold B_X3_counted_62 at h
  refine lv_aload_n hx hb dX3_counted_62 rfl (lv_at hl 0 rfl) ?_
  refine cg_X3_15 X hS dX3_counted_63 ?_
  refine lv_iconst (v := 4) hx hb dX3_counted_66 (by decide) ?_
  refine lv_iload_n hx hb dX3_counted_67 rfl (lv_at hl 2 rfl) ?_
  obtain ⟨y_38, u_37, h_u_37, h⟩ := bt_of h
  refine kc_X9_refuse_RX3 hst X  hS h_u_37 (Nat.le_trans (Nat.le_of_ble_eq_true rfl) hF) (Nat.le_trans (Nat.le_of_ble_eq_true rfl) hL) hC hl.1 (Nat.le_of_ble_eq_true rfl) dX3_counted_68 (fun r_u_37 hr_u_37 H locs hS => ?_) (fun x9 hn H locs q9 ce hS a1 a2 a3 => by obtain ⟨e2, rfl⟩ := bt_no h hn; exact hX _ e2 _ _ _ _ _ _ _ hS a1 a2 a3)
  replace h := bt_ok h hr_u_37
  exact b_X3_counted_71 X hE hst hX hC hF hL hrec hFd hLd h h_l3 hS (lv_sub hl [0, 1, 2, 3] rfl)
def B_X3_counted_41 (N : Nat) (ro : Nat → Nat → Int32 → Int32 → CSt → Option (Sum Nat Int32 × CSt)) (l1 : Int32) (l2 : Int32) (l3 : Nat) (u : CSt) : Option ((Sum Nat Int32) × CSt) := bc (F_X4_hasNumbers N l3 u) fun r_40 u_39 => if r_40 = (0 : Int32) then (B_X3_counted_62 N ro l1 l2 l3 u_39) else (if (mI u_39 l3 8) = (0 : Int32) then (bc (F_X4_isInput N l3 u_39) fun r_44 u_43 => if r_44 = (0 : Int32) then (B_X3_counted_71 N ro l1 l2 l3 u_43) else (B_X3_counted_62 N ro l1 l2 l3 u_43)) else (B_X3_counted_62 N ro l1 l2 l3 u_39))
set_option maxHeartbeats 4000000 in
theorem b_X3_counted_41 {y : (Sum Nat Int32)} {ro : Nat → Nat → Int32 → Int32 → CSt → Option (Sum Nat Int32 × CSt)} (X : CC p s m args c cX3_counted 6 (Cond.code yX3_counted cX3_counted 6 none) RX3 D kA V A) (hE : CEvx p l e R s m args below meth c cX3_counted D kA Z A Q y w) (hst : l.stackTraces = false) (hX : CX p l e R s m args below meth c D kA Z A Q y w) (hC : 1 ≤ R.cells ∧ 6 ≤ R.slots) (hF : 322 ≤ R.frames) (hL : 18749 ≤ R.locals) (hrec : RecOK_MS l D kA V Z d ro) (hFd : d + 1 + 340 ≤ R.frames) (hLd : 60 * (d + 1) + 20000 ≤ R.locals) {l1 : Int32} {l2 : Int32} {l3 : Nat} {u : CSt}  (h : B_X3_counted_41 N ro l1 l2 l3 u = some (y, w)) (h_l3 : l3 < 338) (hS : CS D kA Z A s u H locs) (hl : lv_has ls 6 [(0, .ref (Z 227)), (1, .int l1), (2, .int l2), (3, .ref (Z (1000 + l3)))]) : W p l e R s m args below meth c H locs 0 0 Q (F0 m 41 ls []) := by
  obtain ⟨⟨hx, hb, hml, hown, hts⟩, hK, hEV, hA⟩ := id X
  have hG : ∀ w ∈ GW, w.before args s = true := fun w h => hts w (List.mem_cons_of_mem _ h)
  unfold B_X3_counted_41 at h
  refine lv_aload_n hx hb dX3_counted_41 rfl (lv_at hl 3 rfl) ?_
  obtain ⟨r_40, u_39, h_u_39, h⟩ := bc_of h
  refine kc_X4_hasNumbers_RX3 X h_l3 hS h_u_39 (Nat.le_trans (Nat.le_of_ble_eq_true rfl) hF) (Nat.le_trans (Nat.le_of_ble_eq_true rfl) hL) hl.1 (Nat.le_of_ble_eq_true rfl) dX3_counted_42 (fun H locs hS => ?_)
  refine lv_if_eq (tgt := 62) hx hb dX3_counted_45 (by decide) (fun c_41 => ?_) (fun c_41 => ?_)
  · have h := ip (c_41) h
    exact b_X3_counted_62 X hE hst hX hC hF hL hrec hFd hLd h h_l3 hS (lv_sub hl [0, 1, 2, 3] rfl)
  · have h := im (c_41) h
    refine lv_aload_n hx hb dX3_counted_48 rfl (lv_at hl 3 rfl) ?_
    refine cg_X3_152 X h_l3 hS dX3_counted_49 ?_
    refine lv_if_ne (tgt := 62) hx hb dX3_counted_52 (by decide) (fun c_42 => ?_) (fun c_42 => ?_)
    · have h := im (c_42) h
      exact b_X3_counted_62 X hE hst hX hC hF hL hrec hFd hLd h h_l3 hS (lv_sub hl [0, 1, 2, 3] rfl)
    · have h := ip (c_42) h
      refine lv_aload_n hx hb dX3_counted_55 rfl (lv_at hl 3 rfl) ?_
      obtain ⟨r_44, u_43, h_u_43, h⟩ := bc_of h
      refine kc_X4_isInput_RX3 X h_l3 hS h_u_43 (Nat.le_trans (Nat.le_of_ble_eq_true rfl) hF) (Nat.le_trans (Nat.le_of_ble_eq_true rfl) hL) hl.1 (Nat.le_of_ble_eq_true rfl) dX3_counted_56 (fun H locs hS => ?_)
      refine lv_if_eq (tgt := 71) hx hb dX3_counted_59 (by decide) (fun c_45 => ?_) (fun c_45 => ?_)
      · have h := ip (c_45) h
        exact b_X3_counted_71 X hE hst hX hC hF hL hrec hFd hLd h h_l3 hS (lv_sub hl [0, 1, 2, 3] rfl)
      · have h := im (c_45) h
        exact b_X3_counted_62 X hE hst hX hC hF hL hrec hFd hLd h h_l3 hS (lv_sub hl [0, 1, 2, 3] rfl)
def B_X3_counted_0 (N : Nat) (ro : Nat → Nat → Int32 → Int32 → CSt → Option (Sum Nat Int32 × CSt)) (l1 : Int32) (u : CSt) : Option ((Sum Nat Int32) × CSt) := bc (F_X9_next N u) fun _ u_46 => bc (F_X9_here N u_46) fun r_48 u_47 => bc (F_X8_known N u_47) fun r_50 u_49 => ok (r_50 < 338) inferInstance <| if (mI u_49 r_50 2) = (8 : Int32) then (bt (F_X9_refuse N 3 r_48 u_49) fun _ u_53 => B_X3_counted_41 N ro l1 r_48 r_50 u_53) else (B_X3_counted_41 N ro l1 r_48 r_50 u_49)
set_option maxHeartbeats 4000000 in
theorem b_X3_counted_0 {y : (Sum Nat Int32)} {ro : Nat → Nat → Int32 → Int32 → CSt → Option (Sum Nat Int32 × CSt)} (X : CC p s m args c cX3_counted 6 (Cond.code yX3_counted cX3_counted 6 none) RX3 D kA V A) (hE : CEvx p l e R s m args below meth c cX3_counted D kA Z A Q y w) (hst : l.stackTraces = false) (hX : CX p l e R s m args below meth c D kA Z A Q y w) (hC : 1 ≤ R.cells ∧ 6 ≤ R.slots) (hF : 322 ≤ R.frames) (hL : 18749 ≤ R.locals) (hrec : RecOK_MS l D kA V Z d ro) (hFd : d + 1 + 340 ≤ R.frames) (hLd : 60 * (d + 1) + 20000 ≤ R.locals) {l1 : Int32} {u : CSt}  (h : B_X3_counted_0 N ro l1 u = some (y, w))  (hS : CS D kA Z A s u H locs) (hl : lv_has ls 6 [(0, .ref (Z 227)), (1, .int l1)]) : W p l e R s m args below meth c H locs 0 0 Q (F0 m 0 ls []) := by
  obtain ⟨⟨hx, hb, hml, hown, hts⟩, hK, hEV, hA⟩ := id X
  have hG : ∀ w ∈ GW, w.before args s = true := fun w h => hts w (List.mem_cons_of_mem _ h)
  unfold B_X3_counted_0 at h
  refine lv_aload_n hx hb dX3_counted_0 rfl (lv_at hl 0 rfl) ?_
  refine cg_X3_15 X hS dX3_counted_1 ?_
  obtain ⟨r_u_46, u_46, h_u_46, h⟩ := bc_of h
  refine kc_X9_next_RX3 X  hS h_u_46 (Nat.le_trans (Nat.le_of_ble_eq_true rfl) hF) (Nat.le_trans (Nat.le_of_ble_eq_true rfl) hL) hl.1 (Nat.le_of_ble_eq_true rfl) dX3_counted_4 (fun H locs hS => ?_)
  refine lv_aload_n hx hb dX3_counted_7 rfl (lv_at hl 0 rfl) ?_
  refine cg_X3_15 X hS dX3_counted_8 ?_
  obtain ⟨r_48, u_47, h_u_47, h⟩ := bc_of h
  refine kc_X9_here_RX3 X  hS h_u_47 (Nat.le_trans (Nat.le_of_ble_eq_true rfl) hF) (Nat.le_trans (Nat.le_of_ble_eq_true rfl) hL) hl.1 (Nat.le_of_ble_eq_true rfl) dX3_counted_11 (fun H locs hS => ?_)
  refine lv_istore_n (lv' := [(2, .int r_48), (0, .ref (Z 227)), (1, .int l1)]) hx hb dX3_counted_14 rfl hl (by decide) rfl (fun ls hl => ?_)
  refine lv_aload_n hx hb dX3_counted_15 rfl (lv_at hl 1 rfl) ?_
  refine cg_X3_28 X hS dX3_counted_16 ?_
  obtain ⟨r_50, u_49, h_u_49, h⟩ := bc_of h
  refine kc_X8_known_RX3 X  hS h_u_49 (Nat.le_trans (Nat.le_of_ble_eq_true rfl) hF) (Nat.le_trans (Nat.le_of_ble_eq_true rfl) hL) hl.1 (Nat.le_of_ble_eq_true rfl) dX3_counted_19 (fun H locs hS => ?_)
  obtain ⟨z_51, h⟩ := ok_of h
  refine lv_astore_n (lv' := [(3, .ref (Z (1000 + r_50))), (2, .int r_48), (0, .ref (Z 227)), (1, .int l1)]) hx hb dX3_counted_22 rfl hl (by decide) rfl (fun ls hl => ?_)
  refine lv_aload_n hx hb dX3_counted_23 rfl (lv_at hl 0 rfl) ?_
  refine cg_X3_121 X z_51 hS dX3_counted_24 ?_
  refine lv_bipush (v := 8) hx hb dX3_counted_27 (by decide) ?_
  refine lv_icmp_ne (tgt := 41) hx hb dX3_counted_29 (by decide) (fun c_52 => ?_) (fun c_52 => ?_)
  · have h := im (c_52) h
    exact b_X3_counted_41 X hE hst hX hC hF hL hrec hFd hLd h z_51 hS (lv_sub hl [2, 3, 1, 0] rfl)
  · have h := ip (c_52) h
    refine lv_aload_n hx hb dX3_counted_32 rfl (lv_at hl 2 rfl) ?_
    refine cg_X3_15 X hS dX3_counted_33 ?_
    refine lv_iconst (v := 3) hx hb dX3_counted_36 (by decide) ?_
    refine lv_iload_n hx hb dX3_counted_37 rfl (lv_at hl 1 rfl) ?_
    obtain ⟨y_54, u_53, h_u_53, h⟩ := bt_of h
    refine kc_X9_refuse_RX3 hst X  hS h_u_53 (Nat.le_trans (Nat.le_of_ble_eq_true rfl) hF) (Nat.le_trans (Nat.le_of_ble_eq_true rfl) hL) hC hl.1 (Nat.le_of_ble_eq_true rfl) dX3_counted_38 (fun r_u_53 hr_u_53 H locs hS => ?_) (fun x9 hn H locs q9 ce hS a1 a2 a3 => by obtain ⟨e2, rfl⟩ := bt_no h hn; exact hX _ e2 _ _ _ _ _ _ _ hS a1 a2 a3)
    replace h := bt_ok h hr_u_53
    exact b_X3_counted_41 X hE hst hX hC hF hL hrec hFd hLd h z_51 hS (lv_sub hl [2, 3, 1, 0] rfl)
def F_X3_counted (N : Nat) (ro : Nat → Nat → Int32 → Int32 → CSt → Option (Sum Nat Int32 × CSt)) (l1 : Int32) (u : CSt) : Option ((Sum Nat Int32) × CSt) := B_X3_counted_0 N ro l1 u
set_option maxHeartbeats 4000000 in
theorem k_X3_counted (l : Launch) (hst : l.stackTraces = false) (D : va_G) (kA : Nat → ClassId) (V Z : Nat → Nat) (N : Nat) {d : Nat} (ro : Nat → Nat → Int32 → Int32 → CSt → Option (Sum Nat Int32 × CSt)) (hrec : RecOK_MS l D kA V Z d ro) (l1 : Int32) (u : CSt) (sz : Nat) {y : (Sum Nat Int32)} {w : CSt} (h : F_X3_counted N ro l1 u = some (y, w)) : vx_Met l yX3_counted (Cond.code yX3_counted cX3_counted 6 none :: GW) { frames := d + 1 + 340, cells := 1, slots := 6, locals := 60 * (d + 1) + 20000 } (cPc D kA V Z [.ref (Z 227), .int l1] u sz) (cQvx D kA Z u sz y w) (cXc D kA Z u sz y w) 1 6 (va_A (CW kA Z u) sz) := by
  refine vx_ofW (cc := cX3_counted) (maxL := 6) (ret := none) (by decide) rfl ?_
  intro p e s m args below meth c s₁ Bd hml hxt hv
  obtain ⟨rfl, hsz, hP, hK, hD0, hE⟩ := hv
  have hts := atoms_spec (ws := Cond.code yX3_counted cX3_counted 6 none :: GW) Bd.pre
  have hl := lv_entry ([.ref (Z 227), .int l1]) (n := 6) (Nat.le_of_ble_eq_true rfl)
  rw [lg_entry_eq]
  generalize (lg_sl ([.ref (Z 227), .int l1]) ++ List.replicate (6 - (lg_sl ([.ref (Z 227), .int l1])).length) Slot.unset).toArray = ls at hl ⊢
  have hl : lv_has ls 6 [(0, .ref (Z 227)), (1, .int l1)] := hl
  subst hsz
  have X : CC p s m ([.ref (Z 227), .int l1]).toArray c cX3_counted 6 (Cond.code yX3_counted cX3_counted 6 none) RX3 D kA V (va_A (CW kA Z u) s.heap.size) := ⟨⟨Bd.exec, Bd.bytes, hml, findClass_of_methodNamed Bd.named, hts⟩, hK, hE, fun q h => Or.inr h⟩
  refine b_X3_counted_0 X (cend_vx X Bd.returns Bd.notSynchronized) hst (cend_X X hxt Bd.notSynchronized) ⟨Nat.le_refl _, Nat.le_refl _⟩ (Nat.le_trans (Nat.le_of_ble_eq_true rfl) (Nat.le_add_left 340 _)) (Nat.le_trans (Nat.le_of_ble_eq_true rfl) (Nat.le_add_left 20000 _)) hrec (Nat.le_refl _) (Nat.le_refl _) h  ⟨hP, hD0.self, va_S.rf⟩ (lv_sub hl [0, 1] rfl)
def B_X3_cases_176 (N : Nat) (ro : Nat → Nat → Int32 → Int32 → CSt → Option (Sum Nat Int32 × CSt)) (l2 : Int32) (u : CSt) : Option ((Sum Nat Int32) × CSt) := bc (F_X9_next N u) fun _ u_1 => ok (cR u_1 2 < 2) inferInstance <| bc (F_X6_land N (cR u_1 2) l2 u_1) fun _ u_3 => some (.inr 0, u_3)
set_option maxHeartbeats 4000000 in
theorem b_X3_cases_176 {y : (Sum Nat Int32)} {ro : Nat → Nat → Int32 → Int32 → CSt → Option (Sum Nat Int32 × CSt)} (X : CC p s m args c cX3_cases 6 (Cond.code yX3_cases cX3_cases 6 none) RX3 D kA V A) (hE : CEvx p l e R s m args below meth c cX3_cases D kA Z A Q y w) (hst : l.stackTraces = false) (hX : CX p l e R s m args below meth c D kA Z A Q y w) (hC : 1 ≤ R.cells ∧ 6 ≤ R.slots) (hF : 321 ≤ R.frames) (hL : 18726 ≤ R.locals) (hrec : RecOK_MS l D kA V Z d ro) (hFd : d + 1 + 340 ≤ R.frames) (hLd : 60 * (d + 1) + 20000 ≤ R.locals) {l2 : Int32} {u : CSt}  (h : B_X3_cases_176 N ro l2 u = some (y, w))  (hS : CS D kA Z A s u H locs) (hl : lv_has ls 6 [(0, .ref (Z 227)), (2, .int l2)]) : W p l e R s m args below meth c H locs 0 0 Q (F0 m 176 ls []) := by
  obtain ⟨⟨hx, hb, hml, hown, hts⟩, hK, hEV, hA⟩ := id X
  have hG : ∀ w ∈ GW, w.before args s = true := fun w h => hts w (List.mem_cons_of_mem _ h)
  unfold B_X3_cases_176 at h
  refine lv_aload_n hx hb dX3_cases_176 rfl (lv_at hl 0 rfl) ?_
  refine cg_X3_15 X hS dX3_cases_177 ?_
  obtain ⟨r_u_1, u_1, h_u_1, h⟩ := bc_of h
  refine kc_X9_next_RX3 X  hS h_u_1 (Nat.le_trans (Nat.le_of_ble_eq_true rfl) hF) (Nat.le_trans (Nat.le_of_ble_eq_true rfl) hL) hl.1 (Nat.le_of_ble_eq_true rfl) dX3_cases_180 (fun H locs hS => ?_)
  refine lv_aload_n hx hb dX3_cases_183 rfl (lv_at hl 0 rfl) ?_
  refine cg_X3_19 X hS dX3_cases_184 ?_
  obtain ⟨z_2, h⟩ := ok_of h
  refine lv_iload_n hx hb dX3_cases_187 rfl (lv_at hl 1 rfl) ?_
  obtain ⟨r_u_3, u_3, h_u_3, h⟩ := bc_of h
  refine kc_X6_land_RX3 X z_2 hS h_u_3 (Nat.le_trans (Nat.le_of_ble_eq_true rfl) hF) (Nat.le_trans (Nat.le_of_ble_eq_true rfl) hL) hl.1 (Nat.le_of_ble_eq_true rfl) dX3_cases_188 (fun H locs hS => ?_)
  obtain ⟨e9, rfl⟩ := so9 h
  exact hE _ e9.symm _ _ _ _ hS dX3_cases_191
def B_X3_cases_140 (N : Nat) (ro : Nat → Nat → Int32 → Int32 → CSt → Option (Sum Nat Int32 × CSt)) (l1 : Int32) (l2 : Int32) (u : CSt) : Option ((Sum Nat Int32) × CSt) := ok (cR u 2 < 2) inferInstance <| bc (F_X6_step N (cR u 2) 16 0 0 l1 u) fun r_6 u_5 => bc (F_X9_is N 24 u_5) fun r_8 u_7 => if r_8 = (0 : Int32) then (B_X3_cases_176 N ro l2 u_7) else (bc (F_X9_next N u_7) fun _ u_10 => bt (ro 0 0 0 0 u_10) fun _ u_11 => B_X3_cases_176 N ro l2 u_11)
set_option maxHeartbeats 4000000 in
theorem b_X3_cases_140 {y : (Sum Nat Int32)} {ro : Nat → Nat → Int32 → Int32 → CSt → Option (Sum Nat Int32 × CSt)} (X : CC p s m args c cX3_cases 6 (Cond.code yX3_cases cX3_cases 6 none) RX3 D kA V A) (hE : CEvx p l e R s m args below meth c cX3_cases D kA Z A Q y w) (hst : l.stackTraces = false) (hX : CX p l e R s m args below meth c D kA Z A Q y w) (hC : 1 ≤ R.cells ∧ 6 ≤ R.slots) (hF : 321 ≤ R.frames) (hL : 18726 ≤ R.locals) (hrec : RecOK_MS l D kA V Z d ro) (hFd : d + 1 + 340 ≤ R.frames) (hLd : 60 * (d + 1) + 20000 ≤ R.locals) {l1 : Int32} {l2 : Int32} {u : CSt}  (h : B_X3_cases_140 N ro l1 l2 u = some (y, w))  (hS : CS D kA Z A s u H locs) (hl : lv_has ls 6 [(0, .ref (Z 227)), (1, .int l1), (2, .int l2)]) : W p l e R s m args below meth c H locs 0 0 Q (F0 m 140 ls []) := by
  obtain ⟨⟨hx, hb, hml, hown, hts⟩, hK, hEV, hA⟩ := id X
  have hG : ∀ w ∈ GW, w.before args s = true := fun w h => hts w (List.mem_cons_of_mem _ h)
  unfold B_X3_cases_140 at h
  refine lv_aload_n hx hb dX3_cases_140 rfl (lv_at hl 0 rfl) ?_
  refine cg_X3_19 X hS dX3_cases_141 ?_
  obtain ⟨z_4, h⟩ := ok_of h
  refine lv_bipush (v := 16) hx hb dX3_cases_144 (by decide) ?_
  refine lv_iconst (v := 0) hx hb dX3_cases_146 (by decide) ?_
  refine lv_iconst (v := 0) hx hb dX3_cases_147 (by decide) ?_
  refine lv_iload_n hx hb dX3_cases_148 rfl (lv_at hl 1 rfl) ?_
  obtain ⟨r_6, u_5, h_u_5, h⟩ := bc_of h
  refine kc_X6_step_RX3 X z_4 hS h_u_5 (Nat.le_trans (Nat.le_of_ble_eq_true rfl) hF) (Nat.le_trans (Nat.le_of_ble_eq_true rfl) hL) hl.1 (Nat.le_of_ble_eq_true rfl) dX3_cases_149 (fun H locs hS => ?_)
  refine lv_pop hx hb dX3_cases_152 rfl ?_
  refine lv_aload_n hx hb dX3_cases_153 rfl (lv_at hl 0 rfl) ?_
  refine cg_X3_15 X hS dX3_cases_154 ?_
  refine lv_bipush (v := 24) hx hb dX3_cases_157 (by decide) ?_
  obtain ⟨r_8, u_7, h_u_7, h⟩ := bc_of h
  refine kc_X9_is_RX3 X  hS h_u_7 (Nat.le_trans (Nat.le_of_ble_eq_true rfl) hF) (Nat.le_trans (Nat.le_of_ble_eq_true rfl) hL) hl.1 (Nat.le_of_ble_eq_true rfl) dX3_cases_159 (fun H locs hS => ?_)
  refine lv_if_eq (tgt := 176) hx hb dX3_cases_162 (by decide) (fun c_9 => ?_) (fun c_9 => ?_)
  · have h := ip (c_9) h
    exact b_X3_cases_176 X hE hst hX hC hF hL hrec hFd hLd h  hS (lv_sub hl [0, 2] rfl)
  · have h := im (c_9) h
    refine lv_aload_n hx hb dX3_cases_165 rfl (lv_at hl 0 rfl) ?_
    refine cg_X3_15 X hS dX3_cases_166 ?_
    obtain ⟨r_u_10, u_10, h_u_10, h⟩ := bc_of h
    refine kc_X9_next_RX3 X  hS h_u_10 (Nat.le_trans (Nat.le_of_ble_eq_true rfl) hF) (Nat.le_trans (Nat.le_of_ble_eq_true rfl) hL) hl.1 (Nat.le_of_ble_eq_true rfl) dX3_cases_169 (fun H locs hS => ?_)
    refine lv_aload_n hx hb dX3_cases_172 rfl (lv_at hl 0 rfl) ?_
    obtain ⟨y_12, u_11, h_u_11, h⟩ := bt_of h
    refine kc_X3_body X hrec  hS h_u_11 hFd hLd hC hl.1 (Nat.le_of_ble_eq_true rfl) dX3_cases_173 (fun r_u_11 hr_u_11 H locs hS => ?_) (fun x9 hn H locs q9 ce hS a1 a2 a3 => by obtain ⟨e2, rfl⟩ := bt_no h hn; exact hX _ e2 _ _ _ _ _ _ _ hS a1 a2 a3)
    replace h := bt_ok h hr_u_11
    exact b_X3_cases_176 X hE hst hX hC hF hL hrec hFd hLd h  hS (lv_sub hl [0, 2] rfl)
def B_X3_cases_26 (N : Nat) (ro : Nat → Nat → Int32 → Int32 → CSt → Option (Sum Nat Int32 × CSt)) (R_26 : Int32 × Int32 × Int32 × CSt → Option ((Sum Nat Int32) × CSt)) (l1 : Int32) (l2 : Int32) (l3 : Int32) (u : CSt) : Option ((Sum Nat Int32) × CSt) := if (1500 : Int32) ≤ l3 then (B_X3_cases_140 N ro l1 l2 u) else (bc (F_X9_is N 23 u) fun r_15 u_14 => if r_15 = (0 : Int32) then (B_X3_cases_140 N ro l1 l2 u_14) else (ok (cR u_14 2 < 2) inferInstance <| bt (F_X3_labels N u_14) fun _ u_18 => ok (cR u_18 2 < 2) inferInstance <| bc (F_X6_step N (cR u_18 2) 36 (pI u_14 (cR u_14 2) 14) ((pI u_18 (cR u_18 2) 14) - (pI u_14 (cR u_14 2) 14)) l1 u_18) fun r_22 u_21 => ok (cR u_21 2 < 2) inferInstance <| bc (F_X6_step N (cR u_21 2) 30 (-1) 0 l1 u_21) fun r_25 u_24 => ok (cR u_24 2 < 2) inferInstance <| bc (F_X6_step N (cR u_24 2) 16 0 0 l1 u_24) fun r_28 u_27 => bt (ro 0 0 0 0 u_27) fun _ u_29 => ok (cR u_29 2 < 2) inferInstance <| bc (F_X6_step N (cR u_29 2) 30 l2 0 l1 u_29) fun r_33 u_32 => ok (cR u_32 2 < 2) inferInstance <| bc (F_X6_land N (cR u_32 2) r_25 u_32) fun _ u_35 => R_26 (l1, r_33, (l3 + 1), u_35)))
set_option maxHeartbeats 4000000 in
theorem b_X3_cases_26 {y : (Sum Nat Int32)} {ro : Nat → Nat → Int32 → Int32 → CSt → Option (Sum Nat Int32 × CSt)} (X : CC p s m args c cX3_cases 6 (Cond.code yX3_cases cX3_cases 6 none) RX3 D kA V A) (hE : CEvx p l e R s m args below meth c cX3_cases D kA Z A Q y w) (hst : l.stackTraces = false) (hX : CX p l e R s m args below meth c D kA Z A Q y w) (hC : 1 ≤ R.cells ∧ 6 ≤ R.slots) (hF : 321 ≤ R.frames) (hL : 18726 ≤ R.locals) (hrec : RecOK_MS l D kA V Z d ro) (hFd : d + 1 + 340 ≤ R.frames) (hLd : 60 * (d + 1) + 20000 ≤ R.locals) {R_26 : Int32 × Int32 × Int32 × CSt → Option ((Sum Nat Int32) × CSt)} {l1 : Int32} {l2 : Int32} {l3 : Int32} {u : CSt} (hR_26 : ∀ (l1 : Int32) (l2 : Int32) (l3 : Int32) (u : CSt), R_26 (l1, l2, l3, u) = some (y, w) → ∀ (H : Heap) (locs : List Loc) (ls : Array Slot), CS D kA Z A s u H locs → lv_has ls 6 [(0, .ref (Z 227)), (1, .int l1), (2, .int l2), (3, .int l3)] → W p l e R s m args below meth c H locs 0 0 Q (F0 m 26 ls [])) (h : B_X3_cases_26 N ro R_26 l1 l2 l3 u = some (y, w))  (hS : CS D kA Z A s u H locs) (hl : lv_has ls 6 [(0, .ref (Z 227)), (1, .int l1), (2, .int l2), (3, .int l3)]) : W p l e R s m args below meth c H locs 0 0 Q (F0 m 26 ls []) := by
  obtain ⟨⟨hx, hb, hml, hown, hts⟩, hK, hEV, hA⟩ := id X
  have hG : ∀ w ∈ GW, w.before args s = true := fun w h => hts w (List.mem_cons_of_mem _ h)
  unfold B_X3_cases_26 at h
  refine lv_iload_n hx hb dX3_cases_26 rfl (lv_at hl 3 rfl) ?_
  refine lv_sipush (v := 1500) hx hb dX3_cases_27 (by decide) ?_
  refine lv_icmp_ge (tgt := 140) hx hb dX3_cases_30 (by decide) (fun c_13 => ?_) (fun c_13 => ?_)
  · have h := ip (c_13) h
    exact b_X3_cases_140 X hE hst hX hC hF hL hrec hFd hLd h  hS (lv_sub hl [0, 1, 2] rfl)
  · have h := im (c_13) h
    refine lv_aload_n hx hb dX3_cases_33 rfl (lv_at hl 0 rfl) ?_
    refine cg_X3_15 X hS dX3_cases_34 ?_
    refine lv_bipush (v := 23) hx hb dX3_cases_37 (by decide) ?_
    obtain ⟨r_15, u_14, h_u_14, h⟩ := bc_of h
    refine kc_X9_is_RX3 X  hS h_u_14 (Nat.le_trans (Nat.le_of_ble_eq_true rfl) hF) (Nat.le_trans (Nat.le_of_ble_eq_true rfl) hL) hl.1 (Nat.le_of_ble_eq_true rfl) dX3_cases_39 (fun H locs hS => ?_)
    refine lv_if_eq (tgt := 140) hx hb dX3_cases_42 (by decide) (fun c_16 => ?_) (fun c_16 => ?_)
    · have h := ip (c_16) h
      exact b_X3_cases_140 X hE hst hX hC hF hL hrec hFd hLd h  hS (lv_sub hl [0, 1, 2] rfl)
    · have h := im (c_16) h
      refine lv_aload_n hx hb dX3_cases_45 rfl (lv_at hl 0 rfl) ?_
      refine cg_X3_19 X hS dX3_cases_46 ?_
      obtain ⟨z_17, h⟩ := ok_of h
      refine cg_X3_350 X z_17 hS dX3_cases_49 ?_
      refine lv_istore (lv' := [(4, .int (pI u_14 (cR u_14 2) 14)), (0, .ref (Z 227)), (1, .int l1), (2, .int l2), (3, .int l3)]) hx hb dX3_cases_52 hl (by decide) rfl (fun ls hl => ?_)
      refine lv_aload_n hx hb dX3_cases_54 rfl (lv_at hl 1 rfl) ?_
      obtain ⟨y_19, u_18, h_u_18, h⟩ := bt_of h
      refine kc_X3_labels_RX3 hst X  hS h_u_18 (Nat.le_trans (Nat.le_of_ble_eq_true rfl) hF) (Nat.le_trans (Nat.le_of_ble_eq_true rfl) hL) hC hl.1 (Nat.le_of_ble_eq_true rfl) dX3_cases_55 (fun r_u_18 hr_u_18 H locs hS => ?_) (fun x9 hn H locs q9 ce hS a1 a2 a3 => by obtain ⟨e2, rfl⟩ := bt_no h hn; exact hX _ e2 _ _ _ _ _ _ _ hS a1 a2 a3)
      replace h := bt_ok h hr_u_18
      refine lv_aload_n hx hb dX3_cases_58 rfl (lv_at hl 1 rfl) ?_
      refine cg_X3_19 X hS dX3_cases_59 ?_
      obtain ⟨z_20, h⟩ := ok_of h
      refine lv_bipush (v := 36) hx hb dX3_cases_62 (by decide) ?_
      refine lv_iload hx hb dX3_cases_64 (lv_at hl 0 rfl) ?_
      refine lv_aload_n hx hb dX3_cases_66 rfl (lv_at hl 1 rfl) ?_
      refine cg_X3_19 X hS dX3_cases_67 ?_
      refine cg_X3_350 X z_20 hS dX3_cases_70 ?_
      refine lv_iload hx hb dX3_cases_73 (lv_at hl 0 rfl) ?_
      refine lv_isub hx hb dX3_cases_75 ?_
      refine lv_iload_n hx hb dX3_cases_76 rfl (lv_at hl 2 rfl) ?_
      obtain ⟨r_22, u_21, h_u_21, h⟩ := bc_of h
      refine kc_X6_step_RX3 X z_20 hS h_u_21 (Nat.le_trans (Nat.le_of_ble_eq_true rfl) hF) (Nat.le_trans (Nat.le_of_ble_eq_true rfl) hL) hl.1 (Nat.le_of_ble_eq_true rfl) dX3_cases_77 (fun H locs hS => ?_)
      refine lv_pop hx hb dX3_cases_80 rfl ?_
      refine lv_aload_n hx hb dX3_cases_81 rfl (lv_at hl 1 rfl) ?_
      refine cg_X3_19 X hS dX3_cases_82 ?_
      obtain ⟨z_23, h⟩ := ok_of h
      refine lv_bipush (v := 30) hx hb dX3_cases_85 (by decide) ?_
      refine lv_iconst (v := (-1)) hx hb dX3_cases_87 (by decide) ?_
      refine lv_iconst (v := 0) hx hb dX3_cases_88 (by decide) ?_
      refine lv_iload_n hx hb dX3_cases_89 rfl (lv_at hl 2 rfl) ?_
      obtain ⟨r_25, u_24, h_u_24, h⟩ := bc_of h
      refine kc_X6_step_RX3 X z_23 hS h_u_24 (Nat.le_trans (Nat.le_of_ble_eq_true rfl) hF) (Nat.le_trans (Nat.le_of_ble_eq_true rfl) hL) hl.1 (Nat.le_of_ble_eq_true rfl) dX3_cases_90 (fun H locs hS => ?_)
      refine lv_istore (lv' := [(5, .int r_25), (4, .int (pI u_14 (cR u_14 2) 14)), (0, .ref (Z 227)), (1, .int l1), (2, .int l2), (3, .int l3)]) hx hb dX3_cases_93 hl (by decide) rfl (fun ls hl => ?_)
      refine lv_aload_n hx hb dX3_cases_95 rfl (lv_at hl 2 rfl) ?_
      refine cg_X3_19 X hS dX3_cases_96 ?_
      obtain ⟨z_26, h⟩ := ok_of h
      refine lv_bipush (v := 16) hx hb dX3_cases_99 (by decide) ?_
      refine lv_iconst (v := 0) hx hb dX3_cases_101 (by decide) ?_
      refine lv_iconst (v := 0) hx hb dX3_cases_102 (by decide) ?_
      refine lv_iload_n hx hb dX3_cases_103 rfl (lv_at hl 3 rfl) ?_
      obtain ⟨r_28, u_27, h_u_27, h⟩ := bc_of h
      refine kc_X6_step_RX3 X z_26 hS h_u_27 (Nat.le_trans (Nat.le_of_ble_eq_true rfl) hF) (Nat.le_trans (Nat.le_of_ble_eq_true rfl) hL) hl.1 (Nat.le_of_ble_eq_true rfl) dX3_cases_104 (fun H locs hS => ?_)
      refine lv_pop hx hb dX3_cases_107 rfl ?_
      refine lv_aload_n hx hb dX3_cases_108 rfl (lv_at hl 2 rfl) ?_
      obtain ⟨y_30, u_29, h_u_29, h⟩ := bt_of h
      refine kc_X3_body X hrec  hS h_u_29 hFd hLd hC hl.1 (Nat.le_of_ble_eq_true rfl) dX3_cases_109 (fun r_u_29 hr_u_29 H locs hS => ?_) (fun x9 hn H locs q9 ce hS a1 a2 a3 => by obtain ⟨e2, rfl⟩ := bt_no h hn; exact hX _ e2 _ _ _ _ _ _ _ hS a1 a2 a3)
      replace h := bt_ok h hr_u_29
      refine lv_aload_n hx hb dX3_cases_112 rfl (lv_at hl 2 rfl) ?_
      refine cg_X3_19 X hS dX3_cases_113 ?_
      obtain ⟨z_31, h⟩ := ok_of h
      refine lv_bipush (v := 30) hx hb dX3_cases_116 (by decide) ?_
      refine lv_iload_n hx hb dX3_cases_118 rfl (lv_at hl 4 rfl) ?_
      refine lv_iconst (v := 0) hx hb dX3_cases_119 (by decide) ?_
      refine lv_iload_n hx hb dX3_cases_120 rfl (lv_at hl 3 rfl) ?_
      obtain ⟨r_33, u_32, h_u_32, h⟩ := bc_of h
      refine kc_X6_step_RX3 X z_31 hS h_u_32 (Nat.le_trans (Nat.le_of_ble_eq_true rfl) hF) (Nat.le_trans (Nat.le_of_ble_eq_true rfl) hL) hl.1 (Nat.le_of_ble_eq_true rfl) dX3_cases_121 (fun H locs hS => ?_)
      refine lv_istore_n (lv' := [(2, .int r_33), (5, .int r_25), (4, .int (pI u_14 (cR u_14 2) 14)), (0, .ref (Z 227)), (1, .int l1), (3, .int l3)]) hx hb dX3_cases_124 rfl hl (by decide) rfl (fun ls hl => ?_)
      refine lv_aload_n hx hb dX3_cases_125 rfl (lv_at hl 3 rfl) ?_
      refine cg_X3_19 X hS dX3_cases_126 ?_
      obtain ⟨z_34, h⟩ := ok_of h
      refine lv_iload hx hb dX3_cases_129 (lv_at hl 1 rfl) ?_
      obtain ⟨r_u_35, u_35, h_u_35, h⟩ := bc_of h
      refine kc_X6_land_RX3 X z_34 hS h_u_35 (Nat.le_trans (Nat.le_of_ble_eq_true rfl) hF) (Nat.le_trans (Nat.le_of_ble_eq_true rfl) hL) hl.1 (Nat.le_of_ble_eq_true rfl) dX3_cases_131 (fun H locs hS => ?_)
      refine lv_iinc (v := l3 + 1) (lv' := [(3, .int (l3 + 1)), (2, .int r_33), (5, .int r_25), (4, .int (pI u_14 (cR u_14 2) 14)), (0, .ref (Z 227)), (1, .int l1)]) hx hb dX3_cases_134 hl (k := 5) rfl rfl (by decide) rfl (fun ls hl => ?_)
      refine lv_goto (tgt := 26) hx hb dX3_cases_137 (by decide) ?_
      exact hR_26 _ _ _ _  h _ _ _ hS (lv_sub hl [4, 5, 1, 0] rfl)
def LP_X3_cases_26 (N : Nat) (ro : Nat → Nat → Int32 → Int32 → CSt → Option (Sum Nat Int32 × CSt)) : Nat → Int32 × Int32 × Int32 × CSt → Option ((Sum Nat Int32) × CSt) := lp (fun R a => B_X3_cases_26 N ro R a.1 a.2.1 a.2.2.1 a.2.2.2)
theorem bl_X3_cases_26 {y : (Sum Nat Int32)} {ro : Nat → Nat → Int32 → Int32 → CSt → Option (Sum Nat Int32 × CSt)} (X : CC p s m args c cX3_cases 6 (Cond.code yX3_cases cX3_cases 6 none) RX3 D kA V A) (hE : CEvx p l e R s m args below meth c cX3_cases D kA Z A Q y w) (hst : l.stackTraces = false) (hX : CX p l e R s m args below meth c D kA Z A Q y w) (hC : 1 ≤ R.cells ∧ 6 ≤ R.slots) (hF : 321 ≤ R.frames) (hL : 18726 ≤ R.locals) (hrec : RecOK_MS l D kA V Z d ro) (hFd : d + 1 + 340 ≤ R.frames) (hLd : 60 * (d + 1) + 20000 ≤ R.locals)  : ∀ (n : Nat) (l1 : Int32) (l2 : Int32) (l3 : Int32) (u : CSt), LP_X3_cases_26 N ro n (l1, l2, l3, u) = some (y, w) → ∀ (H : Heap) (locs : List Loc) (ls : Array Slot), CS D kA Z A s u H locs → lv_has ls 6 [(0, .ref (Z 227)), (1, .int l1), (2, .int l2), (3, .int l3)] → W p l e R s m args below meth c H locs 0 0 Q (F0 m 26 ls []) := by
  intro n
  induction n with
  | zero => intro l1 l2 l3 u h; exact nomatch h
  | succ n ih => intro l1 l2 l3 u h H locs ls hS hl; exact b_X3_cases_26 (N := N) (R_26 := LP_X3_cases_26 N ro n) X hE hst hX hC hF hL hrec hFd hLd ih h  hS hl
def B_X3_cases_0 (N : Nat) (ro : Nat → Nat → Int32 → Int32 → CSt → Option (Sum Nat Int32 × CSt)) (l1 : Int32) (u : CSt) : Option ((Sum Nat Int32) × CSt) := bc (F_X9_next N u) fun _ u_36 => bt (G_X8_expression N u_36) fun r_38 u_37 => bc (F_X9_next N u_37) fun _ u_40 => LP_X3_cases_26 N ro N (l1, (-1), 0, u_40)
set_option maxHeartbeats 4000000 in
theorem b_X3_cases_0 {y : (Sum Nat Int32)} {ro : Nat → Nat → Int32 → Int32 → CSt → Option (Sum Nat Int32 × CSt)} (X : CC p s m args c cX3_cases 6 (Cond.code yX3_cases cX3_cases 6 none) RX3 D kA V A) (hE : CEvx p l e R s m args below meth c cX3_cases D kA Z A Q y w) (hst : l.stackTraces = false) (hX : CX p l e R s m args below meth c D kA Z A Q y w) (hC : 1 ≤ R.cells ∧ 6 ≤ R.slots) (hF : 321 ≤ R.frames) (hL : 18726 ≤ R.locals) (hrec : RecOK_MS l D kA V Z d ro) (hFd : d + 1 + 340 ≤ R.frames) (hLd : 60 * (d + 1) + 20000 ≤ R.locals) {l1 : Int32} {u : CSt}  (h : B_X3_cases_0 N ro l1 u = some (y, w))  (hS : CS D kA Z A s u H locs) (hl : lv_has ls 6 [(0, .ref (Z 227)), (1, .int l1)]) : W p l e R s m args below meth c H locs 0 0 Q (F0 m 0 ls []) := by
  obtain ⟨⟨hx, hb, hml, hown, hts⟩, hK, hEV, hA⟩ := id X
  have hG : ∀ w ∈ GW, w.before args s = true := fun w h => hts w (List.mem_cons_of_mem _ h)
  unfold B_X3_cases_0 at h
  refine lv_aload_n hx hb dX3_cases_0 rfl (lv_at hl 0 rfl) ?_
  refine cg_X3_15 X hS dX3_cases_1 ?_
  obtain ⟨r_u_36, u_36, h_u_36, h⟩ := bc_of h
  refine kc_X9_next_RX3 X  hS h_u_36 (Nat.le_trans (Nat.le_of_ble_eq_true rfl) hF) (Nat.le_trans (Nat.le_of_ble_eq_true rfl) hL) hl.1 (Nat.le_of_ble_eq_true rfl) dX3_cases_4 (fun H locs hS => ?_)
  refine lv_aload_n hx hb dX3_cases_7 rfl (lv_at hl 0 rfl) ?_
  refine cg_X3_28 X hS dX3_cases_8 ?_
  obtain ⟨y_39, u_37, h_u_37, h⟩ := bt_of h
  refine kg_X8_expression_RX3 hst X  hS h_u_37 (Nat.le_trans (Nat.le_of_ble_eq_true rfl) hF) (Nat.le_trans (Nat.le_of_ble_eq_true rfl) hL) hC hl.1 (Nat.le_of_ble_eq_true rfl) dX3_cases_11 (fun r_38 hr_u_37 H locs hS => ?_) (fun x9 hn H locs q9 ce hS a1 a2 a3 => by obtain ⟨e2, rfl⟩ := bt_no h hn; exact hX _ e2 _ _ _ _ _ _ _ hS a1 a2 a3)
  replace h := bt_ok h hr_u_37
  refine lv_pop hx hb dX3_cases_14 rfl ?_
  refine lv_aload_n hx hb dX3_cases_15 rfl (lv_at hl 0 rfl) ?_
  refine cg_X3_15 X hS dX3_cases_16 ?_
  obtain ⟨r_u_40, u_40, h_u_40, h⟩ := bc_of h
  refine kc_X9_next_RX3 X  hS h_u_40 (Nat.le_trans (Nat.le_of_ble_eq_true rfl) hF) (Nat.le_trans (Nat.le_of_ble_eq_true rfl) hL) hl.1 (Nat.le_of_ble_eq_true rfl) dX3_cases_19 (fun H locs hS => ?_)
  refine lv_iconst (v := (-1)) hx hb dX3_cases_22 (by decide) ?_
  refine lv_istore_n (lv' := [(2, .int (-1)), (0, .ref (Z 227)), (1, .int l1)]) hx hb dX3_cases_23 rfl hl (by decide) rfl (fun ls hl => ?_)
  refine lv_iconst (v := 0) hx hb dX3_cases_24 (by decide) ?_
  refine lv_istore_n (lv' := [(3, .int 0), (2, .int (-1)), (0, .ref (Z 227)), (1, .int l1)]) hx hb dX3_cases_25 rfl hl (by decide) rfl (fun ls hl => ?_)
  exact bl_X3_cases_26 X hE hst hX hC hF hL hrec hFd hLd _ _ _ _ _  h _ _ _ hS (lv_sub hl [2, 3, 1, 0] rfl)
def F_X3_cases (N : Nat) (ro : Nat → Nat → Int32 → Int32 → CSt → Option (Sum Nat Int32 × CSt)) (l1 : Int32) (u : CSt) : Option ((Sum Nat Int32) × CSt) := B_X3_cases_0 N ro l1 u
set_option maxHeartbeats 4000000 in
theorem k_X3_cases (l : Launch) (hst : l.stackTraces = false) (D : va_G) (kA : Nat → ClassId) (V Z : Nat → Nat) (N : Nat) {d : Nat} (ro : Nat → Nat → Int32 → Int32 → CSt → Option (Sum Nat Int32 × CSt)) (hrec : RecOK_MS l D kA V Z d ro) (l1 : Int32) (u : CSt) (sz : Nat) {y : (Sum Nat Int32)} {w : CSt} (h : F_X3_cases N ro l1 u = some (y, w)) : vx_Met l yX3_cases (Cond.code yX3_cases cX3_cases 6 none :: GW) { frames := d + 1 + 340, cells := 1, slots := 6, locals := 60 * (d + 1) + 20000 } (cPc D kA V Z [.ref (Z 227), .int l1] u sz) (cQvx D kA Z u sz y w) (cXc D kA Z u sz y w) 1 6 (va_A (CW kA Z u) sz) := by
  refine vx_ofW (cc := cX3_cases) (maxL := 6) (ret := none) (by decide) rfl ?_
  intro p e s m args below meth c s₁ Bd hml hxt hv
  obtain ⟨rfl, hsz, hP, hK, hD0, hE⟩ := hv
  have hts := atoms_spec (ws := Cond.code yX3_cases cX3_cases 6 none :: GW) Bd.pre
  have hl := lv_entry ([.ref (Z 227), .int l1]) (n := 6) (Nat.le_of_ble_eq_true rfl)
  rw [lg_entry_eq]
  generalize (lg_sl ([.ref (Z 227), .int l1]) ++ List.replicate (6 - (lg_sl ([.ref (Z 227), .int l1])).length) Slot.unset).toArray = ls at hl ⊢
  have hl : lv_has ls 6 [(0, .ref (Z 227)), (1, .int l1)] := hl
  subst hsz
  have X : CC p s m ([.ref (Z 227), .int l1]).toArray c cX3_cases 6 (Cond.code yX3_cases cX3_cases 6 none) RX3 D kA V (va_A (CW kA Z u) s.heap.size) := ⟨⟨Bd.exec, Bd.bytes, hml, findClass_of_methodNamed Bd.named, hts⟩, hK, hE, fun q h => Or.inr h⟩
  refine b_X3_cases_0 X (cend_vx X Bd.returns Bd.notSynchronized) hst (cend_X X hxt Bd.notSynchronized) ⟨Nat.le_refl _, Nat.le_refl _⟩ (Nat.le_trans (Nat.le_of_ble_eq_true rfl) (Nat.le_add_left 340 _)) (Nat.le_trans (Nat.le_of_ble_eq_true rfl) (Nat.le_add_left 20000 _)) hrec (Nat.le_refl _) (Nat.le_refl _) h  ⟨hP, hD0.self, va_S.rf⟩ (lv_sub hl [0, 1] rfl)
def FMS_ (N : Nat) : Nat → Nat → Nat → Int32 → Int32 → CSt → Option (Sum Nat Int32 × CSt)
  | 0 => fun _ _ _ _ _ => none
  | d + 1 => fun q z a b u => if q = 0 then F_X3_body N (FMS_ N d) u else if q = 1 then F_X3_statements N (FMS_ N d) u else if q = 2 then F_X3_statement N (FMS_ N d) u else if q = 3 then F_X3_choice N (FMS_ N d) a u else if q = 4 then F_X3_loop N (FMS_ N d) a u else if q = 5 then F_X3_round N (FMS_ N d) a u else if q = 6 then F_X3_counted N (FMS_ N d) a u else if q = 7 then F_X3_cases N (FMS_ N d) a u else none
theorem okMS_ (l : Launch) (hst : l.stackTraces = false) (D : va_G) (kA : Nat → ClassId) (V Z : Nat → Nat) (N : Nat) : ∀ d : Nat, RecOK_MS l D kA V Z d (FMS_ N d) := by
  intro d
  induction d with
  | zero => exact ⟨fun u sz y w h => (nomatch h), fun u sz y w h => (nomatch h), fun u sz y w h => (nomatch h), fun l1 u sz y w h => (nomatch h), fun l1 u sz y w h => (nomatch h), fun l1 u sz y w h => (nomatch h), fun l1 u sz y w h => (nomatch h), fun l1 u sz y w h => (nomatch h)⟩
  | succ d ih => exact ⟨fun u sz y w h => k_X3_body l hst D kA V Z N (FMS_ N d) ih u sz h, fun u sz y w h => k_X3_statements l hst D kA V Z N (FMS_ N d) ih u sz h, fun u sz y w h => k_X3_statement l hst D kA V Z N (FMS_ N d) ih u sz h, fun l1 u sz y w h => k_X3_choice l hst D kA V Z N (FMS_ N d) ih l1 u sz h, fun l1 u sz y w h => k_X3_loop l hst D kA V Z N (FMS_ N d) ih l1 u sz h, fun l1 u sz y w h => k_X3_round l hst D kA V Z N (FMS_ N d) ih l1 u sz h, fun l1 u sz y w h => k_X3_counted l hst D kA V Z N (FMS_ N d) ih l1 u sz h, fun l1 u sz y w h => k_X3_cases l hst D kA V Z N (FMS_ N d) ih l1 u sz h⟩
def G_X3_body (N : Nat) (u : CSt) : Option (Sum Nat Int32 × CSt) := FMS_ N 150 0 0 0 0 u
theorem kg_X3_body_RX3 {cc : ByteArray} {pc nL : Nat} {c0 : Cond} {rest : List Value} {u w1 : CSt} {y1 : Sum Nat Int32} (hst : l.stackTraces = false) (X : CC p s m args c cc nL c0 RX3 D kA V A)  (hS : CS D kA Z A s u H locs) (h : G_X3_body N u = some (y1, w1)) (hF : 490 + 1 ≤ R.frames) (hL : 8 + (1 + 11) + 29000 ≤ R.locals) (hC : 1 ≤ R.cells ∧ 6 ≤ R.slots) (hl : ls.size = nL) (hc : (rest.map fun v => v.category).sum ≤ 8) (hdg : decode cc pc = .ok (.invokevirtual 335, 3)) (kk : ∀ r, y1 = .inr r → ∀ H locs, CS D kA Z A s w1 H locs → W p l e R s m args below meth c H locs 0 0 Q (F0 m (pc + 3) ls (rest))) (kx : ∀ x, y1 = .inl x → ∀ (H : Heap) (locs : List Loc) (q : Addr) (ce : Cell), CS D kA Z A s w1 H locs → H[q]? = some ce → ce.vm = .none → s.vm.findClass (exN x) = some ce.cls → vx_W p l e R s m args below meth c H locs 1 6 Q (F0 m pc ls rest) q) : W p l e R s m args below meth c H locs 0 0 Q (F0 m pc ls (.ref (Z 227) :: rest)) :=
  ccall_vx (n := 0) (f9 := 150 + 340) (l9 := 60 * 150 + 20000) X hS ((okMS_ l hst D kA V Z N 150).1 u H.size _ _  h) (gw_V gw_1276 gw_1278 gs_5_2 gw_13 gw_1279) (by decide +kernel) (va_recv X.2.1 hS.1 (ci := 3) (q0 := 27) rfl (cw_lit rfl)) hF hL hC rfl hl hc rfl hdg kk kx
def G_X3_statements (N : Nat) (u : CSt) : Option (Sum Nat Int32 × CSt) := FMS_ N 150 1 0 0 0 u
theorem kg_X3_statements_RX3 {cc : ByteArray} {pc nL : Nat} {c0 : Cond} {rest : List Value} {u w1 : CSt} {y1 : Sum Nat Int32} (hst : l.stackTraces = false) (X : CC p s m args c cc nL c0 RX3 D kA V A)  (hS : CS D kA Z A s u H locs) (h : G_X3_statements N u = some (y1, w1)) (hF : 490 + 1 ≤ R.frames) (hL : 8 + (2 + 11) + 29000 ≤ R.locals) (hC : 1 ≤ R.cells ∧ 6 ≤ R.slots) (hl : ls.size = nL) (hc : (rest.map fun v => v.category).sum ≤ 8) (hdg : decode cc pc = .ok (.invokevirtual 233, 3)) (kk : ∀ r, y1 = .inr r → ∀ H locs, CS D kA Z A s w1 H locs → W p l e R s m args below meth c H locs 0 0 Q (F0 m (pc + 3) ls (.int r :: rest))) (kx : ∀ x, y1 = .inl x → ∀ (H : Heap) (locs : List Loc) (q : Addr) (ce : Cell), CS D kA Z A s w1 H locs → H[q]? = some ce → ce.vm = .none → s.vm.findClass (exN x) = some ce.cls → vx_W p l e R s m args below meth c H locs 1 6 Q (F0 m pc ls rest) q) : W p l e R s m args below meth c H locs 0 0 Q (F0 m pc ls (.ref (Z 227) :: rest)) :=
  ccall_ix (n := 0) (f9 := 150 + 340) (l9 := 60 * 150 + 20000) X hS ((okMS_ l hst D kA V Z N 150).2.1 u H.size _ _  h) (gw_V gw_1102 gw_1104 gs_4_2 gw_13 gw_1105) (by decide +kernel) (va_recv X.2.1 hS.1 (ci := 3) (q0 := 27) rfl (cw_lit rfl)) hF hL hC rfl hl hc rfl hdg kk kx
def G_X3_statement (N : Nat) (u : CSt) : Option (Sum Nat Int32 × CSt) := FMS_ N 150 2 0 0 0 u
theorem kg_X3_statement_RX3 {cc : ByteArray} {pc nL : Nat} {c0 : Cond} {rest : List Value} {u w1 : CSt} {y1 : Sum Nat Int32} (hst : l.stackTraces = false) (X : CC p s m args c cc nL c0 RX3 D kA V A)  (hS : CS D kA Z A s u H locs) (h : G_X3_statement N u = some (y1, w1)) (hF : 490 + 1 ≤ R.frames) (hL : 8 + (2 + 11) + 29000 ≤ R.locals) (hC : 1 ≤ R.cells ∧ 6 ≤ R.slots) (hl : ls.size = nL) (hc : (rest.map fun v => v.category).sum ≤ 8) (hdg : decode cc pc = .ok (.invokevirtual 257, 3)) (kk : ∀ r, y1 = .inr r → ∀ H locs, CS D kA Z A s w1 H locs → W p l e R s m args below meth c H locs 0 0 Q (F0 m (pc + 3) ls (rest))) (kx : ∀ x, y1 = .inl x → ∀ (H : Heap) (locs : List Loc) (q : Addr) (ce : Cell), CS D kA Z A s w1 H locs → H[q]? = some ce → ce.vm = .none → s.vm.findClass (exN x) = some ce.cls → vx_W p l e R s m args below meth c H locs 1 6 Q (F0 m pc ls rest) q) : W p l e R s m args below meth c H locs 0 0 Q (F0 m pc ls (.ref (Z 227) :: rest)) :=
  ccall_vx (n := 0) (f9 := 150 + 340) (l9 := 60 * 150 + 20000) X hS ((okMS_ l hst D kA V Z N 150).2.2.1 u H.size _ _  h) (gw_V gw_1106 gw_1108 gs_4_3 gw_13 gw_1109) (by decide +kernel) (va_recv X.2.1 hS.1 (ci := 3) (q0 := 27) rfl (cw_lit rfl)) hF hL hC rfl hl hc rfl hdg kk kx
def G_X3_choice (N : Nat) (l1 : Int32) (u : CSt) : Option (Sum Nat Int32 × CSt) := FMS_ N 150 3 0 l1 0 u
theorem kg_X3_choice_RX3 {cc : ByteArray} {pc nL : Nat} {c0 : Cond} {rest : List Value} {l1 : Int32} {u w1 : CSt} {y1 : Sum Nat Int32} (hst : l.stackTraces = false) (X : CC p s m args c cc nL c0 RX3 D kA V A)  (hS : CS D kA Z A s u H locs) (h : G_X3_choice N l1 u = some (y1, w1)) (hF : 490 + 1 ≤ R.frames) (hL : 8 + (6 + 11) + 29000 ≤ R.locals) (hC : 1 ≤ R.cells ∧ 6 ≤ R.slots) (hl : ls.size = nL) (hc : (rest.map fun v => v.category).sum ≤ 8) (hdg : decode cc pc = .ok (.invokevirtual 263, 3)) (kk : ∀ r, y1 = .inr r → ∀ H locs, CS D kA Z A s w1 H locs → W p l e R s m args below meth c H locs 0 0 Q (F0 m (pc + 3) ls (rest))) (kx : ∀ x, y1 = .inl x → ∀ (H : Heap) (locs : List Loc) (q : Addr) (ce : Cell), CS D kA Z A s w1 H locs → H[q]? = some ce → ce.vm = .none → s.vm.findClass (exN x) = some ce.cls → vx_W p l e R s m args below meth c H locs 1 6 Q (F0 m pc ls rest) q) : W p l e R s m args below meth c H locs 0 0 Q (F0 m pc ls (.int l1 :: .ref (Z 227) :: rest)) :=
  ccall_vx (n := 1) (f9 := 150 + 340) (l9 := 60 * 150 + 20000) X hS ((okMS_ l hst D kA V Z N 150).2.2.2.1 l1 u H.size _ _  h) (gw_V gw_1118 gw_1120 gs_4_4 gw_13 gw_1121) (by decide +kernel) (va_recv X.2.1 hS.1 (ci := 3) (q0 := 27) rfl (cw_lit rfl)) hF hL hC rfl hl hc rfl hdg kk kx
def G_X3_loop (N : Nat) (l1 : Int32) (u : CSt) : Option (Sum Nat Int32 × CSt) := FMS_ N 150 4 0 l1 0 u
theorem kg_X3_loop_RX3 {cc : ByteArray} {pc nL : Nat} {c0 : Cond} {rest : List Value} {l1 : Int32} {u w1 : CSt} {y1 : Sum Nat Int32} (hst : l.stackTraces = false) (X : CC p s m args c cc nL c0 RX3 D kA V A)  (hS : CS D kA Z A s u H locs) (h : G_X3_loop N l1 u = some (y1, w1)) (hF : 490 + 1 ≤ R.frames) (hL : 8 + (4 + 11) + 29000 ≤ R.locals) (hC : 1 ≤ R.cells ∧ 6 ≤ R.slots) (hl : ls.size = nL) (hc : (rest.map fun v => v.category).sum ≤ 8) (hdg : decode cc pc = .ok (.invokevirtual 266, 3)) (kk : ∀ r, y1 = .inr r → ∀ H locs, CS D kA Z A s w1 H locs → W p l e R s m args below meth c H locs 0 0 Q (F0 m (pc + 3) ls (rest))) (kx : ∀ x, y1 = .inl x → ∀ (H : Heap) (locs : List Loc) (q : Addr) (ce : Cell), CS D kA Z A s w1 H locs → H[q]? = some ce → ce.vm = .none → s.vm.findClass (exN x) = some ce.cls → vx_W p l e R s m args below meth c H locs 1 6 Q (F0 m pc ls rest) q) : W p l e R s m args below meth c H locs 0 0 Q (F0 m pc ls (.int l1 :: .ref (Z 227) :: rest)) :=
  ccall_vx (n := 1) (f9 := 150 + 340) (l9 := 60 * 150 + 20000) X hS ((okMS_ l hst D kA V Z N 150).2.2.2.2.1 l1 u H.size _ _  h) (gw_V gw_1281 gw_1283 gs_5_3 gw_13 gw_1284) (by decide +kernel) (va_recv X.2.1 hS.1 (ci := 3) (q0 := 27) rfl (cw_lit rfl)) hF hL hC rfl hl hc rfl hdg kk kx
def G_X3_round (N : Nat) (l1 : Int32) (u : CSt) : Option (Sum Nat Int32 × CSt) := FMS_ N 150 5 0 l1 0 u
theorem kg_X3_round_RX3 {cc : ByteArray} {pc nL : Nat} {c0 : Cond} {rest : List Value} {l1 : Int32} {u w1 : CSt} {y1 : Sum Nat Int32} (hst : l.stackTraces = false) (X : CC p s m args c cc nL c0 RX3 D kA V A)  (hS : CS D kA Z A s u H locs) (h : G_X3_round N l1 u = some (y1, w1)) (hF : 490 + 1 ≤ R.frames) (hL : 8 + (3 + 11) + 29000 ≤ R.locals) (hC : 1 ≤ R.cells ∧ 6 ≤ R.slots) (hl : ls.size = nL) (hc : (rest.map fun v => v.category).sum ≤ 8) (hdg : decode cc pc = .ok (.invokevirtual 341, 3)) (kk : ∀ r, y1 = .inr r → ∀ H locs, CS D kA Z A s w1 H locs → W p l e R s m args below meth c H locs 0 0 Q (F0 m (pc + 3) ls (rest))) (kx : ∀ x, y1 = .inl x → ∀ (H : Heap) (locs : List Loc) (q : Addr) (ce : Cell), CS D kA Z A s w1 H locs → H[q]? = some ce → ce.vm = .none → s.vm.findClass (exN x) = some ce.cls → vx_W p l e R s m args below meth c H locs 1 6 Q (F0 m pc ls rest) q) : W p l e R s m args below meth c H locs 0 0 Q (F0 m pc ls (.int l1 :: .ref (Z 227) :: rest)) :=
  ccall_vx (n := 1) (f9 := 150 + 340) (l9 := 60 * 150 + 20000) X hS ((okMS_ l hst D kA V Z N 150).2.2.2.2.2.1 l1 u H.size _ _  h) (gw_V gw_1285 gw_1287 gs_5_4 gw_13 gw_1288) (by decide +kernel) (va_recv X.2.1 hS.1 (ci := 3) (q0 := 27) rfl (cw_lit rfl)) hF hL hC rfl hl hc rfl hdg kk kx
def G_X3_counted (N : Nat) (l1 : Int32) (u : CSt) : Option (Sum Nat Int32 × CSt) := FMS_ N 150 6 0 l1 0 u
theorem kg_X3_counted_RX3 {cc : ByteArray} {pc nL : Nat} {c0 : Cond} {rest : List Value} {l1 : Int32} {u w1 : CSt} {y1 : Sum Nat Int32} (hst : l.stackTraces = false) (X : CC p s m args c cc nL c0 RX3 D kA V A)  (hS : CS D kA Z A s u H locs) (h : G_X3_counted N l1 u = some (y1, w1)) (hF : 490 + 1 ≤ R.frames) (hL : 8 + (6 + 11) + 29000 ≤ R.locals) (hC : 1 ≤ R.cells ∧ 6 ≤ R.slots) (hl : ls.size = nL) (hc : (rest.map fun v => v.category).sum ≤ 8) (hdg : decode cc pc = .ok (.invokevirtual 269, 3)) (kk : ∀ r, y1 = .inr r → ∀ H locs, CS D kA Z A s w1 H locs → W p l e R s m args below meth c H locs 0 0 Q (F0 m (pc + 3) ls (rest))) (kx : ∀ x, y1 = .inl x → ∀ (H : Heap) (locs : List Loc) (q : Addr) (ce : Cell), CS D kA Z A s w1 H locs → H[q]? = some ce → ce.vm = .none → s.vm.findClass (exN x) = some ce.cls → vx_W p l e R s m args below meth c H locs 1 6 Q (F0 m pc ls rest) q) : W p l e R s m args below meth c H locs 0 0 Q (F0 m pc ls (.int l1 :: .ref (Z 227) :: rest)) :=
  ccall_vx (n := 1) (f9 := 150 + 340) (l9 := 60 * 150 + 20000) X hS ((okMS_ l hst D kA V Z N 150).2.2.2.2.2.2.1 l1 u H.size _ _  h) (gw_V gw_1289 gw_1291 gs_5_5 gw_13 gw_1292) (by decide +kernel) (va_recv X.2.1 hS.1 (ci := 3) (q0 := 27) rfl (cw_lit rfl)) hF hL hC rfl hl hc rfl hdg kk kx
def G_X3_cases (N : Nat) (l1 : Int32) (u : CSt) : Option (Sum Nat Int32 × CSt) := FMS_ N 150 7 0 l1 0 u
theorem kg_X3_cases_RX3 {cc : ByteArray} {pc nL : Nat} {c0 : Cond} {rest : List Value} {l1 : Int32} {u w1 : CSt} {y1 : Sum Nat Int32} (hst : l.stackTraces = false) (X : CC p s m args c cc nL c0 RX3 D kA V A)  (hS : CS D kA Z A s u H locs) (h : G_X3_cases N l1 u = some (y1, w1)) (hF : 490 + 1 ≤ R.frames) (hL : 8 + (6 + 11) + 29000 ≤ R.locals) (hC : 1 ≤ R.cells ∧ 6 ≤ R.slots) (hl : ls.size = nL) (hc : (rest.map fun v => v.category).sum ≤ 8) (hdg : decode cc pc = .ok (.invokevirtual 272, 3)) (kk : ∀ r, y1 = .inr r → ∀ H locs, CS D kA Z A s w1 H locs → W p l e R s m args below meth c H locs 0 0 Q (F0 m (pc + 3) ls (rest))) (kx : ∀ x, y1 = .inl x → ∀ (H : Heap) (locs : List Loc) (q : Addr) (ce : Cell), CS D kA Z A s w1 H locs → H[q]? = some ce → ce.vm = .none → s.vm.findClass (exN x) = some ce.cls → vx_W p l e R s m args below meth c H locs 1 6 Q (F0 m pc ls rest) q) : W p l e R s m args below meth c H locs 0 0 Q (F0 m pc ls (.int l1 :: .ref (Z 227) :: rest)) :=
  ccall_vx (n := 1) (f9 := 150 + 340) (l9 := 60 * 150 + 20000) X hS ((okMS_ l hst D kA V Z N 150).2.2.2.2.2.2.2 l1 u H.size _ _  h) (gw_V gw_1308 gw_1310 gs_5_7 gw_13 gw_1311) (by decide +kernel) (va_recv X.2.1 hS.1 (ci := 3) (q0 := 27) rfl (cw_lit rfl)) hF hL hC rfl hl hc rfl hdg kk kx
end C39bmstat
