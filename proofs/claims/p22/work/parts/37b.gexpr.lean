abbrev cX0_expression : ByteArray := prog_2_method_20_code
def yX0_expression : MethodName := ⟨RX0, "expression", "()V"⟩
def yX0_operand : MethodName := ⟨RX0, "operand", "()V"⟩
def yX0_arguments : MethodName := ⟨RX0, "arguments", "()V"⟩
abbrev cX0_arguments : ByteArray := prog_2_method_24_code
def yX0_bracket : MethodName := ⟨RX0, "bracket", "()V"⟩
abbrev cX0_bracket : ByteArray := prog_2_method_22_code
def yX0_index : MethodName := ⟨RX0, "index", "()V"⟩
abbrev cX0_index : ByteArray := prog_2_method_25_code
def yX0_namedOperand : MethodName := ⟨RX0, "namedOperand", "()V"⟩
abbrev cX0_namedOperand : ByteArray := prog_2_method_23_code
abbrev cX0_operand : ByteArray := prog_2_method_21_code
theorem dX0_expression_0 : decode cX0_expression 0 = .ok (.aload_n 0, 1) := by decide +kernel
theorem dX0_expression_1 : decode cX0_expression 1 = .ok (.invokevirtual 119, 3) := by decide +kernel
theorem dX0_expression_4 : decode cX0_expression 4 = .ok (.iconst 0, 1) := by decide +kernel
theorem dX0_expression_5 : decode cX0_expression 5 = .ok (.istore_n 1, 1) := by decide +kernel
theorem dX0_expression_6 : decode cX0_expression 6 = .ok (.iload_n 1, 1) := by decide +kernel
theorem dX0_expression_7 : decode cX0_expression 7 = .ok (.sipush 1500, 3) := by decide +kernel
theorem dX0_expression_10 : decode cX0_expression 10 = .ok (.if_icmp .ge 33, 3) := by decide +kernel
theorem dX0_expression_13 : decode cX0_expression 13 = .ok (.aload_n 0, 1) := by decide +kernel
theorem dX0_expression_14 : decode cX0_expression 14 = .ok (.getfield 9, 3) := by decide +kernel
theorem dX0_expression_17 : decode cX0_expression 17 = .ok (.invokevirtual 28, 3) := by decide +kernel
theorem dX0_expression_20 : decode cX0_expression 20 = .ok (.invokestatic 122, 3) := by decide +kernel
theorem dX0_expression_23 : decode cX0_expression 23 = .ok (.ifCond .le 20, 3) := by decide +kernel
theorem dX0_expression_26 : decode cX0_expression 26 = .ok (.aload_n 0, 1) := by decide +kernel
theorem dX0_expression_27 : decode cX0_expression 27 = .ok (.getfield 9, 3) := by decide +kernel
theorem dX0_expression_30 : decode cX0_expression 30 = .ok (.invokevirtual 38, 3) := by decide +kernel
theorem dX0_expression_33 : decode cX0_expression 33 = .ok (.aload_n 0, 1) := by decide +kernel
theorem dX0_expression_34 : decode cX0_expression 34 = .ok (.invokevirtual 119, 3) := by decide +kernel
theorem dX0_expression_37 : decode cX0_expression 37 = .ok (.iinc 1 1, 3) := by decide +kernel
theorem dX0_expression_40 : decode cX0_expression 40 = .ok (.goto (-34), 3) := by decide +kernel
theorem dX0_expression_43 : decode cX0_expression 43 = .ok (.aload_n 0, 1) := by decide +kernel
theorem dX0_expression_44 : decode cX0_expression 44 = .ok (.getfield 9, 3) := by decide +kernel
theorem dX0_expression_47 : decode cX0_expression 47 = .ok (.bipush 63, 2) := by decide +kernel
theorem dX0_expression_49 : decode cX0_expression 49 = .ok (.invokevirtual 24, 3) := by decide +kernel
theorem dX0_expression_52 : decode cX0_expression 52 = .ok (.ifCond .eq 36, 3) := by decide +kernel
theorem dX0_expression_55 : decode cX0_expression 55 = .ok (.aload_n 0, 1) := by decide +kernel
theorem dX0_expression_56 : decode cX0_expression 56 = .ok (.bipush 63, 2) := by decide +kernel
theorem dX0_expression_58 : decode cX0_expression 58 = .ok (.invokevirtual 67, 3) := by decide +kernel
theorem dX0_expression_61 : decode cX0_expression 61 = .ok (.aload_n 0, 1) := by decide +kernel
theorem dX0_expression_62 : decode cX0_expression 62 = .ok (.invokevirtual 91, 3) := by decide +kernel
theorem dX0_expression_65 : decode cX0_expression 65 = .ok (.aload_n 0, 1) := by decide +kernel
theorem dX0_expression_66 : decode cX0_expression 66 = .ok (.getfield 9, 3) := by decide +kernel
theorem dX0_expression_69 : decode cX0_expression 69 = .ok (.bipush 58, 2) := by decide +kernel
theorem dX0_expression_71 : decode cX0_expression 71 = .ok (.invokevirtual 63, 3) := by decide +kernel
theorem dX0_expression_74 : decode cX0_expression 74 = .ok (.aload_n 0, 1) := by decide +kernel
theorem dX0_expression_75 : decode cX0_expression 75 = .ok (.invokevirtual 91, 3) := by decide +kernel
theorem dX0_expression_78 : decode cX0_expression 78 = .ok (.aload_n 0, 1) := by decide +kernel
theorem dX0_expression_79 : decode cX0_expression 79 = .ok (.dup, 1) := by decide +kernel
theorem dX0_expression_80 : decode cX0_expression 80 = .ok (.getfield 15, 3) := by decide +kernel
theorem dX0_expression_83 : decode cX0_expression 83 = .ok (.iconst 1, 1) := by decide +kernel
theorem dX0_expression_84 : decode cX0_expression 84 = .ok (.isub, 1) := by decide +kernel
theorem dX0_expression_85 : decode cX0_expression 85 = .ok (.putfield 15, 3) := by decide +kernel
theorem dX0_expression_88 : decode cX0_expression 88 = .ok (.return_, 1) := by decide +kernel
theorem dX0_operand_0 : decode cX0_operand 0 = .ok (.aload_n 0, 1) := by decide +kernel
theorem dX0_operand_1 : decode cX0_operand 1 = .ok (.getfield 9, 3) := by decide +kernel
theorem dX0_operand_4 : decode cX0_operand 4 = .ok (.invokevirtual 28, 3) := by decide +kernel
theorem dX0_operand_7 : decode cX0_operand 7 = .ok (.lookupswitch 125 #[(29, 115), (33, 73), (40, 101), (45, 73), (126, 73), (128, 108), (129, 115), (130, 115)], 73) := by decide +kernel
theorem dX0_operand_80 : decode cX0_operand 80 = .ok (.aload_n 0, 1) := by decide +kernel
theorem dX0_operand_81 : decode cX0_operand 81 = .ok (.aload_n 0, 1) := by decide +kernel
theorem dX0_operand_82 : decode cX0_operand 82 = .ok (.getfield 9, 3) := by decide +kernel
theorem dX0_operand_85 : decode cX0_operand 85 = .ok (.invokevirtual 28, 3) := by decide +kernel
theorem dX0_operand_88 : decode cX0_operand 88 = .ok (.invokevirtual 67, 3) := by decide +kernel
theorem dX0_operand_91 : decode cX0_operand 91 = .ok (.aload_n 0, 1) := by decide +kernel
theorem dX0_operand_92 : decode cX0_operand 92 = .ok (.invokevirtual 119, 3) := by decide +kernel
theorem dX0_operand_95 : decode cX0_operand 95 = .ok (.aload_n 0, 1) := by decide +kernel
theorem dX0_operand_96 : decode cX0_operand 96 = .ok (.dup, 1) := by decide +kernel
theorem dX0_operand_97 : decode cX0_operand 97 = .ok (.getfield 15, 3) := by decide +kernel
theorem dX0_operand_100 : decode cX0_operand 100 = .ok (.iconst 1, 1) := by decide +kernel
theorem dX0_operand_101 : decode cX0_operand 101 = .ok (.isub, 1) := by decide +kernel
theorem dX0_operand_102 : decode cX0_operand 102 = .ok (.putfield 15, 3) := by decide +kernel
theorem dX0_operand_105 : decode cX0_operand 105 = .ok (.goto 34, 3) := by decide +kernel
theorem dX0_operand_108 : decode cX0_operand 108 = .ok (.aload_n 0, 1) := by decide +kernel
theorem dX0_operand_109 : decode cX0_operand 109 = .ok (.invokevirtual 125, 3) := by decide +kernel
theorem dX0_operand_112 : decode cX0_operand 112 = .ok (.goto 27, 3) := by decide +kernel
theorem dX0_operand_115 : decode cX0_operand 115 = .ok (.aload_n 0, 1) := by decide +kernel
theorem dX0_operand_116 : decode cX0_operand 116 = .ok (.invokevirtual 128, 3) := by decide +kernel
theorem dX0_operand_119 : decode cX0_operand 119 = .ok (.goto 20, 3) := by decide +kernel
theorem dX0_operand_122 : decode cX0_operand 122 = .ok (.aload_n 0, 1) := by decide +kernel
theorem dX0_operand_123 : decode cX0_operand 123 = .ok (.getfield 9, 3) := by decide +kernel
theorem dX0_operand_126 : decode cX0_operand 126 = .ok (.invokevirtual 38, 3) := by decide +kernel
theorem dX0_operand_129 : decode cX0_operand 129 = .ok (.goto 10, 3) := by decide +kernel
theorem dX0_operand_132 : decode cX0_operand 132 = .ok (.aload_n 0, 1) := by decide +kernel
theorem dX0_operand_133 : decode cX0_operand 133 = .ok (.getfield 9, 3) := by decide +kernel
theorem dX0_operand_136 : decode cX0_operand 136 = .ok (.invokevirtual 53, 3) := by decide +kernel
theorem dX0_operand_139 : decode cX0_operand 139 = .ok (.return_, 1) := by decide +kernel
theorem dX0_bracket_0 : decode cX0_bracket 0 = .ok (.aload_n 0, 1) := by decide +kernel
theorem dX0_bracket_1 : decode cX0_bracket 1 = .ok (.bipush 40, 2) := by decide +kernel
theorem dX0_bracket_3 : decode cX0_bracket 3 = .ok (.invokevirtual 67, 3) := by decide +kernel
theorem dX0_bracket_6 : decode cX0_bracket 6 = .ok (.aload_n 0, 1) := by decide +kernel
theorem dX0_bracket_7 : decode cX0_bracket 7 = .ok (.getfield 9, 3) := by decide +kernel
theorem dX0_bracket_10 : decode cX0_bracket 10 = .ok (.invokevirtual 56, 3) := by decide +kernel
theorem dX0_bracket_13 : decode cX0_bracket 13 = .ok (.ifCond .eq 36, 3) := by decide +kernel
theorem dX0_bracket_16 : decode cX0_bracket 16 = .ok (.aload_n 0, 1) := by decide +kernel
theorem dX0_bracket_17 : decode cX0_bracket 17 = .ok (.getfield 9, 3) := by decide +kernel
theorem dX0_bracket_20 : decode cX0_bracket 20 = .ok (.invokevirtual 38, 3) := by decide +kernel
theorem dX0_bracket_23 : decode cX0_bracket 23 = .ok (.aload_n 0, 1) := by decide +kernel
theorem dX0_bracket_24 : decode cX0_bracket 24 = .ok (.getfield 9, 3) := by decide +kernel
theorem dX0_bracket_27 : decode cX0_bracket 27 = .ok (.bipush 41, 2) := by decide +kernel
theorem dX0_bracket_29 : decode cX0_bracket 29 = .ok (.invokevirtual 63, 3) := by decide +kernel
theorem dX0_bracket_32 : decode cX0_bracket 32 = .ok (.aload_n 0, 1) := by decide +kernel
theorem dX0_bracket_33 : decode cX0_bracket 33 = .ok (.invokevirtual 119, 3) := by decide +kernel
theorem dX0_bracket_36 : decode cX0_bracket 36 = .ok (.aload_n 0, 1) := by decide +kernel
theorem dX0_bracket_37 : decode cX0_bracket 37 = .ok (.dup, 1) := by decide +kernel
theorem dX0_bracket_38 : decode cX0_bracket 38 = .ok (.getfield 15, 3) := by decide +kernel
theorem dX0_bracket_41 : decode cX0_bracket 41 = .ok (.iconst 1, 1) := by decide +kernel
theorem dX0_bracket_42 : decode cX0_bracket 42 = .ok (.isub, 1) := by decide +kernel
theorem dX0_bracket_43 : decode cX0_bracket 43 = .ok (.putfield 15, 3) := by decide +kernel
theorem dX0_bracket_46 : decode cX0_bracket 46 = .ok (.goto 13, 3) := by decide +kernel
theorem dX0_bracket_49 : decode cX0_bracket 49 = .ok (.aload_n 0, 1) := by decide +kernel
theorem dX0_bracket_50 : decode cX0_bracket 50 = .ok (.invokevirtual 91, 3) := by decide +kernel
theorem dX0_bracket_53 : decode cX0_bracket 53 = .ok (.aload_n 0, 1) := by decide +kernel
theorem dX0_bracket_54 : decode cX0_bracket 54 = .ok (.bipush 41, 2) := by decide +kernel
theorem dX0_bracket_56 : decode cX0_bracket 56 = .ok (.invokevirtual 70, 3) := by decide +kernel
theorem dX0_bracket_59 : decode cX0_bracket 59 = .ok (.return_, 1) := by decide +kernel
theorem dX0_namedOperand_0 : decode cX0_namedOperand 0 = .ok (.aload_n 0, 1) := by decide +kernel
theorem dX0_namedOperand_1 : decode cX0_namedOperand 1 = .ok (.getfield 9, 3) := by decide +kernel
theorem dX0_namedOperand_4 : decode cX0_namedOperand 4 = .ok (.invokevirtual 38, 3) := by decide +kernel
theorem dX0_namedOperand_7 : decode cX0_namedOperand 7 = .ok (.aload_n 0, 1) := by decide +kernel
theorem dX0_namedOperand_8 : decode cX0_namedOperand 8 = .ok (.getfield 9, 3) := by decide +kernel
theorem dX0_namedOperand_11 : decode cX0_namedOperand 11 = .ok (.bipush 40, 2) := by decide +kernel
theorem dX0_namedOperand_13 : decode cX0_namedOperand 13 = .ok (.invokevirtual 24, 3) := by decide +kernel
theorem dX0_namedOperand_16 : decode cX0_namedOperand 16 = .ok (.ifCond .eq 10, 3) := by decide +kernel
theorem dX0_namedOperand_19 : decode cX0_namedOperand 19 = .ok (.aload_n 0, 1) := by decide +kernel
theorem dX0_namedOperand_20 : decode cX0_namedOperand 20 = .ok (.invokevirtual 103, 3) := by decide +kernel
theorem dX0_namedOperand_23 : decode cX0_namedOperand 23 = .ok (.goto 58, 3) := by decide +kernel
theorem dX0_namedOperand_26 : decode cX0_namedOperand 26 = .ok (.aload_n 0, 1) := by decide +kernel
theorem dX0_namedOperand_27 : decode cX0_namedOperand 27 = .ok (.getfield 9, 3) := by decide +kernel
theorem dX0_namedOperand_30 : decode cX0_namedOperand 30 = .ok (.bipush 46, 2) := by decide +kernel
theorem dX0_namedOperand_32 : decode cX0_namedOperand 32 = .ok (.invokevirtual 24, 3) := by decide +kernel
theorem dX0_namedOperand_35 : decode cX0_namedOperand 35 = .ok (.ifCond .eq 38, 3) := by decide +kernel
theorem dX0_namedOperand_38 : decode cX0_namedOperand 38 = .ok (.aload_n 0, 1) := by decide +kernel
theorem dX0_namedOperand_39 : decode cX0_namedOperand 39 = .ok (.getfield 9, 3) := by decide +kernel
theorem dX0_namedOperand_42 : decode cX0_namedOperand 42 = .ok (.iconst 1, 1) := by decide +kernel
theorem dX0_namedOperand_43 : decode cX0_namedOperand 43 = .ok (.invokevirtual 131, 3) := by decide +kernel
theorem dX0_namedOperand_46 : decode cX0_namedOperand 46 = .ok (.sipush 128, 3) := by decide +kernel
theorem dX0_namedOperand_49 : decode cX0_namedOperand 49 = .ok (.if_icmp .ne 24, 3) := by decide +kernel
theorem dX0_namedOperand_52 : decode cX0_namedOperand 52 = .ok (.aload_n 0, 1) := by decide +kernel
theorem dX0_namedOperand_53 : decode cX0_namedOperand 53 = .ok (.getfield 9, 3) := by decide +kernel
theorem dX0_namedOperand_56 : decode cX0_namedOperand 56 = .ok (.invokevirtual 38, 3) := by decide +kernel
theorem dX0_namedOperand_59 : decode cX0_namedOperand 59 = .ok (.aload_n 0, 1) := by decide +kernel
theorem dX0_namedOperand_60 : decode cX0_namedOperand 60 = .ok (.getfield 9, 3) := by decide +kernel
theorem dX0_namedOperand_63 : decode cX0_namedOperand 63 = .ok (.invokevirtual 38, 3) := by decide +kernel
theorem dX0_namedOperand_66 : decode cX0_namedOperand 66 = .ok (.aload_n 0, 1) := by decide +kernel
theorem dX0_namedOperand_67 : decode cX0_namedOperand 67 = .ok (.invokevirtual 106, 3) := by decide +kernel
theorem dX0_namedOperand_70 : decode cX0_namedOperand 70 = .ok (.goto 11, 3) := by decide +kernel
theorem dX0_namedOperand_73 : decode cX0_namedOperand 73 = .ok (.aload_n 0, 1) := by decide +kernel
theorem dX0_namedOperand_74 : decode cX0_namedOperand 74 = .ok (.invokevirtual 106, 3) := by decide +kernel
theorem dX0_namedOperand_77 : decode cX0_namedOperand 77 = .ok (.aload_n 0, 1) := by decide +kernel
theorem dX0_namedOperand_78 : decode cX0_namedOperand 78 = .ok (.invokevirtual 109, 3) := by decide +kernel
theorem dX0_namedOperand_81 : decode cX0_namedOperand 81 = .ok (.return_, 1) := by decide +kernel
theorem dX0_arguments_0 : decode cX0_arguments 0 = .ok (.aload_n 0, 1) := by decide +kernel
theorem dX0_arguments_1 : decode cX0_arguments 1 = .ok (.bipush 40, 2) := by decide +kernel
theorem dX0_arguments_3 : decode cX0_arguments 3 = .ok (.invokevirtual 67, 3) := by decide +kernel
theorem dX0_arguments_6 : decode cX0_arguments 6 = .ok (.aload_n 0, 1) := by decide +kernel
theorem dX0_arguments_7 : decode cX0_arguments 7 = .ok (.getfield 9, 3) := by decide +kernel
theorem dX0_arguments_10 : decode cX0_arguments 10 = .ok (.bipush 41, 2) := by decide +kernel
theorem dX0_arguments_12 : decode cX0_arguments 12 = .ok (.invokevirtual 24, 3) := by decide +kernel
theorem dX0_arguments_15 : decode cX0_arguments 15 = .ok (.ifCond .ne 7, 3) := by decide +kernel
theorem dX0_arguments_18 : decode cX0_arguments 18 = .ok (.aload_n 0, 1) := by decide +kernel
theorem dX0_arguments_19 : decode cX0_arguments 19 = .ok (.invokevirtual 91, 3) := by decide +kernel
theorem dX0_arguments_22 : decode cX0_arguments 22 = .ok (.iconst 0, 1) := by decide +kernel
theorem dX0_arguments_23 : decode cX0_arguments 23 = .ok (.istore_n 1, 1) := by decide +kernel
theorem dX0_arguments_24 : decode cX0_arguments 24 = .ok (.iload_n 1, 1) := by decide +kernel
theorem dX0_arguments_25 : decode cX0_arguments 25 = .ok (.sipush 1500, 3) := by decide +kernel
theorem dX0_arguments_28 : decode cX0_arguments 28 = .ok (.if_icmp .ge 32, 3) := by decide +kernel
theorem dX0_arguments_31 : decode cX0_arguments 31 = .ok (.aload_n 0, 1) := by decide +kernel
theorem dX0_arguments_32 : decode cX0_arguments 32 = .ok (.getfield 9, 3) := by decide +kernel
theorem dX0_arguments_35 : decode cX0_arguments 35 = .ok (.bipush 44, 2) := by decide +kernel
theorem dX0_arguments_37 : decode cX0_arguments 37 = .ok (.invokevirtual 24, 3) := by decide +kernel
theorem dX0_arguments_40 : decode cX0_arguments 40 = .ok (.ifCond .eq 20, 3) := by decide +kernel
theorem dX0_arguments_43 : decode cX0_arguments 43 = .ok (.aload_n 0, 1) := by decide +kernel
theorem dX0_arguments_44 : decode cX0_arguments 44 = .ok (.getfield 9, 3) := by decide +kernel
theorem dX0_arguments_47 : decode cX0_arguments 47 = .ok (.invokevirtual 38, 3) := by decide +kernel
theorem dX0_arguments_50 : decode cX0_arguments 50 = .ok (.aload_n 0, 1) := by decide +kernel
theorem dX0_arguments_51 : decode cX0_arguments 51 = .ok (.invokevirtual 91, 3) := by decide +kernel
theorem dX0_arguments_54 : decode cX0_arguments 54 = .ok (.iinc 1 1, 3) := by decide +kernel
theorem dX0_arguments_57 : decode cX0_arguments 57 = .ok (.goto (-33), 3) := by decide +kernel
theorem dX0_arguments_60 : decode cX0_arguments 60 = .ok (.aload_n 0, 1) := by decide +kernel
theorem dX0_arguments_61 : decode cX0_arguments 61 = .ok (.bipush 41, 2) := by decide +kernel
theorem dX0_arguments_63 : decode cX0_arguments 63 = .ok (.invokevirtual 70, 3) := by decide +kernel
theorem dX0_arguments_66 : decode cX0_arguments 66 = .ok (.return_, 1) := by decide +kernel
theorem dX0_index_0 : decode cX0_index 0 = .ok (.aload_n 0, 1) := by decide +kernel
theorem dX0_index_1 : decode cX0_index 1 = .ok (.getfield 9, 3) := by decide +kernel
theorem dX0_index_4 : decode cX0_index 4 = .ok (.bipush 91, 2) := by decide +kernel
theorem dX0_index_6 : decode cX0_index 6 = .ok (.invokevirtual 24, 3) := by decide +kernel
theorem dX0_index_9 : decode cX0_index 9 = .ok (.ifCond .eq 19, 3) := by decide +kernel
theorem dX0_index_12 : decode cX0_index 12 = .ok (.aload_n 0, 1) := by decide +kernel
theorem dX0_index_13 : decode cX0_index 13 = .ok (.bipush 91, 2) := by decide +kernel
theorem dX0_index_15 : decode cX0_index 15 = .ok (.invokevirtual 67, 3) := by decide +kernel
theorem dX0_index_18 : decode cX0_index 18 = .ok (.aload_n 0, 1) := by decide +kernel
theorem dX0_index_19 : decode cX0_index 19 = .ok (.invokevirtual 91, 3) := by decide +kernel
theorem dX0_index_22 : decode cX0_index 22 = .ok (.aload_n 0, 1) := by decide +kernel
theorem dX0_index_23 : decode cX0_index 23 = .ok (.bipush 93, 2) := by decide +kernel
theorem dX0_index_25 : decode cX0_index 25 = .ok (.invokevirtual 70, 3) := by decide +kernel
theorem dX0_index_28 : decode cX0_index 28 = .ok (.return_, 1) := by decide +kernel
theorem gs_2_10 : Cond.selects "SoftController$Grammar" ⟨"SoftController$Grammar", "arguments", "()V"⟩ ⟨"SoftController$Grammar", "arguments", "()V"⟩ ∈ GW := gw_s (List.mem_map.mpr ⟨_, pin_2 _ (List.mem_of_getElem? (i := 10) rfl), rfl⟩) rfl
theorem gs_2_11 : Cond.selects "SoftController$Grammar" ⟨"SoftController$Grammar", "expression", "()V"⟩ ⟨"SoftController$Grammar", "expression", "()V"⟩ ∈ GW := gw_s (List.mem_map.mpr ⟨_, pin_2 _ (List.mem_of_getElem? (i := 11) rfl), rfl⟩) rfl
theorem gs_2_12 : Cond.selects "SoftController$Grammar" ⟨"SoftController$Grammar", "operand", "()V"⟩ ⟨"SoftController$Grammar", "operand", "()V"⟩ ∈ GW := gw_s (List.mem_map.mpr ⟨_, pin_2 _ (List.mem_of_getElem? (i := 12) rfl), rfl⟩) rfl
theorem gs_2_13 : Cond.selects "SoftController$Grammar" ⟨"SoftController$Grammar", "bracket", "()V"⟩ ⟨"SoftController$Grammar", "bracket", "()V"⟩ ∈ GW := gw_s (List.mem_map.mpr ⟨_, pin_2 _ (List.mem_of_getElem? (i := 13) rfl), rfl⟩) rfl
theorem gs_2_14 : Cond.selects "SoftController$Grammar" ⟨"SoftController$Grammar", "namedOperand", "()V"⟩ ⟨"SoftController$Grammar", "namedOperand", "()V"⟩ ∈ GW := gw_s (List.mem_map.mpr ⟨_, pin_2 _ (List.mem_of_getElem? (i := 14) rfl), rfl⟩) rfl
theorem gs_2_15 : Cond.selects "SoftController$Grammar" ⟨"SoftController$Grammar", "index", "()V"⟩ ⟨"SoftController$Grammar", "index", "()V"⟩ ∈ GW := gw_s (List.mem_map.mpr ⟨_, pin_2 _ (List.mem_of_getElem? (i := 15) rfl), rfl⟩) rfl
theorem gw_908 : (Jvm.Cond.methodLink "SoftController$Grammar" (103 : Nat) ({ cls := "SoftController$Grammar", name := "arguments", desc := "()V" } : Jvm.MethodName)) ∈ GW := gw_t (tin_4 _ (List.mem_of_getElem? (i := 188) rfl)) rfl
theorem gw_910 : (Jvm.Cond.instanceMethod ({ cls := "SoftController$Grammar", name := "arguments", desc := "()V" } : Jvm.MethodName)) ∈ GW := gw_t (tin_4 _ (List.mem_of_getElem? (i := 190) rfl)) rfl
theorem gw_911 : (Jvm.Cond.code ({ cls := "SoftController$Grammar", name := "arguments", desc := "()V" } : Jvm.MethodName) prog_2_method_24_code (2 : Nat) (Option.none : Option Jvm.ClassFile.FieldType)) ∈ GW := gw_t (tin_4 _ (List.mem_of_getElem? (i := 191) rfl)) rfl
theorem gw_912 : (Jvm.Cond.methodLink "SoftController$Grammar" (91 : Nat) ({ cls := "SoftController$Grammar", name := "expression", desc := "()V" } : Jvm.MethodName)) ∈ GW := gw_t (tin_4 _ (List.mem_of_getElem? (i := 192) rfl)) rfl
theorem gw_914 : (Jvm.Cond.instanceMethod ({ cls := "SoftController$Grammar", name := "expression", desc := "()V" } : Jvm.MethodName)) ∈ GW := gw_t (tin_4 _ (List.mem_of_getElem? (i := 194) rfl)) rfl
theorem gw_915 : (Jvm.Cond.code ({ cls := "SoftController$Grammar", name := "expression", desc := "()V" } : Jvm.MethodName) prog_2_method_20_code (2 : Nat) (Option.none : Option Jvm.ClassFile.FieldType)) ∈ GW := gw_t (tin_4 _ (List.mem_of_getElem? (i := 195) rfl)) rfl
theorem gw_916 : (Jvm.Cond.methodLink "SoftController$Grammar" (119 : Nat) ({ cls := "SoftController$Grammar", name := "operand", desc := "()V" } : Jvm.MethodName)) ∈ GW := gw_t (tin_4 _ (List.mem_of_getElem? (i := 196) rfl)) rfl
theorem gw_918 : (Jvm.Cond.instanceMethod ({ cls := "SoftController$Grammar", name := "operand", desc := "()V" } : Jvm.MethodName)) ∈ GW := gw_t (tin_4 _ (List.mem_of_getElem? (i := 198) rfl)) rfl
theorem gw_919 : (Jvm.Cond.code ({ cls := "SoftController$Grammar", name := "operand", desc := "()V" } : Jvm.MethodName) prog_2_method_21_code (1 : Nat) (Option.none : Option Jvm.ClassFile.FieldType)) ∈ GW := gw_t (tin_4 _ (List.mem_of_getElem? (i := 199) rfl)) rfl
theorem gw_920 : (Jvm.Cond.methodLink "SoftController$Grammar" (125 : Nat) ({ cls := "SoftController$Grammar", name := "bracket", desc := "()V" } : Jvm.MethodName)) ∈ GW := gw_t (tin_4 _ (List.mem_of_getElem? (i := 200) rfl)) rfl
theorem gw_922 : (Jvm.Cond.instanceMethod ({ cls := "SoftController$Grammar", name := "bracket", desc := "()V" } : Jvm.MethodName)) ∈ GW := gw_t (tin_4 _ (List.mem_of_getElem? (i := 202) rfl)) rfl
theorem gw_923 : (Jvm.Cond.code ({ cls := "SoftController$Grammar", name := "bracket", desc := "()V" } : Jvm.MethodName) prog_2_method_22_code (1 : Nat) (Option.none : Option Jvm.ClassFile.FieldType)) ∈ GW := gw_t (tin_4 _ (List.mem_of_getElem? (i := 203) rfl)) rfl
theorem gw_924 : (Jvm.Cond.methodLink "SoftController$Grammar" (128 : Nat) ({ cls := "SoftController$Grammar", name := "namedOperand", desc := "()V" } : Jvm.MethodName)) ∈ GW := gw_t (tin_4 _ (List.mem_of_getElem? (i := 204) rfl)) rfl
theorem gw_926 : (Jvm.Cond.instanceMethod ({ cls := "SoftController$Grammar", name := "namedOperand", desc := "()V" } : Jvm.MethodName)) ∈ GW := gw_t (tin_4 _ (List.mem_of_getElem? (i := 206) rfl)) rfl
theorem gw_927 : (Jvm.Cond.code ({ cls := "SoftController$Grammar", name := "namedOperand", desc := "()V" } : Jvm.MethodName) prog_2_method_23_code (1 : Nat) (Option.none : Option Jvm.ClassFile.FieldType)) ∈ GW := gw_t (tin_4 _ (List.mem_of_getElem? (i := 207) rfl)) rfl
theorem gw_932 : (Jvm.Cond.methodLink "SoftController$Grammar" (106 : Nat) ({ cls := "SoftController$Grammar", name := "index", desc := "()V" } : Jvm.MethodName)) ∈ GW := gw_t (tin_4 _ (List.mem_of_getElem? (i := 212) rfl)) rfl
theorem gw_934 : (Jvm.Cond.instanceMethod ({ cls := "SoftController$Grammar", name := "index", desc := "()V" } : Jvm.MethodName)) ∈ GW := gw_t (tin_4 _ (List.mem_of_getElem? (i := 214) rfl)) rfl
theorem gw_935 : (Jvm.Cond.code ({ cls := "SoftController$Grammar", name := "index", desc := "()V" } : Jvm.MethodName) prog_2_method_25_code (1 : Nat) (Option.none : Option Jvm.ClassFile.FieldType)) ∈ GW := gw_t (tin_4 _ (List.mem_of_getElem? (i := 215) rfl)) rfl
theorem gw_940 : (Jvm.Cond.methodLink "SoftController$Grammar" (122 : Nat) ({ cls := "SoftController$Tokens", name := "strength", desc := "(I)I" } : Jvm.MethodName)) ∈ GW := gw_t (tin_4 _ (List.mem_of_getElem? (i := 220) rfl)) rfl
theorem gw_941 : (Jvm.Cond.static ({ cls := "SoftController$Tokens", name := "strength", desc := "(I)I" } : Jvm.MethodName)) ∈ GW := gw_t (tin_4 _ (List.mem_of_getElem? (i := 221) rfl)) rfl
theorem gw_942 : (Jvm.Cond.code ({ cls := "SoftController$Tokens", name := "strength", desc := "(I)I" } : Jvm.MethodName) prog_11_method_39_code (1 : Nat) (Option.some Jvm.ClassFile.FieldType.int)) ∈ GW := gw_t (tin_4 _ (List.mem_of_getElem? (i := 222) rfl)) rfl
section C37bgexpr
variable {p : Program} {l : Launch} {e : Env} {R : Room} {s : State} {m : MethodId} {args : Array Value} {below : List Frame} {meth : Method} {c : Code} {H : Heap} {locs : List Loc} {Q : State → Prop} {cells slots : Nat}
variable {ls : Array Slot} {D : va_G} {kA : Nat → ClassId} {V Z : Nat → Nat} {A : Nat → Prop} {N d : Nat} {w : CSt}
/-- the contracts of the group, at a depth -/
def RecOK_GE (l : Launch) (D : va_G) (kA : Nat → ClassId) (V Z : Nat → Nat) (d : Nat) (ro : Nat → Nat → Int32 → Int32 → CSt → Option (Sum Nat Int32 × CSt)) : Prop := (∀ (u : CSt) (sz : Nat) (y : Sum Nat Int32) (w : CSt), ro 0 0 0 0 u = some (y, w) → vx_Met l yX0_expression (Cond.code yX0_expression cX0_expression 2 none :: GW) { frames := d + 14, cells := 1, slots := 6, locals := 60 * d + 500 } (cPc D kA V Z [.ref (Z 208)] u sz) (cQvx D kA Z u sz y w) (cXc D kA Z u sz y w) 1 6 (va_A (CW kA Z u) sz)) ∧ (∀ (u : CSt) (sz : Nat) (y : Sum Nat Int32) (w : CSt), ro 1 0 0 0 u = some (y, w) → vx_Met l yX0_operand (Cond.code yX0_operand cX0_operand 1 none :: GW) { frames := d + 14, cells := 1, slots := 6, locals := 60 * d + 500 } (cPc D kA V Z [.ref (Z 208)] u sz) (cQvx D kA Z u sz y w) (cXc D kA Z u sz y w) 1 6 (va_A (CW kA Z u) sz)) ∧ (∀ (u : CSt) (sz : Nat) (y : Sum Nat Int32) (w : CSt), ro 2 0 0 0 u = some (y, w) → vx_Met l yX0_bracket (Cond.code yX0_bracket cX0_bracket 1 none :: GW) { frames := d + 14, cells := 1, slots := 6, locals := 60 * d + 500 } (cPc D kA V Z [.ref (Z 208)] u sz) (cQvx D kA Z u sz y w) (cXc D kA Z u sz y w) 1 6 (va_A (CW kA Z u) sz)) ∧ (∀ (u : CSt) (sz : Nat) (y : Sum Nat Int32) (w : CSt), ro 3 0 0 0 u = some (y, w) → vx_Met l yX0_namedOperand (Cond.code yX0_namedOperand cX0_namedOperand 1 none :: GW) { frames := d + 14, cells := 1, slots := 6, locals := 60 * d + 500 } (cPc D kA V Z [.ref (Z 208)] u sz) (cQvx D kA Z u sz y w) (cXc D kA Z u sz y w) 1 6 (va_A (CW kA Z u) sz)) ∧ (∀ (u : CSt) (sz : Nat) (y : Sum Nat Int32) (w : CSt), ro 4 0 0 0 u = some (y, w) → vx_Met l yX0_arguments (Cond.code yX0_arguments cX0_arguments 2 none :: GW) { frames := d + 14, cells := 1, slots := 6, locals := 60 * d + 500 } (cPc D kA V Z [.ref (Z 208)] u sz) (cQvx D kA Z u sz y w) (cXc D kA Z u sz y w) 1 6 (va_A (CW kA Z u) sz)) ∧ (∀ (u : CSt) (sz : Nat) (y : Sum Nat Int32) (w : CSt), ro 5 0 0 0 u = some (y, w) → vx_Met l yX0_index (Cond.code yX0_index cX0_index 1 none :: GW) { frames := d + 14, cells := 1, slots := 6, locals := 60 * d + 500 } (cPc D kA V Z [.ref (Z 208)] u sz) (cQvx D kA Z u sz y w) (cXc D kA Z u sz y w) 1 6 (va_A (CW kA Z u) sz))
theorem kc_X0_expression {cc : ByteArray} {pc nL : Nat} {c0 : Cond} {rest : List Value} {ro : Nat → Nat → Int32 → Int32 → CSt → Option (Sum Nat Int32 × CSt)} {u w1 : CSt} {y1 : Sum Nat Int32} (X : CC p s m args c cc nL c0 RX0 D kA V A) (hrec : RecOK_GE l D kA V Z d ro)  (hS : CS D kA Z A s u H locs) (h : ro 0 0 0 0 u = some (y1, w1)) (hF : d + 1 + 14 ≤ R.frames) (hL : 60 * (d + 1) + 500 ≤ R.locals) (hC : 1 ≤ R.cells ∧ 6 ≤ R.slots) (hl : ls.size = nL) (hc : (rest.map fun v => v.category).sum ≤ 8) (hdg : decode cc pc = .ok (.invokevirtual 91, 3)) (kk : ∀ r, y1 = .inr r → ∀ H locs, CS D kA Z A s w1 H locs → W p l e R s m args below meth c H locs 0 0 Q (F0 m (pc + 3) ls (rest))) (kx : ∀ x, y1 = .inl x → ∀ (H : Heap) (locs : List Loc) (q : Addr) (ce : Cell), CS D kA Z A s w1 H locs → H[q]? = some ce → ce.vm = .none → s.vm.findClass (exN x) = some ce.cls → vx_W p l e R s m args below meth c H locs 1 6 Q (F0 m pc ls rest) q) : W p l e R s m args below meth c H locs 0 0 Q (F0 m pc ls (.ref (Z 208) :: rest)) :=
  ccall_vx (n := 0)  X hS (hrec.1 u H.size _ _  h) (gw_V gw_912 gw_914 gs_2_11 gw_7 gw_915) (by decide +kernel) (va_recv X.2.1 hS.1 (ci := 0) (q0 := 8) rfl (cw_lit rfl)) (rc_fr hF) (rc_lo hL (Nat.le_of_ble_eq_true rfl)) hC rfl hl hc rfl hdg kk kx
theorem kc_X0_operand {cc : ByteArray} {pc nL : Nat} {c0 : Cond} {rest : List Value} {ro : Nat → Nat → Int32 → Int32 → CSt → Option (Sum Nat Int32 × CSt)} {u w1 : CSt} {y1 : Sum Nat Int32} (X : CC p s m args c cc nL c0 RX0 D kA V A) (hrec : RecOK_GE l D kA V Z d ro)  (hS : CS D kA Z A s u H locs) (h : ro 1 0 0 0 u = some (y1, w1)) (hF : d + 1 + 14 ≤ R.frames) (hL : 60 * (d + 1) + 500 ≤ R.locals) (hC : 1 ≤ R.cells ∧ 6 ≤ R.slots) (hl : ls.size = nL) (hc : (rest.map fun v => v.category).sum ≤ 8) (hdg : decode cc pc = .ok (.invokevirtual 119, 3)) (kk : ∀ r, y1 = .inr r → ∀ H locs, CS D kA Z A s w1 H locs → W p l e R s m args below meth c H locs 0 0 Q (F0 m (pc + 3) ls (rest))) (kx : ∀ x, y1 = .inl x → ∀ (H : Heap) (locs : List Loc) (q : Addr) (ce : Cell), CS D kA Z A s w1 H locs → H[q]? = some ce → ce.vm = .none → s.vm.findClass (exN x) = some ce.cls → vx_W p l e R s m args below meth c H locs 1 6 Q (F0 m pc ls rest) q) : W p l e R s m args below meth c H locs 0 0 Q (F0 m pc ls (.ref (Z 208) :: rest)) :=
  ccall_vx (n := 0)  X hS (hrec.2.1 u H.size _ _  h) (gw_V gw_916 gw_918 gs_2_12 gw_7 gw_919) (by decide +kernel) (va_recv X.2.1 hS.1 (ci := 0) (q0 := 8) rfl (cw_lit rfl)) (rc_fr hF) (rc_lo hL (Nat.le_of_ble_eq_true rfl)) hC rfl hl hc rfl hdg kk kx
theorem kc_X0_bracket {cc : ByteArray} {pc nL : Nat} {c0 : Cond} {rest : List Value} {ro : Nat → Nat → Int32 → Int32 → CSt → Option (Sum Nat Int32 × CSt)} {u w1 : CSt} {y1 : Sum Nat Int32} (X : CC p s m args c cc nL c0 RX0 D kA V A) (hrec : RecOK_GE l D kA V Z d ro)  (hS : CS D kA Z A s u H locs) (h : ro 2 0 0 0 u = some (y1, w1)) (hF : d + 1 + 14 ≤ R.frames) (hL : 60 * (d + 1) + 500 ≤ R.locals) (hC : 1 ≤ R.cells ∧ 6 ≤ R.slots) (hl : ls.size = nL) (hc : (rest.map fun v => v.category).sum ≤ 8) (hdg : decode cc pc = .ok (.invokevirtual 125, 3)) (kk : ∀ r, y1 = .inr r → ∀ H locs, CS D kA Z A s w1 H locs → W p l e R s m args below meth c H locs 0 0 Q (F0 m (pc + 3) ls (rest))) (kx : ∀ x, y1 = .inl x → ∀ (H : Heap) (locs : List Loc) (q : Addr) (ce : Cell), CS D kA Z A s w1 H locs → H[q]? = some ce → ce.vm = .none → s.vm.findClass (exN x) = some ce.cls → vx_W p l e R s m args below meth c H locs 1 6 Q (F0 m pc ls rest) q) : W p l e R s m args below meth c H locs 0 0 Q (F0 m pc ls (.ref (Z 208) :: rest)) :=
  ccall_vx (n := 0)  X hS (hrec.2.2.1 u H.size _ _  h) (gw_V gw_920 gw_922 gs_2_13 gw_7 gw_923) (by decide +kernel) (va_recv X.2.1 hS.1 (ci := 0) (q0 := 8) rfl (cw_lit rfl)) (rc_fr hF) (rc_lo hL (Nat.le_of_ble_eq_true rfl)) hC rfl hl hc rfl hdg kk kx
theorem kc_X0_namedOperand {cc : ByteArray} {pc nL : Nat} {c0 : Cond} {rest : List Value} {ro : Nat → Nat → Int32 → Int32 → CSt → Option (Sum Nat Int32 × CSt)} {u w1 : CSt} {y1 : Sum Nat Int32} (X : CC p s m args c cc nL c0 RX0 D kA V A) (hrec : RecOK_GE l D kA V Z d ro)  (hS : CS D kA Z A s u H locs) (h : ro 3 0 0 0 u = some (y1, w1)) (hF : d + 1 + 14 ≤ R.frames) (hL : 60 * (d + 1) + 500 ≤ R.locals) (hC : 1 ≤ R.cells ∧ 6 ≤ R.slots) (hl : ls.size = nL) (hc : (rest.map fun v => v.category).sum ≤ 8) (hdg : decode cc pc = .ok (.invokevirtual 128, 3)) (kk : ∀ r, y1 = .inr r → ∀ H locs, CS D kA Z A s w1 H locs → W p l e R s m args below meth c H locs 0 0 Q (F0 m (pc + 3) ls (rest))) (kx : ∀ x, y1 = .inl x → ∀ (H : Heap) (locs : List Loc) (q : Addr) (ce : Cell), CS D kA Z A s w1 H locs → H[q]? = some ce → ce.vm = .none → s.vm.findClass (exN x) = some ce.cls → vx_W p l e R s m args below meth c H locs 1 6 Q (F0 m pc ls rest) q) : W p l e R s m args below meth c H locs 0 0 Q (F0 m pc ls (.ref (Z 208) :: rest)) :=
  ccall_vx (n := 0)  X hS (hrec.2.2.2.1 u H.size _ _  h) (gw_V gw_924 gw_926 gs_2_14 gw_7 gw_927) (by decide +kernel) (va_recv X.2.1 hS.1 (ci := 0) (q0 := 8) rfl (cw_lit rfl)) (rc_fr hF) (rc_lo hL (Nat.le_of_ble_eq_true rfl)) hC rfl hl hc rfl hdg kk kx
theorem kc_X0_arguments {cc : ByteArray} {pc nL : Nat} {c0 : Cond} {rest : List Value} {ro : Nat → Nat → Int32 → Int32 → CSt → Option (Sum Nat Int32 × CSt)} {u w1 : CSt} {y1 : Sum Nat Int32} (X : CC p s m args c cc nL c0 RX0 D kA V A) (hrec : RecOK_GE l D kA V Z d ro)  (hS : CS D kA Z A s u H locs) (h : ro 4 0 0 0 u = some (y1, w1)) (hF : d + 1 + 14 ≤ R.frames) (hL : 60 * (d + 1) + 500 ≤ R.locals) (hC : 1 ≤ R.cells ∧ 6 ≤ R.slots) (hl : ls.size = nL) (hc : (rest.map fun v => v.category).sum ≤ 8) (hdg : decode cc pc = .ok (.invokevirtual 103, 3)) (kk : ∀ r, y1 = .inr r → ∀ H locs, CS D kA Z A s w1 H locs → W p l e R s m args below meth c H locs 0 0 Q (F0 m (pc + 3) ls (rest))) (kx : ∀ x, y1 = .inl x → ∀ (H : Heap) (locs : List Loc) (q : Addr) (ce : Cell), CS D kA Z A s w1 H locs → H[q]? = some ce → ce.vm = .none → s.vm.findClass (exN x) = some ce.cls → vx_W p l e R s m args below meth c H locs 1 6 Q (F0 m pc ls rest) q) : W p l e R s m args below meth c H locs 0 0 Q (F0 m pc ls (.ref (Z 208) :: rest)) :=
  ccall_vx (n := 0)  X hS (hrec.2.2.2.2.1 u H.size _ _  h) (gw_V gw_908 gw_910 gs_2_10 gw_7 gw_911) (by decide +kernel) (va_recv X.2.1 hS.1 (ci := 0) (q0 := 8) rfl (cw_lit rfl)) (rc_fr hF) (rc_lo hL (Nat.le_of_ble_eq_true rfl)) hC rfl hl hc rfl hdg kk kx
theorem kc_X0_index {cc : ByteArray} {pc nL : Nat} {c0 : Cond} {rest : List Value} {ro : Nat → Nat → Int32 → Int32 → CSt → Option (Sum Nat Int32 × CSt)} {u w1 : CSt} {y1 : Sum Nat Int32} (X : CC p s m args c cc nL c0 RX0 D kA V A) (hrec : RecOK_GE l D kA V Z d ro)  (hS : CS D kA Z A s u H locs) (h : ro 5 0 0 0 u = some (y1, w1)) (hF : d + 1 + 14 ≤ R.frames) (hL : 60 * (d + 1) + 500 ≤ R.locals) (hC : 1 ≤ R.cells ∧ 6 ≤ R.slots) (hl : ls.size = nL) (hc : (rest.map fun v => v.category).sum ≤ 8) (hdg : decode cc pc = .ok (.invokevirtual 106, 3)) (kk : ∀ r, y1 = .inr r → ∀ H locs, CS D kA Z A s w1 H locs → W p l e R s m args below meth c H locs 0 0 Q (F0 m (pc + 3) ls (rest))) (kx : ∀ x, y1 = .inl x → ∀ (H : Heap) (locs : List Loc) (q : Addr) (ce : Cell), CS D kA Z A s w1 H locs → H[q]? = some ce → ce.vm = .none → s.vm.findClass (exN x) = some ce.cls → vx_W p l e R s m args below meth c H locs 1 6 Q (F0 m pc ls rest) q) : W p l e R s m args below meth c H locs 0 0 Q (F0 m pc ls (.ref (Z 208) :: rest)) :=
  ccall_vx (n := 0)  X hS (hrec.2.2.2.2.2 u H.size _ _  h) (gw_V gw_932 gw_934 gs_2_15 gw_7 gw_935) (by decide +kernel) (va_recv X.2.1 hS.1 (ci := 0) (q0 := 8) rfl (cw_lit rfl)) (rc_fr hF) (rc_lo hL (Nat.le_of_ble_eq_true rfl)) hC rfl hl hc rfl hdg kk kx
def B_X0_expression_43 (N : Nat) (ro : Nat → Nat → Int32 → Int32 → CSt → Option (Sum Nat Int32 × CSt)) (u : CSt) : Option ((Sum Nat Int32) × CSt) := bc (F_X9_is N 63 u) fun r_2 u_1 => if r_2 = (0 : Int32) then (some (.inr 0, u_1)) else (bt (F_X0_opens N 63 u_1) fun _ u_4 => bt (ro 0 0 0 0 u_4) fun _ u_6 => bt (F_X9_take N 58 u_6) fun _ u_8 => bt (ro 0 0 0 0 u_8) fun _ u_10 => pc (xI u_10 8 ((cI u_10 8) - 1)) fun u_12 => some (.inr 0, u_12))
set_option maxHeartbeats 4000000 in
theorem b_X0_expression_43 {y : (Sum Nat Int32)} {ro : Nat → Nat → Int32 → Int32 → CSt → Option (Sum Nat Int32 × CSt)} (X : CC p s m args c cX0_expression 2 (Cond.code yX0_expression cX0_expression 2 none) RX0 D kA V A) (hE : CEvx p l e R s m args below meth c cX0_expression D kA Z A Q y w) (hst : l.stackTraces = false) (hX : CX p l e R s m args below meth c D kA Z A Q y w) (hC : 1 ≤ R.cells ∧ 6 ≤ R.slots) (hF : 9 ≤ R.frames) (hL : 163 ≤ R.locals) (hrec : RecOK_GE l D kA V Z d ro) (hFd : d + 1 + 14 ≤ R.frames) (hLd : 60 * (d + 1) + 500 ≤ R.locals) {u : CSt}  (h : B_X0_expression_43 N ro u = some (y, w))  (hS : CS D kA Z A s u H locs) (hl : lv_has ls 2 [(0, .ref (Z 208))]) : W p l e R s m args below meth c H locs 0 0 Q (F0 m 43 ls []) := by
  obtain ⟨⟨hx, hb, hml, hown, hts⟩, hK, hEV, hA⟩ := id X
  have hG : ∀ w ∈ GW, w.before args s = true := fun w h => hts w (List.mem_cons_of_mem _ h)
  unfold B_X0_expression_43 at h
  refine lv_aload_n hx hb dX0_expression_43 rfl (lv_at hl 0 rfl) ?_
  refine cg_X0_9 X hS dX0_expression_44 ?_
  refine lv_bipush (v := 63) hx hb dX0_expression_47 (by decide) ?_
  obtain ⟨r_2, u_1, h_u_1, h⟩ := bc_of h
  refine kc_X9_is_RX0 X  hS h_u_1 (Nat.le_trans (Nat.le_of_ble_eq_true rfl) hF) (Nat.le_trans (Nat.le_of_ble_eq_true rfl) hL) hl.1 (Nat.le_of_ble_eq_true rfl) dX0_expression_49 (fun H locs hS => ?_)
  refine lv_if_eq (tgt := 88) hx hb dX0_expression_52 (by decide) (fun c_3 => ?_) (fun c_3 => ?_)
  · have h := ip (c_3) h
    obtain ⟨e9, rfl⟩ := so9 h
    exact hE _ e9.symm _ _ _ _ hS dX0_expression_88
  · have h := im (c_3) h
    refine lv_aload_n hx hb dX0_expression_55 rfl (lv_at hl 0 rfl) ?_
    refine lv_bipush (v := 63) hx hb dX0_expression_56 (by decide) ?_
    obtain ⟨y_5, u_4, h_u_4, h⟩ := bt_of h
    refine kc_X0_opens_RX0 hst X  hS h_u_4 (Nat.le_trans (Nat.le_of_ble_eq_true rfl) hF) (Nat.le_trans (Nat.le_of_ble_eq_true rfl) hL) hC hl.1 (Nat.le_of_ble_eq_true rfl) dX0_expression_58 (fun r_u_4 hr_u_4 H locs hS => ?_) (fun x9 hn H locs q9 ce hS a1 a2 a3 => by obtain ⟨e2, rfl⟩ := bt_no h hn; exact hX _ e2 _ _ _ _ _ _ _ hS a1 a2 a3)
    replace h := bt_ok h hr_u_4
    refine lv_aload_n hx hb dX0_expression_61 rfl (lv_at hl 0 rfl) ?_
    obtain ⟨y_7, u_6, h_u_6, h⟩ := bt_of h
    refine kc_X0_expression X hrec  hS h_u_6 hFd hLd hC hl.1 (Nat.le_of_ble_eq_true rfl) dX0_expression_62 (fun r_u_6 hr_u_6 H locs hS => ?_) (fun x9 hn H locs q9 ce hS a1 a2 a3 => by obtain ⟨e2, rfl⟩ := bt_no h hn; exact hX _ e2 _ _ _ _ _ _ _ hS a1 a2 a3)
    replace h := bt_ok h hr_u_6
    refine lv_aload_n hx hb dX0_expression_65 rfl (lv_at hl 0 rfl) ?_
    refine cg_X0_9 X hS dX0_expression_66 ?_
    refine lv_bipush (v := 58) hx hb dX0_expression_69 (by decide) ?_
    obtain ⟨y_9, u_8, h_u_8, h⟩ := bt_of h
    refine kc_X9_take_RX0 hst X  hS h_u_8 (Nat.le_trans (Nat.le_of_ble_eq_true rfl) hF) (Nat.le_trans (Nat.le_of_ble_eq_true rfl) hL) hC hl.1 (Nat.le_of_ble_eq_true rfl) dX0_expression_71 (fun r_u_8 hr_u_8 H locs hS => ?_) (fun x9 hn H locs q9 ce hS a1 a2 a3 => by obtain ⟨e2, rfl⟩ := bt_no h hn; exact hX _ e2 _ _ _ _ _ _ _ hS a1 a2 a3)
    replace h := bt_ok h hr_u_8
    refine lv_aload_n hx hb dX0_expression_74 rfl (lv_at hl 0 rfl) ?_
    obtain ⟨y_11, u_10, h_u_10, h⟩ := bt_of h
    refine kc_X0_expression X hrec  hS h_u_10 hFd hLd hC hl.1 (Nat.le_of_ble_eq_true rfl) dX0_expression_75 (fun r_u_10 hr_u_10 H locs hS => ?_) (fun x9 hn H locs q9 ce hS a1 a2 a3 => by obtain ⟨e2, rfl⟩ := bt_no h hn; exact hX _ e2 _ _ _ _ _ _ _ hS a1 a2 a3)
    replace h := bt_ok h hr_u_10
    refine lv_aload_n hx hb dX0_expression_78 rfl (lv_at hl 0 rfl) ?_
    refine lv_dup hx hb dX0_expression_79 rfl ?_
    refine cg_X0_15 X hS dX0_expression_80 ?_
    refine lv_iconst (v := 1) hx hb dX0_expression_83 (by decide) ?_
    refine lv_isub hx hb dX0_expression_84 ?_
    obtain ⟨u_12, e_u_12, h⟩ := pc_of h
    refine cp_X0_15 X hS e_u_12 dX0_expression_85 (fun H locs hS => ?_)
    obtain ⟨e9, rfl⟩ := so9 h
    exact hE _ e9.symm _ _ _ _ hS dX0_expression_88
def B_X0_expression_6 (N : Nat) (ro : Nat → Nat → Int32 → Int32 → CSt → Option (Sum Nat Int32 × CSt)) (R_6 : Int32 × CSt → Option ((Sum Nat Int32) × CSt)) (l1 : Int32) (u : CSt) : Option ((Sum Nat Int32) × CSt) := if (1500 : Int32) ≤ l1 then (B_X0_expression_43 N ro u) else (bc (F_X9_type N u) fun r_15 u_14 => pb (F_X9_strength N r_15) fun r_16 => if r_16 ≤ (0 : Int32) then (B_X0_expression_43 N ro u_14) else (bc (F_X9_next N u_14) fun _ u_20 => bt (ro 1 0 0 0 u_20) fun _ u_21 => R_6 ((l1 + 1), u_21)))
set_option maxHeartbeats 4000000 in
theorem b_X0_expression_6 {y : (Sum Nat Int32)} {ro : Nat → Nat → Int32 → Int32 → CSt → Option (Sum Nat Int32 × CSt)} (X : CC p s m args c cX0_expression 2 (Cond.code yX0_expression cX0_expression 2 none) RX0 D kA V A) (hE : CEvx p l e R s m args below meth c cX0_expression D kA Z A Q y w) (hst : l.stackTraces = false) (hX : CX p l e R s m args below meth c D kA Z A Q y w) (hC : 1 ≤ R.cells ∧ 6 ≤ R.slots) (hF : 9 ≤ R.frames) (hL : 163 ≤ R.locals) (hrec : RecOK_GE l D kA V Z d ro) (hFd : d + 1 + 14 ≤ R.frames) (hLd : 60 * (d + 1) + 500 ≤ R.locals) {R_6 : Int32 × CSt → Option ((Sum Nat Int32) × CSt)} {l1 : Int32} {u : CSt} (hR_6 : ∀ (l1 : Int32) (u : CSt), R_6 (l1, u) = some (y, w) → ∀ (H : Heap) (locs : List Loc) (ls : Array Slot), CS D kA Z A s u H locs → lv_has ls 2 [(0, .ref (Z 208)), (1, .int l1)] → W p l e R s m args below meth c H locs 0 0 Q (F0 m 6 ls [])) (h : B_X0_expression_6 N ro R_6 l1 u = some (y, w))  (hS : CS D kA Z A s u H locs) (hl : lv_has ls 2 [(0, .ref (Z 208)), (1, .int l1)]) : W p l e R s m args below meth c H locs 0 0 Q (F0 m 6 ls []) := by
  obtain ⟨⟨hx, hb, hml, hown, hts⟩, hK, hEV, hA⟩ := id X
  have hG : ∀ w ∈ GW, w.before args s = true := fun w h => hts w (List.mem_cons_of_mem _ h)
  unfold B_X0_expression_6 at h
  refine lv_iload_n hx hb dX0_expression_6 rfl (lv_at hl 1 rfl) ?_
  refine lv_sipush (v := 1500) hx hb dX0_expression_7 (by decide) ?_
  refine lv_icmp_ge (tgt := 43) hx hb dX0_expression_10 (by decide) (fun c_13 => ?_) (fun c_13 => ?_)
  · have h := ip (c_13) h
    exact b_X0_expression_43 X hE hst hX hC hF hL hrec hFd hLd h  hS (lv_sub hl [0] rfl)
  · have h := im (c_13) h
    refine lv_aload_n hx hb dX0_expression_13 rfl (lv_at hl 0 rfl) ?_
    refine cg_X0_9 X hS dX0_expression_14 ?_
    obtain ⟨r_15, u_14, h_u_14, h⟩ := bc_of h
    refine kc_X9_type_RX0 X  hS h_u_14 (Nat.le_trans (Nat.le_of_ble_eq_true rfl) hF) (Nat.le_trans (Nat.le_of_ble_eq_true rfl) hL) hl.1 (Nat.le_of_ble_eq_true rfl) dX0_expression_17 (fun H locs hS => ?_)
    obtain ⟨r_16, e_r_16, h⟩ := pb_of h
    refine vp_callSi (W.runS (As := [.int r_15]) (rest := []) X.1 (k_X9_strength l N r_15 e_r_16) (va_cwS 1 hts (gw_S gw_940 gw_941 gw_2 gw_942) rfl rfl rfl (by decide +kernel) ⟨Nat.le_trans (Nat.le_of_ble_eq_true rfl) hF, Nat.le_trans (Nat.le_of_ble_eq_true rfl) hL⟩) ⟨fun _ _ _ _ q => q, fun _ _ _ => ⟨rfl, trivial⟩⟩ rfl rfl hl.1 rfl (lv_room (Nat.le_of_ble_eq_true rfl)) dX0_expression_20 ⟨Nat.zero_le _, Nat.zero_le _⟩) (fun r_17 q_18 => ?_)
    rw [q_18]
    refine lv_if_le (tgt := 43) hx hb dX0_expression_23 (by decide) (fun c_19 => ?_) (fun c_19 => ?_)
    · have h := ip (c_19) h
      exact b_X0_expression_43 X hE hst hX hC hF hL hrec hFd hLd h  hS (lv_sub hl [0] rfl)
    · have h := im (c_19) h
      refine lv_aload_n hx hb dX0_expression_26 rfl (lv_at hl 0 rfl) ?_
      refine cg_X0_9 X hS dX0_expression_27 ?_
      obtain ⟨r_u_20, u_20, h_u_20, h⟩ := bc_of h
      refine kc_X9_next_RX0 X  hS h_u_20 (Nat.le_trans (Nat.le_of_ble_eq_true rfl) hF) (Nat.le_trans (Nat.le_of_ble_eq_true rfl) hL) hl.1 (Nat.le_of_ble_eq_true rfl) dX0_expression_30 (fun H locs hS => ?_)
      refine lv_aload_n hx hb dX0_expression_33 rfl (lv_at hl 0 rfl) ?_
      obtain ⟨y_22, u_21, h_u_21, h⟩ := bt_of h
      refine kc_X0_operand X hrec  hS h_u_21 hFd hLd hC hl.1 (Nat.le_of_ble_eq_true rfl) dX0_expression_34 (fun r_u_21 hr_u_21 H locs hS => ?_) (fun x9 hn H locs q9 ce hS a1 a2 a3 => by obtain ⟨e2, rfl⟩ := bt_no h hn; exact hX _ e2 _ _ _ _ _ _ _ hS a1 a2 a3)
      replace h := bt_ok h hr_u_21
      refine lv_iinc (v := l1 + 1) (lv' := [(1, .int (l1 + 1)), (0, .ref (Z 208))]) hx hb dX0_expression_37 hl (k := 1) rfl rfl (by decide) rfl (fun ls hl => ?_)
      refine lv_goto (tgt := 6) hx hb dX0_expression_40 (by decide) ?_
      exact hR_6 _ _  h _ _ _ hS (lv_sub hl [1, 0] rfl)
def LP_X0_expression_6 (N : Nat) (ro : Nat → Nat → Int32 → Int32 → CSt → Option (Sum Nat Int32 × CSt)) : Nat → Int32 × CSt → Option ((Sum Nat Int32) × CSt) := lp (fun R a => B_X0_expression_6 N ro R a.1 a.2)
theorem bl_X0_expression_6 {y : (Sum Nat Int32)} {ro : Nat → Nat → Int32 → Int32 → CSt → Option (Sum Nat Int32 × CSt)} (X : CC p s m args c cX0_expression 2 (Cond.code yX0_expression cX0_expression 2 none) RX0 D kA V A) (hE : CEvx p l e R s m args below meth c cX0_expression D kA Z A Q y w) (hst : l.stackTraces = false) (hX : CX p l e R s m args below meth c D kA Z A Q y w) (hC : 1 ≤ R.cells ∧ 6 ≤ R.slots) (hF : 9 ≤ R.frames) (hL : 163 ≤ R.locals) (hrec : RecOK_GE l D kA V Z d ro) (hFd : d + 1 + 14 ≤ R.frames) (hLd : 60 * (d + 1) + 500 ≤ R.locals)  : ∀ (n : Nat) (l1 : Int32) (u : CSt), LP_X0_expression_6 N ro n (l1, u) = some (y, w) → ∀ (H : Heap) (locs : List Loc) (ls : Array Slot), CS D kA Z A s u H locs → lv_has ls 2 [(0, .ref (Z 208)), (1, .int l1)] → W p l e R s m args below meth c H locs 0 0 Q (F0 m 6 ls []) := by
  intro n
  induction n with
  | zero => intro l1 u h; exact nomatch h
  | succ n ih => intro l1 u h H locs ls hS hl; exact b_X0_expression_6 (N := N) (R_6 := LP_X0_expression_6 N ro n) X hE hst hX hC hF hL hrec hFd hLd ih h  hS hl
def B_X0_expression_0 (N : Nat) (ro : Nat → Nat → Int32 → Int32 → CSt → Option (Sum Nat Int32 × CSt)) (u : CSt) : Option ((Sum Nat Int32) × CSt) := bt (ro 1 0 0 0 u) fun _ u_23 => LP_X0_expression_6 N ro N (0, u_23)
set_option maxHeartbeats 4000000 in
theorem b_X0_expression_0 {y : (Sum Nat Int32)} {ro : Nat → Nat → Int32 → Int32 → CSt → Option (Sum Nat Int32 × CSt)} (X : CC p s m args c cX0_expression 2 (Cond.code yX0_expression cX0_expression 2 none) RX0 D kA V A) (hE : CEvx p l e R s m args below meth c cX0_expression D kA Z A Q y w) (hst : l.stackTraces = false) (hX : CX p l e R s m args below meth c D kA Z A Q y w) (hC : 1 ≤ R.cells ∧ 6 ≤ R.slots) (hF : 9 ≤ R.frames) (hL : 163 ≤ R.locals) (hrec : RecOK_GE l D kA V Z d ro) (hFd : d + 1 + 14 ≤ R.frames) (hLd : 60 * (d + 1) + 500 ≤ R.locals) {u : CSt}  (h : B_X0_expression_0 N ro u = some (y, w))  (hS : CS D kA Z A s u H locs) (hl : lv_has ls 2 [(0, .ref (Z 208))]) : W p l e R s m args below meth c H locs 0 0 Q (F0 m 0 ls []) := by
  obtain ⟨⟨hx, hb, hml, hown, hts⟩, hK, hEV, hA⟩ := id X
  have hG : ∀ w ∈ GW, w.before args s = true := fun w h => hts w (List.mem_cons_of_mem _ h)
  unfold B_X0_expression_0 at h
  refine lv_aload_n hx hb dX0_expression_0 rfl (lv_at hl 0 rfl) ?_
  obtain ⟨y_24, u_23, h_u_23, h⟩ := bt_of h
  refine kc_X0_operand X hrec  hS h_u_23 hFd hLd hC hl.1 (Nat.le_of_ble_eq_true rfl) dX0_expression_1 (fun r_u_23 hr_u_23 H locs hS => ?_) (fun x9 hn H locs q9 ce hS a1 a2 a3 => by obtain ⟨e2, rfl⟩ := bt_no h hn; exact hX _ e2 _ _ _ _ _ _ _ hS a1 a2 a3)
  replace h := bt_ok h hr_u_23
  refine lv_iconst (v := 0) hx hb dX0_expression_4 (by decide) ?_
  refine lv_istore_n (lv' := [(1, .int 0), (0, .ref (Z 208))]) hx hb dX0_expression_5 rfl hl (by decide) rfl (fun ls hl => ?_)
  exact bl_X0_expression_6 X hE hst hX hC hF hL hrec hFd hLd _ _ _  h _ _ _ hS (lv_sub hl [1, 0] rfl)
def F_X0_expression (N : Nat) (ro : Nat → Nat → Int32 → Int32 → CSt → Option (Sum Nat Int32 × CSt)) (u : CSt) : Option ((Sum Nat Int32) × CSt) := B_X0_expression_0 N ro u
set_option maxHeartbeats 4000000 in
theorem k_X0_expression (l : Launch) (hst : l.stackTraces = false) (D : va_G) (kA : Nat → ClassId) (V Z : Nat → Nat) (N : Nat) {d : Nat} (ro : Nat → Nat → Int32 → Int32 → CSt → Option (Sum Nat Int32 × CSt)) (hrec : RecOK_GE l D kA V Z d ro) (u : CSt) (sz : Nat) {y : (Sum Nat Int32)} {w : CSt} (h : F_X0_expression N ro u = some (y, w)) : vx_Met l yX0_expression (Cond.code yX0_expression cX0_expression 2 none :: GW) { frames := d + 1 + 14, cells := 1, slots := 6, locals := 60 * (d + 1) + 500 } (cPc D kA V Z [.ref (Z 208)] u sz) (cQvx D kA Z u sz y w) (cXc D kA Z u sz y w) 1 6 (va_A (CW kA Z u) sz) := by
  refine vx_ofW (cc := cX0_expression) (maxL := 2) (ret := none) (by decide) rfl ?_
  intro p e s m args below meth c s₁ Bd hml hxt hv
  obtain ⟨rfl, hsz, hP, hK, hD0, hE⟩ := hv
  have hts := atoms_spec (ws := Cond.code yX0_expression cX0_expression 2 none :: GW) Bd.pre
  have hl := lv_entry ([.ref (Z 208)]) (n := 2) (Nat.le_of_ble_eq_true rfl)
  rw [lg_entry_eq]
  generalize (lg_sl ([.ref (Z 208)]) ++ List.replicate (2 - (lg_sl ([.ref (Z 208)])).length) Slot.unset).toArray = ls at hl ⊢
  have hl : lv_has ls 2 [(0, .ref (Z 208))] := hl
  subst hsz
  have X : CC p s m ([.ref (Z 208)]).toArray c cX0_expression 2 (Cond.code yX0_expression cX0_expression 2 none) RX0 D kA V (va_A (CW kA Z u) s.heap.size) := ⟨⟨Bd.exec, Bd.bytes, hml, findClass_of_methodNamed Bd.named, hts⟩, hK, hE, fun q h => Or.inr h⟩
  refine b_X0_expression_0 X (cend_vx X Bd.returns Bd.notSynchronized) hst (cend_X X hxt Bd.notSynchronized) ⟨Nat.le_refl _, Nat.le_refl _⟩ (Nat.le_trans (Nat.le_of_ble_eq_true rfl) (Nat.le_add_left 14 _)) (Nat.le_trans (Nat.le_of_ble_eq_true rfl) (Nat.le_add_left 500 _)) hrec (Nat.le_refl _) (Nat.le_refl _) h  ⟨hP, hD0.self, va_S.rf⟩ (lv_sub hl [0] rfl)
def B_X0_operand_0 (N : Nat) (ro : Nat → Nat → Int32 → Int32 → CSt → Option (Sum Nat Int32 × CSt)) (u : CSt) : Option ((Sum Nat Int32) × CSt) := bc (F_X9_type N u) fun r_2 u_1 => if r_2 = 29 then (bc (F_X9_next N u_1) fun _ u_4 => some (.inr 0, u_4)) else (if r_2 = 33 then (bc (F_X9_type N u_1) fun r_7 u_6 => bt (F_X0_opens N r_7 u_6) fun _ u_8 => bt (ro 1 0 0 0 u_8) fun _ u_10 => pc (xI u_10 8 ((cI u_10 8) - 1)) fun u_12 => some (.inr 0, u_12)) else (if r_2 = 40 then (bt (ro 2 0 0 0 u_1) fun _ u_14 => some (.inr 0, u_14)) else (if r_2 = 45 then (bc (F_X9_type N u_1) fun r_18 u_17 => bt (F_X0_opens N r_18 u_17) fun _ u_19 => bt (ro 1 0 0 0 u_19) fun _ u_21 => pc (xI u_21 8 ((cI u_21 8) - 1)) fun u_23 => some (.inr 0, u_23)) else (if r_2 = 126 then (bc (F_X9_type N u_1) fun r_26 u_25 => bt (F_X0_opens N r_26 u_25) fun _ u_27 => bt (ro 1 0 0 0 u_27) fun _ u_29 => pc (xI u_29 8 ((cI u_29 8) - 1)) fun u_31 => some (.inr 0, u_31)) else (if r_2 = 128 then (bt (ro 3 0 0 0 u_1) fun _ u_33 => some (.inr 0, u_33)) else (if r_2 = 129 then (bc (F_X9_next N u_1) fun _ u_36 => some (.inr 0, u_36)) else (if r_2 = 130 then (bc (F_X9_next N u_1) fun _ u_38 => some (.inr 0, u_38)) else (bt (F_X9_refuseToken N u_1) fun _ u_39 => some (.inr 0, u_39)))))))))
set_option maxHeartbeats 4000000 in
theorem b_X0_operand_0 {y : (Sum Nat Int32)} {ro : Nat → Nat → Int32 → Int32 → CSt → Option (Sum Nat Int32 × CSt)} (X : CC p s m args c cX0_operand 1 (Cond.code yX0_operand cX0_operand 1 none) RX0 D kA V A) (hE : CEvx p l e R s m args below meth c cX0_operand D kA Z A Q y w) (hst : l.stackTraces = false) (hX : CX p l e R s m args below meth c D kA Z A Q y w) (hC : 1 ≤ R.cells ∧ 6 ≤ R.slots) (hF : 9 ≤ R.frames) (hL : 163 ≤ R.locals) (hrec : RecOK_GE l D kA V Z d ro) (hFd : d + 1 + 14 ≤ R.frames) (hLd : 60 * (d + 1) + 500 ≤ R.locals) {u : CSt}  (h : B_X0_operand_0 N ro u = some (y, w))  (hS : CS D kA Z A s u H locs) (hl : lv_has ls 1 [(0, .ref (Z 208))]) : W p l e R s m args below meth c H locs 0 0 Q (F0 m 0 ls []) := by
  obtain ⟨⟨hx, hb, hml, hown, hts⟩, hK, hEV, hA⟩ := id X
  have hG : ∀ w ∈ GW, w.before args s = true := fun w h => hts w (List.mem_cons_of_mem _ h)
  unfold B_X0_operand_0 at h
  refine lv_aload_n hx hb dX0_operand_0 rfl (lv_at hl 0 rfl) ?_
  refine cg_X0_9 X hS dX0_operand_1 ?_
  obtain ⟨r_2, u_1, h_u_1, h⟩ := bc_of h
  refine kc_X9_type_RX0 X  hS h_u_1 (Nat.le_trans (Nat.le_of_ble_eq_true rfl) hF) (Nat.le_trans (Nat.le_of_ble_eq_true rfl) hL) hl.1 (Nat.le_of_ble_eq_true rfl) dX0_operand_4 (fun H locs hS => ?_)
  by_cases e_3 : r_2 = 29
  · have h := ip e_3 h
    refine lv_lookup (off := 115) (tgt := 122) hx hb dX0_operand_7 (by decide) (by rw [e_3]; decide) (by decide) ?_
    refine lv_aload_n hx hb dX0_operand_122 rfl (lv_at hl 0 rfl) ?_
    refine cg_X0_9 X hS dX0_operand_123 ?_
    obtain ⟨r_u_4, u_4, h_u_4, h⟩ := bc_of h
    refine kc_X9_next_RX0 X  hS h_u_4 (Nat.le_trans (Nat.le_of_ble_eq_true rfl) hF) (Nat.le_trans (Nat.le_of_ble_eq_true rfl) hL) hl.1 (Nat.le_of_ble_eq_true rfl) dX0_operand_126 (fun H locs hS => ?_)
    refine lv_goto (tgt := 139) hx hb dX0_operand_129 (by decide) ?_
    obtain ⟨e9, rfl⟩ := so9 h
    exact hE _ e9.symm _ _ _ _ hS dX0_operand_139
  have h := im e_3 h
  by_cases e_5 : r_2 = 33
  · have h := ip e_5 h
    refine lv_lookup (off := 73) (tgt := 80) hx hb dX0_operand_7 (by decide) (by rw [e_5]; decide) (by decide) ?_
    refine lv_aload_n hx hb dX0_operand_80 rfl (lv_at hl 0 rfl) ?_
    refine lv_aload_n hx hb dX0_operand_81 rfl (lv_at hl 0 rfl) ?_
    refine cg_X0_9 X hS dX0_operand_82 ?_
    obtain ⟨r_7, u_6, h_u_6, h⟩ := bc_of h
    refine kc_X9_type_RX0 X  hS h_u_6 (Nat.le_trans (Nat.le_of_ble_eq_true rfl) hF) (Nat.le_trans (Nat.le_of_ble_eq_true rfl) hL) hl.1 (Nat.le_of_ble_eq_true rfl) dX0_operand_85 (fun H locs hS => ?_)
    obtain ⟨y_9, u_8, h_u_8, h⟩ := bt_of h
    refine kc_X0_opens_RX0 hst X  hS h_u_8 (Nat.le_trans (Nat.le_of_ble_eq_true rfl) hF) (Nat.le_trans (Nat.le_of_ble_eq_true rfl) hL) hC hl.1 (Nat.le_of_ble_eq_true rfl) dX0_operand_88 (fun r_u_8 hr_u_8 H locs hS => ?_) (fun x9 hn H locs q9 ce hS a1 a2 a3 => by obtain ⟨e2, rfl⟩ := bt_no h hn; exact hX _ e2 _ _ _ _ _ _ _ hS a1 a2 a3)
    replace h := bt_ok h hr_u_8
    refine lv_aload_n hx hb dX0_operand_91 rfl (lv_at hl 0 rfl) ?_
    obtain ⟨y_11, u_10, h_u_10, h⟩ := bt_of h
    refine kc_X0_operand X hrec  hS h_u_10 hFd hLd hC hl.1 (Nat.le_of_ble_eq_true rfl) dX0_operand_92 (fun r_u_10 hr_u_10 H locs hS => ?_) (fun x9 hn H locs q9 ce hS a1 a2 a3 => by obtain ⟨e2, rfl⟩ := bt_no h hn; exact hX _ e2 _ _ _ _ _ _ _ hS a1 a2 a3)
    replace h := bt_ok h hr_u_10
    refine lv_aload_n hx hb dX0_operand_95 rfl (lv_at hl 0 rfl) ?_
    refine lv_dup hx hb dX0_operand_96 rfl ?_
    refine cg_X0_15 X hS dX0_operand_97 ?_
    refine lv_iconst (v := 1) hx hb dX0_operand_100 (by decide) ?_
    refine lv_isub hx hb dX0_operand_101 ?_
    obtain ⟨u_12, e_u_12, h⟩ := pc_of h
    refine cp_X0_15 X hS e_u_12 dX0_operand_102 (fun H locs hS => ?_)
    refine lv_goto (tgt := 139) hx hb dX0_operand_105 (by decide) ?_
    obtain ⟨e9, rfl⟩ := so9 h
    exact hE _ e9.symm _ _ _ _ hS dX0_operand_139
  have h := im e_5 h
  by_cases e_13 : r_2 = 40
  · have h := ip e_13 h
    refine lv_lookup (off := 101) (tgt := 108) hx hb dX0_operand_7 (by decide) (by rw [e_13]; decide) (by decide) ?_
    refine lv_aload_n hx hb dX0_operand_108 rfl (lv_at hl 0 rfl) ?_
    obtain ⟨y_15, u_14, h_u_14, h⟩ := bt_of h
    refine kc_X0_bracket X hrec  hS h_u_14 hFd hLd hC hl.1 (Nat.le_of_ble_eq_true rfl) dX0_operand_109 (fun r_u_14 hr_u_14 H locs hS => ?_) (fun x9 hn H locs q9 ce hS a1 a2 a3 => by obtain ⟨e2, rfl⟩ := bt_no h hn; exact hX _ e2 _ _ _ _ _ _ _ hS a1 a2 a3)
    replace h := bt_ok h hr_u_14
    refine lv_goto (tgt := 139) hx hb dX0_operand_112 (by decide) ?_
    obtain ⟨e9, rfl⟩ := so9 h
    exact hE _ e9.symm _ _ _ _ hS dX0_operand_139
  have h := im e_13 h
  by_cases e_16 : r_2 = 45
  · have h := ip e_16 h
    refine lv_lookup (off := 73) (tgt := 80) hx hb dX0_operand_7 (by decide) (by rw [e_16]; decide) (by decide) ?_
    refine lv_aload_n hx hb dX0_operand_80 rfl (lv_at hl 0 rfl) ?_
    refine lv_aload_n hx hb dX0_operand_81 rfl (lv_at hl 0 rfl) ?_
    refine cg_X0_9 X hS dX0_operand_82 ?_
    obtain ⟨r_18, u_17, h_u_17, h⟩ := bc_of h
    refine kc_X9_type_RX0 X  hS h_u_17 (Nat.le_trans (Nat.le_of_ble_eq_true rfl) hF) (Nat.le_trans (Nat.le_of_ble_eq_true rfl) hL) hl.1 (Nat.le_of_ble_eq_true rfl) dX0_operand_85 (fun H locs hS => ?_)
    obtain ⟨y_20, u_19, h_u_19, h⟩ := bt_of h
    refine kc_X0_opens_RX0 hst X  hS h_u_19 (Nat.le_trans (Nat.le_of_ble_eq_true rfl) hF) (Nat.le_trans (Nat.le_of_ble_eq_true rfl) hL) hC hl.1 (Nat.le_of_ble_eq_true rfl) dX0_operand_88 (fun r_u_19 hr_u_19 H locs hS => ?_) (fun x9 hn H locs q9 ce hS a1 a2 a3 => by obtain ⟨e2, rfl⟩ := bt_no h hn; exact hX _ e2 _ _ _ _ _ _ _ hS a1 a2 a3)
    replace h := bt_ok h hr_u_19
    refine lv_aload_n hx hb dX0_operand_91 rfl (lv_at hl 0 rfl) ?_
    obtain ⟨y_22, u_21, h_u_21, h⟩ := bt_of h
    refine kc_X0_operand X hrec  hS h_u_21 hFd hLd hC hl.1 (Nat.le_of_ble_eq_true rfl) dX0_operand_92 (fun r_u_21 hr_u_21 H locs hS => ?_) (fun x9 hn H locs q9 ce hS a1 a2 a3 => by obtain ⟨e2, rfl⟩ := bt_no h hn; exact hX _ e2 _ _ _ _ _ _ _ hS a1 a2 a3)
    replace h := bt_ok h hr_u_21
    refine lv_aload_n hx hb dX0_operand_95 rfl (lv_at hl 0 rfl) ?_
    refine lv_dup hx hb dX0_operand_96 rfl ?_
    refine cg_X0_15 X hS dX0_operand_97 ?_
    refine lv_iconst (v := 1) hx hb dX0_operand_100 (by decide) ?_
    refine lv_isub hx hb dX0_operand_101 ?_
    obtain ⟨u_23, e_u_23, h⟩ := pc_of h
    refine cp_X0_15 X hS e_u_23 dX0_operand_102 (fun H locs hS => ?_)
    refine lv_goto (tgt := 139) hx hb dX0_operand_105 (by decide) ?_
    obtain ⟨e9, rfl⟩ := so9 h
    exact hE _ e9.symm _ _ _ _ hS dX0_operand_139
  have h := im e_16 h
  by_cases e_24 : r_2 = 126
  · have h := ip e_24 h
    refine lv_lookup (off := 73) (tgt := 80) hx hb dX0_operand_7 (by decide) (by rw [e_24]; decide) (by decide) ?_
    refine lv_aload_n hx hb dX0_operand_80 rfl (lv_at hl 0 rfl) ?_
    refine lv_aload_n hx hb dX0_operand_81 rfl (lv_at hl 0 rfl) ?_
    refine cg_X0_9 X hS dX0_operand_82 ?_
    obtain ⟨r_26, u_25, h_u_25, h⟩ := bc_of h
    refine kc_X9_type_RX0 X  hS h_u_25 (Nat.le_trans (Nat.le_of_ble_eq_true rfl) hF) (Nat.le_trans (Nat.le_of_ble_eq_true rfl) hL) hl.1 (Nat.le_of_ble_eq_true rfl) dX0_operand_85 (fun H locs hS => ?_)
    obtain ⟨y_28, u_27, h_u_27, h⟩ := bt_of h
    refine kc_X0_opens_RX0 hst X  hS h_u_27 (Nat.le_trans (Nat.le_of_ble_eq_true rfl) hF) (Nat.le_trans (Nat.le_of_ble_eq_true rfl) hL) hC hl.1 (Nat.le_of_ble_eq_true rfl) dX0_operand_88 (fun r_u_27 hr_u_27 H locs hS => ?_) (fun x9 hn H locs q9 ce hS a1 a2 a3 => by obtain ⟨e2, rfl⟩ := bt_no h hn; exact hX _ e2 _ _ _ _ _ _ _ hS a1 a2 a3)
    replace h := bt_ok h hr_u_27
    refine lv_aload_n hx hb dX0_operand_91 rfl (lv_at hl 0 rfl) ?_
    obtain ⟨y_30, u_29, h_u_29, h⟩ := bt_of h
    refine kc_X0_operand X hrec  hS h_u_29 hFd hLd hC hl.1 (Nat.le_of_ble_eq_true rfl) dX0_operand_92 (fun r_u_29 hr_u_29 H locs hS => ?_) (fun x9 hn H locs q9 ce hS a1 a2 a3 => by obtain ⟨e2, rfl⟩ := bt_no h hn; exact hX _ e2 _ _ _ _ _ _ _ hS a1 a2 a3)
    replace h := bt_ok h hr_u_29
    refine lv_aload_n hx hb dX0_operand_95 rfl (lv_at hl 0 rfl) ?_
    refine lv_dup hx hb dX0_operand_96 rfl ?_
    refine cg_X0_15 X hS dX0_operand_97 ?_
    refine lv_iconst (v := 1) hx hb dX0_operand_100 (by decide) ?_
    refine lv_isub hx hb dX0_operand_101 ?_
    obtain ⟨u_31, e_u_31, h⟩ := pc_of h
    refine cp_X0_15 X hS e_u_31 dX0_operand_102 (fun H locs hS => ?_)
    refine lv_goto (tgt := 139) hx hb dX0_operand_105 (by decide) ?_
    obtain ⟨e9, rfl⟩ := so9 h
    exact hE _ e9.symm _ _ _ _ hS dX0_operand_139
  have h := im e_24 h
  by_cases e_32 : r_2 = 128
  · have h := ip e_32 h
    refine lv_lookup (off := 108) (tgt := 115) hx hb dX0_operand_7 (by decide) (by rw [e_32]; decide) (by decide) ?_
    refine lv_aload_n hx hb dX0_operand_115 rfl (lv_at hl 0 rfl) ?_
    obtain ⟨y_34, u_33, h_u_33, h⟩ := bt_of h
    refine kc_X0_namedOperand X hrec  hS h_u_33 hFd hLd hC hl.1 (Nat.le_of_ble_eq_true rfl) dX0_operand_116 (fun r_u_33 hr_u_33 H locs hS => ?_) (fun x9 hn H locs q9 ce hS a1 a2 a3 => by obtain ⟨e2, rfl⟩ := bt_no h hn; exact hX _ e2 _ _ _ _ _ _ _ hS a1 a2 a3)
    replace h := bt_ok h hr_u_33
    refine lv_goto (tgt := 139) hx hb dX0_operand_119 (by decide) ?_
    obtain ⟨e9, rfl⟩ := so9 h
    exact hE _ e9.symm _ _ _ _ hS dX0_operand_139
  have h := im e_32 h
  by_cases e_35 : r_2 = 129
  · have h := ip e_35 h
    refine lv_lookup (off := 115) (tgt := 122) hx hb dX0_operand_7 (by decide) (by rw [e_35]; decide) (by decide) ?_
    refine lv_aload_n hx hb dX0_operand_122 rfl (lv_at hl 0 rfl) ?_
    refine cg_X0_9 X hS dX0_operand_123 ?_
    obtain ⟨r_u_36, u_36, h_u_36, h⟩ := bc_of h
    refine kc_X9_next_RX0 X  hS h_u_36 (Nat.le_trans (Nat.le_of_ble_eq_true rfl) hF) (Nat.le_trans (Nat.le_of_ble_eq_true rfl) hL) hl.1 (Nat.le_of_ble_eq_true rfl) dX0_operand_126 (fun H locs hS => ?_)
    refine lv_goto (tgt := 139) hx hb dX0_operand_129 (by decide) ?_
    obtain ⟨e9, rfl⟩ := so9 h
    exact hE _ e9.symm _ _ _ _ hS dX0_operand_139
  have h := im e_35 h
  by_cases e_37 : r_2 = 130
  · have h := ip e_37 h
    refine lv_lookup (off := 115) (tgt := 122) hx hb dX0_operand_7 (by decide) (by rw [e_37]; decide) (by decide) ?_
    refine lv_aload_n hx hb dX0_operand_122 rfl (lv_at hl 0 rfl) ?_
    refine cg_X0_9 X hS dX0_operand_123 ?_
    obtain ⟨r_u_38, u_38, h_u_38, h⟩ := bc_of h
    refine kc_X9_next_RX0 X  hS h_u_38 (Nat.le_trans (Nat.le_of_ble_eq_true rfl) hF) (Nat.le_trans (Nat.le_of_ble_eq_true rfl) hL) hl.1 (Nat.le_of_ble_eq_true rfl) dX0_operand_126 (fun H locs hS => ?_)
    refine lv_goto (tgt := 139) hx hb dX0_operand_129 (by decide) ?_
    obtain ⟨e9, rfl⟩ := so9 h
    exact hE _ e9.symm _ _ _ _ hS dX0_operand_139
  have h := im e_37 h
  have ne_3 : ¬ (29 : Int) = (r_2).toInt := fun q => e_3 (Int32.toInt_inj.mp (q.symm.trans (by decide)))
  have ne_5 : ¬ (33 : Int) = (r_2).toInt := fun q => e_5 (Int32.toInt_inj.mp (q.symm.trans (by decide)))
  have ne_13 : ¬ (40 : Int) = (r_2).toInt := fun q => e_13 (Int32.toInt_inj.mp (q.symm.trans (by decide)))
  have ne_16 : ¬ (45 : Int) = (r_2).toInt := fun q => e_16 (Int32.toInt_inj.mp (q.symm.trans (by decide)))
  have ne_24 : ¬ (126 : Int) = (r_2).toInt := fun q => e_24 (Int32.toInt_inj.mp (q.symm.trans (by decide)))
  have ne_32 : ¬ (128 : Int) = (r_2).toInt := fun q => e_32 (Int32.toInt_inj.mp (q.symm.trans (by decide)))
  have ne_35 : ¬ (129 : Int) = (r_2).toInt := fun q => e_35 (Int32.toInt_inj.mp (q.symm.trans (by decide)))
  have ne_37 : ¬ (130 : Int) = (r_2).toInt := fun q => e_37 (Int32.toInt_inj.mp (q.symm.trans (by decide)))
  refine lv_lookup (off := 125) (tgt := 132) hx hb dX0_operand_7 (by decide) (by simp [Op.lookupswitch.offset, ne_3, ne_5, ne_13, ne_16, ne_24, ne_32, ne_35, ne_37]) (by decide) ?_
  refine lv_aload_n hx hb dX0_operand_132 rfl (lv_at hl 0 rfl) ?_
  refine cg_X0_9 X hS dX0_operand_133 ?_
  obtain ⟨y_40, u_39, h_u_39, h⟩ := bt_of h
  refine kc_X9_refuseToken_RX0 hst X  hS h_u_39 (Nat.le_trans (Nat.le_of_ble_eq_true rfl) hF) (Nat.le_trans (Nat.le_of_ble_eq_true rfl) hL) hC hl.1 (Nat.le_of_ble_eq_true rfl) dX0_operand_136 (fun r_u_39 hr_u_39 H locs hS => ?_) (fun x9 hn H locs q9 ce hS a1 a2 a3 => by obtain ⟨e2, rfl⟩ := bt_no h hn; exact hX _ e2 _ _ _ _ _ _ _ hS a1 a2 a3)
  replace h := bt_ok h hr_u_39
  obtain ⟨e9, rfl⟩ := so9 h
  exact hE _ e9.symm _ _ _ _ hS dX0_operand_139
def F_X0_operand (N : Nat) (ro : Nat → Nat → Int32 → Int32 → CSt → Option (Sum Nat Int32 × CSt)) (u : CSt) : Option ((Sum Nat Int32) × CSt) := B_X0_operand_0 N ro u
set_option maxHeartbeats 4000000 in
theorem k_X0_operand (l : Launch) (hst : l.stackTraces = false) (D : va_G) (kA : Nat → ClassId) (V Z : Nat → Nat) (N : Nat) {d : Nat} (ro : Nat → Nat → Int32 → Int32 → CSt → Option (Sum Nat Int32 × CSt)) (hrec : RecOK_GE l D kA V Z d ro) (u : CSt) (sz : Nat) {y : (Sum Nat Int32)} {w : CSt} (h : F_X0_operand N ro u = some (y, w)) : vx_Met l yX0_operand (Cond.code yX0_operand cX0_operand 1 none :: GW) { frames := d + 1 + 14, cells := 1, slots := 6, locals := 60 * (d + 1) + 500 } (cPc D kA V Z [.ref (Z 208)] u sz) (cQvx D kA Z u sz y w) (cXc D kA Z u sz y w) 1 6 (va_A (CW kA Z u) sz) := by
  refine vx_ofW (cc := cX0_operand) (maxL := 1) (ret := none) (by decide) rfl ?_
  intro p e s m args below meth c s₁ Bd hml hxt hv
  obtain ⟨rfl, hsz, hP, hK, hD0, hE⟩ := hv
  have hts := atoms_spec (ws := Cond.code yX0_operand cX0_operand 1 none :: GW) Bd.pre
  have hl := lv_entry ([.ref (Z 208)]) (n := 1) (Nat.le_of_ble_eq_true rfl)
  rw [lg_entry_eq]
  generalize (lg_sl ([.ref (Z 208)]) ++ List.replicate (1 - (lg_sl ([.ref (Z 208)])).length) Slot.unset).toArray = ls at hl ⊢
  have hl : lv_has ls 1 [(0, .ref (Z 208))] := hl
  subst hsz
  have X : CC p s m ([.ref (Z 208)]).toArray c cX0_operand 1 (Cond.code yX0_operand cX0_operand 1 none) RX0 D kA V (va_A (CW kA Z u) s.heap.size) := ⟨⟨Bd.exec, Bd.bytes, hml, findClass_of_methodNamed Bd.named, hts⟩, hK, hE, fun q h => Or.inr h⟩
  refine b_X0_operand_0 X (cend_vx X Bd.returns Bd.notSynchronized) hst (cend_X X hxt Bd.notSynchronized) ⟨Nat.le_refl _, Nat.le_refl _⟩ (Nat.le_trans (Nat.le_of_ble_eq_true rfl) (Nat.le_add_left 14 _)) (Nat.le_trans (Nat.le_of_ble_eq_true rfl) (Nat.le_add_left 500 _)) hrec (Nat.le_refl _) (Nat.le_refl _) h  ⟨hP, hD0.self, va_S.rf⟩ (lv_sub hl [0] rfl)
def B_X0_bracket_0 (N : Nat) (ro : Nat → Nat → Int32 → Int32 → CSt → Option (Sum Nat Int32 × CSt)) (u : CSt) : Option ((Sum Nat Int32) × CSt) := bt (F_X0_opens N 40 u) fun _ u_1 => bc (F_X9_isKindWord N u_1) fun r_4 u_3 => if r_4 = (0 : Int32) then (bt (ro 0 0 0 0 u_3) fun _ u_6 => bt (F_X0_closes N 41 u_6) fun _ u_8 => some (.inr 0, u_8)) else (bc (F_X9_next N u_3) fun _ u_10 => bt (F_X9_take N 41 u_10) fun _ u_11 => bt (ro 1 0 0 0 u_11) fun _ u_13 => pc (xI u_13 8 ((cI u_13 8) - 1)) fun u_15 => some (.inr 0, u_15))
set_option maxHeartbeats 4000000 in
theorem b_X0_bracket_0 {y : (Sum Nat Int32)} {ro : Nat → Nat → Int32 → Int32 → CSt → Option (Sum Nat Int32 × CSt)} (X : CC p s m args c cX0_bracket 1 (Cond.code yX0_bracket cX0_bracket 1 none) RX0 D kA V A) (hE : CEvx p l e R s m args below meth c cX0_bracket D kA Z A Q y w) (hst : l.stackTraces = false) (hX : CX p l e R s m args below meth c D kA Z A Q y w) (hC : 1 ≤ R.cells ∧ 6 ≤ R.slots) (hF : 9 ≤ R.frames) (hL : 164 ≤ R.locals) (hrec : RecOK_GE l D kA V Z d ro) (hFd : d + 1 + 14 ≤ R.frames) (hLd : 60 * (d + 1) + 500 ≤ R.locals) {u : CSt}  (h : B_X0_bracket_0 N ro u = some (y, w))  (hS : CS D kA Z A s u H locs) (hl : lv_has ls 1 [(0, .ref (Z 208))]) : W p l e R s m args below meth c H locs 0 0 Q (F0 m 0 ls []) := by
  obtain ⟨⟨hx, hb, hml, hown, hts⟩, hK, hEV, hA⟩ := id X
  have hG : ∀ w ∈ GW, w.before args s = true := fun w h => hts w (List.mem_cons_of_mem _ h)
  unfold B_X0_bracket_0 at h
  refine lv_aload_n hx hb dX0_bracket_0 rfl (lv_at hl 0 rfl) ?_
  refine lv_bipush (v := 40) hx hb dX0_bracket_1 (by decide) ?_
  obtain ⟨y_2, u_1, h_u_1, h⟩ := bt_of h
  refine kc_X0_opens_RX0 hst X  hS h_u_1 (Nat.le_trans (Nat.le_of_ble_eq_true rfl) hF) (Nat.le_trans (Nat.le_of_ble_eq_true rfl) hL) hC hl.1 (Nat.le_of_ble_eq_true rfl) dX0_bracket_3 (fun r_u_1 hr_u_1 H locs hS => ?_) (fun x9 hn H locs q9 ce hS a1 a2 a3 => by obtain ⟨e2, rfl⟩ := bt_no h hn; exact hX _ e2 _ _ _ _ _ _ _ hS a1 a2 a3)
  replace h := bt_ok h hr_u_1
  refine lv_aload_n hx hb dX0_bracket_6 rfl (lv_at hl 0 rfl) ?_
  refine cg_X0_9 X hS dX0_bracket_7 ?_
  obtain ⟨r_4, u_3, h_u_3, h⟩ := bc_of h
  refine kc_X9_isKindWord_RX0 X  hS h_u_3 (Nat.le_trans (Nat.le_of_ble_eq_true rfl) hF) (Nat.le_trans (Nat.le_of_ble_eq_true rfl) hL) hl.1 (Nat.le_of_ble_eq_true rfl) dX0_bracket_10 (fun H locs hS => ?_)
  refine lv_if_eq (tgt := 49) hx hb dX0_bracket_13 (by decide) (fun c_5 => ?_) (fun c_5 => ?_)
  · have h := ip (c_5) h
    refine lv_aload_n hx hb dX0_bracket_49 rfl (lv_at hl 0 rfl) ?_
    obtain ⟨y_7, u_6, h_u_6, h⟩ := bt_of h
    refine kc_X0_expression X hrec  hS h_u_6 hFd hLd hC hl.1 (Nat.le_of_ble_eq_true rfl) dX0_bracket_50 (fun r_u_6 hr_u_6 H locs hS => ?_) (fun x9 hn H locs q9 ce hS a1 a2 a3 => by obtain ⟨e2, rfl⟩ := bt_no h hn; exact hX _ e2 _ _ _ _ _ _ _ hS a1 a2 a3)
    replace h := bt_ok h hr_u_6
    refine lv_aload_n hx hb dX0_bracket_53 rfl (lv_at hl 0 rfl) ?_
    refine lv_bipush (v := 41) hx hb dX0_bracket_54 (by decide) ?_
    obtain ⟨y_9, u_8, h_u_8, h⟩ := bt_of h
    refine kc_X0_closes_RX0 hst X  hS h_u_8 (Nat.le_trans (Nat.le_of_ble_eq_true rfl) hF) (Nat.le_trans (Nat.le_of_ble_eq_true rfl) hL) hC hl.1 (Nat.le_of_ble_eq_true rfl) dX0_bracket_56 (fun r_u_8 hr_u_8 H locs hS => ?_) (fun x9 hn H locs q9 ce hS a1 a2 a3 => by obtain ⟨e2, rfl⟩ := bt_no h hn; exact hX _ e2 _ _ _ _ _ _ _ hS a1 a2 a3)
    replace h := bt_ok h hr_u_8
    obtain ⟨e9, rfl⟩ := so9 h
    exact hE _ e9.symm _ _ _ _ hS dX0_bracket_59
  · have h := im (c_5) h
    refine lv_aload_n hx hb dX0_bracket_16 rfl (lv_at hl 0 rfl) ?_
    refine cg_X0_9 X hS dX0_bracket_17 ?_
    obtain ⟨r_u_10, u_10, h_u_10, h⟩ := bc_of h
    refine kc_X9_next_RX0 X  hS h_u_10 (Nat.le_trans (Nat.le_of_ble_eq_true rfl) hF) (Nat.le_trans (Nat.le_of_ble_eq_true rfl) hL) hl.1 (Nat.le_of_ble_eq_true rfl) dX0_bracket_20 (fun H locs hS => ?_)
    refine lv_aload_n hx hb dX0_bracket_23 rfl (lv_at hl 0 rfl) ?_
    refine cg_X0_9 X hS dX0_bracket_24 ?_
    refine lv_bipush (v := 41) hx hb dX0_bracket_27 (by decide) ?_
    obtain ⟨y_12, u_11, h_u_11, h⟩ := bt_of h
    refine kc_X9_take_RX0 hst X  hS h_u_11 (Nat.le_trans (Nat.le_of_ble_eq_true rfl) hF) (Nat.le_trans (Nat.le_of_ble_eq_true rfl) hL) hC hl.1 (Nat.le_of_ble_eq_true rfl) dX0_bracket_29 (fun r_u_11 hr_u_11 H locs hS => ?_) (fun x9 hn H locs q9 ce hS a1 a2 a3 => by obtain ⟨e2, rfl⟩ := bt_no h hn; exact hX _ e2 _ _ _ _ _ _ _ hS a1 a2 a3)
    replace h := bt_ok h hr_u_11
    refine lv_aload_n hx hb dX0_bracket_32 rfl (lv_at hl 0 rfl) ?_
    obtain ⟨y_14, u_13, h_u_13, h⟩ := bt_of h
    refine kc_X0_operand X hrec  hS h_u_13 hFd hLd hC hl.1 (Nat.le_of_ble_eq_true rfl) dX0_bracket_33 (fun r_u_13 hr_u_13 H locs hS => ?_) (fun x9 hn H locs q9 ce hS a1 a2 a3 => by obtain ⟨e2, rfl⟩ := bt_no h hn; exact hX _ e2 _ _ _ _ _ _ _ hS a1 a2 a3)
    replace h := bt_ok h hr_u_13
    refine lv_aload_n hx hb dX0_bracket_36 rfl (lv_at hl 0 rfl) ?_
    refine lv_dup hx hb dX0_bracket_37 rfl ?_
    refine cg_X0_15 X hS dX0_bracket_38 ?_
    refine lv_iconst (v := 1) hx hb dX0_bracket_41 (by decide) ?_
    refine lv_isub hx hb dX0_bracket_42 ?_
    obtain ⟨u_15, e_u_15, h⟩ := pc_of h
    refine cp_X0_15 X hS e_u_15 dX0_bracket_43 (fun H locs hS => ?_)
    refine lv_goto (tgt := 59) hx hb dX0_bracket_46 (by decide) ?_
    obtain ⟨e9, rfl⟩ := so9 h
    exact hE _ e9.symm _ _ _ _ hS dX0_bracket_59
def F_X0_bracket (N : Nat) (ro : Nat → Nat → Int32 → Int32 → CSt → Option (Sum Nat Int32 × CSt)) (u : CSt) : Option ((Sum Nat Int32) × CSt) := B_X0_bracket_0 N ro u
set_option maxHeartbeats 4000000 in
theorem k_X0_bracket (l : Launch) (hst : l.stackTraces = false) (D : va_G) (kA : Nat → ClassId) (V Z : Nat → Nat) (N : Nat) {d : Nat} (ro : Nat → Nat → Int32 → Int32 → CSt → Option (Sum Nat Int32 × CSt)) (hrec : RecOK_GE l D kA V Z d ro) (u : CSt) (sz : Nat) {y : (Sum Nat Int32)} {w : CSt} (h : F_X0_bracket N ro u = some (y, w)) : vx_Met l yX0_bracket (Cond.code yX0_bracket cX0_bracket 1 none :: GW) { frames := d + 1 + 14, cells := 1, slots := 6, locals := 60 * (d + 1) + 500 } (cPc D kA V Z [.ref (Z 208)] u sz) (cQvx D kA Z u sz y w) (cXc D kA Z u sz y w) 1 6 (va_A (CW kA Z u) sz) := by
  refine vx_ofW (cc := cX0_bracket) (maxL := 1) (ret := none) (by decide) rfl ?_
  intro p e s m args below meth c s₁ Bd hml hxt hv
  obtain ⟨rfl, hsz, hP, hK, hD0, hE⟩ := hv
  have hts := atoms_spec (ws := Cond.code yX0_bracket cX0_bracket 1 none :: GW) Bd.pre
  have hl := lv_entry ([.ref (Z 208)]) (n := 1) (Nat.le_of_ble_eq_true rfl)
  rw [lg_entry_eq]
  generalize (lg_sl ([.ref (Z 208)]) ++ List.replicate (1 - (lg_sl ([.ref (Z 208)])).length) Slot.unset).toArray = ls at hl ⊢
  have hl : lv_has ls 1 [(0, .ref (Z 208))] := hl
  subst hsz
  have X : CC p s m ([.ref (Z 208)]).toArray c cX0_bracket 1 (Cond.code yX0_bracket cX0_bracket 1 none) RX0 D kA V (va_A (CW kA Z u) s.heap.size) := ⟨⟨Bd.exec, Bd.bytes, hml, findClass_of_methodNamed Bd.named, hts⟩, hK, hE, fun q h => Or.inr h⟩
  refine b_X0_bracket_0 X (cend_vx X Bd.returns Bd.notSynchronized) hst (cend_X X hxt Bd.notSynchronized) ⟨Nat.le_refl _, Nat.le_refl _⟩ (Nat.le_trans (Nat.le_of_ble_eq_true rfl) (Nat.le_add_left 14 _)) (Nat.le_trans (Nat.le_of_ble_eq_true rfl) (Nat.le_add_left 500 _)) hrec (Nat.le_refl _) (Nat.le_refl _) h  ⟨hP, hD0.self, va_S.rf⟩ (lv_sub hl [0] rfl)
def B_X0_namedOperand_73 (N : Nat) (ro : Nat → Nat → Int32 → Int32 → CSt → Option (Sum Nat Int32 × CSt)) (u : CSt) : Option ((Sum Nat Int32) × CSt) := bt (ro 5 0 0 0 u) fun _ u_1 => bt (F_X0_bit N u_1) fun _ u_3 => some (.inr 0, u_3)
set_option maxHeartbeats 4000000 in
theorem b_X0_namedOperand_73 {y : (Sum Nat Int32)} {ro : Nat → Nat → Int32 → Int32 → CSt → Option (Sum Nat Int32 × CSt)} (X : CC p s m args c cX0_namedOperand 1 (Cond.code yX0_namedOperand cX0_namedOperand 1 none) RX0 D kA V A) (hE : CEvx p l e R s m args below meth c cX0_namedOperand D kA Z A Q y w) (hst : l.stackTraces = false) (hX : CX p l e R s m args below meth c D kA Z A Q y w) (hC : 1 ≤ R.cells ∧ 6 ≤ R.slots) (hF : 9 ≤ R.frames) (hL : 163 ≤ R.locals) (hrec : RecOK_GE l D kA V Z d ro) (hFd : d + 1 + 14 ≤ R.frames) (hLd : 60 * (d + 1) + 500 ≤ R.locals) {u : CSt}  (h : B_X0_namedOperand_73 N ro u = some (y, w))  (hS : CS D kA Z A s u H locs) (hl : lv_has ls 1 [(0, .ref (Z 208))]) : W p l e R s m args below meth c H locs 0 0 Q (F0 m 73 ls []) := by
  obtain ⟨⟨hx, hb, hml, hown, hts⟩, hK, hEV, hA⟩ := id X
  have hG : ∀ w ∈ GW, w.before args s = true := fun w h => hts w (List.mem_cons_of_mem _ h)
  unfold B_X0_namedOperand_73 at h
  refine lv_aload_n hx hb dX0_namedOperand_73 rfl (lv_at hl 0 rfl) ?_
  obtain ⟨y_2, u_1, h_u_1, h⟩ := bt_of h
  refine kc_X0_index X hrec  hS h_u_1 hFd hLd hC hl.1 (Nat.le_of_ble_eq_true rfl) dX0_namedOperand_74 (fun r_u_1 hr_u_1 H locs hS => ?_) (fun x9 hn H locs q9 ce hS a1 a2 a3 => by obtain ⟨e2, rfl⟩ := bt_no h hn; exact hX _ e2 _ _ _ _ _ _ _ hS a1 a2 a3)
  replace h := bt_ok h hr_u_1
  refine lv_aload_n hx hb dX0_namedOperand_77 rfl (lv_at hl 0 rfl) ?_
  obtain ⟨y_4, u_3, h_u_3, h⟩ := bt_of h
  refine kc_X0_bit_RX0 hst X  hS h_u_3 (Nat.le_trans (Nat.le_of_ble_eq_true rfl) hF) (Nat.le_trans (Nat.le_of_ble_eq_true rfl) hL) hC hl.1 (Nat.le_of_ble_eq_true rfl) dX0_namedOperand_78 (fun r_u_3 hr_u_3 H locs hS => ?_) (fun x9 hn H locs q9 ce hS a1 a2 a3 => by obtain ⟨e2, rfl⟩ := bt_no h hn; exact hX _ e2 _ _ _ _ _ _ _ hS a1 a2 a3)
  replace h := bt_ok h hr_u_3
  obtain ⟨e9, rfl⟩ := so9 h
  exact hE _ e9.symm _ _ _ _ hS dX0_namedOperand_81
def B_X0_namedOperand_0 (N : Nat) (ro : Nat → Nat → Int32 → Int32 → CSt → Option (Sum Nat Int32 × CSt)) (u : CSt) : Option ((Sum Nat Int32) × CSt) := bc (F_X9_next N u) fun _ u_5 => bc (F_X9_is N 40 u_5) fun r_7 u_6 => if r_7 = (0 : Int32) then (bc (F_X9_is N 46 u_6) fun r_10 u_9 => if r_10 = (0 : Int32) then (B_X0_namedOperand_73 N ro u_9) else (bc (F_X9_typeAhead N 1 u_9) fun r_13 u_12 => if r_13 = (128 : Int32) then (bc (F_X9_next N u_12) fun _ u_15 => bc (F_X9_next N u_15) fun _ u_16 => bt (ro 5 0 0 0 u_16) fun _ u_17 => some (.inr 0, u_17)) else (B_X0_namedOperand_73 N ro u_12))) else (bt (ro 4 0 0 0 u_6) fun _ u_19 => some (.inr 0, u_19))
set_option maxHeartbeats 4000000 in
theorem b_X0_namedOperand_0 {y : (Sum Nat Int32)} {ro : Nat → Nat → Int32 → Int32 → CSt → Option (Sum Nat Int32 × CSt)} (X : CC p s m args c cX0_namedOperand 1 (Cond.code yX0_namedOperand cX0_namedOperand 1 none) RX0 D kA V A) (hE : CEvx p l e R s m args below meth c cX0_namedOperand D kA Z A Q y w) (hst : l.stackTraces = false) (hX : CX p l e R s m args below meth c D kA Z A Q y w) (hC : 1 ≤ R.cells ∧ 6 ≤ R.slots) (hF : 9 ≤ R.frames) (hL : 163 ≤ R.locals) (hrec : RecOK_GE l D kA V Z d ro) (hFd : d + 1 + 14 ≤ R.frames) (hLd : 60 * (d + 1) + 500 ≤ R.locals) {u : CSt}  (h : B_X0_namedOperand_0 N ro u = some (y, w))  (hS : CS D kA Z A s u H locs) (hl : lv_has ls 1 [(0, .ref (Z 208))]) : W p l e R s m args below meth c H locs 0 0 Q (F0 m 0 ls []) := by
  obtain ⟨⟨hx, hb, hml, hown, hts⟩, hK, hEV, hA⟩ := id X
  have hG : ∀ w ∈ GW, w.before args s = true := fun w h => hts w (List.mem_cons_of_mem _ h)
  unfold B_X0_namedOperand_0 at h
  refine lv_aload_n hx hb dX0_namedOperand_0 rfl (lv_at hl 0 rfl) ?_
  refine cg_X0_9 X hS dX0_namedOperand_1 ?_
  obtain ⟨r_u_5, u_5, h_u_5, h⟩ := bc_of h
  refine kc_X9_next_RX0 X  hS h_u_5 (Nat.le_trans (Nat.le_of_ble_eq_true rfl) hF) (Nat.le_trans (Nat.le_of_ble_eq_true rfl) hL) hl.1 (Nat.le_of_ble_eq_true rfl) dX0_namedOperand_4 (fun H locs hS => ?_)
  refine lv_aload_n hx hb dX0_namedOperand_7 rfl (lv_at hl 0 rfl) ?_
  refine cg_X0_9 X hS dX0_namedOperand_8 ?_
  refine lv_bipush (v := 40) hx hb dX0_namedOperand_11 (by decide) ?_
  obtain ⟨r_7, u_6, h_u_6, h⟩ := bc_of h
  refine kc_X9_is_RX0 X  hS h_u_6 (Nat.le_trans (Nat.le_of_ble_eq_true rfl) hF) (Nat.le_trans (Nat.le_of_ble_eq_true rfl) hL) hl.1 (Nat.le_of_ble_eq_true rfl) dX0_namedOperand_13 (fun H locs hS => ?_)
  refine lv_if_eq (tgt := 26) hx hb dX0_namedOperand_16 (by decide) (fun c_8 => ?_) (fun c_8 => ?_)
  · have h := ip (c_8) h
    refine lv_aload_n hx hb dX0_namedOperand_26 rfl (lv_at hl 0 rfl) ?_
    refine cg_X0_9 X hS dX0_namedOperand_27 ?_
    refine lv_bipush (v := 46) hx hb dX0_namedOperand_30 (by decide) ?_
    obtain ⟨r_10, u_9, h_u_9, h⟩ := bc_of h
    refine kc_X9_is_RX0 X  hS h_u_9 (Nat.le_trans (Nat.le_of_ble_eq_true rfl) hF) (Nat.le_trans (Nat.le_of_ble_eq_true rfl) hL) hl.1 (Nat.le_of_ble_eq_true rfl) dX0_namedOperand_32 (fun H locs hS => ?_)
    refine lv_if_eq (tgt := 73) hx hb dX0_namedOperand_35 (by decide) (fun c_11 => ?_) (fun c_11 => ?_)
    · have h := ip (c_11) h
      exact b_X0_namedOperand_73 X hE hst hX hC hF hL hrec hFd hLd h  hS (lv_sub hl [0] rfl)
    · have h := im (c_11) h
      refine lv_aload_n hx hb dX0_namedOperand_38 rfl (lv_at hl 0 rfl) ?_
      refine cg_X0_9 X hS dX0_namedOperand_39 ?_
      refine lv_iconst (v := 1) hx hb dX0_namedOperand_42 (by decide) ?_
      obtain ⟨r_13, u_12, h_u_12, h⟩ := bc_of h
      refine kc_X9_typeAhead_RX0 X  hS h_u_12 (Nat.le_trans (Nat.le_of_ble_eq_true rfl) hF) (Nat.le_trans (Nat.le_of_ble_eq_true rfl) hL) hl.1 (Nat.le_of_ble_eq_true rfl) dX0_namedOperand_43 (fun H locs hS => ?_)
      refine lv_sipush (v := 128) hx hb dX0_namedOperand_46 (by decide) ?_
      refine lv_icmp_ne (tgt := 73) hx hb dX0_namedOperand_49 (by decide) (fun c_14 => ?_) (fun c_14 => ?_)
      · have h := im (c_14) h
        exact b_X0_namedOperand_73 X hE hst hX hC hF hL hrec hFd hLd h  hS (lv_sub hl [0] rfl)
      · have h := ip (c_14) h
        refine lv_aload_n hx hb dX0_namedOperand_52 rfl (lv_at hl 0 rfl) ?_
        refine cg_X0_9 X hS dX0_namedOperand_53 ?_
        obtain ⟨r_u_15, u_15, h_u_15, h⟩ := bc_of h
        refine kc_X9_next_RX0 X  hS h_u_15 (Nat.le_trans (Nat.le_of_ble_eq_true rfl) hF) (Nat.le_trans (Nat.le_of_ble_eq_true rfl) hL) hl.1 (Nat.le_of_ble_eq_true rfl) dX0_namedOperand_56 (fun H locs hS => ?_)
        refine lv_aload_n hx hb dX0_namedOperand_59 rfl (lv_at hl 0 rfl) ?_
        refine cg_X0_9 X hS dX0_namedOperand_60 ?_
        obtain ⟨r_u_16, u_16, h_u_16, h⟩ := bc_of h
        refine kc_X9_next_RX0 X  hS h_u_16 (Nat.le_trans (Nat.le_of_ble_eq_true rfl) hF) (Nat.le_trans (Nat.le_of_ble_eq_true rfl) hL) hl.1 (Nat.le_of_ble_eq_true rfl) dX0_namedOperand_63 (fun H locs hS => ?_)
        refine lv_aload_n hx hb dX0_namedOperand_66 rfl (lv_at hl 0 rfl) ?_
        obtain ⟨y_18, u_17, h_u_17, h⟩ := bt_of h
        refine kc_X0_index X hrec  hS h_u_17 hFd hLd hC hl.1 (Nat.le_of_ble_eq_true rfl) dX0_namedOperand_67 (fun r_u_17 hr_u_17 H locs hS => ?_) (fun x9 hn H locs q9 ce hS a1 a2 a3 => by obtain ⟨e2, rfl⟩ := bt_no h hn; exact hX _ e2 _ _ _ _ _ _ _ hS a1 a2 a3)
        replace h := bt_ok h hr_u_17
        refine lv_goto (tgt := 81) hx hb dX0_namedOperand_70 (by decide) ?_
        obtain ⟨e9, rfl⟩ := so9 h
        exact hE _ e9.symm _ _ _ _ hS dX0_namedOperand_81
  · have h := im (c_8) h
    refine lv_aload_n hx hb dX0_namedOperand_19 rfl (lv_at hl 0 rfl) ?_
    obtain ⟨y_20, u_19, h_u_19, h⟩ := bt_of h
    refine kc_X0_arguments X hrec  hS h_u_19 hFd hLd hC hl.1 (Nat.le_of_ble_eq_true rfl) dX0_namedOperand_20 (fun r_u_19 hr_u_19 H locs hS => ?_) (fun x9 hn H locs q9 ce hS a1 a2 a3 => by obtain ⟨e2, rfl⟩ := bt_no h hn; exact hX _ e2 _ _ _ _ _ _ _ hS a1 a2 a3)
    replace h := bt_ok h hr_u_19
    refine lv_goto (tgt := 81) hx hb dX0_namedOperand_23 (by decide) ?_
    obtain ⟨e9, rfl⟩ := so9 h
    exact hE _ e9.symm _ _ _ _ hS dX0_namedOperand_81
def F_X0_namedOperand (N : Nat) (ro : Nat → Nat → Int32 → Int32 → CSt → Option (Sum Nat Int32 × CSt)) (u : CSt) : Option ((Sum Nat Int32) × CSt) := B_X0_namedOperand_0 N ro u
set_option maxHeartbeats 4000000 in
theorem k_X0_namedOperand (l : Launch) (hst : l.stackTraces = false) (D : va_G) (kA : Nat → ClassId) (V Z : Nat → Nat) (N : Nat) {d : Nat} (ro : Nat → Nat → Int32 → Int32 → CSt → Option (Sum Nat Int32 × CSt)) (hrec : RecOK_GE l D kA V Z d ro) (u : CSt) (sz : Nat) {y : (Sum Nat Int32)} {w : CSt} (h : F_X0_namedOperand N ro u = some (y, w)) : vx_Met l yX0_namedOperand (Cond.code yX0_namedOperand cX0_namedOperand 1 none :: GW) { frames := d + 1 + 14, cells := 1, slots := 6, locals := 60 * (d + 1) + 500 } (cPc D kA V Z [.ref (Z 208)] u sz) (cQvx D kA Z u sz y w) (cXc D kA Z u sz y w) 1 6 (va_A (CW kA Z u) sz) := by
  refine vx_ofW (cc := cX0_namedOperand) (maxL := 1) (ret := none) (by decide) rfl ?_
  intro p e s m args below meth c s₁ Bd hml hxt hv
  obtain ⟨rfl, hsz, hP, hK, hD0, hE⟩ := hv
  have hts := atoms_spec (ws := Cond.code yX0_namedOperand cX0_namedOperand 1 none :: GW) Bd.pre
  have hl := lv_entry ([.ref (Z 208)]) (n := 1) (Nat.le_of_ble_eq_true rfl)
  rw [lg_entry_eq]
  generalize (lg_sl ([.ref (Z 208)]) ++ List.replicate (1 - (lg_sl ([.ref (Z 208)])).length) Slot.unset).toArray = ls at hl ⊢
  have hl : lv_has ls 1 [(0, .ref (Z 208))] := hl
  subst hsz
  have X : CC p s m ([.ref (Z 208)]).toArray c cX0_namedOperand 1 (Cond.code yX0_namedOperand cX0_namedOperand 1 none) RX0 D kA V (va_A (CW kA Z u) s.heap.size) := ⟨⟨Bd.exec, Bd.bytes, hml, findClass_of_methodNamed Bd.named, hts⟩, hK, hE, fun q h => Or.inr h⟩
  refine b_X0_namedOperand_0 X (cend_vx X Bd.returns Bd.notSynchronized) hst (cend_X X hxt Bd.notSynchronized) ⟨Nat.le_refl _, Nat.le_refl _⟩ (Nat.le_trans (Nat.le_of_ble_eq_true rfl) (Nat.le_add_left 14 _)) (Nat.le_trans (Nat.le_of_ble_eq_true rfl) (Nat.le_add_left 500 _)) hrec (Nat.le_refl _) (Nat.le_refl _) h  ⟨hP, hD0.self, va_S.rf⟩ (lv_sub hl [0] rfl)
def B_X0_arguments_60 (N : Nat) (ro : Nat → Nat → Int32 → Int32 → CSt → Option (Sum Nat Int32 × CSt)) (u : CSt) : Option ((Sum Nat Int32) × CSt) := bt (F_X0_closes N 41 u) fun _ u_1 => some (.inr 0, u_1)
set_option maxHeartbeats 4000000 in
theorem b_X0_arguments_60 {y : (Sum Nat Int32)} {ro : Nat → Nat → Int32 → Int32 → CSt → Option (Sum Nat Int32 × CSt)} (X : CC p s m args c cX0_arguments 2 (Cond.code yX0_arguments cX0_arguments 2 none) RX0 D kA V A) (hE : CEvx p l e R s m args below meth c cX0_arguments D kA Z A Q y w) (hst : l.stackTraces = false) (hX : CX p l e R s m args below meth c D kA Z A Q y w) (hC : 1 ≤ R.cells ∧ 6 ≤ R.slots) (hF : 9 ≤ R.frames) (hL : 164 ≤ R.locals) (hrec : RecOK_GE l D kA V Z d ro) (hFd : d + 1 + 14 ≤ R.frames) (hLd : 60 * (d + 1) + 500 ≤ R.locals) {u : CSt}  (h : B_X0_arguments_60 N ro u = some (y, w))  (hS : CS D kA Z A s u H locs) (hl : lv_has ls 2 [(0, .ref (Z 208))]) : W p l e R s m args below meth c H locs 0 0 Q (F0 m 60 ls []) := by
  obtain ⟨⟨hx, hb, hml, hown, hts⟩, hK, hEV, hA⟩ := id X
  have hG : ∀ w ∈ GW, w.before args s = true := fun w h => hts w (List.mem_cons_of_mem _ h)
  unfold B_X0_arguments_60 at h
  refine lv_aload_n hx hb dX0_arguments_60 rfl (lv_at hl 0 rfl) ?_
  refine lv_bipush (v := 41) hx hb dX0_arguments_61 (by decide) ?_
  obtain ⟨y_2, u_1, h_u_1, h⟩ := bt_of h
  refine kc_X0_closes_RX0 hst X  hS h_u_1 (Nat.le_trans (Nat.le_of_ble_eq_true rfl) hF) (Nat.le_trans (Nat.le_of_ble_eq_true rfl) hL) hC hl.1 (Nat.le_of_ble_eq_true rfl) dX0_arguments_63 (fun r_u_1 hr_u_1 H locs hS => ?_) (fun x9 hn H locs q9 ce hS a1 a2 a3 => by obtain ⟨e2, rfl⟩ := bt_no h hn; exact hX _ e2 _ _ _ _ _ _ _ hS a1 a2 a3)
  replace h := bt_ok h hr_u_1
  obtain ⟨e9, rfl⟩ := so9 h
  exact hE _ e9.symm _ _ _ _ hS dX0_arguments_66
def B_X0_arguments_24 (N : Nat) (ro : Nat → Nat → Int32 → Int32 → CSt → Option (Sum Nat Int32 × CSt)) (R_24 : Int32 × CSt → Option ((Sum Nat Int32) × CSt)) (l1 : Int32) (u : CSt) : Option ((Sum Nat Int32) × CSt) := if (1500 : Int32) ≤ l1 then (B_X0_arguments_60 N ro u) else (bc (F_X9_is N 44 u) fun r_5 u_4 => if r_5 = (0 : Int32) then (B_X0_arguments_60 N ro u_4) else (bc (F_X9_next N u_4) fun _ u_7 => bt (ro 0 0 0 0 u_7) fun _ u_8 => R_24 ((l1 + 1), u_8)))
set_option maxHeartbeats 4000000 in
theorem b_X0_arguments_24 {y : (Sum Nat Int32)} {ro : Nat → Nat → Int32 → Int32 → CSt → Option (Sum Nat Int32 × CSt)} (X : CC p s m args c cX0_arguments 2 (Cond.code yX0_arguments cX0_arguments 2 none) RX0 D kA V A) (hE : CEvx p l e R s m args below meth c cX0_arguments D kA Z A Q y w) (hst : l.stackTraces = false) (hX : CX p l e R s m args below meth c D kA Z A Q y w) (hC : 1 ≤ R.cells ∧ 6 ≤ R.slots) (hF : 9 ≤ R.frames) (hL : 164 ≤ R.locals) (hrec : RecOK_GE l D kA V Z d ro) (hFd : d + 1 + 14 ≤ R.frames) (hLd : 60 * (d + 1) + 500 ≤ R.locals) {R_24 : Int32 × CSt → Option ((Sum Nat Int32) × CSt)} {l1 : Int32} {u : CSt} (hR_24 : ∀ (l1 : Int32) (u : CSt), R_24 (l1, u) = some (y, w) → ∀ (H : Heap) (locs : List Loc) (ls : Array Slot), CS D kA Z A s u H locs → lv_has ls 2 [(0, .ref (Z 208)), (1, .int l1)] → W p l e R s m args below meth c H locs 0 0 Q (F0 m 24 ls [])) (h : B_X0_arguments_24 N ro R_24 l1 u = some (y, w))  (hS : CS D kA Z A s u H locs) (hl : lv_has ls 2 [(0, .ref (Z 208)), (1, .int l1)]) : W p l e R s m args below meth c H locs 0 0 Q (F0 m 24 ls []) := by
  obtain ⟨⟨hx, hb, hml, hown, hts⟩, hK, hEV, hA⟩ := id X
  have hG : ∀ w ∈ GW, w.before args s = true := fun w h => hts w (List.mem_cons_of_mem _ h)
  unfold B_X0_arguments_24 at h
  refine lv_iload_n hx hb dX0_arguments_24 rfl (lv_at hl 1 rfl) ?_
  refine lv_sipush (v := 1500) hx hb dX0_arguments_25 (by decide) ?_
  refine lv_icmp_ge (tgt := 60) hx hb dX0_arguments_28 (by decide) (fun c_3 => ?_) (fun c_3 => ?_)
  · have h := ip (c_3) h
    exact b_X0_arguments_60 X hE hst hX hC hF hL hrec hFd hLd h  hS (lv_sub hl [0] rfl)
  · have h := im (c_3) h
    refine lv_aload_n hx hb dX0_arguments_31 rfl (lv_at hl 0 rfl) ?_
    refine cg_X0_9 X hS dX0_arguments_32 ?_
    refine lv_bipush (v := 44) hx hb dX0_arguments_35 (by decide) ?_
    obtain ⟨r_5, u_4, h_u_4, h⟩ := bc_of h
    refine kc_X9_is_RX0 X  hS h_u_4 (Nat.le_trans (Nat.le_of_ble_eq_true rfl) hF) (Nat.le_trans (Nat.le_of_ble_eq_true rfl) hL) hl.1 (Nat.le_of_ble_eq_true rfl) dX0_arguments_37 (fun H locs hS => ?_)
    refine lv_if_eq (tgt := 60) hx hb dX0_arguments_40 (by decide) (fun c_6 => ?_) (fun c_6 => ?_)
    · have h := ip (c_6) h
      exact b_X0_arguments_60 X hE hst hX hC hF hL hrec hFd hLd h  hS (lv_sub hl [0] rfl)
    · have h := im (c_6) h
      refine lv_aload_n hx hb dX0_arguments_43 rfl (lv_at hl 0 rfl) ?_
      refine cg_X0_9 X hS dX0_arguments_44 ?_
      obtain ⟨r_u_7, u_7, h_u_7, h⟩ := bc_of h
      refine kc_X9_next_RX0 X  hS h_u_7 (Nat.le_trans (Nat.le_of_ble_eq_true rfl) hF) (Nat.le_trans (Nat.le_of_ble_eq_true rfl) hL) hl.1 (Nat.le_of_ble_eq_true rfl) dX0_arguments_47 (fun H locs hS => ?_)
      refine lv_aload_n hx hb dX0_arguments_50 rfl (lv_at hl 0 rfl) ?_
      obtain ⟨y_9, u_8, h_u_8, h⟩ := bt_of h
      refine kc_X0_expression X hrec  hS h_u_8 hFd hLd hC hl.1 (Nat.le_of_ble_eq_true rfl) dX0_arguments_51 (fun r_u_8 hr_u_8 H locs hS => ?_) (fun x9 hn H locs q9 ce hS a1 a2 a3 => by obtain ⟨e2, rfl⟩ := bt_no h hn; exact hX _ e2 _ _ _ _ _ _ _ hS a1 a2 a3)
      replace h := bt_ok h hr_u_8
      refine lv_iinc (v := l1 + 1) (lv' := [(1, .int (l1 + 1)), (0, .ref (Z 208))]) hx hb dX0_arguments_54 hl (k := 1) rfl rfl (by decide) rfl (fun ls hl => ?_)
      refine lv_goto (tgt := 24) hx hb dX0_arguments_57 (by decide) ?_
      exact hR_24 _ _  h _ _ _ hS (lv_sub hl [1, 0] rfl)
def LP_X0_arguments_24 (N : Nat) (ro : Nat → Nat → Int32 → Int32 → CSt → Option (Sum Nat Int32 × CSt)) : Nat → Int32 × CSt → Option ((Sum Nat Int32) × CSt) := lp (fun R a => B_X0_arguments_24 N ro R a.1 a.2)
theorem bl_X0_arguments_24 {y : (Sum Nat Int32)} {ro : Nat → Nat → Int32 → Int32 → CSt → Option (Sum Nat Int32 × CSt)} (X : CC p s m args c cX0_arguments 2 (Cond.code yX0_arguments cX0_arguments 2 none) RX0 D kA V A) (hE : CEvx p l e R s m args below meth c cX0_arguments D kA Z A Q y w) (hst : l.stackTraces = false) (hX : CX p l e R s m args below meth c D kA Z A Q y w) (hC : 1 ≤ R.cells ∧ 6 ≤ R.slots) (hF : 9 ≤ R.frames) (hL : 164 ≤ R.locals) (hrec : RecOK_GE l D kA V Z d ro) (hFd : d + 1 + 14 ≤ R.frames) (hLd : 60 * (d + 1) + 500 ≤ R.locals)  : ∀ (n : Nat) (l1 : Int32) (u : CSt), LP_X0_arguments_24 N ro n (l1, u) = some (y, w) → ∀ (H : Heap) (locs : List Loc) (ls : Array Slot), CS D kA Z A s u H locs → lv_has ls 2 [(0, .ref (Z 208)), (1, .int l1)] → W p l e R s m args below meth c H locs 0 0 Q (F0 m 24 ls []) := by
  intro n
  induction n with
  | zero => intro l1 u h; exact nomatch h
  | succ n ih => intro l1 u h H locs ls hS hl; exact b_X0_arguments_24 (N := N) (R_24 := LP_X0_arguments_24 N ro n) X hE hst hX hC hF hL hrec hFd hLd ih h  hS hl
def B_X0_arguments_22 (N : Nat) (ro : Nat → Nat → Int32 → Int32 → CSt → Option (Sum Nat Int32 × CSt)) (u : CSt) : Option ((Sum Nat Int32) × CSt) := LP_X0_arguments_24 N ro N (0, u)
set_option maxHeartbeats 4000000 in
theorem b_X0_arguments_22 {y : (Sum Nat Int32)} {ro : Nat → Nat → Int32 → Int32 → CSt → Option (Sum Nat Int32 × CSt)} (X : CC p s m args c cX0_arguments 2 (Cond.code yX0_arguments cX0_arguments 2 none) RX0 D kA V A) (hE : CEvx p l e R s m args below meth c cX0_arguments D kA Z A Q y w) (hst : l.stackTraces = false) (hX : CX p l e R s m args below meth c D kA Z A Q y w) (hC : 1 ≤ R.cells ∧ 6 ≤ R.slots) (hF : 9 ≤ R.frames) (hL : 164 ≤ R.locals) (hrec : RecOK_GE l D kA V Z d ro) (hFd : d + 1 + 14 ≤ R.frames) (hLd : 60 * (d + 1) + 500 ≤ R.locals) {u : CSt}  (h : B_X0_arguments_22 N ro u = some (y, w))  (hS : CS D kA Z A s u H locs) (hl : lv_has ls 2 [(0, .ref (Z 208))]) : W p l e R s m args below meth c H locs 0 0 Q (F0 m 22 ls []) := by
  obtain ⟨⟨hx, hb, hml, hown, hts⟩, hK, hEV, hA⟩ := id X
  have hG : ∀ w ∈ GW, w.before args s = true := fun w h => hts w (List.mem_cons_of_mem _ h)
  unfold B_X0_arguments_22 at h
  refine lv_iconst (v := 0) hx hb dX0_arguments_22 (by decide) ?_
  refine lv_istore_n (lv' := [(1, .int 0), (0, .ref (Z 208))]) hx hb dX0_arguments_23 rfl hl (by decide) rfl (fun ls hl => ?_)
  exact bl_X0_arguments_24 X hE hst hX hC hF hL hrec hFd hLd _ _ _  h _ _ _ hS (lv_sub hl [1, 0] rfl)
def B_X0_arguments_0 (N : Nat) (ro : Nat → Nat → Int32 → Int32 → CSt → Option (Sum Nat Int32 × CSt)) (u : CSt) : Option ((Sum Nat Int32) × CSt) := bt (F_X0_opens N 40 u) fun _ u_10 => bc (F_X9_is N 41 u_10) fun r_13 u_12 => if r_13 = (0 : Int32) then (bt (ro 0 0 0 0 u_12) fun _ u_15 => B_X0_arguments_22 N ro u_15) else (B_X0_arguments_22 N ro u_12)
set_option maxHeartbeats 4000000 in
theorem b_X0_arguments_0 {y : (Sum Nat Int32)} {ro : Nat → Nat → Int32 → Int32 → CSt → Option (Sum Nat Int32 × CSt)} (X : CC p s m args c cX0_arguments 2 (Cond.code yX0_arguments cX0_arguments 2 none) RX0 D kA V A) (hE : CEvx p l e R s m args below meth c cX0_arguments D kA Z A Q y w) (hst : l.stackTraces = false) (hX : CX p l e R s m args below meth c D kA Z A Q y w) (hC : 1 ≤ R.cells ∧ 6 ≤ R.slots) (hF : 9 ≤ R.frames) (hL : 164 ≤ R.locals) (hrec : RecOK_GE l D kA V Z d ro) (hFd : d + 1 + 14 ≤ R.frames) (hLd : 60 * (d + 1) + 500 ≤ R.locals) {u : CSt}  (h : B_X0_arguments_0 N ro u = some (y, w))  (hS : CS D kA Z A s u H locs) (hl : lv_has ls 2 [(0, .ref (Z 208))]) : W p l e R s m args below meth c H locs 0 0 Q (F0 m 0 ls []) := by
  obtain ⟨⟨hx, hb, hml, hown, hts⟩, hK, hEV, hA⟩ := id X
  have hG : ∀ w ∈ GW, w.before args s = true := fun w h => hts w (List.mem_cons_of_mem _ h)
  unfold B_X0_arguments_0 at h
  refine lv_aload_n hx hb dX0_arguments_0 rfl (lv_at hl 0 rfl) ?_
  refine lv_bipush (v := 40) hx hb dX0_arguments_1 (by decide) ?_
  obtain ⟨y_11, u_10, h_u_10, h⟩ := bt_of h
  refine kc_X0_opens_RX0 hst X  hS h_u_10 (Nat.le_trans (Nat.le_of_ble_eq_true rfl) hF) (Nat.le_trans (Nat.le_of_ble_eq_true rfl) hL) hC hl.1 (Nat.le_of_ble_eq_true rfl) dX0_arguments_3 (fun r_u_10 hr_u_10 H locs hS => ?_) (fun x9 hn H locs q9 ce hS a1 a2 a3 => by obtain ⟨e2, rfl⟩ := bt_no h hn; exact hX _ e2 _ _ _ _ _ _ _ hS a1 a2 a3)
  replace h := bt_ok h hr_u_10
  refine lv_aload_n hx hb dX0_arguments_6 rfl (lv_at hl 0 rfl) ?_
  refine cg_X0_9 X hS dX0_arguments_7 ?_
  refine lv_bipush (v := 41) hx hb dX0_arguments_10 (by decide) ?_
  obtain ⟨r_13, u_12, h_u_12, h⟩ := bc_of h
  refine kc_X9_is_RX0 X  hS h_u_12 (Nat.le_trans (Nat.le_of_ble_eq_true rfl) hF) (Nat.le_trans (Nat.le_of_ble_eq_true rfl) hL) hl.1 (Nat.le_of_ble_eq_true rfl) dX0_arguments_12 (fun H locs hS => ?_)
  refine lv_if_ne (tgt := 22) hx hb dX0_arguments_15 (by decide) (fun c_14 => ?_) (fun c_14 => ?_)
  · have h := im (c_14) h
    exact b_X0_arguments_22 X hE hst hX hC hF hL hrec hFd hLd h  hS (lv_sub hl [0] rfl)
  · have h := ip (c_14) h
    refine lv_aload_n hx hb dX0_arguments_18 rfl (lv_at hl 0 rfl) ?_
    obtain ⟨y_16, u_15, h_u_15, h⟩ := bt_of h
    refine kc_X0_expression X hrec  hS h_u_15 hFd hLd hC hl.1 (Nat.le_of_ble_eq_true rfl) dX0_arguments_19 (fun r_u_15 hr_u_15 H locs hS => ?_) (fun x9 hn H locs q9 ce hS a1 a2 a3 => by obtain ⟨e2, rfl⟩ := bt_no h hn; exact hX _ e2 _ _ _ _ _ _ _ hS a1 a2 a3)
    replace h := bt_ok h hr_u_15
    exact b_X0_arguments_22 X hE hst hX hC hF hL hrec hFd hLd h  hS (lv_sub hl [0] rfl)
def F_X0_arguments (N : Nat) (ro : Nat → Nat → Int32 → Int32 → CSt → Option (Sum Nat Int32 × CSt)) (u : CSt) : Option ((Sum Nat Int32) × CSt) := B_X0_arguments_0 N ro u
set_option maxHeartbeats 4000000 in
theorem k_X0_arguments (l : Launch) (hst : l.stackTraces = false) (D : va_G) (kA : Nat → ClassId) (V Z : Nat → Nat) (N : Nat) {d : Nat} (ro : Nat → Nat → Int32 → Int32 → CSt → Option (Sum Nat Int32 × CSt)) (hrec : RecOK_GE l D kA V Z d ro) (u : CSt) (sz : Nat) {y : (Sum Nat Int32)} {w : CSt} (h : F_X0_arguments N ro u = some (y, w)) : vx_Met l yX0_arguments (Cond.code yX0_arguments cX0_arguments 2 none :: GW) { frames := d + 1 + 14, cells := 1, slots := 6, locals := 60 * (d + 1) + 500 } (cPc D kA V Z [.ref (Z 208)] u sz) (cQvx D kA Z u sz y w) (cXc D kA Z u sz y w) 1 6 (va_A (CW kA Z u) sz) := by
  refine vx_ofW (cc := cX0_arguments) (maxL := 2) (ret := none) (by decide) rfl ?_
  intro p e s m args below meth c s₁ Bd hml hxt hv
  obtain ⟨rfl, hsz, hP, hK, hD0, hE⟩ := hv
  have hts := atoms_spec (ws := Cond.code yX0_arguments cX0_arguments 2 none :: GW) Bd.pre
  have hl := lv_entry ([.ref (Z 208)]) (n := 2) (Nat.le_of_ble_eq_true rfl)
  rw [lg_entry_eq]
  generalize (lg_sl ([.ref (Z 208)]) ++ List.replicate (2 - (lg_sl ([.ref (Z 208)])).length) Slot.unset).toArray = ls at hl ⊢
  have hl : lv_has ls 2 [(0, .ref (Z 208))] := hl
  subst hsz
  have X : CC p s m ([.ref (Z 208)]).toArray c cX0_arguments 2 (Cond.code yX0_arguments cX0_arguments 2 none) RX0 D kA V (va_A (CW kA Z u) s.heap.size) := ⟨⟨Bd.exec, Bd.bytes, hml, findClass_of_methodNamed Bd.named, hts⟩, hK, hE, fun q h => Or.inr h⟩
  refine b_X0_arguments_0 X (cend_vx X Bd.returns Bd.notSynchronized) hst (cend_X X hxt Bd.notSynchronized) ⟨Nat.le_refl _, Nat.le_refl _⟩ (Nat.le_trans (Nat.le_of_ble_eq_true rfl) (Nat.le_add_left 14 _)) (Nat.le_trans (Nat.le_of_ble_eq_true rfl) (Nat.le_add_left 500 _)) hrec (Nat.le_refl _) (Nat.le_refl _) h  ⟨hP, hD0.self, va_S.rf⟩ (lv_sub hl [0] rfl)
def B_X0_index_0 (N : Nat) (ro : Nat → Nat → Int32 → Int32 → CSt → Option (Sum Nat Int32 × CSt)) (u : CSt) : Option ((Sum Nat Int32) × CSt) := bc (F_X9_is N 91 u) fun r_2 u_1 => if r_2 = (0 : Int32) then (some (.inr 0, u_1)) else (bt (F_X0_opens N 91 u_1) fun _ u_4 => bt (ro 0 0 0 0 u_4) fun _ u_6 => bt (F_X0_closes N 93 u_6) fun _ u_8 => some (.inr 0, u_8))
set_option maxHeartbeats 4000000 in
theorem b_X0_index_0 {y : (Sum Nat Int32)} {ro : Nat → Nat → Int32 → Int32 → CSt → Option (Sum Nat Int32 × CSt)} (X : CC p s m args c cX0_index 1 (Cond.code yX0_index cX0_index 1 none) RX0 D kA V A) (hE : CEvx p l e R s m args below meth c cX0_index D kA Z A Q y w) (hst : l.stackTraces = false) (hX : CX p l e R s m args below meth c D kA Z A Q y w) (hC : 1 ≤ R.cells ∧ 6 ≤ R.slots) (hF : 9 ≤ R.frames) (hL : 164 ≤ R.locals) (hrec : RecOK_GE l D kA V Z d ro) (hFd : d + 1 + 14 ≤ R.frames) (hLd : 60 * (d + 1) + 500 ≤ R.locals) {u : CSt}  (h : B_X0_index_0 N ro u = some (y, w))  (hS : CS D kA Z A s u H locs) (hl : lv_has ls 1 [(0, .ref (Z 208))]) : W p l e R s m args below meth c H locs 0 0 Q (F0 m 0 ls []) := by
  obtain ⟨⟨hx, hb, hml, hown, hts⟩, hK, hEV, hA⟩ := id X
  have hG : ∀ w ∈ GW, w.before args s = true := fun w h => hts w (List.mem_cons_of_mem _ h)
  unfold B_X0_index_0 at h
  refine lv_aload_n hx hb dX0_index_0 rfl (lv_at hl 0 rfl) ?_
  refine cg_X0_9 X hS dX0_index_1 ?_
  refine lv_bipush (v := 91) hx hb dX0_index_4 (by decide) ?_
  obtain ⟨r_2, u_1, h_u_1, h⟩ := bc_of h
  refine kc_X9_is_RX0 X  hS h_u_1 (Nat.le_trans (Nat.le_of_ble_eq_true rfl) hF) (Nat.le_trans (Nat.le_of_ble_eq_true rfl) hL) hl.1 (Nat.le_of_ble_eq_true rfl) dX0_index_6 (fun H locs hS => ?_)
  refine lv_if_eq (tgt := 28) hx hb dX0_index_9 (by decide) (fun c_3 => ?_) (fun c_3 => ?_)
  · have h := ip (c_3) h
    obtain ⟨e9, rfl⟩ := so9 h
    exact hE _ e9.symm _ _ _ _ hS dX0_index_28
  · have h := im (c_3) h
    refine lv_aload_n hx hb dX0_index_12 rfl (lv_at hl 0 rfl) ?_
    refine lv_bipush (v := 91) hx hb dX0_index_13 (by decide) ?_
    obtain ⟨y_5, u_4, h_u_4, h⟩ := bt_of h
    refine kc_X0_opens_RX0 hst X  hS h_u_4 (Nat.le_trans (Nat.le_of_ble_eq_true rfl) hF) (Nat.le_trans (Nat.le_of_ble_eq_true rfl) hL) hC hl.1 (Nat.le_of_ble_eq_true rfl) dX0_index_15 (fun r_u_4 hr_u_4 H locs hS => ?_) (fun x9 hn H locs q9 ce hS a1 a2 a3 => by obtain ⟨e2, rfl⟩ := bt_no h hn; exact hX _ e2 _ _ _ _ _ _ _ hS a1 a2 a3)
    replace h := bt_ok h hr_u_4
    refine lv_aload_n hx hb dX0_index_18 rfl (lv_at hl 0 rfl) ?_
    obtain ⟨y_7, u_6, h_u_6, h⟩ := bt_of h
    refine kc_X0_expression X hrec  hS h_u_6 hFd hLd hC hl.1 (Nat.le_of_ble_eq_true rfl) dX0_index_19 (fun r_u_6 hr_u_6 H locs hS => ?_) (fun x9 hn H locs q9 ce hS a1 a2 a3 => by obtain ⟨e2, rfl⟩ := bt_no h hn; exact hX _ e2 _ _ _ _ _ _ _ hS a1 a2 a3)
    replace h := bt_ok h hr_u_6
    refine lv_aload_n hx hb dX0_index_22 rfl (lv_at hl 0 rfl) ?_
    refine lv_bipush (v := 93) hx hb dX0_index_23 (by decide) ?_
    obtain ⟨y_9, u_8, h_u_8, h⟩ := bt_of h
    refine kc_X0_closes_RX0 hst X  hS h_u_8 (Nat.le_trans (Nat.le_of_ble_eq_true rfl) hF) (Nat.le_trans (Nat.le_of_ble_eq_true rfl) hL) hC hl.1 (Nat.le_of_ble_eq_true rfl) dX0_index_25 (fun r_u_8 hr_u_8 H locs hS => ?_) (fun x9 hn H locs q9 ce hS a1 a2 a3 => by obtain ⟨e2, rfl⟩ := bt_no h hn; exact hX _ e2 _ _ _ _ _ _ _ hS a1 a2 a3)
    replace h := bt_ok h hr_u_8
    obtain ⟨e9, rfl⟩ := so9 h
    exact hE _ e9.symm _ _ _ _ hS dX0_index_28
def F_X0_index (N : Nat) (ro : Nat → Nat → Int32 → Int32 → CSt → Option (Sum Nat Int32 × CSt)) (u : CSt) : Option ((Sum Nat Int32) × CSt) := B_X0_index_0 N ro u
set_option maxHeartbeats 4000000 in
theorem k_X0_index (l : Launch) (hst : l.stackTraces = false) (D : va_G) (kA : Nat → ClassId) (V Z : Nat → Nat) (N : Nat) {d : Nat} (ro : Nat → Nat → Int32 → Int32 → CSt → Option (Sum Nat Int32 × CSt)) (hrec : RecOK_GE l D kA V Z d ro) (u : CSt) (sz : Nat) {y : (Sum Nat Int32)} {w : CSt} (h : F_X0_index N ro u = some (y, w)) : vx_Met l yX0_index (Cond.code yX0_index cX0_index 1 none :: GW) { frames := d + 1 + 14, cells := 1, slots := 6, locals := 60 * (d + 1) + 500 } (cPc D kA V Z [.ref (Z 208)] u sz) (cQvx D kA Z u sz y w) (cXc D kA Z u sz y w) 1 6 (va_A (CW kA Z u) sz) := by
  refine vx_ofW (cc := cX0_index) (maxL := 1) (ret := none) (by decide) rfl ?_
  intro p e s m args below meth c s₁ Bd hml hxt hv
  obtain ⟨rfl, hsz, hP, hK, hD0, hE⟩ := hv
  have hts := atoms_spec (ws := Cond.code yX0_index cX0_index 1 none :: GW) Bd.pre
  have hl := lv_entry ([.ref (Z 208)]) (n := 1) (Nat.le_of_ble_eq_true rfl)
  rw [lg_entry_eq]
  generalize (lg_sl ([.ref (Z 208)]) ++ List.replicate (1 - (lg_sl ([.ref (Z 208)])).length) Slot.unset).toArray = ls at hl ⊢
  have hl : lv_has ls 1 [(0, .ref (Z 208))] := hl
  subst hsz
  have X : CC p s m ([.ref (Z 208)]).toArray c cX0_index 1 (Cond.code yX0_index cX0_index 1 none) RX0 D kA V (va_A (CW kA Z u) s.heap.size) := ⟨⟨Bd.exec, Bd.bytes, hml, findClass_of_methodNamed Bd.named, hts⟩, hK, hE, fun q h => Or.inr h⟩
  refine b_X0_index_0 X (cend_vx X Bd.returns Bd.notSynchronized) hst (cend_X X hxt Bd.notSynchronized) ⟨Nat.le_refl _, Nat.le_refl _⟩ (Nat.le_trans (Nat.le_of_ble_eq_true rfl) (Nat.le_add_left 14 _)) (Nat.le_trans (Nat.le_of_ble_eq_true rfl) (Nat.le_add_left 500 _)) hrec (Nat.le_refl _) (Nat.le_refl _) h  ⟨hP, hD0.self, va_S.rf⟩ (lv_sub hl [0] rfl)
def FGE_ (N : Nat) : Nat → Nat → Nat → Int32 → Int32 → CSt → Option (Sum Nat Int32 × CSt)
  | 0 => fun _ _ _ _ _ => none
  | d + 1 => fun q z a b u => if q = 0 then F_X0_expression N (FGE_ N d) u else if q = 1 then F_X0_operand N (FGE_ N d) u else if q = 2 then F_X0_bracket N (FGE_ N d) u else if q = 3 then F_X0_namedOperand N (FGE_ N d) u else if q = 4 then F_X0_arguments N (FGE_ N d) u else if q = 5 then F_X0_index N (FGE_ N d) u else none
theorem okGE_ (l : Launch) (hst : l.stackTraces = false) (D : va_G) (kA : Nat → ClassId) (V Z : Nat → Nat) (N : Nat) : ∀ d : Nat, RecOK_GE l D kA V Z d (FGE_ N d) := by
  intro d
  induction d with
  | zero => exact ⟨fun u sz y w h => (nomatch h), fun u sz y w h => (nomatch h), fun u sz y w h => (nomatch h), fun u sz y w h => (nomatch h), fun u sz y w h => (nomatch h), fun u sz y w h => (nomatch h)⟩
  | succ d ih => exact ⟨fun u sz y w h => k_X0_expression l hst D kA V Z N (FGE_ N d) ih u sz h, fun u sz y w h => k_X0_operand l hst D kA V Z N (FGE_ N d) ih u sz h, fun u sz y w h => k_X0_bracket l hst D kA V Z N (FGE_ N d) ih u sz h, fun u sz y w h => k_X0_namedOperand l hst D kA V Z N (FGE_ N d) ih u sz h, fun u sz y w h => k_X0_arguments l hst D kA V Z N (FGE_ N d) ih u sz h, fun u sz y w h => k_X0_index l hst D kA V Z N (FGE_ N d) ih u sz h⟩
def G_X0_expression (N : Nat) (u : CSt) : Option (Sum Nat Int32 × CSt) := FGE_ N 200 0 0 0 0 u
theorem kg_X0_expression_RX0 {cc : ByteArray} {pc nL : Nat} {c0 : Cond} {rest : List Value} {u w1 : CSt} {y1 : Sum Nat Int32} (hst : l.stackTraces = false) (X : CC p s m args c cc nL c0 RX0 D kA V A)  (hS : CS D kA Z A s u H locs) (h : G_X0_expression N u = some (y1, w1)) (hF : 214 + 1 ≤ R.frames) (hL : 8 + (2 + 11) + 12500 ≤ R.locals) (hC : 1 ≤ R.cells ∧ 6 ≤ R.slots) (hl : ls.size = nL) (hc : (rest.map fun v => v.category).sum ≤ 8) (hdg : decode cc pc = .ok (.invokevirtual 91, 3)) (kk : ∀ r, y1 = .inr r → ∀ H locs, CS D kA Z A s w1 H locs → W p l e R s m args below meth c H locs 0 0 Q (F0 m (pc + 3) ls (rest))) (kx : ∀ x, y1 = .inl x → ∀ (H : Heap) (locs : List Loc) (q : Addr) (ce : Cell), CS D kA Z A s w1 H locs → H[q]? = some ce → ce.vm = .none → s.vm.findClass (exN x) = some ce.cls → vx_W p l e R s m args below meth c H locs 1 6 Q (F0 m pc ls rest) q) : W p l e R s m args below meth c H locs 0 0 Q (F0 m pc ls (.ref (Z 208) :: rest)) :=
  ccall_vx (n := 0) (f9 := 200 + 14) (l9 := 60 * 200 + 500) X hS ((okGE_ l hst D kA V Z N 200).1 u H.size _ _  h) (gw_V gw_912 gw_914 gs_2_11 gw_7 gw_915) (by decide +kernel) (va_recv X.2.1 hS.1 (ci := 0) (q0 := 8) rfl (cw_lit rfl)) hF hL hC rfl hl hc rfl hdg kk kx
def G_X0_operand (N : Nat) (u : CSt) : Option (Sum Nat Int32 × CSt) := FGE_ N 200 1 0 0 0 u
theorem kg_X0_operand_RX0 {cc : ByteArray} {pc nL : Nat} {c0 : Cond} {rest : List Value} {u w1 : CSt} {y1 : Sum Nat Int32} (hst : l.stackTraces = false) (X : CC p s m args c cc nL c0 RX0 D kA V A)  (hS : CS D kA Z A s u H locs) (h : G_X0_operand N u = some (y1, w1)) (hF : 214 + 1 ≤ R.frames) (hL : 8 + (1 + 11) + 12500 ≤ R.locals) (hC : 1 ≤ R.cells ∧ 6 ≤ R.slots) (hl : ls.size = nL) (hc : (rest.map fun v => v.category).sum ≤ 8) (hdg : decode cc pc = .ok (.invokevirtual 119, 3)) (kk : ∀ r, y1 = .inr r → ∀ H locs, CS D kA Z A s w1 H locs → W p l e R s m args below meth c H locs 0 0 Q (F0 m (pc + 3) ls (rest))) (kx : ∀ x, y1 = .inl x → ∀ (H : Heap) (locs : List Loc) (q : Addr) (ce : Cell), CS D kA Z A s w1 H locs → H[q]? = some ce → ce.vm = .none → s.vm.findClass (exN x) = some ce.cls → vx_W p l e R s m args below meth c H locs 1 6 Q (F0 m pc ls rest) q) : W p l e R s m args below meth c H locs 0 0 Q (F0 m pc ls (.ref (Z 208) :: rest)) :=
  ccall_vx (n := 0) (f9 := 200 + 14) (l9 := 60 * 200 + 500) X hS ((okGE_ l hst D kA V Z N 200).2.1 u H.size _ _  h) (gw_V gw_916 gw_918 gs_2_12 gw_7 gw_919) (by decide +kernel) (va_recv X.2.1 hS.1 (ci := 0) (q0 := 8) rfl (cw_lit rfl)) hF hL hC rfl hl hc rfl hdg kk kx
def G_X0_bracket (N : Nat) (u : CSt) : Option (Sum Nat Int32 × CSt) := FGE_ N 200 2 0 0 0 u
theorem kg_X0_bracket_RX0 {cc : ByteArray} {pc nL : Nat} {c0 : Cond} {rest : List Value} {u w1 : CSt} {y1 : Sum Nat Int32} (hst : l.stackTraces = false) (X : CC p s m args c cc nL c0 RX0 D kA V A)  (hS : CS D kA Z A s u H locs) (h : G_X0_bracket N u = some (y1, w1)) (hF : 214 + 1 ≤ R.frames) (hL : 8 + (1 + 11) + 12500 ≤ R.locals) (hC : 1 ≤ R.cells ∧ 6 ≤ R.slots) (hl : ls.size = nL) (hc : (rest.map fun v => v.category).sum ≤ 8) (hdg : decode cc pc = .ok (.invokevirtual 125, 3)) (kk : ∀ r, y1 = .inr r → ∀ H locs, CS D kA Z A s w1 H locs → W p l e R s m args below meth c H locs 0 0 Q (F0 m (pc + 3) ls (rest))) (kx : ∀ x, y1 = .inl x → ∀ (H : Heap) (locs : List Loc) (q : Addr) (ce : Cell), CS D kA Z A s w1 H locs → H[q]? = some ce → ce.vm = .none → s.vm.findClass (exN x) = some ce.cls → vx_W p l e R s m args below meth c H locs 1 6 Q (F0 m pc ls rest) q) : W p l e R s m args below meth c H locs 0 0 Q (F0 m pc ls (.ref (Z 208) :: rest)) :=
  ccall_vx (n := 0) (f9 := 200 + 14) (l9 := 60 * 200 + 500) X hS ((okGE_ l hst D kA V Z N 200).2.2.1 u H.size _ _  h) (gw_V gw_920 gw_922 gs_2_13 gw_7 gw_923) (by decide +kernel) (va_recv X.2.1 hS.1 (ci := 0) (q0 := 8) rfl (cw_lit rfl)) hF hL hC rfl hl hc rfl hdg kk kx
def G_X0_namedOperand (N : Nat) (u : CSt) : Option (Sum Nat Int32 × CSt) := FGE_ N 200 3 0 0 0 u
theorem kg_X0_namedOperand_RX0 {cc : ByteArray} {pc nL : Nat} {c0 : Cond} {rest : List Value} {u w1 : CSt} {y1 : Sum Nat Int32} (hst : l.stackTraces = false) (X : CC p s m args c cc nL c0 RX0 D kA V A)  (hS : CS D kA Z A s u H locs) (h : G_X0_namedOperand N u = some (y1, w1)) (hF : 214 + 1 ≤ R.frames) (hL : 8 + (1 + 11) + 12500 ≤ R.locals) (hC : 1 ≤ R.cells ∧ 6 ≤ R.slots) (hl : ls.size = nL) (hc : (rest.map fun v => v.category).sum ≤ 8) (hdg : decode cc pc = .ok (.invokevirtual 128, 3)) (kk : ∀ r, y1 = .inr r → ∀ H locs, CS D kA Z A s w1 H locs → W p l e R s m args below meth c H locs 0 0 Q (F0 m (pc + 3) ls (rest))) (kx : ∀ x, y1 = .inl x → ∀ (H : Heap) (locs : List Loc) (q : Addr) (ce : Cell), CS D kA Z A s w1 H locs → H[q]? = some ce → ce.vm = .none → s.vm.findClass (exN x) = some ce.cls → vx_W p l e R s m args below meth c H locs 1 6 Q (F0 m pc ls rest) q) : W p l e R s m args below meth c H locs 0 0 Q (F0 m pc ls (.ref (Z 208) :: rest)) :=
  ccall_vx (n := 0) (f9 := 200 + 14) (l9 := 60 * 200 + 500) X hS ((okGE_ l hst D kA V Z N 200).2.2.2.1 u H.size _ _  h) (gw_V gw_924 gw_926 gs_2_14 gw_7 gw_927) (by decide +kernel) (va_recv X.2.1 hS.1 (ci := 0) (q0 := 8) rfl (cw_lit rfl)) hF hL hC rfl hl hc rfl hdg kk kx
def G_X0_arguments (N : Nat) (u : CSt) : Option (Sum Nat Int32 × CSt) := FGE_ N 200 4 0 0 0 u
theorem kg_X0_arguments_RX0 {cc : ByteArray} {pc nL : Nat} {c0 : Cond} {rest : List Value} {u w1 : CSt} {y1 : Sum Nat Int32} (hst : l.stackTraces = false) (X : CC p s m args c cc nL c0 RX0 D kA V A)  (hS : CS D kA Z A s u H locs) (h : G_X0_arguments N u = some (y1, w1)) (hF : 214 + 1 ≤ R.frames) (hL : 8 + (2 + 11) + 12500 ≤ R.locals) (hC : 1 ≤ R.cells ∧ 6 ≤ R.slots) (hl : ls.size = nL) (hc : (rest.map fun v => v.category).sum ≤ 8) (hdg : decode cc pc = .ok (.invokevirtual 103, 3)) (kk : ∀ r, y1 = .inr r → ∀ H locs, CS D kA Z A s w1 H locs → W p l e R s m args below meth c H locs 0 0 Q (F0 m (pc + 3) ls (rest))) (kx : ∀ x, y1 = .inl x → ∀ (H : Heap) (locs : List Loc) (q : Addr) (ce : Cell), CS D kA Z A s w1 H locs → H[q]? = some ce → ce.vm = .none → s.vm.findClass (exN x) = some ce.cls → vx_W p l e R s m args below meth c H locs 1 6 Q (F0 m pc ls rest) q) : W p l e R s m args below meth c H locs 0 0 Q (F0 m pc ls (.ref (Z 208) :: rest)) :=
  ccall_vx (n := 0) (f9 := 200 + 14) (l9 := 60 * 200 + 500) X hS ((okGE_ l hst D kA V Z N 200).2.2.2.2.1 u H.size _ _  h) (gw_V gw_908 gw_910 gs_2_10 gw_7 gw_911) (by decide +kernel) (va_recv X.2.1 hS.1 (ci := 0) (q0 := 8) rfl (cw_lit rfl)) hF hL hC rfl hl hc rfl hdg kk kx
def G_X0_index (N : Nat) (u : CSt) : Option (Sum Nat Int32 × CSt) := FGE_ N 200 5 0 0 0 u
theorem kg_X0_index_RX0 {cc : ByteArray} {pc nL : Nat} {c0 : Cond} {rest : List Value} {u w1 : CSt} {y1 : Sum Nat Int32} (hst : l.stackTraces = false) (X : CC p s m args c cc nL c0 RX0 D kA V A)  (hS : CS D kA Z A s u H locs) (h : G_X0_index N u = some (y1, w1)) (hF : 214 + 1 ≤ R.frames) (hL : 8 + (1 + 11) + 12500 ≤ R.locals) (hC : 1 ≤ R.cells ∧ 6 ≤ R.slots) (hl : ls.size = nL) (hc : (rest.map fun v => v.category).sum ≤ 8) (hdg : decode cc pc = .ok (.invokevirtual 106, 3)) (kk : ∀ r, y1 = .inr r → ∀ H locs, CS D kA Z A s w1 H locs → W p l e R s m args below meth c H locs 0 0 Q (F0 m (pc + 3) ls (rest))) (kx : ∀ x, y1 = .inl x → ∀ (H : Heap) (locs : List Loc) (q : Addr) (ce : Cell), CS D kA Z A s w1 H locs → H[q]? = some ce → ce.vm = .none → s.vm.findClass (exN x) = some ce.cls → vx_W p l e R s m args below meth c H locs 1 6 Q (F0 m pc ls rest) q) : W p l e R s m args below meth c H locs 0 0 Q (F0 m pc ls (.ref (Z 208) :: rest)) :=
  ccall_vx (n := 0) (f9 := 200 + 14) (l9 := 60 * 200 + 500) X hS ((okGE_ l hst D kA V Z N 200).2.2.2.2.2 u H.size _ _  h) (gw_V gw_932 gw_934 gs_2_15 gw_7 gw_935) (by decide +kernel) (va_recv X.2.1 hS.1 (ci := 0) (q0 := 8) rfl (cw_lit rfl)) hF hL hC rfl hl hc rfl hdg kk kx
end C37bgexpr
