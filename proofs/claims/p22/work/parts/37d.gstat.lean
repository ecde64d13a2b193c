abbrev cX0_body : ByteArray := prog_2_method_11_code
def yX0_body : MethodName := ⟨RX0, "body", "()V"⟩
def yX0_statements : MethodName := ⟨RX0, "statements", "()V"⟩
def yX0_cases : MethodName := ⟨RX0, "cases", "()V"⟩
abbrev cX0_cases : ByteArray := prog_2_method_17_code
def yX0_choice : MethodName := ⟨RX0, "choice", "()V"⟩
abbrev cX0_choice : ByteArray := prog_2_method_15_code
def yX0_counted : MethodName := ⟨RX0, "counted", "()V"⟩
abbrev cX0_counted : ByteArray := prog_2_method_16_code
def yX0_statement : MethodName := ⟨RX0, "statement", "()V"⟩
abbrev cX0_statement : ByteArray := prog_2_method_13_code
abbrev cX0_statements : ByteArray := prog_2_method_12_code
theorem dX0_body_0 : decode cX0_body 0 = .ok (.aload_n 0, 1) := by decide +kernel
theorem dX0_body_1 : decode cX0_body 1 = .ok (.bipush 123, 2) := by decide +kernel
theorem dX0_body_3 : decode cX0_body 3 = .ok (.invokevirtual 67, 3) := by decide +kernel
theorem dX0_body_6 : decode cX0_body 6 = .ok (.aload_n 0, 1) := by decide +kernel
theorem dX0_body_7 : decode cX0_body 7 = .ok (.invokevirtual 76, 3) := by decide +kernel
theorem dX0_body_10 : decode cX0_body 10 = .ok (.return_, 1) := by decide +kernel
theorem dX0_statements_0 : decode cX0_statements 0 = .ok (.iconst 0, 1) := by decide +kernel
theorem dX0_statements_1 : decode cX0_statements 1 = .ok (.istore_n 1, 1) := by decide +kernel
theorem dX0_statements_2 : decode cX0_statements 2 = .ok (.iload_n 1, 1) := by decide +kernel
theorem dX0_statements_3 : decode cX0_statements 3 = .ok (.sipush 1500, 3) := by decide +kernel
theorem dX0_statements_6 : decode cX0_statements 6 = .ok (.if_icmp .ge 25, 3) := by decide +kernel
theorem dX0_statements_9 : decode cX0_statements 9 = .ok (.aload_n 0, 1) := by decide +kernel
theorem dX0_statements_10 : decode cX0_statements 10 = .ok (.getfield 9, 3) := by decide +kernel
theorem dX0_statements_13 : decode cX0_statements 13 = .ok (.bipush 125, 2) := by decide +kernel
theorem dX0_statements_15 : decode cX0_statements 15 = .ok (.invokevirtual 24, 3) := by decide +kernel
theorem dX0_statements_18 : decode cX0_statements 18 = .ok (.ifCond .ne 13, 3) := by decide +kernel
theorem dX0_statements_21 : decode cX0_statements 21 = .ok (.aload_n 0, 1) := by decide +kernel
theorem dX0_statements_22 : decode cX0_statements 22 = .ok (.invokevirtual 82, 3) := by decide +kernel
theorem dX0_statements_25 : decode cX0_statements 25 = .ok (.iinc 1 1, 3) := by decide +kernel
theorem dX0_statements_28 : decode cX0_statements 28 = .ok (.goto (-26), 3) := by decide +kernel
theorem dX0_statements_31 : decode cX0_statements 31 = .ok (.aload_n 0, 1) := by decide +kernel
theorem dX0_statements_32 : decode cX0_statements 32 = .ok (.bipush 125, 2) := by decide +kernel
theorem dX0_statements_34 : decode cX0_statements 34 = .ok (.invokevirtual 70, 3) := by decide +kernel
theorem dX0_statements_37 : decode cX0_statements 37 = .ok (.return_, 1) := by decide +kernel
theorem dX0_statement_0 : decode cX0_statement 0 = .ok (.aload_n 0, 1) := by decide +kernel
theorem dX0_statement_1 : decode cX0_statement 1 = .ok (.getfield 9, 3) := by decide +kernel
theorem dX0_statement_4 : decode cX0_statement 4 = .ok (.invokevirtual 28, 3) := by decide +kernel
theorem dX0_statement_7 : decode cX0_statement 7 = .ok (.lookupswitch 176 #[(17, 88), (20, 95), (21, 113), (22, 120), (25, 127), (26, 127), (27, 146), (28, 153), (128, 81)], 81) := by decide +kernel
theorem dX0_statement_88 : decode cX0_statement 88 = .ok (.aload_n 0, 1) := by decide +kernel
theorem dX0_statement_89 : decode cX0_statement 89 = .ok (.invokevirtual 85, 3) := by decide +kernel
theorem dX0_statement_92 : decode cX0_statement 92 = .ok (.goto 98, 3) := by decide +kernel
theorem dX0_statement_95 : decode cX0_statement 95 = .ok (.aload_n 0, 1) := by decide +kernel
theorem dX0_statement_96 : decode cX0_statement 96 = .ok (.invokevirtual 88, 3) := by decide +kernel
theorem dX0_statement_99 : decode cX0_statement 99 = .ok (.goto 91, 3) := by decide +kernel
theorem dX0_statement_102 : decode cX0_statement 102 = .ok (.aload_n 0, 1) := by decide +kernel
theorem dX0_statement_103 : decode cX0_statement 103 = .ok (.getfield 9, 3) := by decide +kernel
theorem dX0_statement_106 : decode cX0_statement 106 = .ok (.invokevirtual 38, 3) := by decide +kernel
theorem dX0_statement_109 : decode cX0_statement 109 = .ok (.aload_n 0, 1) := by decide +kernel
theorem dX0_statement_110 : decode cX0_statement 110 = .ok (.invokevirtual 91, 3) := by decide +kernel
theorem dX0_statement_113 : decode cX0_statement 113 = .ok (.aload_n 0, 1) := by decide +kernel
theorem dX0_statement_114 : decode cX0_statement 114 = .ok (.invokevirtual 79, 3) := by decide +kernel
theorem dX0_statement_117 : decode cX0_statement 117 = .ok (.goto 73, 3) := by decide +kernel
theorem dX0_statement_120 : decode cX0_statement 120 = .ok (.aload_n 0, 1) := by decide +kernel
theorem dX0_statement_121 : decode cX0_statement 121 = .ok (.invokevirtual 94, 3) := by decide +kernel
theorem dX0_statement_124 : decode cX0_statement 124 = .ok (.goto 66, 3) := by decide +kernel
theorem dX0_statement_127 : decode cX0_statement 127 = .ok (.aload_n 0, 1) := by decide +kernel
theorem dX0_statement_128 : decode cX0_statement 128 = .ok (.invokevirtual 97, 3) := by decide +kernel
theorem dX0_statement_131 : decode cX0_statement 131 = .ok (.goto 59, 3) := by decide +kernel
theorem dX0_statement_134 : decode cX0_statement 134 = .ok (.aload_n 0, 1) := by decide +kernel
theorem dX0_statement_135 : decode cX0_statement 135 = .ok (.getfield 9, 3) := by decide +kernel
theorem dX0_statement_138 : decode cX0_statement 138 = .ok (.invokevirtual 38, 3) := by decide +kernel
theorem dX0_statement_141 : decode cX0_statement 141 = .ok (.aload_n 0, 1) := by decide +kernel
theorem dX0_statement_142 : decode cX0_statement 142 = .ok (.getfield 9, 3) := by decide +kernel
theorem dX0_statement_145 : decode cX0_statement 145 = .ok (.bipush 59, 2) := by decide +kernel
theorem dX0_statement_147 : decode cX0_statement 147 = .ok (.invokevirtual 63, 3) := by decide +kernel
theorem dX0_statement_150 : decode cX0_statement 150 = .ok (.goto 40, 3) := by decide +kernel
theorem dX0_statement_153 : decode cX0_statement 153 = .ok (.aload_n 0, 1) := by decide +kernel
theorem dX0_statement_154 : decode cX0_statement 154 = .ok (.invokevirtual 100, 3) := by decide +kernel
theorem dX0_statement_157 : decode cX0_statement 157 = .ok (.goto 33, 3) := by decide +kernel
theorem dX0_statement_160 : decode cX0_statement 160 = .ok (.aload_n 0, 1) := by decide +kernel
theorem dX0_statement_161 : decode cX0_statement 161 = .ok (.getfield 9, 3) := by decide +kernel
theorem dX0_statement_164 : decode cX0_statement 164 = .ok (.invokevirtual 38, 3) := by decide +kernel
theorem dX0_statement_167 : decode cX0_statement 167 = .ok (.aload_n 0, 1) := by decide +kernel
theorem dX0_statement_168 : decode cX0_statement 168 = .ok (.invokevirtual 91, 3) := by decide +kernel
theorem dX0_statement_171 : decode cX0_statement 171 = .ok (.aload_n 0, 1) := by decide +kernel
theorem dX0_statement_172 : decode cX0_statement 172 = .ok (.getfield 9, 3) := by decide +kernel
theorem dX0_statement_175 : decode cX0_statement 175 = .ok (.bipush 59, 2) := by decide +kernel
theorem dX0_statement_177 : decode cX0_statement 177 = .ok (.invokevirtual 63, 3) := by decide +kernel
theorem dX0_statement_180 : decode cX0_statement 180 = .ok (.goto 10, 3) := by decide +kernel
theorem dX0_statement_183 : decode cX0_statement 183 = .ok (.aload_n 0, 1) := by decide +kernel
theorem dX0_statement_184 : decode cX0_statement 184 = .ok (.getfield 9, 3) := by decide +kernel
theorem dX0_statement_187 : decode cX0_statement 187 = .ok (.invokevirtual 53, 3) := by decide +kernel
theorem dX0_statement_190 : decode cX0_statement 190 = .ok (.return_, 1) := by decide +kernel
theorem dX0_choice_0 : decode cX0_choice 0 = .ok (.aload_n 0, 1) := by decide +kernel
theorem dX0_choice_1 : decode cX0_choice 1 = .ok (.getfield 9, 3) := by decide +kernel
theorem dX0_choice_4 : decode cX0_choice 4 = .ok (.invokevirtual 38, 3) := by decide +kernel
theorem dX0_choice_7 : decode cX0_choice 7 = .ok (.aload_n 0, 1) := by decide +kernel
theorem dX0_choice_8 : decode cX0_choice 8 = .ok (.invokevirtual 91, 3) := by decide +kernel
theorem dX0_choice_11 : decode cX0_choice 11 = .ok (.aload_n 0, 1) := by decide +kernel
theorem dX0_choice_12 : decode cX0_choice 12 = .ok (.invokevirtual 79, 3) := by decide +kernel
theorem dX0_choice_15 : decode cX0_choice 15 = .ok (.iconst 0, 1) := by decide +kernel
theorem dX0_choice_16 : decode cX0_choice 16 = .ok (.istore_n 1, 1) := by decide +kernel
theorem dX0_choice_17 : decode cX0_choice 17 = .ok (.iload_n 1, 1) := by decide +kernel
theorem dX0_choice_18 : decode cX0_choice 18 = .ok (.sipush 1500, 3) := by decide +kernel
theorem dX0_choice_21 : decode cX0_choice 21 = .ok (.if_icmp .ge 36, 3) := by decide +kernel
theorem dX0_choice_24 : decode cX0_choice 24 = .ok (.aload_n 0, 1) := by decide +kernel
theorem dX0_choice_25 : decode cX0_choice 25 = .ok (.getfield 9, 3) := by decide +kernel
theorem dX0_choice_28 : decode cX0_choice 28 = .ok (.bipush 18, 2) := by decide +kernel
theorem dX0_choice_30 : decode cX0_choice 30 = .ok (.invokevirtual 24, 3) := by decide +kernel
theorem dX0_choice_33 : decode cX0_choice 33 = .ok (.ifCond .eq 24, 3) := by decide +kernel
theorem dX0_choice_36 : decode cX0_choice 36 = .ok (.aload_n 0, 1) := by decide +kernel
theorem dX0_choice_37 : decode cX0_choice 37 = .ok (.getfield 9, 3) := by decide +kernel
theorem dX0_choice_40 : decode cX0_choice 40 = .ok (.invokevirtual 38, 3) := by decide +kernel
theorem dX0_choice_43 : decode cX0_choice 43 = .ok (.aload_n 0, 1) := by decide +kernel
theorem dX0_choice_44 : decode cX0_choice 44 = .ok (.invokevirtual 91, 3) := by decide +kernel
theorem dX0_choice_47 : decode cX0_choice 47 = .ok (.aload_n 0, 1) := by decide +kernel
theorem dX0_choice_48 : decode cX0_choice 48 = .ok (.invokevirtual 79, 3) := by decide +kernel
theorem dX0_choice_51 : decode cX0_choice 51 = .ok (.iinc 1 1, 3) := by decide +kernel
theorem dX0_choice_54 : decode cX0_choice 54 = .ok (.goto (-37), 3) := by decide +kernel
theorem dX0_choice_57 : decode cX0_choice 57 = .ok (.aload_n 0, 1) := by decide +kernel
theorem dX0_choice_58 : decode cX0_choice 58 = .ok (.getfield 9, 3) := by decide +kernel
theorem dX0_choice_61 : decode cX0_choice 61 = .ok (.bipush 19, 2) := by decide +kernel
theorem dX0_choice_63 : decode cX0_choice 63 = .ok (.invokevirtual 24, 3) := by decide +kernel
theorem dX0_choice_66 : decode cX0_choice 66 = .ok (.ifCond .eq 14, 3) := by decide +kernel
theorem dX0_choice_69 : decode cX0_choice 69 = .ok (.aload_n 0, 1) := by decide +kernel
theorem dX0_choice_70 : decode cX0_choice 70 = .ok (.getfield 9, 3) := by decide +kernel
theorem dX0_choice_73 : decode cX0_choice 73 = .ok (.invokevirtual 38, 3) := by decide +kernel
theorem dX0_choice_76 : decode cX0_choice 76 = .ok (.aload_n 0, 1) := by decide +kernel
theorem dX0_choice_77 : decode cX0_choice 77 = .ok (.invokevirtual 79, 3) := by decide +kernel
theorem dX0_choice_80 : decode cX0_choice 80 = .ok (.return_, 1) := by decide +kernel
theorem dX0_counted_0 : decode cX0_counted 0 = .ok (.aload_n 0, 1) := by decide +kernel
theorem dX0_counted_1 : decode cX0_counted 1 = .ok (.getfield 9, 3) := by decide +kernel
theorem dX0_counted_4 : decode cX0_counted 4 = .ok (.invokevirtual 38, 3) := by decide +kernel
theorem dX0_counted_7 : decode cX0_counted 7 = .ok (.aload_n 0, 1) := by decide +kernel
theorem dX0_counted_8 : decode cX0_counted 8 = .ok (.getfield 9, 3) := by decide +kernel
theorem dX0_counted_11 : decode cX0_counted 11 = .ok (.sipush 128, 3) := by decide +kernel
theorem dX0_counted_14 : decode cX0_counted 14 = .ok (.invokevirtual 63, 3) := by decide +kernel
theorem dX0_counted_17 : decode cX0_counted 17 = .ok (.aload_n 0, 1) := by decide +kernel
theorem dX0_counted_18 : decode cX0_counted 18 = .ok (.getfield 9, 3) := by decide +kernel
theorem dX0_counted_21 : decode cX0_counted 21 = .ok (.bipush 61, 2) := by decide +kernel
theorem dX0_counted_23 : decode cX0_counted 23 = .ok (.invokevirtual 63, 3) := by decide +kernel
theorem dX0_counted_26 : decode cX0_counted 26 = .ok (.aload_n 0, 1) := by decide +kernel
theorem dX0_counted_27 : decode cX0_counted 27 = .ok (.invokevirtual 91, 3) := by decide +kernel
theorem dX0_counted_30 : decode cX0_counted 30 = .ok (.aload_n 0, 1) := by decide +kernel
theorem dX0_counted_31 : decode cX0_counted 31 = .ok (.getfield 9, 3) := by decide +kernel
theorem dX0_counted_34 : decode cX0_counted 34 = .ok (.sipush 11822, 3) := by decide +kernel
theorem dX0_counted_37 : decode cX0_counted 37 = .ok (.invokevirtual 63, 3) := by decide +kernel
theorem dX0_counted_40 : decode cX0_counted 40 = .ok (.aload_n 0, 1) := by decide +kernel
theorem dX0_counted_41 : decode cX0_counted 41 = .ok (.invokevirtual 91, 3) := by decide +kernel
theorem dX0_counted_44 : decode cX0_counted 44 = .ok (.aload_n 0, 1) := by decide +kernel
theorem dX0_counted_45 : decode cX0_counted 45 = .ok (.invokevirtual 79, 3) := by decide +kernel
theorem dX0_counted_48 : decode cX0_counted 48 = .ok (.return_, 1) := by decide +kernel
theorem dX0_cases_0 : decode cX0_cases 0 = .ok (.aload_n 0, 1) := by decide +kernel
theorem dX0_cases_1 : decode cX0_cases 1 = .ok (.getfield 9, 3) := by decide +kernel
theorem dX0_cases_4 : decode cX0_cases 4 = .ok (.invokevirtual 38, 3) := by decide +kernel
theorem dX0_cases_7 : decode cX0_cases 7 = .ok (.aload_n 0, 1) := by decide +kernel
theorem dX0_cases_8 : decode cX0_cases 8 = .ok (.invokevirtual 91, 3) := by decide +kernel
theorem dX0_cases_11 : decode cX0_cases 11 = .ok (.aload_n 0, 1) := by decide +kernel
theorem dX0_cases_12 : decode cX0_cases 12 = .ok (.bipush 123, 2) := by decide +kernel
theorem dX0_cases_14 : decode cX0_cases 14 = .ok (.invokevirtual 67, 3) := by decide +kernel
theorem dX0_cases_17 : decode cX0_cases 17 = .ok (.iconst 0, 1) := by decide +kernel
theorem dX0_cases_18 : decode cX0_cases 18 = .ok (.istore_n 1, 1) := by decide +kernel
theorem dX0_cases_19 : decode cX0_cases 19 = .ok (.iload_n 1, 1) := by decide +kernel
theorem dX0_cases_20 : decode cX0_cases 20 = .ok (.sipush 1500, 3) := by decide +kernel
theorem dX0_cases_23 : decode cX0_cases 23 = .ok (.if_icmp .ge 74, 3) := by decide +kernel
theorem dX0_cases_26 : decode cX0_cases 26 = .ok (.aload_n 0, 1) := by decide +kernel
theorem dX0_cases_27 : decode cX0_cases 27 = .ok (.getfield 9, 3) := by decide +kernel
theorem dX0_cases_30 : decode cX0_cases 30 = .ok (.bipush 23, 2) := by decide +kernel
theorem dX0_cases_32 : decode cX0_cases 32 = .ok (.invokevirtual 24, 3) := by decide +kernel
theorem dX0_cases_35 : decode cX0_cases 35 = .ok (.ifCond .eq 62, 3) := by decide +kernel
theorem dX0_cases_38 : decode cX0_cases 38 = .ok (.aload_n 0, 1) := by decide +kernel
theorem dX0_cases_39 : decode cX0_cases 39 = .ok (.getfield 9, 3) := by decide +kernel
theorem dX0_cases_42 : decode cX0_cases 42 = .ok (.invokevirtual 38, 3) := by decide +kernel
theorem dX0_cases_45 : decode cX0_cases 45 = .ok (.aload_n 0, 1) := by decide +kernel
theorem dX0_cases_46 : decode cX0_cases 46 = .ok (.invokevirtual 116, 3) := by decide +kernel
theorem dX0_cases_49 : decode cX0_cases 49 = .ok (.iconst 0, 1) := by decide +kernel
theorem dX0_cases_50 : decode cX0_cases 50 = .ok (.istore_n 2, 1) := by decide +kernel
theorem dX0_cases_51 : decode cX0_cases 51 = .ok (.iload_n 2, 1) := by decide +kernel
theorem dX0_cases_52 : decode cX0_cases 52 = .ok (.sipush 1500, 3) := by decide +kernel
theorem dX0_cases_55 : decode cX0_cases 55 = .ok (.if_icmp .ge 32, 3) := by decide +kernel
theorem dX0_cases_58 : decode cX0_cases 58 = .ok (.aload_n 0, 1) := by decide +kernel
theorem dX0_cases_59 : decode cX0_cases 59 = .ok (.getfield 9, 3) := by decide +kernel
theorem dX0_cases_62 : decode cX0_cases 62 = .ok (.bipush 44, 2) := by decide +kernel
theorem dX0_cases_64 : decode cX0_cases 64 = .ok (.invokevirtual 24, 3) := by decide +kernel
theorem dX0_cases_67 : decode cX0_cases 67 = .ok (.ifCond .eq 20, 3) := by decide +kernel
theorem dX0_cases_70 : decode cX0_cases 70 = .ok (.aload_n 0, 1) := by decide +kernel
theorem dX0_cases_71 : decode cX0_cases 71 = .ok (.getfield 9, 3) := by decide +kernel
theorem dX0_cases_74 : decode cX0_cases 74 = .ok (.invokevirtual 38, 3) := by decide +kernel
theorem dX0_cases_77 : decode cX0_cases 77 = .ok (.aload_n 0, 1) := by decide +kernel
theorem dX0_cases_78 : decode cX0_cases 78 = .ok (.invokevirtual 116, 3) := by decide +kernel
theorem dX0_cases_81 : decode cX0_cases 81 = .ok (.iinc 2 1, 3) := by decide +kernel
theorem dX0_cases_84 : decode cX0_cases 84 = .ok (.goto (-33), 3) := by decide +kernel
theorem dX0_cases_87 : decode cX0_cases 87 = .ok (.aload_n 0, 1) := by decide +kernel
theorem dX0_cases_88 : decode cX0_cases 88 = .ok (.invokevirtual 79, 3) := by decide +kernel
theorem dX0_cases_91 : decode cX0_cases 91 = .ok (.iinc 1 1, 3) := by decide +kernel
theorem dX0_cases_94 : decode cX0_cases 94 = .ok (.goto (-75), 3) := by decide +kernel
theorem dX0_cases_97 : decode cX0_cases 97 = .ok (.aload_n 0, 1) := by decide +kernel
theorem dX0_cases_98 : decode cX0_cases 98 = .ok (.getfield 9, 3) := by decide +kernel
theorem dX0_cases_101 : decode cX0_cases 101 = .ok (.bipush 24, 2) := by decide +kernel
theorem dX0_cases_103 : decode cX0_cases 103 = .ok (.invokevirtual 24, 3) := by decide +kernel
theorem dX0_cases_106 : decode cX0_cases 106 = .ok (.ifCond .eq 14, 3) := by decide +kernel
theorem dX0_cases_109 : decode cX0_cases 109 = .ok (.aload_n 0, 1) := by decide +kernel
theorem dX0_cases_110 : decode cX0_cases 110 = .ok (.getfield 9, 3) := by decide +kernel
theorem dX0_cases_113 : decode cX0_cases 113 = .ok (.invokevirtual 38, 3) := by decide +kernel
theorem dX0_cases_116 : decode cX0_cases 116 = .ok (.aload_n 0, 1) := by decide +kernel
theorem dX0_cases_117 : decode cX0_cases 117 = .ok (.invokevirtual 79, 3) := by decide +kernel
theorem dX0_cases_120 : decode cX0_cases 120 = .ok (.aload_n 0, 1) := by decide +kernel
theorem dX0_cases_121 : decode cX0_cases 121 = .ok (.bipush 125, 2) := by decide +kernel
theorem dX0_cases_123 : decode cX0_cases 123 = .ok (.invokevirtual 70, 3) := by decide +kernel
theorem dX0_cases_126 : decode cX0_cases 126 = .ok (.return_, 1) := by decide +kernel
theorem gs_2_7 : Cond.selects "SoftController$Grammar" ⟨"SoftController$Grammar", "statements", "()V"⟩ ⟨"SoftController$Grammar", "statements", "()V"⟩ ∈ GW := gw_s (List.mem_map.mpr ⟨_, pin_2 _ (List.mem_of_getElem? (i := 7) rfl), rfl⟩) rfl
theorem gs_2_8 : Cond.selects "SoftController$Grammar" ⟨"SoftController$Grammar", "statement", "()V"⟩ ⟨"SoftController$Grammar", "statement", "()V"⟩ ∈ GW := gw_s (List.mem_map.mpr ⟨_, pin_2 _ (List.mem_of_getElem? (i := 8) rfl), rfl⟩) rfl
theorem gs_3_1 : Cond.selects "SoftController$Grammar" ⟨"SoftController$Grammar", "choice", "()V"⟩ ⟨"SoftController$Grammar", "choice", "()V"⟩ ∈ GW := gw_s (List.mem_map.mpr ⟨_, pin_3 _ (List.mem_of_getElem? (i := 1) rfl), rfl⟩) rfl
theorem gs_3_2 : Cond.selects "SoftController$Grammar" ⟨"SoftController$Grammar", "body", "()V"⟩ ⟨"SoftController$Grammar", "body", "()V"⟩ ∈ GW := gw_s (List.mem_map.mpr ⟨_, pin_3 _ (List.mem_of_getElem? (i := 2) rfl), rfl⟩) rfl
theorem gs_3_3 : Cond.selects "SoftController$Grammar" ⟨"SoftController$Grammar", "counted", "()V"⟩ ⟨"SoftController$Grammar", "counted", "()V"⟩ ∈ GW := gw_s (List.mem_map.mpr ⟨_, pin_3 _ (List.mem_of_getElem? (i := 3) rfl), rfl⟩) rfl
theorem gs_3_4 : Cond.selects "SoftController$Grammar" ⟨"SoftController$Grammar", "cases", "()V"⟩ ⟨"SoftController$Grammar", "cases", "()V"⟩ ∈ GW := gw_s (List.mem_map.mpr ⟨_, pin_3 _ (List.mem_of_getElem? (i := 4) rfl), rfl⟩) rfl
theorem gw_896 : (Jvm.Cond.methodLink "SoftController$Grammar" (76 : Nat) ({ cls := "SoftController$Grammar", name := "statements", desc := "()V" } : Jvm.MethodName)) ∈ GW := gw_t (tin_4 _ (List.mem_of_getElem? (i := 176) rfl)) rfl
theorem gw_898 : (Jvm.Cond.instanceMethod ({ cls := "SoftController$Grammar", name := "statements", desc := "()V" } : Jvm.MethodName)) ∈ GW := gw_t (tin_4 _ (List.mem_of_getElem? (i := 178) rfl)) rfl
theorem gw_899 : (Jvm.Cond.code ({ cls := "SoftController$Grammar", name := "statements", desc := "()V" } : Jvm.MethodName) prog_2_method_12_code (2 : Nat) (Option.none : Option Jvm.ClassFile.FieldType)) ∈ GW := gw_t (tin_4 _ (List.mem_of_getElem? (i := 179) rfl)) rfl
theorem gw_900 : (Jvm.Cond.methodLink "SoftController$Grammar" (82 : Nat) ({ cls := "SoftController$Grammar", name := "statement", desc := "()V" } : Jvm.MethodName)) ∈ GW := gw_t (tin_4 _ (List.mem_of_getElem? (i := 180) rfl)) rfl
theorem gw_902 : (Jvm.Cond.instanceMethod ({ cls := "SoftController$Grammar", name := "statement", desc := "()V" } : Jvm.MethodName)) ∈ GW := gw_t (tin_4 _ (List.mem_of_getElem? (i := 182) rfl)) rfl
theorem gw_903 : (Jvm.Cond.code ({ cls := "SoftController$Grammar", name := "statement", desc := "()V" } : Jvm.MethodName) prog_2_method_13_code (1 : Nat) (Option.none : Option Jvm.ClassFile.FieldType)) ∈ GW := gw_t (tin_4 _ (List.mem_of_getElem? (i := 183) rfl)) rfl
theorem gw_949 : (Jvm.Cond.methodLink "SoftController$Grammar" (88 : Nat) ({ cls := "SoftController$Grammar", name := "choice", desc := "()V" } : Jvm.MethodName)) ∈ GW := gw_t (tin_4 _ (List.mem_of_getElem? (i := 229) rfl)) rfl
theorem gw_951 : (Jvm.Cond.instanceMethod ({ cls := "SoftController$Grammar", name := "choice", desc := "()V" } : Jvm.MethodName)) ∈ GW := gw_t (tin_4 _ (List.mem_of_getElem? (i := 231) rfl)) rfl
theorem gw_952 : (Jvm.Cond.code ({ cls := "SoftController$Grammar", name := "choice", desc := "()V" } : Jvm.MethodName) prog_2_method_15_code (2 : Nat) (Option.none : Option Jvm.ClassFile.FieldType)) ∈ GW := gw_t (tin_4 _ (List.mem_of_getElem? (i := 232) rfl)) rfl
theorem gw_953 : (Jvm.Cond.methodLink "SoftController$Grammar" (79 : Nat) ({ cls := "SoftController$Grammar", name := "body", desc := "()V" } : Jvm.MethodName)) ∈ GW := gw_t (tin_4 _ (List.mem_of_getElem? (i := 233) rfl)) rfl
theorem gw_955 : (Jvm.Cond.instanceMethod ({ cls := "SoftController$Grammar", name := "body", desc := "()V" } : Jvm.MethodName)) ∈ GW := gw_t (tin_4 _ (List.mem_of_getElem? (i := 235) rfl)) rfl
theorem gw_956 : (Jvm.Cond.code ({ cls := "SoftController$Grammar", name := "body", desc := "()V" } : Jvm.MethodName) prog_2_method_11_code (1 : Nat) (Option.none : Option Jvm.ClassFile.FieldType)) ∈ GW := gw_t (tin_4 _ (List.mem_of_getElem? (i := 236) rfl)) rfl
theorem gw_957 : (Jvm.Cond.methodLink "SoftController$Grammar" (94 : Nat) ({ cls := "SoftController$Grammar", name := "counted", desc := "()V" } : Jvm.MethodName)) ∈ GW := gw_t (tin_4 _ (List.mem_of_getElem? (i := 237) rfl)) rfl
theorem gw_959 : (Jvm.Cond.instanceMethod ({ cls := "SoftController$Grammar", name := "counted", desc := "()V" } : Jvm.MethodName)) ∈ GW := gw_t (tin_4 _ (List.mem_of_getElem? (i := 239) rfl)) rfl
theorem gw_960 : (Jvm.Cond.code ({ cls := "SoftController$Grammar", name := "counted", desc := "()V" } : Jvm.MethodName) prog_2_method_16_code (1 : Nat) (Option.none : Option Jvm.ClassFile.FieldType)) ∈ GW := gw_t (tin_5 _ (List.mem_of_getElem? (i := 0) rfl)) rfl
theorem gw_961 : (Jvm.Cond.methodLink "SoftController$Grammar" (97 : Nat) ({ cls := "SoftController$Grammar", name := "cases", desc := "()V" } : Jvm.MethodName)) ∈ GW := gw_t (tin_5 _ (List.mem_of_getElem? (i := 1) rfl)) rfl
theorem gw_963 : (Jvm.Cond.instanceMethod ({ cls := "SoftController$Grammar", name := "cases", desc := "()V" } : Jvm.MethodName)) ∈ GW := gw_t (tin_5 _ (List.mem_of_getElem? (i := 3) rfl)) rfl
theorem gw_964 : (Jvm.Cond.code ({ cls := "SoftController$Grammar", name := "cases", desc := "()V" } : Jvm.MethodName) prog_2_method_17_code (3 : Nat) (Option.none : Option Jvm.ClassFile.FieldType)) ∈ GW := gw_t (tin_5 _ (List.mem_of_getElem? (i := 4) rfl)) rfl
section C37dgstat
variable {p : Program} {l : Launch} {e : Env} {R : Room} {s : State} {m : MethodId} {args : Array Value} {below : List Frame} {meth : Method} {c : Code} {H : Heap} {locs : List Loc} {Q : State → Prop} {cells slots : Nat}
variable {ls : Array Slot} {D : va_G} {kA : Nat → ClassId} {V Z : Nat → Nat} {A : Nat → Prop} {N d : Nat} {w : CSt}
/-- the contracts of the group, at a depth -/
def RecOK_GS (l : Launch) (D : va_G) (kA : Nat → ClassId) (V Z : Nat → Nat) (d : Nat) (ro : Nat → Nat → Int32 → Int32 → CSt → Option (Sum Nat Int32 × CSt)) : Prop := (∀ (u : CSt) (sz : Nat) (y : Sum Nat Int32) (w : CSt), ro 0 0 0 0 u = some (y, w) → vx_Met l yX0_body (Cond.code yX0_body cX0_body 1 none :: GW) { frames := d + 230, cells := 1, slots := 6, locals := 60 * d + 14000 } (cPc D kA V Z [.ref (Z 208)] u sz) (cQvx D kA Z u sz y w) (cXc D kA Z u sz y w) 1 6 (va_A (CW kA Z u) sz)) ∧ (∀ (u : CSt) (sz : Nat) (y : Sum Nat Int32) (w : CSt), ro 1 0 0 0 u = some (y, w) → vx_Met l yX0_statements (Cond.code yX0_statements cX0_statements 2 none :: GW) { frames := d + 230, cells := 1, slots := 6, locals := 60 * d + 14000 } (cPc D kA V Z [.ref (Z 208)] u sz) (cQvx D kA Z u sz y w) (cXc D kA Z u sz y w) 1 6 (va_A (CW kA Z u) sz)) ∧ (∀ (u : CSt) (sz : Nat) (y : Sum Nat Int32) (w : CSt), ro 2 0 0 0 u = some (y, w) → vx_Met l yX0_statement (Cond.code yX0_statement cX0_statement 1 none :: GW) { frames := d + 230, cells := 1, slots := 6, locals := 60 * d + 14000 } (cPc D kA V Z [.ref (Z 208)] u sz) (cQvx D kA Z u sz y w) (cXc D kA Z u sz y w) 1 6 (va_A (CW kA Z u) sz)) ∧ (∀ (u : CSt) (sz : Nat) (y : Sum Nat Int32) (w : CSt), ro 3 0 0 0 u = some (y, w) → vx_Met l yX0_choice (Cond.code yX0_choice cX0_choice 2 none :: GW) { frames := d + 230, cells := 1, slots := 6, locals := 60 * d + 14000 } (cPc D kA V Z [.ref (Z 208)] u sz) (cQvx D kA Z u sz y w) (cXc D kA Z u sz y w) 1 6 (va_A (CW kA Z u) sz)) ∧ (∀ (u : CSt) (sz : Nat) (y : Sum Nat Int32) (w : CSt), ro 4 0 0 0 u = some (y, w) → vx_Met l yX0_counted (Cond.code yX0_counted cX0_counted 1 none :: GW) { frames := d + 230, cells := 1, slots := 6, locals := 60 * d + 14000 } (cPc D kA V Z [.ref (Z 208)] u sz) (cQvx D kA Z u sz y w) (cXc D kA Z u sz y w) 1 6 (va_A (CW kA Z u) sz)) ∧ (∀ (u : CSt) (sz : Nat) (y : Sum Nat Int32) (w : CSt), ro 5 0 0 0 u = some (y, w) → vx_Met l yX0_cases (Cond.code yX0_cases cX0_cases 3 none :: GW) { frames := d + 230, cells := 1, slots := 6, locals := 60 * d + 14000 } (cPc D kA V Z [.ref (Z 208)] u sz) (cQvx D kA Z u sz y w) (cXc D kA Z u sz y w) 1 6 (va_A (CW kA Z u) sz))
theorem kc_X0_body {cc : ByteArray} {pc nL : Nat} {c0 : Cond} {rest : List Value} {ro : Nat → Nat → Int32 → Int32 → CSt → Option (Sum Nat Int32 × CSt)} {u w1 : CSt} {y1 : Sum Nat Int32} (X : CC p s m args c cc nL c0 RX0 D kA V A) (hrec : RecOK_GS l D kA V Z d ro)  (hS : CS D kA Z A s u H locs) (h : ro 0 0 0 0 u = some (y1, w1)) (hF : d + 1 + 230 ≤ R.frames) (hL : 60 * (d + 1) + 14000 ≤ R.locals) (hC : 1 ≤ R.cells ∧ 6 ≤ R.slots) (hl : ls.size = nL) (hc : (rest.map fun v => v.category).sum ≤ 8) (hdg : decode cc pc = .ok (.invokevirtual 79, 3)) (kk : ∀ r, y1 = .inr r → ∀ H locs, CS D kA Z A s w1 H locs → W p l e R s m args below meth c H locs 0 0 Q (F0 m (pc + 3) ls (rest))) (kx : ∀ x, y1 = .inl x → ∀ (H : Heap) (locs : List Loc) (q : Addr) (ce : Cell), CS D kA Z A s w1 H locs → H[q]? = some ce → ce.vm = .none → s.vm.findClass (exN x) = some ce.cls → vx_W p l e R s m args below meth c H locs 1 6 Q (F0 m pc ls rest) q) : W p l e R s m args below meth c H locs 0 0 Q (F0 m pc ls (.ref (Z 208) :: rest)) :=
  ccall_vx (n := 0)  X hS (hrec.1 u H.size _ _  h) (gw_V gw_953 gw_955 gs_3_2 gw_7 gw_956) (by decide +kernel) (va_recv X.2.1 hS.1 (ci := 0) (q0 := 8) rfl (cw_lit rfl)) (rc_fr hF) (rc_lo hL (Nat.le_of_ble_eq_true rfl)) hC rfl hl hc rfl hdg kk kx
theorem kc_X0_statements {cc : ByteArray} {pc nL : Nat} {c0 : Cond} {rest : List Value} {ro : Nat → Nat → Int32 → Int32 → CSt → Option (Sum Nat Int32 × CSt)} {u w1 : CSt} {y1 : Sum Nat Int32} (X : CC p s m args c cc nL c0 RX0 D kA V A) (hrec : RecOK_GS l D kA V Z d ro)  (hS : CS D kA Z A s u H locs) (h : ro 1 0 0 0 u = some (y1, w1)) (hF : d + 1 + 230 ≤ R.frames) (hL : 60 * (d + 1) + 14000 ≤ R.locals) (hC : 1 ≤ R.cells ∧ 6 ≤ R.slots) (hl : ls.size = nL) (hc : (rest.map fun v => v.category).sum ≤ 8) (hdg : decode cc pc = .ok (.invokevirtual 76, 3)) (kk : ∀ r, y1 = .inr r → ∀ H locs, CS D kA Z A s w1 H locs → W p l e R s m args below meth c H locs 0 0 Q (F0 m (pc + 3) ls (rest))) (kx : ∀ x, y1 = .inl x → ∀ (H : Heap) (locs : List Loc) (q : Addr) (ce : Cell), CS D kA Z A s w1 H locs → H[q]? = some ce → ce.vm = .none → s.vm.findClass (exN x) = some ce.cls → vx_W p l e R s m args below meth c H locs 1 6 Q (F0 m pc ls rest) q) : W p l e R s m args below meth c H locs 0 0 Q (F0 m pc ls (.ref (Z 208) :: rest)) :=
  ccall_vx (n := 0)  X hS (hrec.2.1 u H.size _ _  h) (gw_V gw_896 gw_898 gs_2_7 gw_7 gw_899) (by decide +kernel) (va_recv X.2.1 hS.1 (ci := 0) (q0 := 8) rfl (cw_lit rfl)) (rc_fr hF) (rc_lo hL (Nat.le_of_ble_eq_true rfl)) hC rfl hl hc rfl hdg kk kx
theorem kc_X0_statement {cc : ByteArray} {pc nL : Nat} {c0 : Cond} {rest : List Value} {ro : Nat → Nat → Int32 → Int32 → CSt → Option (Sum Nat Int32 × CSt)} {u w1 : CSt} {y1 : Sum Nat Int32} (X : CC p s m args c cc nL c0 RX0 D kA V A) (hrec : RecOK_GS l D kA V Z d ro)  (hS : CS D kA Z A s u H locs) (h : ro 2 0 0 0 u = some (y1, w1)) (hF : d + 1 + 230 ≤ R.frames) (hL : 60 * (d + 1) + 14000 ≤ R.locals) (hC : 1 ≤ R.cells ∧ 6 ≤ R.slots) (hl : ls.size = nL) (hc : (rest.map fun v => v.category).sum ≤ 8) (hdg : decode cc pc = .ok (.invokevirtual 82, 3)) (kk : ∀ r, y1 = .inr r → ∀ H locs, CS D kA Z A s w1 H locs → W p l e R s m args below meth c H locs 0 0 Q (F0 m (pc + 3) ls (rest))) (kx : ∀ x, y1 = .inl x → ∀ (H : Heap) (locs : List Loc) (q : Addr) (ce : Cell), CS D kA Z A s w1 H locs → H[q]? = some ce → ce.vm = .none → s.vm.findClass (exN x) = some ce.cls → vx_W p l e R s m args below meth c H locs 1 6 Q (F0 m pc ls rest) q) : W p l e R s m args below meth c H locs 0 0 Q (F0 m pc ls (.ref (Z 208) :: rest)) :=
  ccall_vx (n := 0)  X hS (hrec.2.2.1 u H.size _ _  h) (gw_V gw_900 gw_902 gs_2_8 gw_7 gw_903) (by decide +kernel) (va_recv X.2.1 hS.1 (ci := 0) (q0 := 8) rfl (cw_lit rfl)) (rc_fr hF) (rc_lo hL (Nat.le_of_ble_eq_true rfl)) hC rfl hl hc rfl hdg kk kx
theorem kc_X0_choice {cc : ByteArray} {pc nL : Nat} {c0 : Cond} {rest : List Value} {ro : Nat → Nat → Int32 → Int32 → CSt → Option (Sum Nat Int32 × CSt)} {u w1 : CSt} {y1 : Sum Nat Int32} (X : CC p s m args c cc nL c0 RX0 D kA V A) (hrec : RecOK_GS l D kA V Z d ro)  (hS : CS D kA Z A s u H locs) (h : ro 3 0 0 0 u = some (y1, w1)) (hF : d + 1 + 230 ≤ R.frames) (hL : 60 * (d + 1) + 14000 ≤ R.locals) (hC : 1 ≤ R.cells ∧ 6 ≤ R.slots) (hl : ls.size = nL) (hc : (rest.map fun v => v.category).sum ≤ 8) (hdg : decode cc pc = .ok (.invokevirtual 88, 3)) (kk : ∀ r, y1 = .inr r → ∀ H locs, CS D kA Z A s w1 H locs → W p l e R s m args below meth c H locs 0 0 Q (F0 m (pc + 3) ls (rest))) (kx : ∀ x, y1 = .inl x → ∀ (H : Heap) (locs : List Loc) (q : Addr) (ce : Cell), CS D kA Z A s w1 H locs → H[q]? = some ce → ce.vm = .none → s.vm.findClass (exN x) = some ce.cls → vx_W p l e R s m args below meth c H locs 1 6 Q (F0 m pc ls rest) q) : W p l e R s m args below meth c H locs 0 0 Q (F0 m pc ls (.ref (Z 208) :: rest)) :=
  ccall_vx (n := 0)  X hS (hrec.2.2.2.1 u H.size _ _  h) (gw_V gw_949 gw_951 gs_3_1 gw_7 gw_952) (by decide +kernel) (va_recv X.2.1 hS.1 (ci := 0) (q0 := 8) rfl (cw_lit rfl)) (rc_fr hF) (rc_lo hL (Nat.le_of_ble_eq_true rfl)) hC rfl hl hc rfl hdg kk kx
theorem kc_X0_counted {cc : ByteArray} {pc nL : Nat} {c0 : Cond} {rest : List Value} {ro : Nat → Nat → Int32 → Int32 → CSt → Option (Sum Nat Int32 × CSt)} {u w1 : CSt} {y1 : Sum Nat Int32} (X : CC p s m args c cc nL c0 RX0 D kA V A) (hrec : RecOK_GS l D kA V Z d ro)  (hS : CS D kA Z A s u H locs) (h : ro 4 0 0 0 u = some (y1, w1)) (hF : d + 1 + 230 ≤ R.frames) (hL : 60 * (d + 1) + 14000 ≤ R.locals) (hC : 1 ≤ R.cells ∧ 6 ≤ R.slots) (hl : ls.size = nL) (hc : (rest.map fun v => v.category).sum ≤ 8) (hdg : decode cc pc = .ok (.invokevirtual 94, 3)) (kk : ∀ r, y1 = .inr r → ∀ H locs, CS D kA Z A s w1 H locs → W p l e R s m args below meth c H locs 0 0 Q (F0 m (pc + 3) ls (rest))) (kx : ∀ x, y1 = .inl x → ∀ (H : Heap) (locs : List Loc) (q : Addr) (ce : Cell), CS D kA Z A s w1 H locs → H[q]? = some ce → ce.vm = .none → s.vm.findClass (exN x) = some ce.cls → vx_W p l e R s m args below meth c H locs 1 6 Q (F0 m pc ls rest) q) : W p l e R s m args below meth c H locs 0 0 Q (F0 m pc ls (.ref (Z 208) :: rest)) :=
  ccall_vx (n := 0)  X hS (hrec.2.2.2.2.1 u H.size _ _  h) (gw_V gw_957 gw_959 gs_3_3 gw_7 gw_960) (by decide +kernel) (va_recv X.2.1 hS.1 (ci := 0) (q0 := 8) rfl (cw_lit rfl)) (rc_fr hF) (rc_lo hL (Nat.le_of_ble_eq_true rfl)) hC rfl hl hc rfl hdg kk kx
theorem kc_X0_cases {cc : ByteArray} {pc nL : Nat} {c0 : Cond} {rest : List Value} {ro : Nat → Nat → Int32 → Int32 → CSt → Option (Sum Nat Int32 × CSt)} {u w1 : CSt} {y1 : Sum Nat Int32} (X : CC p s m args c cc nL c0 RX0 D kA V A) (hrec : RecOK_GS l D kA V Z d ro)  (hS : CS D kA Z A s u H locs) (h : ro 5 0 0 0 u = some (y1, w1)) (hF : d + 1 + 230 ≤ R.frames) (hL : 60 * (d + 1) + 14000 ≤ R.locals) (hC : 1 ≤ R.cells ∧ 6 ≤ R.slots) (hl : ls.size = nL) (hc : (rest.map fun v => v.category).sum ≤ 8) (hdg : decode cc pc = .ok (.invokevirtual 97, 3)) (kk : ∀ r, y1 = .inr r → ∀ H locs, CS D kA Z A s w1 H locs → W p l e R s m args below meth c H locs 0 0 Q (F0 m (pc + 3) ls (rest))) (kx : ∀ x, y1 = .inl x → ∀ (H : Heap) (locs : List Loc) (q : Addr) (ce : Cell), CS D kA Z A s w1 H locs → H[q]? = some ce → ce.vm = .none → s.vm.findClass (exN x) = some ce.cls → vx_W p l e R s m args below meth c H locs 1 6 Q (F0 m pc ls rest) q) : W p l e R s m args below meth c H locs 0 0 Q (F0 m pc ls (.ref (Z 208) :: rest)) :=
  ccall_vx (n := 0)  X hS (hrec.2.2.2.2.2 u H.size _ _  h) (gw_V gw_961 gw_963 gs_3_4 gw_7 gw_964) (by decide +kernel) (va_recv X.2.1 hS.1 (ci := 0) (q0 := 8) rfl (cw_lit rfl)) (rc_fr hF) (rc_lo hL (Nat.le_of_ble_eq_true rfl)) hC rfl hl hc rfl hdg kk kx
def B_X0_body_0 (N : Nat) (ro : Nat → Nat → Int32 → Int32 → CSt → Option (Sum Nat Int32 × CSt)) (u : CSt) : Option ((Sum Nat Int32) × CSt) := bt (F_X0_opens N 123 u) fun _ u_1 => bt (ro 1 0 0 0 u_1) fun _ u_3 => some (.inr 0, u_3)
set_option maxHeartbeats 4000000 in
theorem b_X0_body_0 {y : (Sum Nat Int32)} {ro : Nat → Nat → Int32 → Int32 → CSt → Option (Sum Nat Int32 × CSt)} (X : CC p s m args c cX0_body 1 (Cond.code yX0_body cX0_body 1 none) RX0 D kA V A) (hE : CEvx p l e R s m args below meth c cX0_body D kA Z A Q y w) (hst : l.stackTraces = false) (hX : CX p l e R s m args below meth c D kA Z A Q y w) (hC : 1 ≤ R.cells ∧ 6 ≤ R.slots) (hF : 9 ≤ R.frames) (hL : 163 ≤ R.locals) (hrec : RecOK_GS l D kA V Z d ro) (hFd : d + 1 + 230 ≤ R.frames) (hLd : 60 * (d + 1) + 14000 ≤ R.locals) {u : CSt}  (h : B_X0_body_0 N ro u = some (y, w))  (hS : CS D kA Z A s u H locs) (hl : lv_has ls 1 [(0, .ref (Z 208))]) : W p l e R s m args below meth c H locs 0 0 Q (F0 m 0 ls []) := by
  obtain ⟨⟨hx, hb, hml, hown, hts⟩, hK, hEV, hA⟩ := id X
  have hG : ∀ w ∈ GW, w.before args s = true := fun w h => hts w (List.mem_cons_of_mem _ h)
  unfold B_X0_body_0 at h
  refine lv_aload_n hx hb dX0_body_0 rfl (lv_at hl 0 rfl) ?_
  refine lv_bipush (v := 123) hx hb dX0_body_1 (by decide) ?_
  obtain ⟨y_2, u_1, h_u_1, h⟩ := bt_of h
  refine kc_X0_opens_RX0 hst X  hS h_u_1 (Nat.le_trans (Nat.le_of_ble_eq_true rfl) hF) (Nat.le_trans (Nat.le_of_ble_eq_true rfl) hL) hC hl.1 (Nat.le_of_ble_eq_true rfl) dX0_body_3 (fun r_u_1 hr_u_1 H locs hS => ?_) (fun x9 hn H locs q9 ce hS a1 a2 a3 => by obtain ⟨e2, rfl⟩ := bt_no h hn; exact hX _ e2 _ _ _ _ _ _ _ hS a1 a2 a3)
  replace h := bt_ok h hr_u_1
  refine lv_aload_n hx hb dX0_body_6 rfl (lv_at hl 0 rfl) ?_
  obtain ⟨y_4, u_3, h_u_3, h⟩ := bt_of h
  refine kc_X0_statements X hrec  hS h_u_3 hFd hLd hC hl.1 (Nat.le_of_ble_eq_true rfl) dX0_body_7 (fun r_u_3 hr_u_3 H locs hS => ?_) (fun x9 hn H locs q9 ce hS a1 a2 a3 => by obtain ⟨e2, rfl⟩ := bt_no h hn; exact hX _ e2 _ _ _ _ _ _ _ hS a1 a2 a3)
  replace h := bt_ok h hr_u_3
  obtain ⟨e9, rfl⟩ := so9 h
  exact hE _ e9.symm _ _ _ _ hS dX0_body_10
def F_X0_body (N : Nat) (ro : Nat → Nat → Int32 → Int32 → CSt → Option (Sum Nat Int32 × CSt)) (u : CSt) : Option ((Sum Nat Int32) × CSt) := B_X0_body_0 N ro u
set_option maxHeartbeats 4000000 in
theorem k_X0_body (l : Launch) (hst : l.stackTraces = false) (D : va_G) (kA : Nat → ClassId) (V Z : Nat → Nat) (N : Nat) {d : Nat} (ro : Nat → Nat → Int32 → Int32 → CSt → Option (Sum Nat Int32 × CSt)) (hrec : RecOK_GS l D kA V Z d ro) (u : CSt) (sz : Nat) {y : (Sum Nat Int32)} {w : CSt} (h : F_X0_body N ro u = some (y, w)) : vx_Met l yX0_body (Cond.code yX0_body cX0_body 1 none :: GW) { frames := d + 1 + 230, cells := 1, slots := 6, locals := 60 * (d + 1) + 14000 } (cPc D kA V Z [.ref (Z 208)] u sz) (cQvx D kA Z u sz y w) (cXc D kA Z u sz y w) 1 6 (va_A (CW kA Z u) sz) := by
  refine vx_ofW (cc := cX0_body) (maxL := 1) (ret := none) (by decide) rfl ?_
  intro p e s m args below meth c s₁ Bd hml hxt hv
  obtain ⟨rfl, hsz, hP, hK, hD0, hE⟩ := hv
  have hts := atoms_spec (ws := Cond.code yX0_body cX0_body 1 none :: GW) Bd.pre
  have hl := lv_entry ([.ref (Z 208)]) (n := 1) (Nat.le_of_ble_eq_true rfl)
  rw [lg_entry_eq]
  generalize (lg_sl ([.ref (Z 208)]) ++ List.replicate (1 - (lg_sl ([.ref (Z 208)])).length) Slot.unset).toArray = ls at hl ⊢
  have hl : lv_has ls 1 [(0, .ref (Z 208))] := hl
  subst hsz
  have X : CC p s m ([.ref (Z 208)]).toArray c cX0_body 1 (Cond.code yX0_body cX0_body 1 none) RX0 D kA V (va_A (CW kA Z u) s.heap.size) := ⟨⟨Bd.exec, Bd.bytes, hml, findClass_of_methodNamed Bd.named, hts⟩, hK, hE, fun q h => Or.inr h⟩
  refine b_X0_body_0 X (cend_vx X Bd.returns Bd.notSynchronized) hst (cend_X X hxt Bd.notSynchronized) ⟨Nat.le_refl _, Nat.le_refl _⟩ (Nat.le_trans (Nat.le_of_ble_eq_true rfl) (Nat.le_add_left 230 _)) (Nat.le_trans (Nat.le_of_ble_eq_true rfl) (Nat.le_add_left 14000 _)) hrec (Nat.le_refl _) (Nat.le_refl _) h  ⟨hP, hD0.self, va_S.rf⟩ (lv_sub hl [0] rfl)
def B_X0_statements_31 (N : Nat) (ro : Nat → Nat → Int32 → Int32 → CSt → Option (Sum Nat Int32 × CSt)) (u : CSt) : Option ((Sum Nat Int32) × CSt) := bt (F_X0_closes N 125 u) fun _ u_1 => some (.inr 0, u_1)
set_option maxHeartbeats 4000000 in
theorem b_X0_statements_31 {y : (Sum Nat Int32)} {ro : Nat → Nat → Int32 → Int32 → CSt → Option (Sum Nat Int32 × CSt)} (X : CC p s m args c cX0_statements 2 (Cond.code yX0_statements cX0_statements 2 none) RX0 D kA V A) (hE : CEvx p l e R s m args below meth c cX0_statements D kA Z A Q y w) (hst : l.stackTraces = false) (hX : CX p l e R s m args below meth c D kA Z A Q y w) (hC : 1 ≤ R.cells ∧ 6 ≤ R.slots) (hF : 9 ≤ R.frames) (hL : 164 ≤ R.locals) (hrec : RecOK_GS l D kA V Z d ro) (hFd : d + 1 + 230 ≤ R.frames) (hLd : 60 * (d + 1) + 14000 ≤ R.locals) {u : CSt}  (h : B_X0_statements_31 N ro u = some (y, w))  (hS : CS D kA Z A s u H locs) (hl : lv_has ls 2 [(0, .ref (Z 208))]) : W p l e R s m args below meth c H locs 0 0 Q (F0 m 31 ls []) := by
  obtain ⟨⟨hx, hb, hml, hown, hts⟩, hK, hEV, hA⟩ := id X
  have hG : ∀ w ∈ GW, w.before args s = true := fun w h => hts w (List.mem_cons_of_mem _ h)
  unfold B_X0_statements_31 at h
  refine lv_aload_n hx hb dX0_statements_31 rfl (lv_at hl 0 rfl) ?_
  refine lv_bipush (v := 125) hx hb dX0_statements_32 (by decide) ?_
  obtain ⟨y_2, u_1, h_u_1, h⟩ := bt_of h
  refine kc_X0_closes_RX0 hst X  hS h_u_1 (Nat.le_trans (Nat.le_of_ble_eq_true rfl) hF) (Nat.le_trans (Nat.le_of_ble_eq_true rfl) hL) hC hl.1 (Nat.le_of_ble_eq_true rfl) dX0_statements_34 (fun r_u_1 hr_u_1 H locs hS => ?_) (fun x9 hn H locs q9 ce hS a1 a2 a3 => by obtain ⟨e2, rfl⟩ := bt_no h hn; exact hX _ e2 _ _ _ _ _ _ _ hS a1 a2 a3)
  replace h := bt_ok h hr_u_1
  obtain ⟨e9, rfl⟩ := so9 h
  exact hE _ e9.symm _ _ _ _ hS dX0_statements_37
def B_X0_statements_2 (N : Nat) (ro : Nat → Nat → Int32 → Int32 → CSt → Option (Sum Nat Int32 × CSt)) (R_2 : Int32 × CSt → Option ((Sum Nat Int32) × CSt)) (l1 : Int32) (u : CSt) : Option ((Sum Nat Int32) × CSt) := if (1500 : Int32) ≤ l1 then (B_X0_statements_31 N ro u) else (bc (F_X9_is N 125 u) fun r_5 u_4 => if r_5 = (0 : Int32) then (bt (ro 2 0 0 0 u_4) fun _ u_7 => R_2 ((l1 + 1), u_7)) else (B_X0_statements_31 N ro u_4))
set_option maxHeartbeats 4000000 in
theorem b_X0_statements_2 {y : (Sum Nat Int32)} {ro : Nat → Nat → Int32 → Int32 → CSt → Option (Sum Nat Int32 × CSt)} (X : CC p s m args c cX0_statements 2 (Cond.code yX0_statements cX0_statements 2 none) RX0 D kA V A) (hE : CEvx p l e R s m args below meth c cX0_statements D kA Z A Q y w) (hst : l.stackTraces = false) (hX : CX p l e R s m args below meth c D kA Z A Q y w) (hC : 1 ≤ R.cells ∧ 6 ≤ R.slots) (hF : 9 ≤ R.frames) (hL : 164 ≤ R.locals) (hrec : RecOK_GS l D kA V Z d ro) (hFd : d + 1 + 230 ≤ R.frames) (hLd : 60 * (d + 1) + 14000 ≤ R.locals) {R_2 : Int32 × CSt → Option ((Sum Nat Int32) × CSt)} {l1 : Int32} {u : CSt} (hR_2 : ∀ (l1 : Int32) (u : CSt), R_2 (l1, u) = some (y, w) → ∀ (H : Heap) (locs : List Loc) (ls : Array Slot), CS D kA Z A s u H locs → lv_has ls 2 [(0, .ref (Z 208)), (1, .int l1)] → W p l e R s m args below meth c H locs 0 0 Q (F0 m 2 ls [])) (h : B_X0_statements_2 N ro R_2 l1 u = some (y, w))  (hS : CS D kA Z A s u H locs) (hl : lv_has ls 2 [(0, .ref (Z 208)), (1, .int l1)]) : W p l e R s m args below meth c H locs 0 0 Q (F0 m 2 ls []) := by
  obtain ⟨⟨hx, hb, hml, hown, hts⟩, hK, hEV, hA⟩ := id X
  have hG : ∀ w ∈ GW, w.before args s = true := fun w h => hts w (List.mem_cons_of_mem _ h)
  unfold B_X0_statements_2 at h
  refine lv_iload_n hx hb dX0_statements_2 rfl (lv_at hl 1 rfl) ?_
  refine lv_sipush (v := 1500) hx hb dX0_statements_3 (by decide) ?_
  refine lv_icmp_ge (tgt := 31) hx hb dX0_statements_6 (by decide) (fun c_3 => ?_) (fun c_3 => ?_)
  · have h := ip (c_3) h
    exact b_X0_statements_31 X hE hst hX hC hF hL hrec hFd hLd h  hS (lv_sub hl [0] rfl)
  · have h := im (c_3) h
    refine lv_aload_n hx hb dX0_statements_9 rfl (lv_at hl 0 rfl) ?_
    refine cg_X0_9 X hS dX0_statements_10 ?_
    refine lv_bipush (v := 125) hx hb dX0_statements_13 (by decide) ?_
    obtain ⟨r_5, u_4, h_u_4, h⟩ := bc_of h
    refine kc_X9_is_RX0 X  hS h_u_4 (Nat.le_trans (Nat.le_of_ble_eq_true rfl) hF) (Nat.le_trans (Nat.le_of_ble_eq_true rfl) hL) hl.1 (Nat.le_of_ble_eq_true rfl) dX0_statements_15 (fun H locs hS => ?_)
    refine lv_if_ne (tgt := 31) hx hb dX0_statements_18 (by decide) (fun c_6 => ?_) (fun c_6 => ?_)
    · have h := im (c_6) h
      exact b_X0_statements_31 X hE hst hX hC hF hL hrec hFd hLd h  hS (lv_sub hl [0] rfl)
    · have h := ip (c_6) h
      refine lv_aload_n hx hb dX0_statements_21 rfl (lv_at hl 0 rfl) ?_
      obtain ⟨y_8, u_7, h_u_7, h⟩ := bt_of h
      refine kc_X0_statement X hrec  hS h_u_7 hFd hLd hC hl.1 (Nat.le_of_ble_eq_true rfl) dX0_statements_22 (fun r_u_7 hr_u_7 H locs hS => ?_) (fun x9 hn H locs q9 ce hS a1 a2 a3 => by obtain ⟨e2, rfl⟩ := bt_no h hn; exact hX _ e2 _ _ _ _ _ _ _ hS a1 a2 a3)
      replace h := bt_ok h hr_u_7
      refine lv_iinc (v := l1 + 1) (lv' := [(1, .int (l1 + 1)), (0, .ref (Z 208))]) hx hb dX0_statements_25 hl (k := 1) rfl rfl (by decide) rfl (fun ls hl => ?_)
      refine lv_goto (tgt := 2) hx hb dX0_statements_28 (by decide) ?_
      exact hR_2 _ _  h _ _ _ hS (lv_sub hl [1, 0] rfl)
def LP_X0_statements_2 (N : Nat) (ro : Nat → Nat → Int32 → Int32 → CSt → Option (Sum Nat Int32 × CSt)) : Nat → Int32 × CSt → Option ((Sum Nat Int32) × CSt) := lp (fun R a => B_X0_statements_2 N ro R a.1 a.2)
theorem bl_X0_statements_2 {y : (Sum Nat Int32)} {ro : Nat → Nat → Int32 → Int32 → CSt → Option (Sum Nat Int32 × CSt)} (X : CC p s m args c cX0_statements 2 (Cond.code yX0_statements cX0_statements 2 none) RX0 D kA V A) (hE : CEvx p l e R s m args below meth c cX0_statements D kA Z A Q y w) (hst : l.stackTraces = false) (hX : CX p l e R s m args below meth c D kA Z A Q y w) (hC : 1 ≤ R.cells ∧ 6 ≤ R.slots) (hF : 9 ≤ R.frames) (hL : 164 ≤ R.locals) (hrec : RecOK_GS l D kA V Z d ro) (hFd : d + 1 + 230 ≤ R.frames) (hLd : 60 * (d + 1) + 14000 ≤ R.locals)  : ∀ (n : Nat) (l1 : Int32) (u : CSt), LP_X0_statements_2 N ro n (l1, u) = some (y, w) → ∀ (H : Heap) (locs : List Loc) (ls : Array Slot), CS D kA Z A s u H locs → lv_has ls 2 [(0, .ref (Z 208)), (1, .int l1)] → W p l e R s m args below meth c H locs 0 0 Q (F0 m 2 ls []) := by
  intro n
  induction n with
  | zero => intro l1 u h; exact nomatch h
  | succ n ih => intro l1 u h H locs ls hS hl; exact b_X0_statements_2 (N := N) (R_2 := LP_X0_statements_2 N ro n) X hE hst hX hC hF hL hrec hFd hLd ih h  hS hl
def B_X0_statements_0 (N : Nat) (ro : Nat → Nat → Int32 → Int32 → CSt → Option (Sum Nat Int32 × CSt)) (u : CSt) : Option ((Sum Nat Int32) × CSt) := LP_X0_statements_2 N ro N (0, u)
set_option maxHeartbeats 4000000 in
theorem b_X0_statements_0 {y : (Sum Nat Int32)} {ro : Nat → Nat → Int32 → Int32 → CSt → Option (Sum Nat Int32 × CSt)} (X : CC p s m args c cX0_statements 2 (Cond.code yX0_statements cX0_statements 2 none) RX0 D kA V A) (hE : CEvx p l e R s m args below meth c cX0_statements D kA Z A Q y w) (hst : l.stackTraces = false) (hX : CX p l e R s m args below meth c D kA Z A Q y w) (hC : 1 ≤ R.cells ∧ 6 ≤ R.slots) (hF : 9 ≤ R.frames) (hL : 164 ≤ R.locals) (hrec : RecOK_GS l D kA V Z d ro) (hFd : d + 1 + 230 ≤ R.frames) (hLd : 60 * (d + 1) + 14000 ≤ R.locals) {u : CSt}  (h : B_X0_statements_0 N ro u = some (y, w))  (hS : CS D kA Z A s u H locs) (hl : lv_has ls 2 [(0, .ref (Z 208))]) : W p l e R s m args below meth c H locs 0 0 Q (F0 m 0 ls []) := by
  obtain ⟨⟨hx, hb, hml, hown, hts⟩, hK, hEV, hA⟩ := id X
  have hG : ∀ w ∈ GW, w.before args s = true := fun w h => hts w (List.mem_cons_of_mem _ h)
  unfold B_X0_statements_0 at h
  refine lv_iconst (v := 0) hx hb dX0_statements_0 (by decide) ?_
  refine lv_istore_n (lv' := [(1, .int 0), (0, .ref (Z 208))]) hx hb dX0_statements_1 rfl hl (by decide) rfl (fun ls hl => ?_)
  exact bl_X0_statements_2 X hE hst hX hC hF hL hrec hFd hLd _ _ _  h _ _ _ hS (lv_sub hl [1, 0] rfl)
def F_X0_statements (N : Nat) (ro : Nat → Nat → Int32 → Int32 → CSt → Option (Sum Nat Int32 × CSt)) (u : CSt) : Option ((Sum Nat Int32) × CSt) := B_X0_statements_0 N ro u
set_option maxHeartbeats 4000000 in
theorem k_X0_statements (l : Launch) (hst : l.stackTraces = false) (D : va_G) (kA : Nat → ClassId) (V Z : Nat → Nat) (N : Nat) {d : Nat} (ro : Nat → Nat → Int32 → Int32 → CSt → Option (Sum Nat Int32 × CSt)) (hrec : RecOK_GS l D kA V Z d ro) (u : CSt) (sz : Nat) {y : (Sum Nat Int32)} {w : CSt} (h : F_X0_statements N ro u = some (y, w)) : vx_Met l yX0_statements (Cond.code yX0_statements cX0_statements 2 none :: GW) { frames := d + 1 + 230, cells := 1, slots := 6, locals := 60 * (d + 1) + 14000 } (cPc D kA V Z [.ref (Z 208)] u sz) (cQvx D kA Z u sz y w) (cXc D kA Z u sz y w) 1 6 (va_A (CW kA Z u) sz) := by
  refine vx_ofW (cc := cX0_statements) (maxL := 2) (ret := none) (by decide) rfl ?_
  intro p e s m args below meth c s₁ Bd hml hxt hv
  obtain ⟨rfl, hsz, hP, hK, hD0, hE⟩ := hv
  have hts := atoms_spec (ws := Cond.code yX0_statements cX0_statements 2 none :: GW) Bd.pre
  have hl := lv_entry ([.ref (Z 208)]) (n := 2) (Nat.le_of_ble_eq_true rfl)
  rw [lg_entry_eq]
  generalize (lg_sl ([.ref (Z 208)]) ++ List.replicate (2 - (lg_sl ([.ref (Z 208)])).length) Slot.unset).toArray = ls at hl ⊢
  have hl : lv_has ls 2 [(0, .ref (Z 208))] := hl
  subst hsz
  have X : CC p s m ([.ref (Z 208)]).toArray c cX0_statements 2 (Cond.code yX0_statements cX0_statements 2 none) RX0 D kA V (va_A (CW kA Z u) s.heap.size) := ⟨⟨Bd.exec, Bd.bytes, hml, findClass_of_methodNamed Bd.named, hts⟩, hK, hE, fun q h => Or.inr h⟩
  refine b_X0_statements_0 X (cend_vx X Bd.returns Bd.notSynchronized) hst (cend_X X hxt Bd.notSynchronized) ⟨Nat.le_refl _, Nat.le_refl _⟩ (Nat.le_trans (Nat.le_of_ble_eq_true rfl) (Nat.le_add_left 230 _)) (Nat.le_trans (Nat.le_of_ble_eq_true rfl) (Nat.le_add_left 14000 _)) hrec (Nat.le_refl _) (Nat.le_refl _) h  ⟨hP, hD0.self, va_S.rf⟩ (lv_sub hl [0] rfl)
def B_X0_statement_0 (N : Nat) (ro : Nat → Nat → Int32 → Int32 → CSt → Option (Sum Nat Int32 × CSt)) (u : CSt) : Option ((Sum Nat Int32) × CSt) := bc (F_X9_type N u) fun r_2 u_1 => if r_2 = 17 then (bt (ro 3 0 0 0 u_1) fun _ u_4 => some (.inr 0, u_4)) else (if r_2 = 20 then (bc (F_X9_next N u_1) fun _ u_7 => bt (G_X0_expression N u_7) fun _ u_8 => bt (ro 0 0 0 0 u_8) fun _ u_10 => some (.inr 0, u_10)) else (if r_2 = 21 then (bt (ro 4 0 0 0 u_1) fun _ u_13 => some (.inr 0, u_13)) else (if r_2 = 22 then (bt (ro 5 0 0 0 u_1) fun _ u_16 => some (.inr 0, u_16)) else (if r_2 = 25 then (bc (F_X9_next N u_1) fun _ u_19 => bt (F_X9_take N 59 u_19) fun _ u_20 => some (.inr 0, u_20)) else (if r_2 = 26 then (bc (F_X9_next N u_1) fun _ u_23 => bt (F_X9_take N 59 u_23) fun _ u_24 => some (.inr 0, u_24)) else (if r_2 = 27 then (bt (F_X0_returned N u_1) fun _ u_27 => some (.inr 0, u_27)) else (if r_2 = 28 then (bc (F_X9_next N u_1) fun _ u_30 => bt (G_X0_expression N u_30) fun _ u_31 => bt (F_X9_take N 59 u_31) fun _ u_33 => some (.inr 0, u_33)) else (if r_2 = 128 then (bt (F_X0_named N u_1) fun _ u_36 => some (.inr 0, u_36)) else (bt (F_X9_refuseToken N u_1) fun _ u_38 => some (.inr 0, u_38))))))))))
set_option maxHeartbeats 4000000 in
theorem b_X0_statement_0 {y : (Sum Nat Int32)} {ro : Nat → Nat → Int32 → Int32 → CSt → Option (Sum Nat Int32 × CSt)} (X : CC p s m args c cX0_statement 1 (Cond.code yX0_statement cX0_statement 1 none) RX0 D kA V A) (hE : CEvx p l e R s m args below meth c cX0_statement D kA Z A Q y w) (hst : l.stackTraces = false) (hX : CX p l e R s m args below meth c D kA Z A Q y w) (hC : 1 ≤ R.cells ∧ 6 ≤ R.slots) (hF : 216 ≤ R.frames) (hL : 12542 ≤ R.locals) (hrec : RecOK_GS l D kA V Z d ro) (hFd : d + 1 + 230 ≤ R.frames) (hLd : 60 * (d + 1) + 14000 ≤ R.locals) {u : CSt}  (h : B_X0_statement_0 N ro u = some (y, w))  (hS : CS D kA Z A s u H locs) (hl : lv_has ls 1 [(0, .ref (Z 208))]) : W p l e R s m args below meth c H locs 0 0 Q (F0 m 0 ls []) := by
  obtain ⟨⟨hx, hb, hml, hown, hts⟩, hK, hEV, hA⟩ := id X
  have hG : ∀ w ∈ GW, w.before args s = true := fun w h => hts w (List.mem_cons_of_mem _ h)
  unfold B_X0_statement_0 at h
  refine lv_aload_n hx hb dX0_statement_0 rfl (lv_at hl 0 rfl) ?_
  refine cg_X0_9 X hS dX0_statement_1 ?_
  obtain ⟨r_2, u_1, h_u_1, h⟩ := bc_of h
  refine kc_X9_type_RX0 X  hS h_u_1 (Nat.le_trans (Nat.le_of_ble_eq_true rfl) hF) (Nat.le_trans (Nat.le_of_ble_eq_true rfl) hL) hl.1 (Nat.le_of_ble_eq_true rfl) dX0_statement_4 (fun H locs hS => ?_)
  by_cases e_3 : r_2 = 17
  · have h := ip e_3 h
    refine lv_lookup (off := 88) (tgt := 95) hx hb dX0_statement_7 (by decide) (by rw [e_3]; decide) (by decide) ?_
    refine lv_aload_n hx hb dX0_statement_95 rfl (lv_at hl 0 rfl) ?_
    obtain ⟨y_5, u_4, h_u_4, h⟩ := bt_of h
    refine kc_X0_choice X hrec  hS h_u_4 hFd hLd hC hl.1 (Nat.le_of_ble_eq_true rfl) dX0_statement_96 (fun r_u_4 hr_u_4 H locs hS => ?_) (fun x9 hn H locs q9 ce hS a1 a2 a3 => by obtain ⟨e2, rfl⟩ := bt_no h hn; exact hX _ e2 _ _ _ _ _ _ _ hS a1 a2 a3)
    replace h := bt_ok h hr_u_4
    refine lv_goto (tgt := 190) hx hb dX0_statement_99 (by decide) ?_
    obtain ⟨e9, rfl⟩ := so9 h
    exact hE _ e9.symm _ _ _ _ hS dX0_statement_190
  have h := im e_3 h
  by_cases e_6 : r_2 = 20
  · have h := ip e_6 h
    refine lv_lookup (off := 95) (tgt := 102) hx hb dX0_statement_7 (by decide) (by rw [e_6]; decide) (by decide) ?_
    refine lv_aload_n hx hb dX0_statement_102 rfl (lv_at hl 0 rfl) ?_
    refine cg_X0_9 X hS dX0_statement_103 ?_
    obtain ⟨r_u_7, u_7, h_u_7, h⟩ := bc_of h
    refine kc_X9_next_RX0 X  hS h_u_7 (Nat.le_trans (Nat.le_of_ble_eq_true rfl) hF) (Nat.le_trans (Nat.le_of_ble_eq_true rfl) hL) hl.1 (Nat.le_of_ble_eq_true rfl) dX0_statement_106 (fun H locs hS => ?_)
    refine lv_aload_n hx hb dX0_statement_109 rfl (lv_at hl 0 rfl) ?_
    obtain ⟨y_9, u_8, h_u_8, h⟩ := bt_of h
    refine kg_X0_expression_RX0 hst X  hS h_u_8 (Nat.le_trans (Nat.le_of_ble_eq_true rfl) hF) (Nat.le_trans (Nat.le_of_ble_eq_true rfl) hL) hC hl.1 (Nat.le_of_ble_eq_true rfl) dX0_statement_110 (fun r_u_8 hr_u_8 H locs hS => ?_) (fun x9 hn H locs q9 ce hS a1 a2 a3 => by obtain ⟨e2, rfl⟩ := bt_no h hn; exact hX _ e2 _ _ _ _ _ _ _ hS a1 a2 a3)
    replace h := bt_ok h hr_u_8
    refine lv_aload_n hx hb dX0_statement_113 rfl (lv_at hl 0 rfl) ?_
    obtain ⟨y_11, u_10, h_u_10, h⟩ := bt_of h
    refine kc_X0_body X hrec  hS h_u_10 hFd hLd hC hl.1 (Nat.le_of_ble_eq_true rfl) dX0_statement_114 (fun r_u_10 hr_u_10 H locs hS => ?_) (fun x9 hn H locs q9 ce hS a1 a2 a3 => by obtain ⟨e2, rfl⟩ := bt_no h hn; exact hX _ e2 _ _ _ _ _ _ _ hS a1 a2 a3)
    replace h := bt_ok h hr_u_10
    refine lv_goto (tgt := 190) hx hb dX0_statement_117 (by decide) ?_
    obtain ⟨e9, rfl⟩ := so9 h
    exact hE _ e9.symm _ _ _ _ hS dX0_statement_190
  have h := im e_6 h
  by_cases e_12 : r_2 = 21
  · have h := ip e_12 h
    refine lv_lookup (off := 113) (tgt := 120) hx hb dX0_statement_7 (by decide) (by rw [e_12]; decide) (by decide) ?_
    refine lv_aload_n hx hb dX0_statement_120 rfl (lv_at hl 0 rfl) ?_
    obtain ⟨y_14, u_13, h_u_13, h⟩ := bt_of h
    refine kc_X0_counted X hrec  hS h_u_13 hFd hLd hC hl.1 (Nat.le_of_ble_eq_true rfl) dX0_statement_121 (fun r_u_13 hr_u_13 H locs hS => ?_) (fun x9 hn H locs q9 ce hS a1 a2 a3 => by obtain ⟨e2, rfl⟩ := bt_no h hn; exact hX _ e2 _ _ _ _ _ _ _ hS a1 a2 a3)
    replace h := bt_ok h hr_u_13
    refine lv_goto (tgt := 190) hx hb dX0_statement_124 (by decide) ?_
    obtain ⟨e9, rfl⟩ := so9 h
    exact hE _ e9.symm _ _ _ _ hS dX0_statement_190
  have h := im e_12 h
  by_cases e_15 : r_2 = 22
  · have h := ip e_15 h
    refine lv_lookup (off := 120) (tgt := 127) hx hb dX0_statement_7 (by decide) (by rw [e_15]; decide) (by decide) ?_
    refine lv_aload_n hx hb dX0_statement_127 rfl (lv_at hl 0 rfl) ?_
    obtain ⟨y_17, u_16, h_u_16, h⟩ := bt_of h
    refine kc_X0_cases X hrec  hS h_u_16 hFd hLd hC hl.1 (Nat.le_of_ble_eq_true rfl) dX0_statement_128 (fun r_u_16 hr_u_16 H locs hS => ?_) (fun x9 hn H locs q9 ce hS a1 a2 a3 => by obtain ⟨e2, rfl⟩ := bt_no h hn; exact hX _ e2 _ _ _ _ _ _ _ hS a1 a2 a3)
    replace h := bt_ok h hr_u_16
    refine lv_goto (tgt := 190) hx hb dX0_statement_131 (by decide) ?_
    obtain ⟨e9, rfl⟩ := so9 h
    exact hE _ e9.symm _ _ _ _ hS dX0_statement_190
  have h := im e_15 h
  by_cases e_18 : r_2 = 25
  · have h := ip e_18 h
    refine lv_lookup (off := 127) (tgt := 134) hx hb dX0_statement_7 (by decide) (by rw [e_18]; decide) (by decide) ?_
    refine lv_aload_n hx hb dX0_statement_134 rfl (lv_at hl 0 rfl) ?_
    refine cg_X0_9 X hS dX0_statement_135 ?_
    obtain ⟨r_u_19, u_19, h_u_19, h⟩ := bc_of h
    refine kc_X9_next_RX0 X  hS h_u_19 (Nat.le_trans (Nat.le_of_ble_eq_true rfl) hF) (Nat.le_trans (Nat.le_of_ble_eq_true rfl) hL) hl.1 (Nat.le_of_ble_eq_true rfl) dX0_statement_138 (fun H locs hS => ?_)
    refine lv_aload_n hx hb dX0_statement_141 rfl (lv_at hl 0 rfl) ?_
    refine cg_X0_9 X hS dX0_statement_142 ?_
    refine lv_bipush (v := 59) hx hb dX0_statement_145 (by decide) ?_
    obtain ⟨y_21, u_20, h_u_20, h⟩ := bt_of h
    refine kc_X9_take_RX0 hst X  hS h_u_20 (Nat.le_trans (Nat.le_of_ble_eq_true rfl) hF) (Nat.le_trans (Nat.le_of_ble_eq_true rfl) hL) hC hl.1 (Nat.le_of_ble_eq_true rfl) dX0_statement_147 (fun r_u_20 hr_u_20 H locs hS => ?_) (fun x9 hn H locs q9 ce hS a1 a2 a3 => by obtain ⟨e2, rfl⟩ := bt_no h hn; exact hX _ e2 _ _ _ _ _ _ _ hS a1 a2 a3)
    replace h := bt_ok h hr_u_20
    refine lv_goto (tgt := 190) hx hb dX0_statement_150 (by decide) ?_
    obtain ⟨e9, rfl⟩ := so9 h
    exact hE _ e9.symm _ _ _ _ hS dX0_statement_190
  have h := im e_18 h
  by_cases e_22 : r_2 = 26
  · have h := ip e_22 h
    refine lv_lookup (off := 127) (tgt := 134) hx hb dX0_statement_7 (by decide) (by rw [e_22]; decide) (by decide) ?_
    refine lv_aload_n hx hb dX0_statement_134 rfl (lv_at hl 0 rfl) ?_
    refine cg_X0_9 X hS dX0_statement_135 ?_
    obtain ⟨r_u_23, u_23, h_u_23, h⟩ := bc_of h
    refine kc_X9_next_RX0 X  hS h_u_23 (Nat.le_trans (Nat.le_of_ble_eq_true rfl) hF) (Nat.le_trans (Nat.le_of_ble_eq_true rfl) hL) hl.1 (Nat.le_of_ble_eq_true rfl) dX0_statement_138 (fun H locs hS => ?_)
    refine lv_aload_n hx hb dX0_statement_141 rfl (lv_at hl 0 rfl) ?_
    refine cg_X0_9 X hS dX0_statement_142 ?_
    refine lv_bipush (v := 59) hx hb dX0_statement_145 (by decide) ?_
    obtain ⟨y_25, u_24, h_u_24, h⟩ := bt_of h
    refine kc_X9_take_RX0 hst X  hS h_u_24 (Nat.le_trans (Nat.le_of_ble_eq_true rfl) hF) (Nat.le_trans (Nat.le_of_ble_eq_true rfl) hL) hC hl.1 (Nat.le_of_ble_eq_true rfl) dX0_statement_147 (fun r_u_24 hr_u_24 H locs hS => ?_) (fun x9 hn H locs q9 ce hS a1 a2 a3 => by obtain ⟨e2, rfl⟩ := bt_no h hn; exact hX _ e2 _ _ _ _ _ _ _ hS a1 a2 a3)
    replace h := bt_ok h hr_u_24
    refine lv_goto (tgt := 190) hx hb dX0_statement_150 (by decide) ?_
    obtain ⟨e9, rfl⟩ := so9 h
    exact hE _ e9.symm _ _ _ _ hS dX0_statement_190
  have h := im e_22 h
  by_cases e_26 : r_2 = 27
  · have h := ip e_26 h
    refine lv_lookup (off := 146) (tgt := 153) hx hb dX0_statement_7 (by decide) (by rw [e_26]; decide) (by decide) ?_
    refine lv_aload_n hx hb dX0_statement_153 rfl (lv_at hl 0 rfl) ?_
    obtain ⟨y_28, u_27, h_u_27, h⟩ := bt_of h
    refine kc_X0_returned_RX0 hst X  hS h_u_27 (Nat.le_trans (Nat.le_of_ble_eq_true rfl) hF) (Nat.le_trans (Nat.le_of_ble_eq_true rfl) hL) hC hl.1 (Nat.le_of_ble_eq_true rfl) dX0_statement_154 (fun r_u_27 hr_u_27 H locs hS => ?_) (fun x9 hn H locs q9 ce hS a1 a2 a3 => by obtain ⟨e2, rfl⟩ := bt_no h hn; exact hX _ e2 _ _ _ _ _ _ _ hS a1 a2 a3)
    replace h := bt_ok h hr_u_27
    refine lv_goto (tgt := 190) hx hb dX0_statement_157 (by decide) ?_
    obtain ⟨e9, rfl⟩ := so9 h
    exact hE _ e9.symm _ _ _ _ hS dX0_statement_190
  have h := im e_26 h
  by_cases e_29 : r_2 = 28
  · have h := ip e_29 h
    refine lv_lookup (off := 153) (tgt := 160) hx hb dX0_statement_7 (by decide) (by rw [e_29]; decide) (by decide) ?_
    refine lv_aload_n hx hb dX0_statement_160 rfl (lv_at hl 0 rfl) ?_
    refine cg_X0_9 X hS dX0_statement_161 ?_
    obtain ⟨r_u_30, u_30, h_u_30, h⟩ := bc_of h
    refine kc_X9_next_RX0 X  hS h_u_30 (Nat.le_trans (Nat.le_of_ble_eq_true rfl) hF) (Nat.le_trans (Nat.le_of_ble_eq_true rfl) hL) hl.1 (Nat.le_of_ble_eq_true rfl) dX0_statement_164 (fun H locs hS => ?_)
    refine lv_aload_n hx hb dX0_statement_167 rfl (lv_at hl 0 rfl) ?_
    obtain ⟨y_32, u_31, h_u_31, h⟩ := bt_of h
    refine kg_X0_expression_RX0 hst X  hS h_u_31 (Nat.le_trans (Nat.le_of_ble_eq_true rfl) hF) (Nat.le_trans (Nat.le_of_ble_eq_true rfl) hL) hC hl.1 (Nat.le_of_ble_eq_true rfl) dX0_statement_168 (fun r_u_31 hr_u_31 H locs hS => ?_) (fun x9 hn H locs q9 ce hS a1 a2 a3 => by obtain ⟨e2, rfl⟩ := bt_no h hn; exact hX _ e2 _ _ _ _ _ _ _ hS a1 a2 a3)
    replace h := bt_ok h hr_u_31
    refine lv_aload_n hx hb dX0_statement_171 rfl (lv_at hl 0 rfl) ?_
    refine cg_X0_9 X hS dX0_statement_172 ?_
    refine lv_bipush (v := 59) hx hb dX0_statement_175 (by decide) ?_
    obtain ⟨y_34, u_33, h_u_33, h⟩ := bt_of h
    refine kc_X9_take_RX0 hst X  hS h_u_33 (Nat.le_trans (Nat.le_of_ble_eq_true rfl) hF) (Nat.le_trans (Nat.le_of_ble_eq_true rfl) hL) hC hl.1 (Nat.le_of_ble_eq_true rfl) dX0_statement_177 (fun r_u_33 hr_u_33 H locs hS => ?_) (fun x9 hn H locs q9 ce hS a1 a2 a3 => by obtain ⟨e2, rfl⟩ := bt_no h hn; exact hX _ e2 _ _ _ _ _ _ _ hS a1 a2 a3)
    replace h := bt_ok h hr_u_33
    refine lv_goto (tgt := 190) hx hb dX0_statement_180 (by decide) ?_
    obtain ⟨e9, rfl⟩ := so9 h
    exact hE _ e9.symm _ _ _ _ hS dX0_statement_190
  have h := im e_29 h
  by_cases e_35 : r_2 = 128
  · have h := ip e_35 h
    refine lv_lookup (off := 81) (tgt := 88) hx hb dX0_statement_7 (by decide) (by rw [e_35]; decide) (by decide) ?_
    refine lv_aload_n hx hb dX0_statement_88 rfl (lv_at hl 0 rfl) ?_
    obtain ⟨y_37, u_36, h_u_36, h⟩ := bt_of h
    refine kc_X0_named_RX0 hst X  hS h_u_36 (Nat.le_trans (Nat.le_of_ble_eq_true rfl) hF) (Nat.le_trans (Nat.le_of_ble_eq_true rfl) hL) hC hl.1 (Nat.le_of_ble_eq_true rfl) dX0_statement_89 (fun r_u_36 hr_u_36 H locs hS => ?_) (fun x9 hn H locs q9 ce hS a1 a2 a3 => by obtain ⟨e2, rfl⟩ := bt_no h hn; exact hX _ e2 _ _ _ _ _ _ _ hS a1 a2 a3)
    replace h := bt_ok h hr_u_36
    refine lv_goto (tgt := 190) hx hb dX0_statement_92 (by decide) ?_
    obtain ⟨e9, rfl⟩ := so9 h
    exact hE _ e9.symm _ _ _ _ hS dX0_statement_190
  have h := im e_35 h
  have ne_3 : ¬ (17 : Int) = (r_2).toInt := fun q => e_3 (Int32.toInt_inj.mp (q.symm.trans (by decide)))
  have ne_6 : ¬ (20 : Int) = (r_2).toInt := fun q => e_6 (Int32.toInt_inj.mp (q.symm.trans (by decide)))
  have ne_12 : ¬ (21 : Int) = (r_2).toInt := fun q => e_12 (Int32.toInt_inj.mp (q.symm.trans (by decide)))
  have ne_15 : ¬ (22 : Int) = (r_2).toInt := fun q => e_15 (Int32.toInt_inj.mp (q.symm.trans (by decide)))
  have ne_18 : ¬ (25 : Int) = (r_2).toInt := fun q => e_18 (Int32.toInt_inj.mp (q.symm.trans (by decide)))
  have ne_22 : ¬ (26 : Int) = (r_2).toInt := fun q => e_22 (Int32.toInt_inj.mp (q.symm.trans (by decide)))
  have ne_26 : ¬ (27 : Int) = (r_2).toInt := fun q => e_26 (Int32.toInt_inj.mp (q.symm.trans (by decide)))
  have ne_29 : ¬ (28 : Int) = (r_2).toInt := fun q => e_29 (Int32.toInt_inj.mp (q.symm.trans (by decide)))
  have ne_35 : ¬ (128 : Int) = (r_2).toInt := fun q => e_35 (Int32.toInt_inj.mp (q.symm.trans (by decide)))
  refine lv_lookup (off := 176) (tgt := 183) hx hb dX0_statement_7 (by decide) (by simp [Op.lookupswitch.offset, ne_3, ne_6, ne_12, ne_15, ne_18, ne_22, ne_26, ne_29, ne_35]) (by decide) ?_
  refine lv_aload_n hx hb dX0_statement_183 rfl (lv_at hl 0 rfl) ?_
  refine cg_X0_9 X hS dX0_statement_184 ?_
  obtain ⟨y_39, u_38, h_u_38, h⟩ := bt_of h
  refine kc_X9_refuseToken_RX0 hst X  hS h_u_38 (Nat.le_trans (Nat.le_of_ble_eq_true rfl) hF) (Nat.le_trans (Nat.le_of_ble_eq_true rfl) hL) hC hl.1 (Nat.le_of_ble_eq_true rfl) dX0_statement_187 (fun r_u_38 hr_u_38 H locs hS => ?_) (fun x9 hn H locs q9 ce hS a1 a2 a3 => by obtain ⟨e2, rfl⟩ := bt_no h hn; exact hX _ e2 _ _ _ _ _ _ _ hS a1 a2 a3)
  replace h := bt_ok h hr_u_38
  obtain ⟨e9, rfl⟩ := so9 h
  exact hE _ e9.symm _ _ _ _ hS dX0_statement_190
def F_X0_statement (N : Nat) (ro : Nat → Nat → Int32 → Int32 → CSt → Option (Sum Nat Int32 × CSt)) (u : CSt) : Option ((Sum Nat Int32) × CSt) := B_X0_statement_0 N ro u
set_option maxHeartbeats 4000000 in
theorem k_X0_statement (l : Launch) (hst : l.stackTraces = false) (D : va_G) (kA : Nat → ClassId) (V Z : Nat → Nat) (N : Nat) {d : Nat} (ro : Nat → Nat → Int32 → Int32 → CSt → Option (Sum Nat Int32 × CSt)) (hrec : RecOK_GS l D kA V Z d ro) (u : CSt) (sz : Nat) {y : (Sum Nat Int32)} {w : CSt} (h : F_X0_statement N ro u = some (y, w)) : vx_Met l yX0_statement (Cond.code yX0_statement cX0_statement 1 none :: GW) { frames := d + 1 + 230, cells := 1, slots := 6, locals := 60 * (d + 1) + 14000 } (cPc D kA V Z [.ref (Z 208)] u sz) (cQvx D kA Z u sz y w) (cXc D kA Z u sz y w) 1 6 (va_A (CW kA Z u) sz) := by
  refine vx_ofW (cc := cX0_statement) (maxL := 1) (ret := none) (by decide) rfl ?_
  intro p e s m args below meth c s₁ Bd hml hxt hv
  obtain ⟨rfl, hsz, hP, hK, hD0, hE⟩ := hv
  have hts := atoms_spec (ws := Cond.code yX0_statement cX0_statement 1 none :: GW) Bd.pre
  have hl := lv_entry ([.ref (Z 208)]) (n := 1) (Nat.le_of_ble_eq_true rfl)
  rw [lg_entry_eq]
  generalize (lg_sl ([.ref (Z 208)]) ++ List.replicate (1 - (lg_sl ([.ref (Z 208)])).length) Slot.unset).toArray = ls at hl ⊢
  have hl : lv_has ls 1 [(0, .ref (Z 208))] := hl
  subst hsz
  have X : CC p s m ([.ref (Z 208)]).toArray c cX0_statement 1 (Cond.code yX0_statement cX0_statement 1 none) RX0 D kA V (va_A (CW kA Z u) s.heap.size) := ⟨⟨Bd.exec, Bd.bytes, hml, findClass_of_methodNamed Bd.named, hts⟩, hK, hE, fun q h => Or.inr h⟩
  refine b_X0_statement_0 X (cend_vx X Bd.returns Bd.notSynchronized) hst (cend_X X hxt Bd.notSynchronized) ⟨Nat.le_refl _, Nat.le_refl _⟩ (Nat.le_trans (Nat.le_of_ble_eq_true rfl) (Nat.le_add_left 230 _)) (Nat.le_trans (Nat.le_of_ble_eq_true rfl) (Nat.le_add_left 14000 _)) hrec (Nat.le_refl _) (Nat.le_refl _) h  ⟨hP, hD0.self, va_S.rf⟩ (lv_sub hl [0] rfl)
def B_X0_choice_57 (N : Nat) (ro : Nat → Nat → Int32 → Int32 → CSt → Option (Sum Nat Int32 × CSt)) (u : CSt) : Option ((Sum Nat Int32) × CSt) := bc (F_X9_is N 19 u) fun r_2 u_1 => if r_2 = (0 : Int32) then (some (.inr 0, u_1)) else (bc (F_X9_next N u_1) fun _ u_4 => bt (ro 0 0 0 0 u_4) fun _ u_5 => some (.inr 0, u_5))
set_option maxHeartbeats 4000000 in
theorem b_X0_choice_57 {y : (Sum Nat Int32)} {ro : Nat → Nat → Int32 → Int32 → CSt → Option (Sum Nat Int32 × CSt)} (X : CC p s m args c cX0_choice 2 (Cond.code yX0_choice cX0_choice 2 none) RX0 D kA V A) (hE : CEvx p l e R s m args below meth c cX0_choice D kA Z A Q y w) (hst : l.stackTraces = false) (hX : CX p l e R s m args below meth c D kA Z A Q y w) (hC : 1 ≤ R.cells ∧ 6 ≤ R.slots) (hF : 215 ≤ R.frames) (hL : 12521 ≤ R.locals) (hrec : RecOK_GS l D kA V Z d ro) (hFd : d + 1 + 230 ≤ R.frames) (hLd : 60 * (d + 1) + 14000 ≤ R.locals) {u : CSt}  (h : B_X0_choice_57 N ro u = some (y, w))  (hS : CS D kA Z A s u H locs) (hl : lv_has ls 2 [(0, .ref (Z 208))]) : W p l e R s m args below meth c H locs 0 0 Q (F0 m 57 ls []) := by
  obtain ⟨⟨hx, hb, hml, hown, hts⟩, hK, hEV, hA⟩ := id X
  have hG : ∀ w ∈ GW, w.before args s = true := fun w h => hts w (List.mem_cons_of_mem _ h)
  unfold B_X0_choice_57 at h
  refine lv_aload_n hx hb dX0_choice_57 rfl (lv_at hl 0 rfl) ?_
  refine cg_X0_9 X hS dX0_choice_58 ?_
  refine lv_bipush (v := 19) hx hb dX0_choice_61 (by decide) ?_
  obtain ⟨r_2, u_1, h_u_1, h⟩ := bc_of h
  refine kc_X9_is_RX0 X  hS h_u_1 (Nat.le_trans (Nat.le_of_ble_eq_true rfl) hF) (Nat.le_trans (Nat.le_of_ble_eq_true rfl) hL) hl.1 (Nat.le_of_ble_eq_true rfl) dX0_choice_63 (fun H locs hS => ?_)
  refine lv_if_eq (tgt := 80) hx hb dX0_choice_66 (by decide) (fun c_3 => ?_) (fun c_3 => ?_)
  · have h := ip (c_3) h
    obtain ⟨e9, rfl⟩ := so9 h
    exact hE _ e9.symm _ _ _ _ hS dX0_choice_80
  · have h := im (c_3) h
    refine lv_aload_n hx hb dX0_choice_69 rfl (lv_at hl 0 rfl) ?_
    refine cg_X0_9 X hS dX0_choice_70 ?_
    obtain ⟨r_u_4, u_4, h_u_4, h⟩ := bc_of h
    refine kc_X9_next_RX0 X  hS h_u_4 (Nat.le_trans (Nat.le_of_ble_eq_true rfl) hF) (Nat.le_trans (Nat.le_of_ble_eq_true rfl) hL) hl.1 (Nat.le_of_ble_eq_true rfl) dX0_choice_73 (fun H locs hS => ?_)
    refine lv_aload_n hx hb dX0_choice_76 rfl (lv_at hl 0 rfl) ?_
    obtain ⟨y_6, u_5, h_u_5, h⟩ := bt_of h
    refine kc_X0_body X hrec  hS h_u_5 hFd hLd hC hl.1 (Nat.le_of_ble_eq_true rfl) dX0_choice_77 (fun r_u_5 hr_u_5 H locs hS => ?_) (fun x9 hn H locs q9 ce hS a1 a2 a3 => by obtain ⟨e2, rfl⟩ := bt_no h hn; exact hX _ e2 _ _ _ _ _ _ _ hS a1 a2 a3)
    replace h := bt_ok h hr_u_5
    obtain ⟨e9, rfl⟩ := so9 h
    exact hE _ e9.symm _ _ _ _ hS dX0_choice_80
def B_X0_choice_17 (N : Nat) (ro : Nat → Nat → Int32 → Int32 → CSt → Option (Sum Nat Int32 × CSt)) (R_17 : Int32 × CSt → Option ((Sum Nat Int32) × CSt)) (l1 : Int32) (u : CSt) : Option ((Sum Nat Int32) × CSt) := if (1500 : Int32) ≤ l1 then (B_X0_choice_57 N ro u) else (bc (F_X9_is N 18 u) fun r_9 u_8 => if r_9 = (0 : Int32) then (B_X0_choice_57 N ro u_8) else (bc (F_X9_next N u_8) fun _ u_11 => bt (G_X0_expression N u_11) fun _ u_12 => bt (ro 0 0 0 0 u_12) fun _ u_14 => R_17 ((l1 + 1), u_14)))
set_option maxHeartbeats 4000000 in
theorem b_X0_choice_17 {y : (Sum Nat Int32)} {ro : Nat → Nat → Int32 → Int32 → CSt → Option (Sum Nat Int32 × CSt)} (X : CC p s m args c cX0_choice 2 (Cond.code yX0_choice cX0_choice 2 none) RX0 D kA V A) (hE : CEvx p l e R s m args below meth c cX0_choice D kA Z A Q y w) (hst : l.stackTraces = false) (hX : CX p l e R s m args below meth c D kA Z A Q y w) (hC : 1 ≤ R.cells ∧ 6 ≤ R.slots) (hF : 215 ≤ R.frames) (hL : 12521 ≤ R.locals) (hrec : RecOK_GS l D kA V Z d ro) (hFd : d + 1 + 230 ≤ R.frames) (hLd : 60 * (d + 1) + 14000 ≤ R.locals) {R_17 : Int32 × CSt → Option ((Sum Nat Int32) × CSt)} {l1 : Int32} {u : CSt} (hR_17 : ∀ (l1 : Int32) (u : CSt), R_17 (l1, u) = some (y, w) → ∀ (H : Heap) (locs : List Loc) (ls : Array Slot), CS D kA Z A s u H locs → lv_has ls 2 [(0, .ref (Z 208)), (1, .int l1)] → W p l e R s m args below meth c H locs 0 0 Q (F0 m 17 ls [])) (h : B_X0_choice_17 N ro R_17 l1 u = some (y, w))  (hS : CS D kA Z A s u H locs) (hl : lv_has ls 2 [(0, .ref (Z 208)), (1, .int l1)]) : W p l e R s m args below meth c H locs 0 0 Q (F0 m 17 ls []) := by
  obtain ⟨⟨hx, hb, hml, hown, hts⟩, hK, hEV, hA⟩ := id X
  have hG : ∀ w ∈ GW, w.before args s = true := fun w h => hts w (List.mem_cons_of_mem _ h)
  unfold B_X0_choice_17 at h
  refine lv_iload_n hx hb dX0_choice_17 rfl (lv_at hl 1 rfl) ?_
  refine lv_sipush (v := 1500) hx hb dX0_choice_18 (by decide) ?_
  refine lv_icmp_ge (tgt := 57) hx hb dX0_choice_21 (by decide) (fun c_7 => ?_) (fun c_7 => ?_)
  · have h := ip (c_7) h
    exact b_X0_choice_57 X hE hst hX hC hF hL hrec hFd hLd h  hS (lv_sub hl [0] rfl)
  · have h := im (c_7) h
    refine lv_aload_n hx hb dX0_choice_24 rfl (lv_at hl 0 rfl) ?_
    refine cg_X0_9 X hS dX0_choice_25 ?_
    refine lv_bipush (v := 18) hx hb dX0_choice_28 (by decide) ?_
    obtain ⟨r_9, u_8, h_u_8, h⟩ := bc_of h
    refine kc_X9_is_RX0 X  hS h_u_8 (Nat.le_trans (Nat.le_of_ble_eq_true rfl) hF) (Nat.le_trans (Nat.le_of_ble_eq_true rfl) hL) hl.1 (Nat.le_of_ble_eq_true rfl) dX0_choice_30 (fun H locs hS => ?_)
    refine lv_if_eq (tgt := 57) hx hb dX0_choice_33 (by decide) (fun c_10 => ?_) (fun c_10 => ?_)
    · have h := ip (c_10) h
      exact b_X0_choice_57 X hE hst hX hC hF hL hrec hFd hLd h  hS (lv_sub hl [0] rfl)
    · have h := im (c_10) h
      refine lv_aload_n hx hb dX0_choice_36 rfl (lv_at hl 0 rfl) ?_
      refine cg_X0_9 X hS dX0_choice_37 ?_
      obtain ⟨r_u_11, u_11, h_u_11, h⟩ := bc_of h
      refine kc_X9_next_RX0 X  hS h_u_11 (Nat.le_trans (Nat.le_of_ble_eq_true rfl) hF) (Nat.le_trans (Nat.le_of_ble_eq_true rfl) hL) hl.1 (Nat.le_of_ble_eq_true rfl) dX0_choice_40 (fun H locs hS => ?_)
      refine lv_aload_n hx hb dX0_choice_43 rfl (lv_at hl 0 rfl) ?_
      obtain ⟨y_13, u_12, h_u_12, h⟩ := bt_of h
      refine kg_X0_expression_RX0 hst X  hS h_u_12 (Nat.le_trans (Nat.le_of_ble_eq_true rfl) hF) (Nat.le_trans (Nat.le_of_ble_eq_true rfl) hL) hC hl.1 (Nat.le_of_ble_eq_true rfl) dX0_choice_44 (fun r_u_12 hr_u_12 H locs hS => ?_) (fun x9 hn H locs q9 ce hS a1 a2 a3 => by obtain ⟨e2, rfl⟩ := bt_no h hn; exact hX _ e2 _ _ _ _ _ _ _ hS a1 a2 a3)
      replace h := bt_ok h hr_u_12
      refine lv_aload_n hx hb dX0_choice_47 rfl (lv_at hl 0 rfl) ?_
      obtain ⟨y_15, u_14, h_u_14, h⟩ := bt_of h
      refine kc_X0_body X hrec  hS h_u_14 hFd hLd hC hl.1 (Nat.le_of_ble_eq_true rfl) dX0_choice_48 (fun r_u_14 hr_u_14 H locs hS => ?_) (fun x9 hn H locs q9 ce hS a1 a2 a3 => by obtain ⟨e2, rfl⟩ := bt_no h hn; exact hX _ e2 _ _ _ _ _ _ _ hS a1 a2 a3)
      replace h := bt_ok h hr_u_14
      refine lv_iinc (v := l1 + 1) (lv' := [(1, .int (l1 + 1)), (0, .ref (Z 208))]) hx hb dX0_choice_51 hl (k := 1) rfl rfl (by decide) rfl (fun ls hl => ?_)
      refine lv_goto (tgt := 17) hx hb dX0_choice_54 (by decide) ?_
      exact hR_17 _ _  h _ _ _ hS (lv_sub hl [1, 0] rfl)
def LP_X0_choice_17 (N : Nat) (ro : Nat → Nat → Int32 → Int32 → CSt → Option (Sum Nat Int32 × CSt)) : Nat → Int32 × CSt → Option ((Sum Nat Int32) × CSt) := lp (fun R a => B_X0_choice_17 N ro R a.1 a.2)
theorem bl_X0_choice_17 {y : (Sum Nat Int32)} {ro : Nat → Nat → Int32 → Int32 → CSt → Option (Sum Nat Int32 × CSt)} (X : CC p s m args c cX0_choice 2 (Cond.code yX0_choice cX0_choice 2 none) RX0 D kA V A) (hE : CEvx p l e R s m args below meth c cX0_choice D kA Z A Q y w) (hst : l.stackTraces = false) (hX : CX p l e R s m args below meth c D kA Z A Q y w) (hC : 1 ≤ R.cells ∧ 6 ≤ R.slots) (hF : 215 ≤ R.frames) (hL : 12521 ≤ R.locals) (hrec : RecOK_GS l D kA V Z d ro) (hFd : d + 1 + 230 ≤ R.frames) (hLd : 60 * (d + 1) + 14000 ≤ R.locals)  : ∀ (n : Nat) (l1 : Int32) (u : CSt), LP_X0_choice_17 N ro n (l1, u) = some (y, w) → ∀ (H : Heap) (locs : List Loc) (ls : Array Slot), CS D kA Z A s u H locs → lv_has ls 2 [(0, .ref (Z 208)), (1, .int l1)] → W p l e R s m args below meth c H locs 0 0 Q (F0 m 17 ls []) := by
  intro n
  induction n with
  | zero => intro l1 u h; exact nomatch h
  | succ n ih => intro l1 u h H locs ls hS hl; exact b_X0_choice_17 (N := N) (R_17 := LP_X0_choice_17 N ro n) X hE hst hX hC hF hL hrec hFd hLd ih h  hS hl
def B_X0_choice_0 (N : Nat) (ro : Nat → Nat → Int32 → Int32 → CSt → Option (Sum Nat Int32 × CSt)) (u : CSt) : Option ((Sum Nat Int32) × CSt) := bc (F_X9_next N u) fun _ u_16 => bt (G_X0_expression N u_16) fun _ u_17 => bt (ro 0 0 0 0 u_17) fun _ u_19 => LP_X0_choice_17 N ro N (0, u_19)
set_option maxHeartbeats 4000000 in
theorem b_X0_choice_0 {y : (Sum Nat Int32)} {ro : Nat → Nat → Int32 → Int32 → CSt → Option (Sum Nat Int32 × CSt)} (X : CC p s m args c cX0_choice 2 (Cond.code yX0_choice cX0_choice 2 none) RX0 D kA V A) (hE : CEvx p l e R s m args below meth c cX0_choice D kA Z A Q y w) (hst : l.stackTraces = false) (hX : CX p l e R s m args below meth c D kA Z A Q y w) (hC : 1 ≤ R.cells ∧ 6 ≤ R.slots) (hF : 215 ≤ R.frames) (hL : 12521 ≤ R.locals) (hrec : RecOK_GS l D kA V Z d ro) (hFd : d + 1 + 230 ≤ R.frames) (hLd : 60 * (d + 1) + 14000 ≤ R.locals) {u : CSt}  (h : B_X0_choice_0 N ro u = some (y, w))  (hS : CS D kA Z A s u H locs) (hl : lv_has ls 2 [(0, .ref (Z 208))]) : W p l e R s m args below meth c H locs 0 0 Q (F0 m 0 ls []) := by
  obtain ⟨⟨hx, hb, hml, hown, hts⟩, hK, hEV, hA⟩ := id X
  have hG : ∀ w ∈ GW, w.before args s = true := fun w h => hts w (List.mem_cons_of_mem _ h)
  unfold B_X0_choice_0 at h
  refine lv_aload_n hx hb dX0_choice_0 rfl (lv_at hl 0 rfl) ?_
  refine cg_X0_9 X hS dX0_choice_1 ?_
  obtain ⟨r_u_16, u_16, h_u_16, h⟩ := bc_of h
  refine kc_X9_next_RX0 X  hS h_u_16 (Nat.le_trans (Nat.le_of_ble_eq_true rfl) hF) (Nat.le_trans (Nat.le_of_ble_eq_true rfl) hL) hl.1 (Nat.le_of_ble_eq_true rfl) dX0_choice_4 (fun H locs hS => ?_)
  refine lv_aload_n hx hb dX0_choice_7 rfl (lv_at hl 0 rfl) ?_
  obtain ⟨y_18, u_17, h_u_17, h⟩ := bt_of h
  refine kg_X0_expression_RX0 hst X  hS h_u_17 (Nat.le_trans (Nat.le_of_ble_eq_true rfl) hF) (Nat.le_trans (Nat.le_of_ble_eq_true rfl) hL) hC hl.1 (Nat.le_of_ble_eq_true rfl) dX0_choice_8 (fun r_u_17 hr_u_17 H locs hS => ?_) (fun x9 hn H locs q9 ce hS a1 a2 a3 => by obtain ⟨e2, rfl⟩ := bt_no h hn; exact hX _ e2 _ _ _ _ _ _ _ hS a1 a2 a3)
  replace h := bt_ok h hr_u_17
  refine lv_aload_n hx hb dX0_choice_11 rfl (lv_at hl 0 rfl) ?_
  obtain ⟨y_20, u_19, h_u_19, h⟩ := bt_of h
  refine kc_X0_body X hrec  hS h_u_19 hFd hLd hC hl.1 (Nat.le_of_ble_eq_true rfl) dX0_choice_12 (fun r_u_19 hr_u_19 H locs hS => ?_) (fun x9 hn H locs q9 ce hS a1 a2 a3 => by obtain ⟨e2, rfl⟩ := bt_no h hn; exact hX _ e2 _ _ _ _ _ _ _ hS a1 a2 a3)
  replace h := bt_ok h hr_u_19
  refine lv_iconst (v := 0) hx hb dX0_choice_15 (by decide) ?_
  refine lv_istore_n (lv' := [(1, .int 0), (0, .ref (Z 208))]) hx hb dX0_choice_16 rfl hl (by decide) rfl (fun ls hl => ?_)
  exact bl_X0_choice_17 X hE hst hX hC hF hL hrec hFd hLd _ _ _  h _ _ _ hS (lv_sub hl [1, 0] rfl)
def F_X0_choice (N : Nat) (ro : Nat → Nat → Int32 → Int32 → CSt → Option (Sum Nat Int32 × CSt)) (u : CSt) : Option ((Sum Nat Int32) × CSt) := B_X0_choice_0 N ro u
set_option maxHeartbeats 4000000 in
theorem k_X0_choice (l : Launch) (hst : l.stackTraces = false) (D : va_G) (kA : Nat → ClassId) (V Z : Nat → Nat) (N : Nat) {d : Nat} (ro : Nat → Nat → Int32 → Int32 → CSt → Option (Sum Nat Int32 × CSt)) (hrec : RecOK_GS l D kA V Z d ro) (u : CSt) (sz : Nat) {y : (Sum Nat Int32)} {w : CSt} (h : F_X0_choice N ro u = some (y, w)) : vx_Met l yX0_choice (Cond.code yX0_choice cX0_choice 2 none :: GW) { frames := d + 1 + 230, cells := 1, slots := 6, locals := 60 * (d + 1) + 14000 } (cPc D kA V Z [.ref (Z 208)] u sz) (cQvx D kA Z u sz y w) (cXc D kA Z u sz y w) 1 6 (va_A (CW kA Z u) sz) := by
  refine vx_ofW (cc := cX0_choice) (maxL := 2) (ret := none) (by decide) rfl ?_
  intro p e s m args below meth c s₁ Bd hml hxt hv
  obtain ⟨rfl, hsz, hP, hK, hD0, hE⟩ := hv
  have hts := atoms_spec (ws := Cond.code yX0_choice cX0_choice 2 none :: GW) Bd.pre
  have hl := lv_entry ([.ref (Z 208)]) (n := 2) (Nat.le_of_ble_eq_true rfl)
  rw [lg_entry_eq]
  generalize (lg_sl ([.ref (Z 208)]) ++ List.replicate (2 - (lg_sl ([.ref (Z 208)])).length) Slot.unset).toArray = ls at hl ⊢
  have hl : lv_has ls 2 [(0, .ref (Z 208))] := hl
  subst hsz
  have X : CC p s m ([.ref (Z 208)]).toArray c cX0_choice 2 (Cond.code yX0_choice cX0_choice 2 none) RX0 D kA V (va_A (CW kA Z u) s.heap.size) := ⟨⟨Bd.exec, Bd.bytes, hml, findClass_of_methodNamed Bd.named, hts⟩, hK, hE, fun q h => Or.inr h⟩
  refine b_X0_choice_0 X (cend_vx X Bd.returns Bd.notSynchronized) hst (cend_X X hxt Bd.notSynchronized) ⟨Nat.le_refl _, Nat.le_refl _⟩ (Nat.le_trans (Nat.le_of_ble_eq_true rfl) (Nat.le_add_left 230 _)) (Nat.le_trans (Nat.le_of_ble_eq_true rfl) (Nat.le_add_left 14000 _)) hrec (Nat.le_refl _) (Nat.le_refl _) h  ⟨hP, hD0.self, va_S.rf⟩ (lv_sub hl [0] rfl)
def B_X0_counted_0 (N : Nat) (ro : Nat → Nat → Int32 → Int32 → CSt → Option (Sum Nat Int32 × CSt)) (u : CSt) : Option ((Sum Nat Int32) × CSt) := bc (F_X9_next N u) fun _ u_1 => bt (F_X9_take N 128 u_1) fun _ u_2 => bt (F_X9_take N 61 u_2) fun _ u_4 => bt (G_X0_expression N u_4) fun _ u_6 => bt (F_X9_take N 11822 u_6) fun _ u_8 => bt (G_X0_expression N u_8) fun _ u_10 => bt (ro 0 0 0 0 u_10) fun _ u_12 => some (.inr 0, u_12)
set_option maxHeartbeats 4000000 in
theorem b_X0_counted_0 {y : (Sum Nat Int32)} {ro : Nat → Nat → Int32 → Int32 → CSt → Option (Sum Nat Int32 × CSt)} (X : CC p s m args c cX0_counted 1 (Cond.code yX0_counted cX0_counted 1 none) RX0 D kA V A) (hE : CEvx p l e R s m args below meth c cX0_counted D kA Z A Q y w) (hst : l.stackTraces = false) (hX : CX p l e R s m args below meth c D kA Z A Q y w) (hC : 1 ≤ R.cells ∧ 6 ≤ R.slots) (hF : 215 ≤ R.frames) (hL : 12521 ≤ R.locals) (hrec : RecOK_GS l D kA V Z d ro) (hFd : d + 1 + 230 ≤ R.frames) (hLd : 60 * (d + 1) + 14000 ≤ R.locals) {u : CSt}  (h : B_X0_counted_0 N ro u = some (y, w))  (hS : CS D kA Z A s u H locs) (hl : lv_has ls 1 [(0, .ref (Z 208))]) : W p l e R s m args below meth c H locs 0 0 Q (F0 m 0 ls []) := by
  obtain ⟨⟨hx, hb, hml, hown, hts⟩, hK, hEV, hA⟩ := id X
  have hG : ∀ w ∈ GW, w.before args s = true := fun w h => hts w (List.mem_cons_of_mem _ h)
  unfold B_X0_counted_0 at h
  refine lv_aload_n hx hb dX0_counted_0 rfl (lv_at hl 0 rfl) ?_
  refine cg_X0_9 X hS dX0_counted_1 ?_
  obtain ⟨r_u_1, u_1, h_u_1, h⟩ := bc_of h
  refine kc_X9_next_RX0 X  hS h_u_1 (Nat.le_trans (Nat.le_of_ble_eq_true rfl) hF) (Nat.le_trans (Nat.le_of_ble_eq_true rfl) hL) hl.1 (Nat.le_of_ble_eq_true rfl) dX0_counted_4 (fun H locs hS => ?_)
  refine lv_aload_n hx hb dX0_counted_7 rfl (lv_at hl 0 rfl) ?_
  refine cg_X0_9 X hS dX0_counted_8 ?_
  refine lv_sipush (v := 128) hx hb dX0_counted_11 (by decide) ?_
  obtain ⟨y_3, u_2, h_u_2, h⟩ := bt_of h
  refine kc_X9_take_RX0 hst X  hS h_u_2 (Nat.le_trans (Nat.le_of_ble_eq_true rfl) hF) (Nat.le_trans (Nat.le_of_ble_eq_true rfl) hL) hC hl.1 (Nat.le_of_ble_eq_true rfl) dX0_counted_14 (fun r_u_2 hr_u_2 H locs hS => ?_) (fun x9 hn H locs q9 ce hS a1 a2 a3 => by obtain ⟨e2, rfl⟩ := bt_no h hn; exact hX _ e2 _ _ _ _ _ _ _ hS a1 a2 a3)
  replace h := bt_ok h hr_u_2
  refine lv_aload_n hx hb dX0_counted_17 rfl (lv_at hl 0 rfl) ?_
  refine cg_X0_9 X hS dX0_counted_18 ?_
  refine lv_bipush (v := 61) hx hb dX0_counted_21 (by decide) ?_
  obtain ⟨y_5, u_4, h_u_4, h⟩ := bt_of h
  refine kc_X9_take_RX0 hst X  hS h_u_4 (Nat.le_trans (Nat.le_of_ble_eq_true rfl) hF) (Nat.le_trans (Nat.le_of_ble_eq_true rfl) hL) hC hl.1 (Nat.le_of_ble_eq_true rfl) dX0_counted_23 (fun r_u_4 hr_u_4 H locs hS => ?_) (fun x9 hn H locs q9 ce hS a1 a2 a3 => by obtain ⟨e2, rfl⟩ := bt_no h hn; exact hX _ e2 _ _ _ _ _ _ _ hS a1 a2 a3)
  replace h := bt_ok h hr_u_4
  refine lv_aload_n hx hb dX0_counted_26 rfl (lv_at hl 0 rfl) ?_
  obtain ⟨y_7, u_6, h_u_6, h⟩ := bt_of h
  refine kg_X0_expression_RX0 hst X  hS h_u_6 (Nat.le_trans (Nat.le_of_ble_eq_true rfl) hF) (Nat.le_trans (Nat.le_of_ble_eq_true rfl) hL) hC hl.1 (Nat.le_of_ble_eq_true rfl) dX0_counted_27 (fun r_u_6 hr_u_6 H locs hS => ?_) (fun x9 hn H locs q9 ce hS a1 a2 a3 => by obtain ⟨e2, rfl⟩ := bt_no h hn; exact hX _ e2 _ _ _ _ _ _ _ hS a1 a2 a3)
  replace h := bt_ok h hr_u_6
  refine lv_aload_n hx hb dX0_counted_30 rfl (lv_at hl 0 rfl) ?_
  refine cg_X0_9 X hS dX0_counted_31 ?_
  refine lv_sipush (v := 11822) hx hb dX0_counted_34 (by decide) ?_
  obtain ⟨y_9, u_8, h_u_8, h⟩ := bt_of h
  refine kc_X9_take_RX0 hst X  hS h_u_8 (Nat.le_trans (Nat.le_of_ble_eq_true rfl) hF) (Nat.le_trans (Nat.le_of_ble_eq_true rfl) hL) hC hl.1 (Nat.le_of_ble_eq_true rfl) dX0_counted_37 (fun r_u_8 hr_u_8 H locs hS => ?_) (fun x9 hn H locs q9 ce hS a1 a2 a3 => by obtain ⟨e2, rfl⟩ := bt_no h hn; exact hX _ e2 _ _ _ _ _ _ _ hS a1 a2 a3)
  replace h := bt_ok h hr_u_8
  refine lv_aload_n hx hb dX0_counted_40 rfl (lv_at hl 0 rfl) ?_
  obtain ⟨y_11, u_10, h_u_10, h⟩ := bt_of h
  refine kg_X0_expression_RX0 hst X  hS h_u_10 (Nat.le_trans (Nat.le_of_ble_eq_true rfl) hF) (Nat.le_trans (Nat.le_of_ble_eq_true rfl) hL) hC hl.1 (Nat.le_of_ble_eq_true rfl) dX0_counted_41 (fun r_u_10 hr_u_10 H locs hS => ?_) (fun x9 hn H locs q9 ce hS a1 a2 a3 => by obtain ⟨e2, rfl⟩ := bt_no h hn; exact hX _ e2 _ _ _ _ _ _ _ hS a1 a2 a3)
  replace h := bt_ok h hr_u_10
  refine lv_aload_n hx hb dX0_counted_44 rfl (lv_at hl 0 rfl) ?_
  obtain ⟨y_13, u_12, h_u_12, h⟩ := bt_of h
  refine kc_X0_body X hrec  hS h_u_12 hFd hLd hC hl.1 (Nat.le_of_ble_eq_true rfl) dX0_counted_45 (fun r_u_12 hr_u_12 H locs hS => ?_) (fun x9 hn H locs q9 ce hS a1 a2 a3 => by obtain ⟨e2, rfl⟩ := bt_no h hn; exact hX _ e2 _ _ _ _ _ _ _ hS a1 a2 a3)
  replace h := bt_ok h hr_u_12
  obtain ⟨e9, rfl⟩ := so9 h
  exact hE _ e9.symm _ _ _ _ hS dX0_counted_48
def F_X0_counted (N : Nat) (ro : Nat → Nat → Int32 → Int32 → CSt → Option (Sum Nat Int32 × CSt)) (u : CSt) : Option ((Sum Nat Int32) × CSt) := B_X0_counted_0 N ro u
set_option maxHeartbeats 4000000 in
theorem k_X0_counted (l : Launch) (hst : l.stackTraces = false) (D : va_G) (kA : Nat → ClassId) (V Z : Nat → Nat) (N : Nat) {d : Nat} (ro : Nat → Nat → Int32 → Int32 → CSt → Option (Sum Nat Int32 × CSt)) (hrec : RecOK_GS l D kA V Z d ro) (u : CSt) (sz : Nat) {y : (Sum Nat Int32)} {w : CSt} (h : F_X0_counted N ro u = some (y, w)) : vx_Met l yX0_counted (Cond.code yX0_counted cX0_counted 1 none :: GW) { frames := d + 1 + 230, cells := 1, slots := 6, locals := 60 * (d + 1) + 14000 } (cPc D kA V Z [.ref (Z 208)] u sz) (cQvx D kA Z u sz y w) (cXc D kA Z u sz y w) 1 6 (va_A (CW kA Z u) sz) := by
  refine vx_ofW (cc := cX0_counted) (maxL := 1) (ret := none) (by decide) rfl ?_
  intro p e s m args below meth c s₁ Bd hml hxt hv
  obtain ⟨rfl, hsz, hP, hK, hD0, hE⟩ := hv
  have hts := atoms_spec (ws := Cond.code yX0_counted cX0_counted 1 none :: GW) Bd.pre
  have hl := lv_entry ([.ref (Z 208)]) (n := 1) (Nat.le_of_ble_eq_true rfl)
  rw [lg_entry_eq]
  generalize (lg_sl ([.ref (Z 208)]) ++ List.replicate (1 - (lg_sl ([.ref (Z 208)])).length) Slot.unset).toArray = ls at hl ⊢
  have hl : lv_has ls 1 [(0, .ref (Z 208))] := hl
  subst hsz
  have X : CC p s m ([.ref (Z 208)]).toArray c cX0_counted 1 (Cond.code yX0_counted cX0_counted 1 none) RX0 D kA V (va_A (CW kA Z u) s.heap.size) := ⟨⟨Bd.exec, Bd.bytes, hml, findClass_of_methodNamed Bd.named, hts⟩, hK, hE, fun q h => Or.inr h⟩
  refine b_X0_counted_0 X (cend_vx X Bd.returns Bd.notSynchronized) hst (cend_X X hxt Bd.notSynchronized) ⟨Nat.le_refl _, Nat.le_refl _⟩ (Nat.le_trans (Nat.le_of_ble_eq_true rfl) (Nat.le_add_left 230 _)) (Nat.le_trans (Nat.le_of_ble_eq_true rfl) (Nat.le_add_left 14000 _)) hrec (Nat.le_refl _) (Nat.le_refl _) h  ⟨hP, hD0.self, va_S.rf⟩ (lv_sub hl [0] rfl)
def B_X0_cases_87 (N : Nat) (ro : Nat → Nat → Int32 → Int32 → CSt → Option (Sum Nat Int32 × CSt)) (R_19 : Int32 × CSt → Option ((Sum Nat Int32) × CSt)) (l1 : Int32) (u : CSt) : Option ((Sum Nat Int32) × CSt) := bt (ro 0 0 0 0 u) fun _ u_1 => R_19 ((l1 + 1), u_1)
set_option maxHeartbeats 4000000 in
theorem b_X0_cases_87 {y : (Sum Nat Int32)} {ro : Nat → Nat → Int32 → Int32 → CSt → Option (Sum Nat Int32 × CSt)} (X : CC p s m args c cX0_cases 3 (Cond.code yX0_cases cX0_cases 3 none) RX0 D kA V A) (hE : CEvx p l e R s m args below meth c cX0_cases D kA Z A Q y w) (hst : l.stackTraces = false) (hX : CX p l e R s m args below meth c D kA Z A Q y w) (hC : 1 ≤ R.cells ∧ 6 ≤ R.slots) (hF : 215 ≤ R.frames) (hL : 12521 ≤ R.locals) (hrec : RecOK_GS l D kA V Z d ro) (hFd : d + 1 + 230 ≤ R.frames) (hLd : 60 * (d + 1) + 14000 ≤ R.locals) {R_19 : Int32 × CSt → Option ((Sum Nat Int32) × CSt)} {l1 : Int32} {u : CSt} (hR_19 : ∀ (l1 : Int32) (u : CSt), R_19 (l1, u) = some (y, w) → ∀ (H : Heap) (locs : List Loc) (ls : Array Slot), CS D kA Z A s u H locs → lv_has ls 3 [(0, .ref (Z 208)), (1, .int l1)] → W p l e R s m args below meth c H locs 0 0 Q (F0 m 19 ls [])) (h : B_X0_cases_87 N ro R_19 l1 u = some (y, w))  (hS : CS D kA Z A s u H locs) (hl : lv_has ls 3 [(0, .ref (Z 208)), (1, .int l1)]) : W p l e R s m args below meth c H locs 0 0 Q (F0 m 87 ls []) := by
  obtain ⟨⟨hx, hb, hml, hown, hts⟩, hK, hEV, hA⟩ := id X
  have hG : ∀ w ∈ GW, w.before args s = true := fun w h => hts w (List.mem_cons_of_mem _ h)
  unfold B_X0_cases_87 at h
  refine lv_aload_n hx hb dX0_cases_87 rfl (lv_at hl 0 rfl) ?_
  obtain ⟨y_2, u_1, h_u_1, h⟩ := bt_of h
  refine kc_X0_body X hrec  hS h_u_1 hFd hLd hC hl.1 (Nat.le_of_ble_eq_true rfl) dX0_cases_88 (fun r_u_1 hr_u_1 H locs hS => ?_) (fun x9 hn H locs q9 ce hS a1 a2 a3 => by obtain ⟨e2, rfl⟩ := bt_no h hn; exact hX _ e2 _ _ _ _ _ _ _ hS a1 a2 a3)
  replace h := bt_ok h hr_u_1
  refine lv_iinc (v := l1 + 1) (lv' := [(1, .int (l1 + 1)), (0, .ref (Z 208))]) hx hb dX0_cases_91 hl (k := 1) rfl rfl (by decide) rfl (fun ls hl => ?_)
  refine lv_goto (tgt := 19) hx hb dX0_cases_94 (by decide) ?_
  exact hR_19 _ _  h _ _ _ hS (lv_sub hl [1, 0] rfl)
def B_X0_cases_51 (N : Nat) (ro : Nat → Nat → Int32 → Int32 → CSt → Option (Sum Nat Int32 × CSt)) (R_19 : Int32 × CSt → Option ((Sum Nat Int32) × CSt)) (R_51 : Int32 × Int32 × CSt → Option ((Sum Nat Int32) × CSt)) (l1 : Int32) (l2 : Int32) (u : CSt) : Option ((Sum Nat Int32) × CSt) := if (1500 : Int32) ≤ l2 then (B_X0_cases_87 N ro R_19 l1 u) else (bc (F_X9_is N 44 u) fun r_5 u_4 => if r_5 = (0 : Int32) then (B_X0_cases_87 N ro R_19 l1 u_4) else (bc (F_X9_next N u_4) fun _ u_7 => bt (F_X0_label N u_7) fun _ u_8 => R_51 (l1, (l2 + 1), u_8)))
set_option maxHeartbeats 4000000 in
theorem b_X0_cases_51 {y : (Sum Nat Int32)} {ro : Nat → Nat → Int32 → Int32 → CSt → Option (Sum Nat Int32 × CSt)} (X : CC p s m args c cX0_cases 3 (Cond.code yX0_cases cX0_cases 3 none) RX0 D kA V A) (hE : CEvx p l e R s m args below meth c cX0_cases D kA Z A Q y w) (hst : l.stackTraces = false) (hX : CX p l e R s m args below meth c D kA Z A Q y w) (hC : 1 ≤ R.cells ∧ 6 ≤ R.slots) (hF : 215 ≤ R.frames) (hL : 12521 ≤ R.locals) (hrec : RecOK_GS l D kA V Z d ro) (hFd : d + 1 + 230 ≤ R.frames) (hLd : 60 * (d + 1) + 14000 ≤ R.locals) {R_19 : Int32 × CSt → Option ((Sum Nat Int32) × CSt)} {R_51 : Int32 × Int32 × CSt → Option ((Sum Nat Int32) × CSt)} {l1 : Int32} {l2 : Int32} {u : CSt} (hR_19 : ∀ (l1 : Int32) (u : CSt), R_19 (l1, u) = some (y, w) → ∀ (H : Heap) (locs : List Loc) (ls : Array Slot), CS D kA Z A s u H locs → lv_has ls 3 [(0, .ref (Z 208)), (1, .int l1)] → W p l e R s m args below meth c H locs 0 0 Q (F0 m 19 ls [])) (hR_51 : ∀ (l1 : Int32) (l2 : Int32) (u : CSt), R_51 (l1, l2, u) = some (y, w) → ∀ (H : Heap) (locs : List Loc) (ls : Array Slot), CS D kA Z A s u H locs → lv_has ls 3 [(0, .ref (Z 208)), (1, .int l1), (2, .int l2)] → W p l e R s m args below meth c H locs 0 0 Q (F0 m 51 ls [])) (h : B_X0_cases_51 N ro R_19 R_51 l1 l2 u = some (y, w))  (hS : CS D kA Z A s u H locs) (hl : lv_has ls 3 [(0, .ref (Z 208)), (1, .int l1), (2, .int l2)]) : W p l e R s m args below meth c H locs 0 0 Q (F0 m 51 ls []) := by
  obtain ⟨⟨hx, hb, hml, hown, hts⟩, hK, hEV, hA⟩ := id X
  have hG : ∀ w ∈ GW, w.before args s = true := fun w h => hts w (List.mem_cons_of_mem _ h)
  unfold B_X0_cases_51 at h
  refine lv_iload_n hx hb dX0_cases_51 rfl (lv_at hl 2 rfl) ?_
  refine lv_sipush (v := 1500) hx hb dX0_cases_52 (by decide) ?_
  refine lv_icmp_ge (tgt := 87) hx hb dX0_cases_55 (by decide) (fun c_3 => ?_) (fun c_3 => ?_)
  · have h := ip (c_3) h
    exact b_X0_cases_87 X hE hst hX hC hF hL hrec hFd hLd hR_19 h  hS (lv_sub hl [0, 1] rfl)
  · have h := im (c_3) h
    refine lv_aload_n hx hb dX0_cases_58 rfl (lv_at hl 0 rfl) ?_
    refine cg_X0_9 X hS dX0_cases_59 ?_
    refine lv_bipush (v := 44) hx hb dX0_cases_62 (by decide) ?_
    obtain ⟨r_5, u_4, h_u_4, h⟩ := bc_of h
    refine kc_X9_is_RX0 X  hS h_u_4 (Nat.le_trans (Nat.le_of_ble_eq_true rfl) hF) (Nat.le_trans (Nat.le_of_ble_eq_true rfl) hL) hl.1 (Nat.le_of_ble_eq_true rfl) dX0_cases_64 (fun H locs hS => ?_)
    refine lv_if_eq (tgt := 87) hx hb dX0_cases_67 (by decide) (fun c_6 => ?_) (fun c_6 => ?_)
    · have h := ip (c_6) h
      exact b_X0_cases_87 X hE hst hX hC hF hL hrec hFd hLd hR_19 h  hS (lv_sub hl [0, 1] rfl)
    · have h := im (c_6) h
      refine lv_aload_n hx hb dX0_cases_70 rfl (lv_at hl 0 rfl) ?_
      refine cg_X0_9 X hS dX0_cases_71 ?_
      obtain ⟨r_u_7, u_7, h_u_7, h⟩ := bc_of h
      refine kc_X9_next_RX0 X  hS h_u_7 (Nat.le_trans (Nat.le_of_ble_eq_true rfl) hF) (Nat.le_trans (Nat.le_of_ble_eq_true rfl) hL) hl.1 (Nat.le_of_ble_eq_true rfl) dX0_cases_74 (fun H locs hS => ?_)
      refine lv_aload_n hx hb dX0_cases_77 rfl (lv_at hl 0 rfl) ?_
      obtain ⟨y_9, u_8, h_u_8, h⟩ := bt_of h
      refine kc_X0_label_RX0 hst X  hS h_u_8 (Nat.le_trans (Nat.le_of_ble_eq_true rfl) hF) (Nat.le_trans (Nat.le_of_ble_eq_true rfl) hL) hC hl.1 (Nat.le_of_ble_eq_true rfl) dX0_cases_78 (fun r_u_8 hr_u_8 H locs hS => ?_) (fun x9 hn H locs q9 ce hS a1 a2 a3 => by obtain ⟨e2, rfl⟩ := bt_no h hn; exact hX _ e2 _ _ _ _ _ _ _ hS a1 a2 a3)
      replace h := bt_ok h hr_u_8
      refine lv_iinc (v := l2 + 1) (lv' := [(2, .int (l2 + 1)), (0, .ref (Z 208)), (1, .int l1)]) hx hb dX0_cases_81 hl (k := 2) rfl rfl (by decide) rfl (fun ls hl => ?_)
      refine lv_goto (tgt := 51) hx hb dX0_cases_84 (by decide) ?_
      exact hR_51 _ _ _  h _ _ _ hS (lv_sub hl [1, 2, 0] rfl)
def LP_X0_cases_51 (N : Nat) (ro : Nat → Nat → Int32 → Int32 → CSt → Option (Sum Nat Int32 × CSt)) (R_19 : Int32 × CSt → Option ((Sum Nat Int32) × CSt)) : Nat → Int32 × Int32 × CSt → Option ((Sum Nat Int32) × CSt) := lp (fun R a => B_X0_cases_51 N ro R_19 R a.1 a.2.1 a.2.2)
theorem bl_X0_cases_51 {y : (Sum Nat Int32)} {ro : Nat → Nat → Int32 → Int32 → CSt → Option (Sum Nat Int32 × CSt)} (X : CC p s m args c cX0_cases 3 (Cond.code yX0_cases cX0_cases 3 none) RX0 D kA V A) (hE : CEvx p l e R s m args below meth c cX0_cases D kA Z A Q y w) (hst : l.stackTraces = false) (hX : CX p l e R s m args below meth c D kA Z A Q y w) (hC : 1 ≤ R.cells ∧ 6 ≤ R.slots) (hF : 215 ≤ R.frames) (hL : 12521 ≤ R.locals) (hrec : RecOK_GS l D kA V Z d ro) (hFd : d + 1 + 230 ≤ R.frames) (hLd : 60 * (d + 1) + 14000 ≤ R.locals) {R_19 : Int32 × CSt → Option ((Sum Nat Int32) × CSt)} (hR_19 : ∀ (l1 : Int32) (u : CSt), R_19 (l1, u) = some (y, w) → ∀ (H : Heap) (locs : List Loc) (ls : Array Slot), CS D kA Z A s u H locs → lv_has ls 3 [(0, .ref (Z 208)), (1, .int l1)] → W p l e R s m args below meth c H locs 0 0 Q (F0 m 19 ls [])) : ∀ (n : Nat) (l1 : Int32) (l2 : Int32) (u : CSt), LP_X0_cases_51 N ro R_19 n (l1, l2, u) = some (y, w) → ∀ (H : Heap) (locs : List Loc) (ls : Array Slot), CS D kA Z A s u H locs → lv_has ls 3 [(0, .ref (Z 208)), (1, .int l1), (2, .int l2)] → W p l e R s m args below meth c H locs 0 0 Q (F0 m 51 ls []) := by
  intro n
  induction n with
  | zero => intro l1 l2 u h; exact nomatch h
  | succ n ih => intro l1 l2 u h H locs ls hS hl; exact b_X0_cases_51 (N := N) (R_51 := LP_X0_cases_51 N ro R_19 n) X hE hst hX hC hF hL hrec hFd hLd hR_19 ih h  hS hl
def B_X0_cases_120 (N : Nat) (ro : Nat → Nat → Int32 → Int32 → CSt → Option (Sum Nat Int32 × CSt)) (u : CSt) : Option ((Sum Nat Int32) × CSt) := bt (F_X0_closes N 125 u) fun _ u_10 => some (.inr 0, u_10)
set_option maxHeartbeats 4000000 in
theorem b_X0_cases_120 {y : (Sum Nat Int32)} {ro : Nat → Nat → Int32 → Int32 → CSt → Option (Sum Nat Int32 × CSt)} (X : CC p s m args c cX0_cases 3 (Cond.code yX0_cases cX0_cases 3 none) RX0 D kA V A) (hE : CEvx p l e R s m args below meth c cX0_cases D kA Z A Q y w) (hst : l.stackTraces = false) (hX : CX p l e R s m args below meth c D kA Z A Q y w) (hC : 1 ≤ R.cells ∧ 6 ≤ R.slots) (hF : 215 ≤ R.frames) (hL : 12521 ≤ R.locals) (hrec : RecOK_GS l D kA V Z d ro) (hFd : d + 1 + 230 ≤ R.frames) (hLd : 60 * (d + 1) + 14000 ≤ R.locals) {u : CSt}  (h : B_X0_cases_120 N ro u = some (y, w))  (hS : CS D kA Z A s u H locs) (hl : lv_has ls 3 [(0, .ref (Z 208))]) : W p l e R s m args below meth c H locs 0 0 Q (F0 m 120 ls []) := by
  obtain ⟨⟨hx, hb, hml, hown, hts⟩, hK, hEV, hA⟩ := id X
  have hG : ∀ w ∈ GW, w.before args s = true := fun w h => hts w (List.mem_cons_of_mem _ h)
  unfold B_X0_cases_120 at h
  refine lv_aload_n hx hb dX0_cases_120 rfl (lv_at hl 0 rfl) ?_
  refine lv_bipush (v := 125) hx hb dX0_cases_121 (by decide) ?_
  obtain ⟨y_11, u_10, h_u_10, h⟩ := bt_of h
  refine kc_X0_closes_RX0 hst X  hS h_u_10 (Nat.le_trans (Nat.le_of_ble_eq_true rfl) hF) (Nat.le_trans (Nat.le_of_ble_eq_true rfl) hL) hC hl.1 (Nat.le_of_ble_eq_true rfl) dX0_cases_123 (fun r_u_10 hr_u_10 H locs hS => ?_) (fun x9 hn H locs q9 ce hS a1 a2 a3 => by obtain ⟨e2, rfl⟩ := bt_no h hn; exact hX _ e2 _ _ _ _ _ _ _ hS a1 a2 a3)
  replace h := bt_ok h hr_u_10
  obtain ⟨e9, rfl⟩ := so9 h
  exact hE _ e9.symm _ _ _ _ hS dX0_cases_126
def B_X0_cases_97 (N : Nat) (ro : Nat → Nat → Int32 → Int32 → CSt → Option (Sum Nat Int32 × CSt)) (u : CSt) : Option ((Sum Nat Int32) × CSt) := bc (F_X9_is N 24 u) fun r_13 u_12 => if r_13 = (0 : Int32) then (B_X0_cases_120 N ro u_12) else (bc (F_X9_next N u_12) fun _ u_15 => bt (ro 0 0 0 0 u_15) fun _ u_16 => B_X0_cases_120 N ro u_16)
set_option maxHeartbeats 4000000 in
theorem b_X0_cases_97 {y : (Sum Nat Int32)} {ro : Nat → Nat → Int32 → Int32 → CSt → Option (Sum Nat Int32 × CSt)} (X : CC p s m args c cX0_cases 3 (Cond.code yX0_cases cX0_cases 3 none) RX0 D kA V A) (hE : CEvx p l e R s m args below meth c cX0_cases D kA Z A Q y w) (hst : l.stackTraces = false) (hX : CX p l e R s m args below meth c D kA Z A Q y w) (hC : 1 ≤ R.cells ∧ 6 ≤ R.slots) (hF : 215 ≤ R.frames) (hL : 12521 ≤ R.locals) (hrec : RecOK_GS l D kA V Z d ro) (hFd : d + 1 + 230 ≤ R.frames) (hLd : 60 * (d + 1) + 14000 ≤ R.locals) {u : CSt}  (h : B_X0_cases_97 N ro u = some (y, w))  (hS : CS D kA Z A s u H locs) (hl : lv_has ls 3 [(0, .ref (Z 208))]) : W p l e R s m args below meth c H locs 0 0 Q (F0 m 97 ls []) := by
  obtain ⟨⟨hx, hb, hml, hown, hts⟩, hK, hEV, hA⟩ := id X
  have hG : ∀ w ∈ GW, w.before args s = true := fun w h => hts w (List.mem_cons_of_mem _ h)
  unfold B_X0_cases_97 at h
  refine lv_aload_n hx hb dX0_cases_97 rfl (lv_at hl 0 rfl) ?_
  refine cg_X0_9 X hS dX0_cases_98 ?_
  refine lv_bipush (v := 24) hx hb dX0_cases_101 (by decide) ?_
  obtain ⟨r_13, u_12, h_u_12, h⟩ := bc_of h
  refine kc_X9_is_RX0 X  hS h_u_12 (Nat.le_trans (Nat.le_of_ble_eq_true rfl) hF) (Nat.le_trans (Nat.le_of_ble_eq_true rfl) hL) hl.1 (Nat.le_of_ble_eq_true rfl) dX0_cases_103 (fun H locs hS => ?_)
  refine lv_if_eq (tgt := 120) hx hb dX0_cases_106 (by decide) (fun c_14 => ?_) (fun c_14 => ?_)
  · have h := ip (c_14) h
    exact b_X0_cases_120 X hE hst hX hC hF hL hrec hFd hLd h  hS (lv_sub hl [0] rfl)
  · have h := im (c_14) h
    refine lv_aload_n hx hb dX0_cases_109 rfl (lv_at hl 0 rfl) ?_
    refine cg_X0_9 X hS dX0_cases_110 ?_
    obtain ⟨r_u_15, u_15, h_u_15, h⟩ := bc_of h
    refine kc_X9_next_RX0 X  hS h_u_15 (Nat.le_trans (Nat.le_of_ble_eq_true rfl) hF) (Nat.le_trans (Nat.le_of_ble_eq_true rfl) hL) hl.1 (Nat.le_of_ble_eq_true rfl) dX0_cases_113 (fun H locs hS => ?_)
    refine lv_aload_n hx hb dX0_cases_116 rfl (lv_at hl 0 rfl) ?_
    obtain ⟨y_17, u_16, h_u_16, h⟩ := bt_of h
    refine kc_X0_body X hrec  hS h_u_16 hFd hLd hC hl.1 (Nat.le_of_ble_eq_true rfl) dX0_cases_117 (fun r_u_16 hr_u_16 H locs hS => ?_) (fun x9 hn H locs q9 ce hS a1 a2 a3 => by obtain ⟨e2, rfl⟩ := bt_no h hn; exact hX _ e2 _ _ _ _ _ _ _ hS a1 a2 a3)
    replace h := bt_ok h hr_u_16
    exact b_X0_cases_120 X hE hst hX hC hF hL hrec hFd hLd h  hS (lv_sub hl [0] rfl)
def B_X0_cases_19 (N : Nat) (ro : Nat → Nat → Int32 → Int32 → CSt → Option (Sum Nat Int32 × CSt)) (R_19 : Int32 × CSt → Option ((Sum Nat Int32) × CSt)) (l1 : Int32) (u : CSt) : Option ((Sum Nat Int32) × CSt) := if (1500 : Int32) ≤ l1 then (B_X0_cases_97 N ro u) else (bc (F_X9_is N 23 u) fun r_20 u_19 => if r_20 = (0 : Int32) then (B_X0_cases_97 N ro u_19) else (bc (F_X9_next N u_19) fun _ u_22 => bt (F_X0_label N u_22) fun _ u_23 => LP_X0_cases_51 N ro R_19 N (l1, 0, u_23)))
set_option maxHeartbeats 4000000 in
theorem b_X0_cases_19 {y : (Sum Nat Int32)} {ro : Nat → Nat → Int32 → Int32 → CSt → Option (Sum Nat Int32 × CSt)} (X : CC p s m args c cX0_cases 3 (Cond.code yX0_cases cX0_cases 3 none) RX0 D kA V A) (hE : CEvx p l e R s m args below meth c cX0_cases D kA Z A Q y w) (hst : l.stackTraces = false) (hX : CX p l e R s m args below meth c D kA Z A Q y w) (hC : 1 ≤ R.cells ∧ 6 ≤ R.slots) (hF : 215 ≤ R.frames) (hL : 12521 ≤ R.locals) (hrec : RecOK_GS l D kA V Z d ro) (hFd : d + 1 + 230 ≤ R.frames) (hLd : 60 * (d + 1) + 14000 ≤ R.locals) {R_19 : Int32 × CSt → Option ((Sum Nat Int32) × CSt)} {l1 : Int32} {u : CSt} (hR_19 : ∀ (l1 : Int32) (u : CSt), R_19 (l1, u) = some (y, w) → ∀ (H : Heap) (locs : List Loc) (ls : Array Slot), CS D kA Z A s u H locs → lv_has ls 3 [(0, .ref (Z 208)), (1, .int l1)] → W p l e R s m args below meth c H locs 0 0 Q (F0 m 19 ls [])) (h : B_X0_cases_19 N ro R_19 l1 u = some (y, w))  (hS : CS D kA Z A s u H locs) (hl : lv_has ls 3 [(0, .ref (Z 208)), (1, .int l1)]) : W p l e R s m args below meth c H locs 0 0 Q (F0 m 19 ls []) := by
  obtain ⟨⟨hx, hb, hml, hown, hts⟩, hK, hEV, hA⟩ := id X
  have hG : ∀ w ∈ GW, w.before args s = true := fun w h => hts w (List.mem_cons_of_mem _ h)
  unfold B_X0_cases_19 at h
  refine lv_iload_n hx hb dX0_cases_19 rfl (lv_at hl 1 rfl) ?_
  refine lv_sipush (v := 1500) hx hb dX0_cases_20 (by decide) ?_
  refine lv_icmp_ge (tgt := 97) hx hb dX0_cases_23 (by decide) (fun c_18 => ?_) (fun c_18 => ?_)
  · have h := ip (c_18) h
    exact b_X0_cases_97 X hE hst hX hC hF hL hrec hFd hLd h  hS (lv_sub hl [0] rfl)
  · have h := im (c_18) h
    refine lv_aload_n hx hb dX0_cases_26 rfl (lv_at hl 0 rfl) ?_
    refine cg_X0_9 X hS dX0_cases_27 ?_
    refine lv_bipush (v := 23) hx hb dX0_cases_30 (by decide) ?_
    obtain ⟨r_20, u_19, h_u_19, h⟩ := bc_of h
    refine kc_X9_is_RX0 X  hS h_u_19 (Nat.le_trans (Nat.le_of_ble_eq_true rfl) hF) (Nat.le_trans (Nat.le_of_ble_eq_true rfl) hL) hl.1 (Nat.le_of_ble_eq_true rfl) dX0_cases_32 (fun H locs hS => ?_)
    refine lv_if_eq (tgt := 97) hx hb dX0_cases_35 (by decide) (fun c_21 => ?_) (fun c_21 => ?_)
    · have h := ip (c_21) h
      exact b_X0_cases_97 X hE hst hX hC hF hL hrec hFd hLd h  hS (lv_sub hl [0] rfl)
    · have h := im (c_21) h
      refine lv_aload_n hx hb dX0_cases_38 rfl (lv_at hl 0 rfl) ?_
      refine cg_X0_9 X hS dX0_cases_39 ?_
      obtain ⟨r_u_22, u_22, h_u_22, h⟩ := bc_of h
      refine kc_X9_next_RX0 X  hS h_u_22 (Nat.le_trans (Nat.le_of_ble_eq_true rfl) hF) (Nat.le_trans (Nat.le_of_ble_eq_true rfl) hL) hl.1 (Nat.le_of_ble_eq_true rfl) dX0_cases_42 (fun H locs hS => ?_)
      refine lv_aload_n hx hb dX0_cases_45 rfl (lv_at hl 0 rfl) ?_
      obtain ⟨y_24, u_23, h_u_23, h⟩ := bt_of h
      refine kc_X0_label_RX0 hst X  hS h_u_23 (Nat.le_trans (Nat.le_of_ble_eq_true rfl) hF) (Nat.le_trans (Nat.le_of_ble_eq_true rfl) hL) hC hl.1 (Nat.le_of_ble_eq_true rfl) dX0_cases_46 (fun r_u_23 hr_u_23 H locs hS => ?_) (fun x9 hn H locs q9 ce hS a1 a2 a3 => by obtain ⟨e2, rfl⟩ := bt_no h hn; exact hX _ e2 _ _ _ _ _ _ _ hS a1 a2 a3)
      replace h := bt_ok h hr_u_23
      refine lv_iconst (v := 0) hx hb dX0_cases_49 (by decide) ?_
      refine lv_istore_n (lv' := [(2, .int 0), (0, .ref (Z 208)), (1, .int l1)]) hx hb dX0_cases_50 rfl hl (by decide) rfl (fun ls hl => ?_)
      exact bl_X0_cases_51 X hE hst hX hC hF hL hrec hFd hLd hR_19 _ _ _ _  h _ _ _ hS (lv_sub hl [1, 2, 0] rfl)
def LP_X0_cases_19 (N : Nat) (ro : Nat → Nat → Int32 → Int32 → CSt → Option (Sum Nat Int32 × CSt)) : Nat → Int32 × CSt → Option ((Sum Nat Int32) × CSt) := lp (fun R a => B_X0_cases_19 N ro R a.1 a.2)
theorem bl_X0_cases_19 {y : (Sum Nat Int32)} {ro : Nat → Nat → Int32 → Int32 → CSt → Option (Sum Nat Int32 × CSt)} (X : CC p s m args c cX0_cases 3 (Cond.code yX0_cases cX0_cases 3 none) RX0 D kA V A) (hE : CEvx p l e R s m args below meth c cX0_cases D kA Z A Q y w) (hst : l.stackTraces = false) (hX : CX p l e R s m args below meth c D kA Z A Q y w) (hC : 1 ≤ R.cells ∧ 6 ≤ R.slots) (hF : 215 ≤ R.frames) (hL : 12521 ≤ R.locals) (hrec : RecOK_GS l D kA V Z d ro) (hFd : d + 1 + 230 ≤ R.frames) (hLd : 60 * (d + 1) + 14000 ≤ R.locals)  : ∀ (n : Nat) (l1 : Int32) (u : CSt), LP_X0_cases_19 N ro n (l1, u) = some (y, w) → ∀ (H : Heap) (locs : List Loc) (ls : Array Slot), CS D kA Z A s u H locs → lv_has ls 3 [(0, .ref (Z 208)), (1, .int l1)] → W p l e R s m args below meth c H locs 0 0 Q (F0 m 19 ls []) := by
  intro n
  induction n with
  | zero => intro l1 u h; exact nomatch h
  | succ n ih => intro l1 u h H locs ls hS hl; exact b_X0_cases_19 (N := N) (R_19 := LP_X0_cases_19 N ro n) X hE hst hX hC hF hL hrec hFd hLd ih h  hS hl
def B_X0_cases_0 (N : Nat) (ro : Nat → Nat → Int32 → Int32 → CSt → Option (Sum Nat Int32 × CSt)) (u : CSt) : Option ((Sum Nat Int32) × CSt) := bc (F_X9_next N u) fun _ u_25 => bt (G_X0_expression N u_25) fun _ u_26 => bt (F_X0_opens N 123 u_26) fun _ u_28 => LP_X0_cases_19 N ro N (0, u_28)
set_option maxHeartbeats 4000000 in
theorem b_X0_cases_0 {y : (Sum Nat Int32)} {ro : Nat → Nat → Int32 → Int32 → CSt → Option (Sum Nat Int32 × CSt)} (X : CC p s m args c cX0_cases 3 (Cond.code yX0_cases cX0_cases 3 none) RX0 D kA V A) (hE : CEvx p l e R s m args below meth c cX0_cases D kA Z A Q y w) (hst : l.stackTraces = false) (hX : CX p l e R s m args below meth c D kA Z A Q y w) (hC : 1 ≤ R.cells ∧ 6 ≤ R.slots) (hF : 215 ≤ R.frames) (hL : 12521 ≤ R.locals) (hrec : RecOK_GS l D kA V Z d ro) (hFd : d + 1 + 230 ≤ R.frames) (hLd : 60 * (d + 1) + 14000 ≤ R.locals) {u : CSt}  (h : B_X0_cases_0 N ro u = some (y, w))  (hS : CS D kA Z A s u H locs) (hl : lv_has ls 3 [(0, .ref (Z 208))]) : W p l e R s m args below meth c H locs 0 0 Q (F0 m 0 ls []) := by
  obtain ⟨⟨hx, hb, hml, hown, hts⟩, hK, hEV, hA⟩ := id X
  have hG : ∀ w ∈ GW, w.before args s = true := fun w h => hts w (List.mem_cons_of_mem _ h)
  unfold B_X0_cases_0 at h
  refine lv_aload_n hx hb dX0_cases_0 rfl (lv_at hl 0 rfl) ?_
  refine cg_X0_9 X hS dX0_cases_1 ?_
  obtain ⟨r_u_25, u_25, h_u_25, h⟩ := bc_of h
  refine kc_X9_next_RX0 X  hS h_u_25 (Nat.le_trans (Nat.le_of_ble_eq_true rfl) hF) (Nat.le_trans (Nat.le_of_ble_eq_true rfl) hL) hl.1 (Nat.le_of_ble_eq_true rfl) dX0_cases_4 (fun H locs hS => ?_)
  refine lv_aload_n hx hb dX0_cases_7 rfl (lv_at hl 0 rfl) ?_
  obtain ⟨y_27, u_26, h_u_26, h⟩ := bt_of h
  refine kg_X0_expression_RX0 hst X  hS h_u_26 (Nat.le_trans (Nat.le_of_ble_eq_true rfl) hF) (Nat.le_trans (Nat.le_of_ble_eq_true rfl) hL) hC hl.1 (Nat.le_of_ble_eq_true rfl) dX0_cases_8 (fun r_u_26 hr_u_26 H locs hS => ?_) (fun x9 hn H locs q9 ce hS a1 a2 a3 => by obtain ⟨e2, rfl⟩ := bt_no h hn; exact hX _ e2 _ _ _ _ _ _ _ hS a1 a2 a3)
  replace h := bt_ok h hr_u_26
  refine lv_aload_n hx hb dX0_cases_11 rfl (lv_at hl 0 rfl) ?_
  refine lv_bipush (v := 123) hx hb dX0_cases_12 (by decide) ?_
  obtain ⟨y_29, u_28, h_u_28, h⟩ := bt_of h
  refine kc_X0_opens_RX0 hst X  hS h_u_28 (Nat.le_trans (Nat.le_of_ble_eq_true rfl) hF) (Nat.le_trans (Nat.le_of_ble_eq_true rfl) hL) hC hl.1 (Nat.le_of_ble_eq_true rfl) dX0_cases_14 (fun r_u_28 hr_u_28 H locs hS => ?_) (fun x9 hn H locs q9 ce hS a1 a2 a3 => by obtain ⟨e2, rfl⟩ := bt_no h hn; exact hX _ e2 _ _ _ _ _ _ _ hS a1 a2 a3)
  replace h := bt_ok h hr_u_28
  refine lv_iconst (v := 0) hx hb dX0_cases_17 (by decide) ?_
  refine lv_istore_n (lv' := [(1, .int 0), (0, .ref (Z 208))]) hx hb dX0_cases_18 rfl hl (by decide) rfl (fun ls hl => ?_)
  exact bl_X0_cases_19 X hE hst hX hC hF hL hrec hFd hLd _ _ _  h _ _ _ hS (lv_sub hl [1, 0] rfl)
def F_X0_cases (N : Nat) (ro : Nat → Nat → Int32 → Int32 → CSt → Option (Sum Nat Int32 × CSt)) (u : CSt) : Option ((Sum Nat Int32) × CSt) := B_X0_cases_0 N ro u
set_option maxHeartbeats 4000000 in
theorem k_X0_cases (l : Launch) (hst : l.stackTraces = false) (D : va_G) (kA : Nat → ClassId) (V Z : Nat → Nat) (N : Nat) {d : Nat} (ro : Nat → Nat → Int32 → Int32 → CSt → Option (Sum Nat Int32 × CSt)) (hrec : RecOK_GS l D kA V Z d ro) (u : CSt) (sz : Nat) {y : (Sum Nat Int32)} {w : CSt} (h : F_X0_cases N ro u = some (y, w)) : vx_Met l yX0_cases (Cond.code yX0_cases cX0_cases 3 none :: GW) { frames := d + 1 + 230, cells := 1, slots := 6, locals := 60 * (d + 1) + 14000 } (cPc D kA V Z [.ref (Z 208)] u sz) (cQvx D kA Z u sz y w) (cXc D kA Z u sz y w) 1 6 (va_A (CW kA Z u) sz) := by
  refine vx_ofW (cc := cX0_cases) (maxL := 3) (ret := none) (by decide) rfl ?_
  intro p e s m args below meth c s₁ Bd hml hxt hv
  obtain ⟨rfl, hsz, hP, hK, hD0, hE⟩ := hv
  have hts := atoms_spec (ws := Cond.code yX0_cases cX0_cases 3 none :: GW) Bd.pre
  have hl := lv_entry ([.ref (Z 208)]) (n := 3) (Nat.le_of_ble_eq_true rfl)
  rw [lg_entry_eq]
  generalize (lg_sl ([.ref (Z 208)]) ++ List.replicate (3 - (lg_sl ([.ref (Z 208)])).length) Slot.unset).toArray = ls at hl ⊢
  have hl : lv_has ls 3 [(0, .ref (Z 208))] := hl
  subst hsz
  have X : CC p s m ([.ref (Z 208)]).toArray c cX0_cases 3 (Cond.code yX0_cases cX0_cases 3 none) RX0 D kA V (va_A (CW kA Z u) s.heap.size) := ⟨⟨Bd.exec, Bd.bytes, hml, findClass_of_methodNamed Bd.named, hts⟩, hK, hE, fun q h => Or.inr h⟩
  refine b_X0_cases_0 X (cend_vx X Bd.returns Bd.notSynchronized) hst (cend_X X hxt Bd.notSynchronized) ⟨Nat.le_refl _, Nat.le_refl _⟩ (Nat.le_trans (Nat.le_of_ble_eq_true rfl) (Nat.le_add_left 230 _)) (Nat.le_trans (Nat.le_of_ble_eq_true rfl) (Nat.le_add_left 14000 _)) hrec (Nat.le_refl _) (Nat.le_refl _) h  ⟨hP, hD0.self, va_S.rf⟩ (lv_sub hl [0] rfl)
def FGS_ (N : Nat) : Nat → Nat → Nat → Int32 → Int32 → CSt → Option (Sum Nat Int32 × CSt)
  | 0 => fun _ _ _ _ _ => none
  | d + 1 => fun q z a b u => if q = 0 then F_X0_body N (FGS_ N d) u else if q = 1 then F_X0_statements N (FGS_ N d) u else if q = 2 then F_X0_statement N (FGS_ N d) u else if q = 3 then F_X0_choice N (FGS_ N d) u else if q = 4 then F_X0_counted N (FGS_ N d) u else if q = 5 then F_X0_cases N (FGS_ N d) u else none
theorem okGS_ (l : Launch) (hst : l.stackTraces = false) (D : va_G) (kA : Nat → ClassId) (V Z : Nat → Nat) (N : Nat) : ∀ d : Nat, RecOK_GS l D kA V Z d (FGS_ N d) := by
  intro d
  induction d with
  | zero => exact ⟨fun u sz y w h => (nomatch h), fun u sz y w h => (nomatch h), fun u sz y w h => (nomatch h), fun u sz y w h => (nomatch h), fun u sz y w h => (nomatch h), fun u sz y w h => (nomatch h)⟩
  | succ d ih => exact ⟨fun u sz y w h => k_X0_body l hst D kA V Z N (FGS_ N d) ih u sz h, fun u sz y w h => k_X0_statements l hst D kA V Z N (FGS_ N d) ih u sz h, fun u sz y w h => k_X0_statement l hst D kA V Z N (FGS_ N d) ih u sz h, fun u sz y w h => k_X0_choice l hst D kA V Z N (FGS_ N d) ih u sz h, fun u sz y w h => k_X0_counted l hst D kA V Z N (FGS_ N d) ih u sz h, fun u sz y w h => k_X0_cases l hst D kA V Z N (FGS_ N d) ih u sz h⟩
def G_X0_body (N : Nat) (u : CSt) : Option (Sum Nat Int32 × CSt) := FGS_ N 150 0 0 0 0 u
theorem kg_X0_body_RX0 {cc : ByteArray} {pc nL : Nat} {c0 : Cond} {rest : List Value} {u w1 : CSt} {y1 : Sum Nat Int32} (hst : l.stackTraces = false) (X : CC p s m args c cc nL c0 RX0 D kA V A)  (hS : CS D kA Z A s u H locs) (h : G_X0_body N u = some (y1, w1)) (hF : 380 + 1 ≤ R.frames) (hL : 8 + (1 + 11) + 23000 ≤ R.locals) (hC : 1 ≤ R.cells ∧ 6 ≤ R.slots) (hl : ls.size = nL) (hc : (rest.map fun v => v.category).sum ≤ 8) (hdg : decode cc pc = .ok (.invokevirtual 79, 3)) (kk : ∀ r, y1 = .inr r → ∀ H locs, CS D kA Z A s w1 H locs → W p l e R s m args below meth c H locs 0 0 Q (F0 m (pc + 3) ls (rest))) (kx : ∀ x, y1 = .inl x → ∀ (H : Heap) (locs : List Loc) (q : Addr) (ce : Cell), CS D kA Z A s w1 H locs → H[q]? = some ce → ce.vm = .none → s.vm.findClass (exN x) = some ce.cls → vx_W p l e R s m args below meth c H locs 1 6 Q (F0 m pc ls rest) q) : W p l e R s m args below meth c H locs 0 0 Q (F0 m pc ls (.ref (Z 208) :: rest)) :=
  ccall_vx (n := 0) (f9 := 150 + 230) (l9 := 60 * 150 + 14000) X hS ((okGS_ l hst D kA V Z N 150).1 u H.size _ _  h) (gw_V gw_953 gw_955 gs_3_2 gw_7 gw_956) (by decide +kernel) (va_recv X.2.1 hS.1 (ci := 0) (q0 := 8) rfl (cw_lit rfl)) hF hL hC rfl hl hc rfl hdg kk kx
def G_X0_statements (N : Nat) (u : CSt) : Option (Sum Nat Int32 × CSt) := FGS_ N 150 1 0 0 0 u
theorem kg_X0_statements_RX0 {cc : ByteArray} {pc nL : Nat} {c0 : Cond} {rest : List Value} {u w1 : CSt} {y1 : Sum Nat Int32} (hst : l.stackTraces = false) (X : CC p s m args c cc nL c0 RX0 D kA V A)  (hS : CS D kA Z A s u H locs) (h : G_X0_statements N u = some (y1, w1)) (hF : 380 + 1 ≤ R.frames) (hL : 8 + (2 + 11) + 23000 ≤ R.locals) (hC : 1 ≤ R.cells ∧ 6 ≤ R.slots) (hl : ls.size = nL) (hc : (rest.map fun v => v.category).sum ≤ 8) (hdg : decode cc pc = .ok (.invokevirtual 76, 3)) (kk : ∀ r, y1 = .inr r → ∀ H locs, CS D kA Z A s w1 H locs → W p l e R s m args below meth c H locs 0 0 Q (F0 m (pc + 3) ls (rest))) (kx : ∀ x, y1 = .inl x → ∀ (H : Heap) (locs : List Loc) (q : Addr) (ce : Cell), CS D kA Z A s w1 H locs → H[q]? = some ce → ce.vm = .none → s.vm.findClass (exN x) = some ce.cls → vx_W p l e R s m args below meth c H locs 1 6 Q (F0 m pc ls rest) q) : W p l e R s m args below meth c H locs 0 0 Q (F0 m pc ls (.ref (Z 208) :: rest)) :=
  ccall_vx (n := 0) (f9 := 150 + 230) (l9 := 60 * 150 + 14000) X hS ((okGS_ l hst D kA V Z N 150).2.1 u H.size _ _  h) (gw_V gw_896 gw_898 gs_2_7 gw_7 gw_899) (by decide +kernel) (va_recv X.2.1 hS.1 (ci := 0) (q0 := 8) rfl (cw_lit rfl)) hF hL hC rfl hl hc rfl hdg kk kx
def G_X0_statement (N : Nat) (u : CSt) : Option (Sum Nat Int32 × CSt) := FGS_ N 150 2 0 0 0 u
theorem kg_X0_statement_RX0 {cc : ByteArray} {pc nL : Nat} {c0 : Cond} {rest : List Value} {u w1 : CSt} {y1 : Sum Nat Int32} (hst : l.stackTraces = false) (X : CC p s m args c cc nL c0 RX0 D kA V A)  (hS : CS D kA Z A s u H locs) (h : G_X0_statement N u = some (y1, w1)) (hF : 380 + 1 ≤ R.frames) (hL : 8 + (1 + 11) + 23000 ≤ R.locals) (hC : 1 ≤ R.cells ∧ 6 ≤ R.slots) (hl : ls.size = nL) (hc : (rest.map fun v => v.category).sum ≤ 8) (hdg : decode cc pc = .ok (.invokevirtual 82, 3)) (kk : ∀ r, y1 = .inr r → ∀ H locs, CS D kA Z A s w1 H locs → W p l e R s m args below meth c H locs 0 0 Q (F0 m (pc + 3) ls (rest))) (kx : ∀ x, y1 = .inl x → ∀ (H : Heap) (locs : List Loc) (q : Addr) (ce : Cell), CS D kA Z A s w1 H locs → H[q]? = some ce → ce.vm = .none → s.vm.findClass (exN x) = some ce.cls → vx_W p l e R s m args below meth c H locs 1 6 Q (F0 m pc ls rest) q) : W p l e R s m args below meth c H locs 0 0 Q (F0 m pc ls (.ref (Z 208) :: rest)) :=
  ccall_vx (n := 0) (f9 := 150 + 230) (l9 := 60 * 150 + 14000) X hS ((okGS_ l hst D kA V Z N 150).2.2.1 u H.size _ _  h) (gw_V gw_900 gw_902 gs_2_8 gw_7 gw_903) (by decide +kernel) (va_recv X.2.1 hS.1 (ci := 0) (q0 := 8) rfl (cw_lit rfl)) hF hL hC rfl hl hc rfl hdg kk kx
def G_X0_choice (N : Nat) (u : CSt) : Option (Sum Nat Int32 × CSt) := FGS_ N 150 3 0 0 0 u
theorem kg_X0_choice_RX0 {cc : ByteArray} {pc nL : Nat} {c0 : Cond} {rest : List Value} {u w1 : CSt} {y1 : Sum Nat Int32} (hst : l.stackTraces = false) (X : CC p s m args c cc nL c0 RX0 D kA V A)  (hS : CS D kA Z A s u H locs) (h : G_X0_choice N u = some (y1, w1)) (hF : 380 + 1 ≤ R.frames) (hL : 8 + (2 + 11) + 23000 ≤ R.locals) (hC : 1 ≤ R.cells ∧ 6 ≤ R.slots) (hl : ls.size = nL) (hc : (rest.map fun v => v.category).sum ≤ 8) (hdg : decode cc pc = .ok (.invokevirtual 88, 3)) (kk : ∀ r, y1 = .inr r → ∀ H locs, CS D kA Z A s w1 H locs → W p l e R s m args below meth c H locs 0 0 Q (F0 m (pc + 3) ls (rest))) (kx : ∀ x, y1 = .inl x → ∀ (H : Heap) (locs : List Loc) (q : Addr) (ce : Cell), CS D kA Z A s w1 H locs → H[q]? = some ce → ce.vm = .none → s.vm.findClass (exN x) = some ce.cls → vx_W p l e R s m args below meth c H locs 1 6 Q (F0 m pc ls rest) q) : W p l e R s m args below meth c H locs 0 0 Q (F0 m pc ls (.ref (Z 208) :: rest)) :=
  ccall_vx (n := 0) (f9 := 150 + 230) (l9 := 60 * 150 + 14000) X hS ((okGS_ l hst D kA V Z N 150).2.2.2.1 u H.size _ _  h) (gw_V gw_949 gw_951 gs_3_1 gw_7 gw_952) (by decide +kernel) (va_recv X.2.1 hS.1 (ci := 0) (q0 := 8) rfl (cw_lit rfl)) hF hL hC rfl hl hc rfl hdg kk kx
def G_X0_counted (N : Nat) (u : CSt) : Option (Sum Nat Int32 × CSt) := FGS_ N 150 4 0 0 0 u
theorem kg_X0_counted_RX0 {cc : ByteArray} {pc nL : Nat} {c0 : Cond} {rest : List Value} {u w1 : CSt} {y1 : Sum Nat Int32} (hst : l.stackTraces = false) (X : CC p s m args c cc nL c0 RX0 D kA V A)  (hS : CS D kA Z A s u H locs) (h : G_X0_counted N u = some (y1, w1)) (hF : 380 + 1 ≤ R.frames) (hL : 8 + (1 + 11) + 23000 ≤ R.locals) (hC : 1 ≤ R.cells ∧ 6 ≤ R.slots) (hl : ls.size = nL) (hc : (rest.map fun v => v.category).sum ≤ 8) (hdg : decode cc pc = .ok (.invokevirtual 94, 3)) (kk : ∀ r, y1 = .inr r → ∀ H locs, CS D kA Z A s w1 H locs → W p l e R s m args below meth c H locs 0 0 Q (F0 m (pc + 3) ls (rest))) (kx : ∀ x, y1 = .inl x → ∀ (H : Heap) (locs : List Loc) (q : Addr) (ce : Cell), CS D kA Z A s w1 H locs → H[q]? = some ce → ce.vm = .none → s.vm.findClass (exN x) = some ce.cls → vx_W p l e R s m args below meth c H locs 1 6 Q (F0 m pc ls rest) q) : W p l e R s m args below meth c H locs 0 0 Q (F0 m pc ls (.ref (Z 208) :: rest)) :=
  ccall_vx (n := 0) (f9 := 150 + 230) (l9 := 60 * 150 + 14000) X hS ((okGS_ l hst D kA V Z N 150).2.2.2.2.1 u H.size _ _  h) (gw_V gw_957 gw_959 gs_3_3 gw_7 gw_960) (by decide +kernel) (va_recv X.2.1 hS.1 (ci := 0) (q0 := 8) rfl (cw_lit rfl)) hF hL hC rfl hl hc rfl hdg kk kx
def G_X0_cases (N : Nat) (u : CSt) : Option (Sum Nat Int32 × CSt) := FGS_ N 150 5 0 0 0 u
theorem kg_X0_cases_RX0 {cc : ByteArray} {pc nL : Nat} {c0 : Cond} {rest : List Value} {u w1 : CSt} {y1 : Sum Nat Int32} (hst : l.stackTraces = false) (X : CC p s m args c cc nL c0 RX0 D kA V A)  (hS : CS D kA Z A s u H locs) (h : G_X0_cases N u = some (y1, w1)) (hF : 380 + 1 ≤ R.frames) (hL : 8 + (3 + 11) + 23000 ≤ R.locals) (hC : 1 ≤ R.cells ∧ 6 ≤ R.slots) (hl : ls.size = nL) (hc : (rest.map fun v => v.category).sum ≤ 8) (hdg : decode cc pc = .ok (.invokevirtual 97, 3)) (kk : ∀ r, y1 = .inr r → ∀ H locs, CS D kA Z A s w1 H locs → W p l e R s m args below meth c H locs 0 0 Q (F0 m (pc + 3) ls (rest))) (kx : ∀ x, y1 = .inl x → ∀ (H : Heap) (locs : List Loc) (q : Addr) (ce : Cell), CS D kA Z A s w1 H locs → H[q]? = some ce → ce.vm = .none → s.vm.findClass (exN x) = some ce.cls → vx_W p l e R s m args below meth c H locs 1 6 Q (F0 m pc ls rest) q) : W p l e R s m args below meth c H locs 0 0 Q (F0 m pc ls (.ref (Z 208) :: rest)) :=
  ccall_vx (n := 0) (f9 := 150 + 230) (l9 := 60 * 150 + 14000) X hS ((okGS_ l hst D kA V Z N 150).2.2.2.2.2 u H.size _ _  h) (gw_V gw_961 gw_963 gs_3_4 gw_7 gw_964) (by decide +kernel) (va_recv X.2.1 hS.1 (ci := 0) (q0 := 8) rfl (cw_lit rfl)) hF hL hC rfl hl hc rfl hdg kk kx
end C37dgstat
