abbrev cX9_mostRepeats : ByteArray := prog_11_method_35_code
def yX9_mostRepeats : MethodName := ⟨RX9, "mostRepeats", "(I)I"⟩
theorem dX9_mostRepeats_0 : decode cX9_mostRepeats 0 = .ok (.iload_n 0, 1) := by decide +kernel
theorem dX9_mostRepeats_1 : decode cX9_mostRepeats 1 = .ok (.lookupswitch 79 #[(38, 77), (43, 77), (45, 77), (46, 77), (60, 77), (61, 77), (62, 75), (124, 77)], 75) := by decide +kernel
theorem dX9_mostRepeats_76 : decode cX9_mostRepeats 76 = .ok (.iconst 3, 1) := by decide +kernel
theorem dX9_mostRepeats_77 : decode cX9_mostRepeats 77 = .ok (.ireturn, 1) := by decide +kernel
theorem dX9_mostRepeats_78 : decode cX9_mostRepeats 78 = .ok (.iconst 2, 1) := by decide +kernel
theorem dX9_mostRepeats_79 : decode cX9_mostRepeats 79 = .ok (.ireturn, 1) := by decide +kernel
theorem dX9_mostRepeats_80 : decode cX9_mostRepeats 80 = .ok (.iconst 1, 1) := by decide +kernel
theorem dX9_mostRepeats_81 : decode cX9_mostRepeats 81 = .ok (.ireturn, 1) := by decide +kernel
abbrev cX9_takesEquals : ByteArray := prog_11_method_36_code
def yX9_takesEquals : MethodName := ⟨RX9, "takesEquals", "(II)Z"⟩
theorem dX9_takesEquals_0 : decode cX9_takesEquals 0 = .ok (.iload_n 0, 1) := by decide +kernel
theorem dX9_takesEquals_1 : decode cX9_takesEquals 1 = .ok (.lookupswitch 123 #[(33, 112), (37, 101), (38, 112), (42, 101), (43, 101), (45, 101), (47, 101), (60, 99), (62, 99), (94, 112), (124, 112)], 99) := by decide +kernel
theorem dX9_takesEquals_100 : decode cX9_takesEquals 100 = .ok (.iconst 1, 1) := by decide +kernel
theorem dX9_takesEquals_101 : decode cX9_takesEquals 101 = .ok (.ireturn, 1) := by decide +kernel
theorem dX9_takesEquals_102 : decode cX9_takesEquals 102 = .ok (.iload_n 1, 1) := by decide +kernel
theorem dX9_takesEquals_103 : decode cX9_takesEquals 103 = .ok (.iconst 1, 1) := by decide +kernel
theorem dX9_takesEquals_104 : decode cX9_takesEquals 104 = .ok (.if_icmp .ne 7, 3) := by decide +kernel
theorem dX9_takesEquals_107 : decode cX9_takesEquals 107 = .ok (.iconst 1, 1) := by decide +kernel
theorem dX9_takesEquals_108 : decode cX9_takesEquals 108 = .ok (.goto 4, 3) := by decide +kernel
theorem dX9_takesEquals_111 : decode cX9_takesEquals 111 = .ok (.iconst 0, 1) := by decide +kernel
theorem dX9_takesEquals_112 : decode cX9_takesEquals 112 = .ok (.ireturn, 1) := by decide +kernel
theorem dX9_takesEquals_113 : decode cX9_takesEquals 113 = .ok (.iload_n 1, 1) := by decide +kernel
theorem dX9_takesEquals_114 : decode cX9_takesEquals 114 = .ok (.iconst 1, 1) := by decide +kernel
theorem dX9_takesEquals_115 : decode cX9_takesEquals 115 = .ok (.if_icmp .ne 7, 3) := by decide +kernel
theorem dX9_takesEquals_118 : decode cX9_takesEquals 118 = .ok (.iconst 1, 1) := by decide +kernel
theorem dX9_takesEquals_119 : decode cX9_takesEquals 119 = .ok (.goto 4, 3) := by decide +kernel
theorem dX9_takesEquals_122 : decode cX9_takesEquals 122 = .ok (.iconst 0, 1) := by decide +kernel
theorem dX9_takesEquals_123 : decode cX9_takesEquals 123 = .ok (.ireturn, 1) := by decide +kernel
theorem dX9_takesEquals_124 : decode cX9_takesEquals 124 = .ok (.iconst 0, 1) := by decide +kernel
theorem dX9_takesEquals_125 : decode cX9_takesEquals 125 = .ok (.ireturn, 1) := by decide +kernel
abbrev cX9_digit : ByteArray := prog_11_method_37_code
def yX9_digit : MethodName := ⟨RX9, "digit", "(IZ)I"⟩
theorem dX9_digit_0 : decode cX9_digit 0 = .ok (.iload_n 0, 1) := by decide +kernel
theorem dX9_digit_1 : decode cX9_digit 1 = .ok (.bipush 48, 2) := by decide +kernel
theorem dX9_digit_3 : decode cX9_digit 3 = .ok (.if_icmp .lt 14, 3) := by decide +kernel
theorem dX9_digit_6 : decode cX9_digit 6 = .ok (.iload_n 0, 1) := by decide +kernel
theorem dX9_digit_7 : decode cX9_digit 7 = .ok (.bipush 57, 2) := by decide +kernel
theorem dX9_digit_9 : decode cX9_digit 9 = .ok (.if_icmp .gt 8, 3) := by decide +kernel
theorem dX9_digit_12 : decode cX9_digit 12 = .ok (.iload_n 0, 1) := by decide +kernel
theorem dX9_digit_13 : decode cX9_digit 13 = .ok (.bipush 48, 2) := by decide +kernel
theorem dX9_digit_15 : decode cX9_digit 15 = .ok (.isub, 1) := by decide +kernel
theorem dX9_digit_16 : decode cX9_digit 16 = .ok (.ireturn, 1) := by decide +kernel
theorem dX9_digit_17 : decode cX9_digit 17 = .ok (.iload_n 1, 1) := by decide +kernel
theorem dX9_digit_18 : decode cX9_digit 18 = .ok (.ifCond .eq 23, 3) := by decide +kernel
theorem dX9_digit_21 : decode cX9_digit 21 = .ok (.iload_n 0, 1) := by decide +kernel
theorem dX9_digit_22 : decode cX9_digit 22 = .ok (.bipush 97, 2) := by decide +kernel
theorem dX9_digit_24 : decode cX9_digit 24 = .ok (.if_icmp .lt 17, 3) := by decide +kernel
theorem dX9_digit_27 : decode cX9_digit 27 = .ok (.iload_n 0, 1) := by decide +kernel
theorem dX9_digit_28 : decode cX9_digit 28 = .ok (.bipush 102, 2) := by decide +kernel
theorem dX9_digit_30 : decode cX9_digit 30 = .ok (.if_icmp .gt 11, 3) := by decide +kernel
theorem dX9_digit_33 : decode cX9_digit 33 = .ok (.iload_n 0, 1) := by decide +kernel
theorem dX9_digit_34 : decode cX9_digit 34 = .ok (.bipush 97, 2) := by decide +kernel
theorem dX9_digit_36 : decode cX9_digit 36 = .ok (.isub, 1) := by decide +kernel
theorem dX9_digit_37 : decode cX9_digit 37 = .ok (.bipush 10, 2) := by decide +kernel
theorem dX9_digit_39 : decode cX9_digit 39 = .ok (.iadd, 1) := by decide +kernel
theorem dX9_digit_40 : decode cX9_digit 40 = .ok (.ireturn, 1) := by decide +kernel
theorem dX9_digit_41 : decode cX9_digit 41 = .ok (.iload_n 1, 1) := by decide +kernel
theorem dX9_digit_42 : decode cX9_digit 42 = .ok (.ifCond .eq 25, 3) := by decide +kernel
theorem dX9_digit_45 : decode cX9_digit 45 = .ok (.iload_n 0, 1) := by decide +kernel
theorem dX9_digit_46 : decode cX9_digit 46 = .ok (.bipush 65, 2) := by decide +kernel
theorem dX9_digit_48 : decode cX9_digit 48 = .ok (.if_icmp .lt 19, 3) := by decide +kernel
theorem dX9_digit_51 : decode cX9_digit 51 = .ok (.iload_n 0, 1) := by decide +kernel
theorem dX9_digit_52 : decode cX9_digit 52 = .ok (.bipush 70, 2) := by decide +kernel
theorem dX9_digit_54 : decode cX9_digit 54 = .ok (.if_icmp .gt 13, 3) := by decide +kernel
theorem dX9_digit_57 : decode cX9_digit 57 = .ok (.iload_n 0, 1) := by decide +kernel
theorem dX9_digit_58 : decode cX9_digit 58 = .ok (.bipush 65, 2) := by decide +kernel
theorem dX9_digit_60 : decode cX9_digit 60 = .ok (.isub, 1) := by decide +kernel
theorem dX9_digit_61 : decode cX9_digit 61 = .ok (.bipush 10, 2) := by decide +kernel
theorem dX9_digit_63 : decode cX9_digit 63 = .ok (.iadd, 1) := by decide +kernel
theorem dX9_digit_64 : decode cX9_digit 64 = .ok (.goto 4, 3) := by decide +kernel
theorem dX9_digit_67 : decode cX9_digit 67 = .ok (.iconst (-1), 1) := by decide +kernel
theorem dX9_digit_68 : decode cX9_digit 68 = .ok (.ireturn, 1) := by decide +kernel
abbrev cX9_isWordByte : ByteArray := prog_11_method_38_code
def yX9_isWordByte : MethodName := ⟨RX9, "isWordByte", "(I)Z"⟩
theorem dX9_isWordByte_0 : decode cX9_isWordByte 0 = .ok (.iload_n 0, 1) := by decide +kernel
theorem dX9_isWordByte_1 : decode cX9_isWordByte 1 = .ok (.bipush 97, 2) := by decide +kernel
theorem dX9_isWordByte_3 : decode cX9_isWordByte 3 = .ok (.if_icmp .lt 9, 3) := by decide +kernel
theorem dX9_isWordByte_6 : decode cX9_isWordByte 6 = .ok (.iload_n 0, 1) := by decide +kernel
theorem dX9_isWordByte_7 : decode cX9_isWordByte 7 = .ok (.bipush 122, 2) := by decide +kernel
theorem dX9_isWordByte_9 : decode cX9_isWordByte 9 = .ok (.if_icmp .le 33, 3) := by decide +kernel
theorem dX9_isWordByte_12 : decode cX9_isWordByte 12 = .ok (.iload_n 0, 1) := by decide +kernel
theorem dX9_isWordByte_13 : decode cX9_isWordByte 13 = .ok (.bipush 65, 2) := by decide +kernel
theorem dX9_isWordByte_15 : decode cX9_isWordByte 15 = .ok (.if_icmp .lt 9, 3) := by decide +kernel
theorem dX9_isWordByte_18 : decode cX9_isWordByte 18 = .ok (.iload_n 0, 1) := by decide +kernel
theorem dX9_isWordByte_19 : decode cX9_isWordByte 19 = .ok (.bipush 90, 2) := by decide +kernel
theorem dX9_isWordByte_21 : decode cX9_isWordByte 21 = .ok (.if_icmp .le 21, 3) := by decide +kernel
theorem dX9_isWordByte_24 : decode cX9_isWordByte 24 = .ok (.iload_n 0, 1) := by decide +kernel
theorem dX9_isWordByte_25 : decode cX9_isWordByte 25 = .ok (.bipush 95, 2) := by decide +kernel
theorem dX9_isWordByte_27 : decode cX9_isWordByte 27 = .ok (.if_icmp .eq 15, 3) := by decide +kernel
theorem dX9_isWordByte_30 : decode cX9_isWordByte 30 = .ok (.iload_n 0, 1) := by decide +kernel
theorem dX9_isWordByte_31 : decode cX9_isWordByte 31 = .ok (.bipush 48, 2) := by decide +kernel
theorem dX9_isWordByte_33 : decode cX9_isWordByte 33 = .ok (.if_icmp .lt 13, 3) := by decide +kernel
theorem dX9_isWordByte_36 : decode cX9_isWordByte 36 = .ok (.iload_n 0, 1) := by decide +kernel
theorem dX9_isWordByte_37 : decode cX9_isWordByte 37 = .ok (.bipush 57, 2) := by decide +kernel
theorem dX9_isWordByte_39 : decode cX9_isWordByte 39 = .ok (.if_icmp .gt 7, 3) := by decide +kernel
theorem dX9_isWordByte_42 : decode cX9_isWordByte 42 = .ok (.iconst 1, 1) := by decide +kernel
theorem dX9_isWordByte_43 : decode cX9_isWordByte 43 = .ok (.goto 4, 3) := by decide +kernel
theorem dX9_isWordByte_46 : decode cX9_isWordByte 46 = .ok (.iconst 0, 1) := by decide +kernel
theorem dX9_isWordByte_47 : decode cX9_isWordByte 47 = .ok (.ireturn, 1) := by decide +kernel
abbrev cX9_strength : ByteArray := prog_11_method_39_code
def yX9_strength : MethodName := ⟨RX9, "strength", "(I)I"⟩
theorem dX9_strength_0 : decode cX9_strength 0 = .ok (.iload_n 0, 1) := by decide +kernel
theorem dX9_strength_1 : decode cX9_strength 1 = .ok (.lookupswitch 188 #[(37, 185), (38, 171), (42, 185), (43, 182), (45, 182), (47, 185), (60, 176), (62, 176), (94, 169), (124, 167), (8509, 173), (9766, 165), (15420, 179), (15421, 176), (15677, 173), (15933, 176), (15934, 179), (31868, 163), (4079166, 179)], 163) := by decide +kernel
theorem dX9_strength_164 : decode cX9_strength 164 = .ok (.iconst 1, 1) := by decide +kernel
theorem dX9_strength_165 : decode cX9_strength 165 = .ok (.ireturn, 1) := by decide +kernel
theorem dX9_strength_166 : decode cX9_strength 166 = .ok (.iconst 2, 1) := by decide +kernel
theorem dX9_strength_167 : decode cX9_strength 167 = .ok (.ireturn, 1) := by decide +kernel
theorem dX9_strength_168 : decode cX9_strength 168 = .ok (.iconst 3, 1) := by decide +kernel
theorem dX9_strength_169 : decode cX9_strength 169 = .ok (.ireturn, 1) := by decide +kernel
theorem dX9_strength_170 : decode cX9_strength 170 = .ok (.iconst 4, 1) := by decide +kernel
theorem dX9_strength_171 : decode cX9_strength 171 = .ok (.ireturn, 1) := by decide +kernel
theorem dX9_strength_172 : decode cX9_strength 172 = .ok (.iconst 5, 1) := by decide +kernel
theorem dX9_strength_173 : decode cX9_strength 173 = .ok (.ireturn, 1) := by decide +kernel
theorem dX9_strength_174 : decode cX9_strength 174 = .ok (.bipush 6, 2) := by decide +kernel
theorem dX9_strength_176 : decode cX9_strength 176 = .ok (.ireturn, 1) := by decide +kernel
theorem dX9_strength_177 : decode cX9_strength 177 = .ok (.bipush 7, 2) := by decide +kernel
theorem dX9_strength_179 : decode cX9_strength 179 = .ok (.ireturn, 1) := by decide +kernel
theorem dX9_strength_180 : decode cX9_strength 180 = .ok (.bipush 8, 2) := by decide +kernel
theorem dX9_strength_182 : decode cX9_strength 182 = .ok (.ireturn, 1) := by decide +kernel
theorem dX9_strength_183 : decode cX9_strength 183 = .ok (.bipush 9, 2) := by decide +kernel
theorem dX9_strength_185 : decode cX9_strength 185 = .ok (.ireturn, 1) := by decide +kernel
theorem dX9_strength_186 : decode cX9_strength 186 = .ok (.bipush 10, 2) := by decide +kernel
theorem dX9_strength_188 : decode cX9_strength 188 = .ok (.ireturn, 1) := by decide +kernel
theorem dX9_strength_189 : decode cX9_strength 189 = .ok (.iconst 0, 1) := by decide +kernel
theorem dX9_strength_190 : decode cX9_strength 190 = .ok (.ireturn, 1) := by decide +kernel
abbrev cX9_operation : ByteArray := prog_11_method_40_code
def yX9_operation : MethodName := ⟨RX9, "operation", "(I)I"⟩
theorem dX9_operation_0 : decode cX9_operation 0 = .ok (.iload_n 0, 1) := by decide +kernel
theorem dX9_operation_1 : decode cX9_operation 1 = .ok (.lookupswitch 126 #[(37, 107), (38, 109), (42, 103), (43, 99), (45, 101), (47, 105), (94, 114), (124, 111), (15420, 117), (15934, 120), (4079166, 123)], 99) := by decide +kernel
theorem dX9_operation_100 : decode cX9_operation 100 = .ok (.iconst 0, 1) := by decide +kernel
theorem dX9_operation_101 : decode cX9_operation 101 = .ok (.ireturn, 1) := by decide +kernel
theorem dX9_operation_102 : decode cX9_operation 102 = .ok (.iconst 1, 1) := by decide +kernel
theorem dX9_operation_103 : decode cX9_operation 103 = .ok (.ireturn, 1) := by decide +kernel
theorem dX9_operation_104 : decode cX9_operation 104 = .ok (.iconst 2, 1) := by decide +kernel
theorem dX9_operation_105 : decode cX9_operation 105 = .ok (.ireturn, 1) := by decide +kernel
theorem dX9_operation_106 : decode cX9_operation 106 = .ok (.iconst 3, 1) := by decide +kernel
theorem dX9_operation_107 : decode cX9_operation 107 = .ok (.ireturn, 1) := by decide +kernel
theorem dX9_operation_108 : decode cX9_operation 108 = .ok (.iconst 4, 1) := by decide +kernel
theorem dX9_operation_109 : decode cX9_operation 109 = .ok (.ireturn, 1) := by decide +kernel
theorem dX9_operation_110 : decode cX9_operation 110 = .ok (.iconst 5, 1) := by decide +kernel
theorem dX9_operation_111 : decode cX9_operation 111 = .ok (.ireturn, 1) := by decide +kernel
theorem dX9_operation_112 : decode cX9_operation 112 = .ok (.bipush 6, 2) := by decide +kernel
theorem dX9_operation_114 : decode cX9_operation 114 = .ok (.ireturn, 1) := by decide +kernel
theorem dX9_operation_115 : decode cX9_operation 115 = .ok (.bipush 7, 2) := by decide +kernel
theorem dX9_operation_117 : decode cX9_operation 117 = .ok (.ireturn, 1) := by decide +kernel
theorem dX9_operation_118 : decode cX9_operation 118 = .ok (.bipush 8, 2) := by decide +kernel
theorem dX9_operation_120 : decode cX9_operation 120 = .ok (.ireturn, 1) := by decide +kernel
theorem dX9_operation_121 : decode cX9_operation 121 = .ok (.bipush 9, 2) := by decide +kernel
theorem dX9_operation_123 : decode cX9_operation 123 = .ok (.ireturn, 1) := by decide +kernel
theorem dX9_operation_124 : decode cX9_operation 124 = .ok (.bipush 10, 2) := by decide +kernel
theorem dX9_operation_126 : decode cX9_operation 126 = .ok (.ireturn, 1) := by decide +kernel
theorem dX9_operation_127 : decode cX9_operation 127 = .ok (.iconst (-1), 1) := by decide +kernel
theorem dX9_operation_128 : decode cX9_operation 128 = .ok (.ireturn, 1) := by decide +kernel
abbrev cX9_comparison : ByteArray := prog_11_method_41_code
def yX9_comparison : MethodName := ⟨RX9, "comparison", "(I)I"⟩
theorem dX9_comparison_0 : decode cX9_comparison 0 = .ok (.iload_n 0, 1) := by decide +kernel
theorem dX9_comparison_1 : decode cX9_comparison 1 = .ok (.lookupswitch 71 #[(60, 63), (62, 67), (8509, 61), (15421, 65), (15677, 59), (15933, 69)], 59) := by decide +kernel
theorem dX9_comparison_60 : decode cX9_comparison 60 = .ok (.iconst 0, 1) := by decide +kernel
theorem dX9_comparison_61 : decode cX9_comparison 61 = .ok (.ireturn, 1) := by decide +kernel
theorem dX9_comparison_62 : decode cX9_comparison 62 = .ok (.iconst 1, 1) := by decide +kernel
theorem dX9_comparison_63 : decode cX9_comparison 63 = .ok (.ireturn, 1) := by decide +kernel
theorem dX9_comparison_64 : decode cX9_comparison 64 = .ok (.iconst 2, 1) := by decide +kernel
theorem dX9_comparison_65 : decode cX9_comparison 65 = .ok (.ireturn, 1) := by decide +kernel
theorem dX9_comparison_66 : decode cX9_comparison 66 = .ok (.iconst 3, 1) := by decide +kernel
theorem dX9_comparison_67 : decode cX9_comparison 67 = .ok (.ireturn, 1) := by decide +kernel
theorem dX9_comparison_68 : decode cX9_comparison 68 = .ok (.iconst 4, 1) := by decide +kernel
theorem dX9_comparison_69 : decode cX9_comparison 69 = .ok (.ireturn, 1) := by decide +kernel
theorem dX9_comparison_70 : decode cX9_comparison 70 = .ok (.iconst 5, 1) := by decide +kernel
theorem dX9_comparison_71 : decode cX9_comparison 71 = .ok (.ireturn, 1) := by decide +kernel
theorem dX9_comparison_72 : decode cX9_comparison 72 = .ok (.iconst (-1), 1) := by decide +kernel
theorem dX9_comparison_73 : decode cX9_comparison 73 = .ok (.ireturn, 1) := by decide +kernel
abbrev cX9_assigned : ByteArray := prog_11_method_42_code
def yX9_assigned : MethodName := ⟨RX9, "assigned", "(I)I"⟩
theorem dX9_assigned_0 : decode cX9_assigned 0 = .ok (.iload_n 0, 1) := by decide +kernel
theorem dX9_assigned_1 : decode cX9_assigned 1 = .ok (.sipush 255, 3) := by decide +kernel
theorem dX9_assigned_4 : decode cX9_assigned 4 = .ok (.iand, 1) := by decide +kernel
theorem dX9_assigned_5 : decode cX9_assigned 5 = .ok (.bipush 61, 2) := by decide +kernel
theorem dX9_assigned_7 : decode cX9_assigned 7 = .ok (.if_icmp .ne 13, 3) := by decide +kernel
theorem dX9_assigned_10 : decode cX9_assigned 10 = .ok (.iload_n 0, 1) := by decide +kernel
theorem dX9_assigned_11 : decode cX9_assigned 11 = .ok (.bipush 8, 2) := by decide +kernel
theorem dX9_assigned_13 : decode cX9_assigned 13 = .ok (.ishr, 1) := by decide +kernel
theorem dX9_assigned_14 : decode cX9_assigned 14 = .ok (.invokestatic 147, 3) := by decide +kernel
theorem dX9_assigned_17 : decode cX9_assigned 17 = .ok (.goto 4, 3) := by decide +kernel
theorem dX9_assigned_20 : decode cX9_assigned 20 = .ok (.iconst (-1), 1) := by decide +kernel
theorem dX9_assigned_21 : decode cX9_assigned 21 = .ok (.ireturn, 1) := by decide +kernel
theorem gw_2 : (Jvm.Cond.initialized "SoftController$Tokens") ∈ GW := gw_t (tin_1 _ (List.mem_of_getElem? (i := 2) rfl)) rfl
theorem gw_946 : (Jvm.Cond.methodLink "SoftController$Tokens" (147 : Nat) ({ cls := "SoftController$Tokens", name := "operation", desc := "(I)I" } : Jvm.MethodName)) ∈ GW := gw_t (tin_4 _ (List.mem_of_getElem? (i := 226) rfl)) rfl
theorem gw_947 : (Jvm.Cond.static ({ cls := "SoftController$Tokens", name := "operation", desc := "(I)I" } : Jvm.MethodName)) ∈ GW := gw_t (tin_4 _ (List.mem_of_getElem? (i := 227) rfl)) rfl
theorem gw_948 : (Jvm.Cond.code ({ cls := "SoftController$Tokens", name := "operation", desc := "(I)I" } : Jvm.MethodName) prog_11_method_40_code (1 : Nat) (Option.some Jvm.ClassFile.FieldType.int)) ∈ GW := gw_t (tin_4 _ (List.mem_of_getElem? (i := 228) rfl)) rfl
section C31signs
variable {p : Program} {l : Launch} {e : Env} {R : Room} {s : State} {m : MethodId} {args : Array Value} {below : List Frame} {meth : Method} {c : Code} {H : Heap} {locs : List Loc} {Q : State → Prop} {cells slots : Nat}
variable {ls : Array Slot} {D : va_G} {kA : Nat → ClassId} {V Z : Nat → Nat} {A : Nat → Prop} {N d : Nat} {w : CSt}
def B_X9_mostRepeats_0 (N : Nat) (l0 : Int32) : Option Int32 := if l0 = 38 then (some 2) else (if l0 = 43 then (some 2) else (if l0 = 45 then (some 2) else (if l0 = 46 then (some 2) else (if l0 = 60 then (some 2) else (if l0 = 61 then (some 2) else (if l0 = 62 then (some 3) else (if l0 = 124 then (some 2) else (some 1))))))))
set_option maxHeartbeats 4000000 in
theorem b_X9_mostRepeats_0 {r : Int32} (X : CallFix p m c cX9_mostRepeats 1 s args (Cond.code yX9_mostRepeats cX9_mostRepeats 1 (some .int) :: GW) RX9) (hE : ∀ (ls : Array Slot) (pc : Nat), decode cX9_mostRepeats pc = .ok (.ireturn, 1) → W p l e R s m args below meth c s.heap [] 0 0 Q (F0 m pc ls [.int r])) (hF : 0 ≤ R.frames) (hL : 0 ≤ R.locals) {l0 : Int32}  (h : B_X9_mostRepeats_0 N l0 = some r)  (hl : lv_has ls 1 [(0, .int l0)]) : W p l e R s m args below meth c s.heap [] 0 0 Q (F0 m 0 ls []) := by
  obtain ⟨hx, hb, hml, hown, hts⟩ := id X
  have hG : ∀ w ∈ GW, w.before args s = true := fun w h => hts w (List.mem_cons_of_mem _ h)
  unfold B_X9_mostRepeats_0 at h
  refine lv_iload_n hx hb dX9_mostRepeats_0 rfl (lv_at hl 0 rfl) ?_
  by_cases e_1 : l0 = 38
  · have h := ip e_1 h
    refine lv_lookup (off := 77) (tgt := 78) hx hb dX9_mostRepeats_1 (by decide) (by rw [e_1]; decide) (by decide) ?_
    refine lv_iconst (v := 2) hx hb dX9_mostRepeats_78 (by decide) ?_
    obtain rfl := Option.some.inj h
    exact hE _ _ dX9_mostRepeats_79
  have h := im e_1 h
  by_cases e_2 : l0 = 43
  · have h := ip e_2 h
    refine lv_lookup (off := 77) (tgt := 78) hx hb dX9_mostRepeats_1 (by decide) (by rw [e_2]; decide) (by decide) ?_
    refine lv_iconst (v := 2) hx hb dX9_mostRepeats_78 (by decide) ?_
    obtain rfl := Option.some.inj h
    exact hE _ _ dX9_mostRepeats_79
  have h := im e_2 h
  by_cases e_3 : l0 = 45
  · have h := ip e_3 h
    refine lv_lookup (off := 77) (tgt := 78) hx hb dX9_mostRepeats_1 (by decide) (by rw [e_3]; decide) (by decide) ?_
    refine lv_iconst (v := 2) hx hb dX9_mostRepeats_78 (by decide) ?_
    obtain rfl := Option.some.inj h
    exact hE _ _ dX9_mostRepeats_79
  have h := im e_3 h
  by_cases e_4 : l0 = 46
  · have h := ip e_4 h
    refine lv_lookup (off := 77) (tgt := 78) hx hb dX9_mostRepeats_1 (by decide) (by rw [e_4]; decide) (by decide) ?_
    refine lv_iconst (v := 2) hx hb dX9_mostRepeats_78 (by decide) ?_
    obtain rfl := Option.some.inj h
    exact hE _ _ dX9_mostRepeats_79
  have h := im e_4 h
  by_cases e_5 : l0 = 60
  · have h := ip e_5 h
    refine lv_lookup (off := 77) (tgt := 78) hx hb dX9_mostRepeats_1 (by decide) (by rw [e_5]; decide) (by decide) ?_
    refine lv_iconst (v := 2) hx hb dX9_mostRepeats_78 (by decide) ?_
    obtain rfl := Option.some.inj h
    exact hE _ _ dX9_mostRepeats_79
  have h := im e_5 h
  by_cases e_6 : l0 = 61
  · have h := ip e_6 h
    refine lv_lookup (off := 77) (tgt := 78) hx hb dX9_mostRepeats_1 (by decide) (by rw [e_6]; decide) (by decide) ?_
    refine lv_iconst (v := 2) hx hb dX9_mostRepeats_78 (by decide) ?_
    obtain rfl := Option.some.inj h
    exact hE _ _ dX9_mostRepeats_79
  have h := im e_6 h
  by_cases e_7 : l0 = 62
  · have h := ip e_7 h
    refine lv_lookup (off := 75) (tgt := 76) hx hb dX9_mostRepeats_1 (by decide) (by rw [e_7]; decide) (by decide) ?_
    refine lv_iconst (v := 3) hx hb dX9_mostRepeats_76 (by decide) ?_
    obtain rfl := Option.some.inj h
    exact hE _ _ dX9_mostRepeats_77
  have h := im e_7 h
  by_cases e_8 : l0 = 124
  · have h := ip e_8 h
    refine lv_lookup (off := 77) (tgt := 78) hx hb dX9_mostRepeats_1 (by decide) (by rw [e_8]; decide) (by decide) ?_
    refine lv_iconst (v := 2) hx hb dX9_mostRepeats_78 (by decide) ?_
    obtain rfl := Option.some.inj h
    exact hE _ _ dX9_mostRepeats_79
  have h := im e_8 h
  have ne_1 : ¬ (38 : Int) = (l0).toInt := fun q => e_1 (Int32.toInt_inj.mp (q.symm.trans (by decide)))
  have ne_2 : ¬ (43 : Int) = (l0).toInt := fun q => e_2 (Int32.toInt_inj.mp (q.symm.trans (by decide)))
  have ne_3 : ¬ (45 : Int) = (l0).toInt := fun q => e_3 (Int32.toInt_inj.mp (q.symm.trans (by decide)))
  have ne_4 : ¬ (46 : Int) = (l0).toInt := fun q => e_4 (Int32.toInt_inj.mp (q.symm.trans (by decide)))
  have ne_5 : ¬ (60 : Int) = (l0).toInt := fun q => e_5 (Int32.toInt_inj.mp (q.symm.trans (by decide)))
  have ne_6 : ¬ (61 : Int) = (l0).toInt := fun q => e_6 (Int32.toInt_inj.mp (q.symm.trans (by decide)))
  have ne_7 : ¬ (62 : Int) = (l0).toInt := fun q => e_7 (Int32.toInt_inj.mp (q.symm.trans (by decide)))
  have ne_8 : ¬ (124 : Int) = (l0).toInt := fun q => e_8 (Int32.toInt_inj.mp (q.symm.trans (by decide)))
  refine lv_lookup (off := 79) (tgt := 80) hx hb dX9_mostRepeats_1 (by decide) (by simp [Op.lookupswitch.offset, ne_1, ne_2, ne_3, ne_4, ne_5, ne_6, ne_7, ne_8]) (by decide) ?_
  refine lv_iconst (v := 1) hx hb dX9_mostRepeats_80 (by decide) ?_
  obtain rfl := Option.some.inj h
  exact hE _ _ dX9_mostRepeats_81
def F_X9_mostRepeats (N : Nat) (l0 : Int32) : Option Int32 := B_X9_mostRepeats_0 N l0
set_option maxHeartbeats 4000000 in
theorem k_X9_mostRepeats (l : Launch) (N : Nat) (l0 : Int32) {r : Int32} (h : F_X9_mostRepeats N l0 = some r) : Met l yX9_mostRepeats (Cond.code yX9_mostRepeats cX9_mostRepeats 1 (some .int) :: GW) { frames := 0, cells := 0, slots := 0, locals := 0 } (va_Pc [.int l0] (fun _ => True)) (vp_Si (fun rz => rz = r)) 0 0 (fun _ => False) := by
  refine Met.ofW (cc := cX9_mostRepeats) (maxL := 1) (ret := (some .int)) (by decide) rfl ?_
  intro p e s m args below meth c s₁ Bd hml hv
  obtain ⟨rfl, -⟩ := hv
  have hts := atoms_spec (ws := Cond.code yX9_mostRepeats cX9_mostRepeats 1 (some .int) :: GW) Bd.pre
  have hl := lv_entry ([.int l0]) (n := 1) (Nat.le_of_ble_eq_true rfl)
  rw [lg_entry_eq]
  generalize (lg_sl ([.int l0]) ++ List.replicate (1 - (lg_sl ([.int l0])).length) Slot.unset).toArray = ls at hl ⊢
  have hl : lv_has ls 1 [(0, .int l0)] := hl
  have hr := Bd.returns
  have hlocks := Bd.notSynchronized
  have X : CallFix p m c cX9_mostRepeats 1 s ([.int l0]).toArray (Cond.code yX9_mostRepeats cX9_mostRepeats 1 (some .int) :: GW) RX9 := ⟨Bd.exec, Bd.bytes, hml, findClass_of_methodNamed Bd.named, hts⟩
  have hE0 := fun (ls : Array Slot) (pc : Nat) (hd : decode cX9_mostRepeats pc = .ok (.ireturn, 1)) => W.iret (v := r) X.1 X.2.1 hr (Qc := vp_Si (fun rz => rz = r)) (H := s.heap) (locs := []) (cells := 0) (slots := 0) (free := fun _ => False) (R := (headSpec (Cond.code yX9_mostRepeats cX9_mostRepeats 1 (some .int) :: GW) ({ frames := 0, cells := 0, slots := 0, locals := 0 })).room) (p := p) (l := l) (e := e) (s := s) (m := m) (args := ([.int l0]).toArray) (below := below) (meth := meth) (c := c) (ls := ls) (fun t ht hW => ⟨_, rfl, rfl, ht⟩) (fun _ h => nomatch h) hd hlocks
  exact b_X9_mostRepeats_0 X hE0 (Nat.le_refl _) (Nat.le_refl _) h (lv_sub hl [0] rfl)
def B_X9_takesEquals_0 (N : Nat) (l0 : Int32) (l1 : Int32) : Option Int32 := if l0 = 33 then (if l1 = (1 : Int32) then (some 1) else (some 0)) else (if l0 = 37 then (if l1 = (1 : Int32) then (some 1) else (some 0)) else (if l0 = 38 then (if l1 = (1 : Int32) then (some 1) else (some 0)) else (if l0 = 42 then (if l1 = (1 : Int32) then (some 1) else (some 0)) else (if l0 = 43 then (if l1 = (1 : Int32) then (some 1) else (some 0)) else (if l0 = 45 then (if l1 = (1 : Int32) then (some 1) else (some 0)) else (if l0 = 47 then (if l1 = (1 : Int32) then (some 1) else (some 0)) else (if l0 = 60 then (some 1) else (if l0 = 62 then (some 1) else (if l0 = 94 then (if l1 = (1 : Int32) then (some 1) else (some 0)) else (if l0 = 124 then (if l1 = (1 : Int32) then (some 1) else (some 0)) else (some 0)))))))))))
set_option maxHeartbeats 4000000 in
theorem b_X9_takesEquals_0 {r : Int32} (X : CallFix p m c cX9_takesEquals 2 s args (Cond.code yX9_takesEquals cX9_takesEquals 2 (some .boolean) :: GW) RX9) (hE : ∀ (ls : Array Slot) (pc : Nat), (r = 0 ∨ r = 1) → decode cX9_takesEquals pc = .ok (.ireturn, 1) → W p l e R s m args below meth c s.heap [] 0 0 Q (F0 m pc ls [.int r])) (hF : 0 ≤ R.frames) (hL : 0 ≤ R.locals) {l0 : Int32} {l1 : Int32}  (h : B_X9_takesEquals_0 N l0 l1 = some r)  (hl : lv_has ls 2 [(0, .int l0), (1, .int l1)]) : W p l e R s m args below meth c s.heap [] 0 0 Q (F0 m 0 ls []) := by
  obtain ⟨hx, hb, hml, hown, hts⟩ := id X
  have hG : ∀ w ∈ GW, w.before args s = true := fun w h => hts w (List.mem_cons_of_mem _ h)
  unfold B_X9_takesEquals_0 at h
  refine lv_iload_n hx hb dX9_takesEquals_0 rfl (lv_at hl 0 rfl) ?_
  by_cases e_1 : l0 = 33
  · have h := ip e_1 h
    refine lv_lookup (off := 112) (tgt := 113) hx hb dX9_takesEquals_1 (by decide) (by rw [e_1]; decide) (by decide) ?_
    refine lv_iload_n hx hb dX9_takesEquals_113 rfl (lv_at hl 1 rfl) ?_
    refine lv_iconst (v := 1) hx hb dX9_takesEquals_114 (by decide) ?_
    refine lv_icmp_ne (tgt := 122) hx hb dX9_takesEquals_115 (by decide) (fun c_2 => ?_) (fun c_2 => ?_)
    · have h := im (c_2) h
      refine lv_iconst (v := 0) hx hb dX9_takesEquals_122 (by decide) ?_
      obtain rfl := Option.some.inj h
      exact hE _ _ (Or.inl rfl) dX9_takesEquals_123
    · have h := ip (c_2) h
      refine lv_iconst (v := 1) hx hb dX9_takesEquals_118 (by decide) ?_
      refine lv_goto (tgt := 123) hx hb dX9_takesEquals_119 (by decide) ?_
      obtain rfl := Option.some.inj h
      exact hE _ _ (Or.inr rfl) dX9_takesEquals_123
  have h := im e_1 h
  by_cases e_3 : l0 = 37
  · have h := ip e_3 h
    refine lv_lookup (off := 101) (tgt := 102) hx hb dX9_takesEquals_1 (by decide) (by rw [e_3]; decide) (by decide) ?_
    refine lv_iload_n hx hb dX9_takesEquals_102 rfl (lv_at hl 1 rfl) ?_
    refine lv_iconst (v := 1) hx hb dX9_takesEquals_103 (by decide) ?_
    refine lv_icmp_ne (tgt := 111) hx hb dX9_takesEquals_104 (by decide) (fun c_4 => ?_) (fun c_4 => ?_)
    · have h := im (c_4) h
      refine lv_iconst (v := 0) hx hb dX9_takesEquals_111 (by decide) ?_
      obtain rfl := Option.some.inj h
      exact hE _ _ (Or.inl rfl) dX9_takesEquals_112
    · have h := ip (c_4) h
      refine lv_iconst (v := 1) hx hb dX9_takesEquals_107 (by decide) ?_
      refine lv_goto (tgt := 112) hx hb dX9_takesEquals_108 (by decide) ?_
      obtain rfl := Option.some.inj h
      exact hE _ _ (Or.inr rfl) dX9_takesEquals_112
  have h := im e_3 h
  by_cases e_5 : l0 = 38
  · have h := ip e_5 h
    refine lv_lookup (off := 112) (tgt := 113) hx hb dX9_takesEquals_1 (by decide) (by rw [e_5]; decide) (by decide) ?_
    refine lv_iload_n hx hb dX9_takesEquals_113 rfl (lv_at hl 1 rfl) ?_
    refine lv_iconst (v := 1) hx hb dX9_takesEquals_114 (by decide) ?_
    refine lv_icmp_ne (tgt := 122) hx hb dX9_takesEquals_115 (by decide) (fun c_6 => ?_) (fun c_6 => ?_)
    · have h := im (c_6) h
      refine lv_iconst (v := 0) hx hb dX9_takesEquals_122 (by decide) ?_
      obtain rfl := Option.some.inj h
      exact hE _ _ (Or.inl rfl) dX9_takesEquals_123
    · have h := ip (c_6) h
      refine lv_iconst (v := 1) hx hb dX9_takesEquals_118 (by decide) ?_
      refine lv_goto (tgt := 123) hx hb dX9_takesEquals_119 (by decide) ?_
      obtain rfl := Option.some.inj h
      exact hE _ _ (Or.inr rfl) dX9_takesEquals_123
  have h := im e_5 h
  by_cases e_7 : l0 = 42
  · have h := ip e_7 h
    refine lv_lookup (off := 101) (tgt := 102) hx hb dX9_takesEquals_1 (by decide) (by rw [e_7]; decide) (by decide) ?_
    refine lv_iload_n hx hb dX9_takesEquals_102 rfl (lv_at hl 1 rfl) ?_
    refine lv_iconst (v := 1) hx hb dX9_takesEquals_103 (by decide) ?_
    refine lv_icmp_ne (tgt := 111) hx hb dX9_takesEquals_104 (by decide) (fun c_8 => ?_) (fun c_8 => ?_)
    · have h := im (c_8) h
      refine lv_iconst (v := 0) hx hb dX9_takesEquals_111 (by decide) ?_
      obtain rfl := Option.some.inj h
      exact hE _ _ (Or.inl rfl) dX9_takesEquals_112
    · have h := ip (c_8) h
      refine lv_iconst (v := 1) hx hb dX9_takesEquals_107 (by decide) ?_
      refine lv_goto (tgt := 112) hx hb dX9_takesEquals_108 (by decide) ?_
      obtain rfl := Option.some.inj h
      exact hE _ _ (Or.inr rfl) dX9_takesEquals_112
  have h := im e_7 h
  by_cases e_9 : l0 = 43
  · have h := ip e_9 h
    refine lv_lookup (off := 101) (tgt := 102) hx hb dX9_takesEquals_1 (by decide) (by rw [e_9]; decide) (by decide) ?_
    refine lv_iload_n hx hb dX9_takesEquals_102 rfl (lv_at hl 1 rfl) ?_
    refine lv_iconst (v := 1) hx hb dX9_takesEquals_103 (by decide) ?_
    refine lv_icmp_ne (tgt := 111) hx hb dX9_takesEquals_104 (by decide) (fun c_10 => ?_) (fun c_10 => ?_)
    · have h := im (c_10) h
      refine lv_iconst (v := 0) hx hb dX9_takesEquals_111 (by decide) ?_
      obtain rfl := Option.some.inj h
      exact hE _ _ (Or.inl rfl) dX9_takesEquals_112
    · have h := ip (c_10) h
      refine lv_iconst (v := 1) hx hb dX9_takesEquals_107 (by decide) ?_
      refine lv_goto (tgt := 112) hx hb dX9_takesEquals_108 (by decide) ?_
      obtain rfl := Option.some.inj h
      exact hE _ _ (Or.inr rfl) dX9_takesEquals_112
  have h := im e_9 h
  by_cases e_11 : l0 = 45
  · have h := ip e_11 h
    refine lv_lookup (off := 101) (tgt := 102) hx hb dX9_takesEquals_1 (by decide) (by rw [e_11]; decide) (by decide) ?_
    refine lv_iload_n hx hb dX9_takesEquals_102 rfl (lv_at hl 1 rfl) ?_
    refine lv_iconst (v := 1) hx hb dX9_takesEquals_103 (by decide) ?_
    refine lv_icmp_ne (tgt := 111) hx hb dX9_takesEquals_104 (by decide) (fun c_12 => ?_) (fun c_12 => ?_)
    · have h := im (c_12) h
      refine lv_iconst (v := 0) hx hb dX9_takesEquals_111 (by decide) ?_
      obtain rfl := Option.some.inj h
      exact hE _ _ (Or.inl rfl) dX9_takesEquals_112
    · have h := ip (c_12) h
      refine lv_iconst (v := 1) hx hb dX9_takesEquals_107 (by decide) ?_
      refine lv_goto (tgt := 112) hx hb dX9_takesEquals_108 (by decide) ?_
      obtain rfl := Option.some.inj h
      exact hE _ _ (Or.inr rfl) dX9_takesEquals_112
  have h := im e_11 h
  by_cases e_13 : l0 = 47
  · have h := ip e_13 h
    refine lv_lookup (off := 101) (tgt := 102) hx hb dX9_takesEquals_1 (by decide) (by rw [e_13]; decide) (by decide) ?_
    refine lv_iload_n hx hb dX9_takesEquals_102 rfl (lv_at hl 1 rfl) ?_
    refine lv_iconst (v := 1) hx hb dX9_takesEquals_103 (by decide) ?_
    refine lv_icmp_ne (tgt := 111) hx hb dX9_takesEquals_104 (by decide) (fun c_14 => ?_) (fun c_14 => ?_)
    · have h := im (c_14) h
      refine lv_iconst (v := 0) hx hb dX9_takesEquals_111 (by decide) ?_
      obtain rfl := Option.some.inj h
      exact hE _ _ (Or.inl rfl) dX9_takesEquals_112
    · have h := ip (c_14) h
      refine lv_iconst (v := 1) hx hb dX9_takesEquals_107 (by decide) ?_
      refine lv_goto (tgt := 112) hx hb dX9_takesEquals_108 (by decide) ?_
      obtain rfl := Option.some.inj h
      exact hE _ _ (Or.inr rfl) dX9_takesEquals_112
  have h := im e_13 h
  by_cases e_15 : l0 = 60
  · have h := ip e_15 h
    refine lv_lookup (off := 99) (tgt := 100) hx hb dX9_takesEquals_1 (by decide) (by rw [e_15]; decide) (by decide) ?_
    refine lv_iconst (v := 1) hx hb dX9_takesEquals_100 (by decide) ?_
    obtain rfl := Option.some.inj h
    exact hE _ _ (Or.inr rfl) dX9_takesEquals_101
  have h := im e_15 h
  by_cases e_16 : l0 = 62
  · have h := ip e_16 h
    refine lv_lookup (off := 99) (tgt := 100) hx hb dX9_takesEquals_1 (by decide) (by rw [e_16]; decide) (by decide) ?_
    refine lv_iconst (v := 1) hx hb dX9_takesEquals_100 (by decide) ?_
    obtain rfl := Option.some.inj h
    exact hE _ _ (Or.inr rfl) dX9_takesEquals_101
  have h := im e_16 h
  by_cases e_17 : l0 = 94
  · have h := ip e_17 h
    refine lv_lookup (off := 112) (tgt := 113) hx hb dX9_takesEquals_1 (by decide) (by rw [e_17]; decide) (by decide) ?_
    refine lv_iload_n hx hb dX9_takesEquals_113 rfl (lv_at hl 1 rfl) ?_
    refine lv_iconst (v := 1) hx hb dX9_takesEquals_114 (by decide) ?_
    refine lv_icmp_ne (tgt := 122) hx hb dX9_takesEquals_115 (by decide) (fun c_18 => ?_) (fun c_18 => ?_)
    · have h := im (c_18) h
      refine lv_iconst (v := 0) hx hb dX9_takesEquals_122 (by decide) ?_
      obtain rfl := Option.some.inj h
      exact hE _ _ (Or.inl rfl) dX9_takesEquals_123
    · have h := ip (c_18) h
      refine lv_iconst (v := 1) hx hb dX9_takesEquals_118 (by decide) ?_
      refine lv_goto (tgt := 123) hx hb dX9_takesEquals_119 (by decide) ?_
      obtain rfl := Option.some.inj h
      exact hE _ _ (Or.inr rfl) dX9_takesEquals_123
  have h := im e_17 h
  by_cases e_19 : l0 = 124
  · have h := ip e_19 h
    refine lv_lookup (off := 112) (tgt := 113) hx hb dX9_takesEquals_1 (by decide) (by rw [e_19]; decide) (by decide) ?_
    refine lv_iload_n hx hb dX9_takesEquals_113 rfl (lv_at hl 1 rfl) ?_
    refine lv_iconst (v := 1) hx hb dX9_takesEquals_114 (by decide) ?_
    refine lv_icmp_ne (tgt := 122) hx hb dX9_takesEquals_115 (by decide) (fun c_20 => ?_) (fun c_20 => ?_)
    · have h := im (c_20) h
      refine lv_iconst (v := 0) hx hb dX9_takesEquals_122 (by decide) ?_
      obtain rfl := Option.some.inj h
      exact hE _ _ (Or.inl rfl) dX9_takesEquals_123
    · have h := ip (c_20) h
      refine lv_iconst (v := 1) hx hb dX9_takesEquals_118 (by decide) ?_
      refine lv_goto (tgt := 123) hx hb dX9_takesEquals_119 (by decide) ?_
      obtain rfl := Option.some.inj h
      exact hE _ _ (Or.inr rfl) dX9_takesEquals_123
  have h := im e_19 h
  have ne_1 : ¬ (33 : Int) = (l0).toInt := fun q => e_1 (Int32.toInt_inj.mp (q.symm.trans (by decide)))
  have ne_3 : ¬ (37 : Int) = (l0).toInt := fun q => e_3 (Int32.toInt_inj.mp (q.symm.trans (by decide)))
  have ne_5 : ¬ (38 : Int) = (l0).toInt := fun q => e_5 (Int32.toInt_inj.mp (q.symm.trans (by decide)))
  have ne_7 : ¬ (42 : Int) = (l0).toInt := fun q => e_7 (Int32.toInt_inj.mp (q.symm.trans (by decide)))
  have ne_9 : ¬ (43 : Int) = (l0).toInt := fun q => e_9 (Int32.toInt_inj.mp (q.symm.trans (by decide)))
  have ne_11 : ¬ (45 : Int) = (l0).toInt := fun q => e_11 (Int32.toInt_inj.mp (q.symm.trans (by decide)))
  have ne_13 : ¬ (47 : Int) = (l0).toInt := fun q => e_13 (Int32.toInt_inj.mp (q.symm.trans (by decide)))
  have ne_15 : ¬ (60 : Int) = (l0).toInt := fun q => e_15 (Int32.toInt_inj.mp (q.symm.trans (by decide)))
  have ne_16 : ¬ (62 : Int) = (l0).toInt := fun q => e_16 (Int32.toInt_inj.mp (q.symm.trans (by decide)))
  have ne_17 : ¬ (94 : Int) = (l0).toInt := fun q => e_17 (Int32.toInt_inj.mp (q.symm.trans (by decide)))
  have ne_19 : ¬ (124 : Int) = (l0).toInt := fun q => e_19 (Int32.toInt_inj.mp (q.symm.trans (by decide)))
  refine lv_lookup (off := 123) (tgt := 124) hx hb dX9_takesEquals_1 (by decide) (by simp [Op.lookupswitch.offset, ne_1, ne_3, ne_5, ne_7, ne_9, ne_11, ne_13, ne_15, ne_16, ne_17, ne_19]) (by decide) ?_
  refine lv_iconst (v := 0) hx hb dX9_takesEquals_124 (by decide) ?_
  obtain rfl := Option.some.inj h
  exact hE _ _ (Or.inl rfl) dX9_takesEquals_125
def F_X9_takesEquals (N : Nat) (l0 : Int32) (l1 : Int32) : Option Int32 := B_X9_takesEquals_0 N l0 l1
set_option maxHeartbeats 4000000 in
theorem k_X9_takesEquals (l : Launch) (N : Nat) (l0 : Int32) (l1 : Int32) {r : Int32} (h : F_X9_takesEquals N l0 l1 = some r) : Met l yX9_takesEquals (Cond.code yX9_takesEquals cX9_takesEquals 2 (some .boolean) :: GW) { frames := 0, cells := 0, slots := 0, locals := 0 } (va_Pc [.int l0, .int l1] (fun _ => True)) (vp_Si (fun rz => rz = r)) 0 0 (fun _ => False) := by
  refine Met.ofW (cc := cX9_takesEquals) (maxL := 2) (ret := (some .boolean)) (by decide) rfl ?_
  intro p e s m args below meth c s₁ Bd hml hv
  obtain ⟨rfl, -⟩ := hv
  have hts := atoms_spec (ws := Cond.code yX9_takesEquals cX9_takesEquals 2 (some .boolean) :: GW) Bd.pre
  have hl := lv_entry ([.int l0, .int l1]) (n := 2) (Nat.le_of_ble_eq_true rfl)
  rw [lg_entry_eq]
  generalize (lg_sl ([.int l0, .int l1]) ++ List.replicate (2 - (lg_sl ([.int l0, .int l1])).length) Slot.unset).toArray = ls at hl ⊢
  have hl : lv_has ls 2 [(0, .int l0), (1, .int l1)] := hl
  have hr := Bd.returns
  have hlocks := Bd.notSynchronized
  have X : CallFix p m c cX9_takesEquals 2 s ([.int l0, .int l1]).toArray (Cond.code yX9_takesEquals cX9_takesEquals 2 (some .boolean) :: GW) RX9 := ⟨Bd.exec, Bd.bytes, hml, findClass_of_methodNamed Bd.named, hts⟩
  have hE0 := fun (ls : Array Slot) (pc : Nat) (hn : r = 0 ∨ r = 1) (hd : decode cX9_takesEquals pc = .ok (.ireturn, 1)) => W.zret (v := r) X.1 X.2.1 hr (zr_n hn) (Qc := vp_Si (fun rz => rz = r)) (H := s.heap) (locs := []) (cells := 0) (slots := 0) (free := fun _ => False) (R := (headSpec (Cond.code yX9_takesEquals cX9_takesEquals 2 (some .boolean) :: GW) ({ frames := 0, cells := 0, slots := 0, locals := 0 })).room) (p := p) (l := l) (e := e) (s := s) (m := m) (args := ([.int l0, .int l1]).toArray) (below := below) (meth := meth) (c := c) (ls := ls) (fun t ht hW => ⟨_, rfl, rfl, ht⟩) (fun _ h => nomatch h) hd hlocks
  exact b_X9_takesEquals_0 X hE0 (Nat.le_refl _) (Nat.le_refl _) h (lv_sub hl [0, 1] rfl)
def B_X9_digit_41 (N : Nat) (l0 : Int32) (l1 : Int32) : Option Int32 := if l1 = (0 : Int32) then (some (-1)) else (if l0 < (65 : Int32) then (some (-1)) else (if (70 : Int32) < l0 then (some (-1)) else (some ((l0 - 65) + 10))))
set_option maxHeartbeats 4000000 in
theorem b_X9_digit_41 {r : Int32} (X : CallFix p m c cX9_digit 2 s args (Cond.code yX9_digit cX9_digit 2 (some .int) :: GW) RX9) (hE : ∀ (ls : Array Slot) (pc : Nat), decode cX9_digit pc = .ok (.ireturn, 1) → W p l e R s m args below meth c s.heap [] 0 0 Q (F0 m pc ls [.int r])) (hF : 0 ≤ R.frames) (hL : 0 ≤ R.locals) {l0 : Int32} {l1 : Int32}  (h : B_X9_digit_41 N l0 l1 = some r)  (hl : lv_has ls 2 [(0, .int l0), (1, .int l1)]) : W p l e R s m args below meth c s.heap [] 0 0 Q (F0 m 41 ls []) := by
  obtain ⟨hx, hb, hml, hown, hts⟩ := id X
  have hG : ∀ w ∈ GW, w.before args s = true := fun w h => hts w (List.mem_cons_of_mem _ h)
  unfold B_X9_digit_41 at h
  refine lv_iload_n hx hb dX9_digit_41 rfl (lv_at hl 1 rfl) ?_
  refine lv_if_eq (tgt := 67) hx hb dX9_digit_42 (by decide) (fun c_1 => ?_) (fun c_1 => ?_)
  · have h := ip (c_1) h
    refine lv_iconst (v := (-1)) hx hb dX9_digit_67 (by decide) ?_
    obtain rfl := Option.some.inj h
    exact hE _ _ dX9_digit_68
  · have h := im (c_1) h
    refine lv_iload_n hx hb dX9_digit_45 rfl (lv_at hl 0 rfl) ?_
    refine lv_bipush (v := 65) hx hb dX9_digit_46 (by decide) ?_
    refine lv_icmp_lt (tgt := 67) hx hb dX9_digit_48 (by decide) (fun c_2 => ?_) (fun c_2 => ?_)
    · have h := ip (c_2) h
      refine lv_iconst (v := (-1)) hx hb dX9_digit_67 (by decide) ?_
      obtain rfl := Option.some.inj h
      exact hE _ _ dX9_digit_68
    · have h := im (c_2) h
      refine lv_iload_n hx hb dX9_digit_51 rfl (lv_at hl 0 rfl) ?_
      refine lv_bipush (v := 70) hx hb dX9_digit_52 (by decide) ?_
      refine lv_icmp_gt (tgt := 67) hx hb dX9_digit_54 (by decide) (fun c_3 => ?_) (fun c_3 => ?_)
      · have h := ip (c_3) h
        refine lv_iconst (v := (-1)) hx hb dX9_digit_67 (by decide) ?_
        obtain rfl := Option.some.inj h
        exact hE _ _ dX9_digit_68
      · have h := im (c_3) h
        refine lv_iload_n hx hb dX9_digit_57 rfl (lv_at hl 0 rfl) ?_
        refine lv_bipush (v := 65) hx hb dX9_digit_58 (by decide) ?_
        refine lv_isub hx hb dX9_digit_60 ?_
        refine lv_bipush (v := 10) hx hb dX9_digit_61 (by decide) ?_
        refine lv_iadd hx hb dX9_digit_63 ?_
        refine lv_goto (tgt := 68) hx hb dX9_digit_64 (by decide) ?_
        obtain rfl := Option.some.inj h
        exact hE _ _ dX9_digit_68
def B_X9_digit_17 (N : Nat) (l0 : Int32) (l1 : Int32) : Option Int32 := if l1 = (0 : Int32) then (B_X9_digit_41 N l0 l1) else (if l0 < (97 : Int32) then (B_X9_digit_41 N l0 l1) else (if (102 : Int32) < l0 then (B_X9_digit_41 N l0 l1) else (some ((l0 - 97) + 10))))
set_option maxHeartbeats 4000000 in
theorem b_X9_digit_17 {r : Int32} (X : CallFix p m c cX9_digit 2 s args (Cond.code yX9_digit cX9_digit 2 (some .int) :: GW) RX9) (hE : ∀ (ls : Array Slot) (pc : Nat), decode cX9_digit pc = .ok (.ireturn, 1) → W p l e R s m args below meth c s.heap [] 0 0 Q (F0 m pc ls [.int r])) (hF : 0 ≤ R.frames) (hL : 0 ≤ R.locals) {l0 : Int32} {l1 : Int32}  (h : B_X9_digit_17 N l0 l1 = some r)  (hl : lv_has ls 2 [(0, .int l0), (1, .int l1)]) : W p l e R s m args below meth c s.heap [] 0 0 Q (F0 m 17 ls []) := by
  obtain ⟨hx, hb, hml, hown, hts⟩ := id X
  have hG : ∀ w ∈ GW, w.before args s = true := fun w h => hts w (List.mem_cons_of_mem _ h)
  unfold B_X9_digit_17 at h
  refine lv_iload_n hx hb dX9_digit_17 rfl (lv_at hl 1 rfl) ?_
  refine lv_if_eq (tgt := 41) hx hb dX9_digit_18 (by decide) (fun c_4 => ?_) (fun c_4 => ?_)
  · have h := ip (c_4) h
    exact b_X9_digit_41 X hE  hF hL  h  (lv_sub hl [0, 1] rfl)
  · have h := im (c_4) h
    refine lv_iload_n hx hb dX9_digit_21 rfl (lv_at hl 0 rfl) ?_
    refine lv_bipush (v := 97) hx hb dX9_digit_22 (by decide) ?_
    refine lv_icmp_lt (tgt := 41) hx hb dX9_digit_24 (by decide) (fun c_5 => ?_) (fun c_5 => ?_)
    · have h := ip (c_5) h
      exact b_X9_digit_41 X hE  hF hL  h  (lv_sub hl [0, 1] rfl)
    · have h := im (c_5) h
      refine lv_iload_n hx hb dX9_digit_27 rfl (lv_at hl 0 rfl) ?_
      refine lv_bipush (v := 102) hx hb dX9_digit_28 (by decide) ?_
      refine lv_icmp_gt (tgt := 41) hx hb dX9_digit_30 (by decide) (fun c_6 => ?_) (fun c_6 => ?_)
      · have h := ip (c_6) h
        exact b_X9_digit_41 X hE  hF hL  h  (lv_sub hl [0, 1] rfl)
      · have h := im (c_6) h
        refine lv_iload_n hx hb dX9_digit_33 rfl (lv_at hl 0 rfl) ?_
        refine lv_bipush (v := 97) hx hb dX9_digit_34 (by decide) ?_
        refine lv_isub hx hb dX9_digit_36 ?_
        refine lv_bipush (v := 10) hx hb dX9_digit_37 (by decide) ?_
        refine lv_iadd hx hb dX9_digit_39 ?_
        obtain rfl := Option.some.inj h
        exact hE _ _ dX9_digit_40
def B_X9_digit_0 (N : Nat) (l0 : Int32) (l1 : Int32) : Option Int32 := if l0 < (48 : Int32) then (B_X9_digit_17 N l0 l1) else (if (57 : Int32) < l0 then (B_X9_digit_17 N l0 l1) else (some (l0 - 48)))
set_option maxHeartbeats 4000000 in
theorem b_X9_digit_0 {r : Int32} (X : CallFix p m c cX9_digit 2 s args (Cond.code yX9_digit cX9_digit 2 (some .int) :: GW) RX9) (hE : ∀ (ls : Array Slot) (pc : Nat), decode cX9_digit pc = .ok (.ireturn, 1) → W p l e R s m args below meth c s.heap [] 0 0 Q (F0 m pc ls [.int r])) (hF : 0 ≤ R.frames) (hL : 0 ≤ R.locals) {l0 : Int32} {l1 : Int32}  (h : B_X9_digit_0 N l0 l1 = some r)  (hl : lv_has ls 2 [(0, .int l0), (1, .int l1)]) : W p l e R s m args below meth c s.heap [] 0 0 Q (F0 m 0 ls []) := by
  obtain ⟨hx, hb, hml, hown, hts⟩ := id X
  have hG : ∀ w ∈ GW, w.before args s = true := fun w h => hts w (List.mem_cons_of_mem _ h)
  unfold B_X9_digit_0 at h
  refine lv_iload_n hx hb dX9_digit_0 rfl (lv_at hl 0 rfl) ?_
  refine lv_bipush (v := 48) hx hb dX9_digit_1 (by decide) ?_
  refine lv_icmp_lt (tgt := 17) hx hb dX9_digit_3 (by decide) (fun c_7 => ?_) (fun c_7 => ?_)
  · have h := ip (c_7) h
    exact b_X9_digit_17 X hE  hF hL  h  (lv_sub hl [0, 1] rfl)
  · have h := im (c_7) h
    refine lv_iload_n hx hb dX9_digit_6 rfl (lv_at hl 0 rfl) ?_
    refine lv_bipush (v := 57) hx hb dX9_digit_7 (by decide) ?_
    refine lv_icmp_gt (tgt := 17) hx hb dX9_digit_9 (by decide) (fun c_8 => ?_) (fun c_8 => ?_)
    · have h := ip (c_8) h
      exact b_X9_digit_17 X hE  hF hL  h  (lv_sub hl [0, 1] rfl)
    · have h := im (c_8) h
      refine lv_iload_n hx hb dX9_digit_12 rfl (lv_at hl 0 rfl) ?_
      refine lv_bipush (v := 48) hx hb dX9_digit_13 (by decide) ?_
      refine lv_isub hx hb dX9_digit_15 ?_
      obtain rfl := Option.some.inj h
      exact hE _ _ dX9_digit_16
def F_X9_digit (N : Nat) (l0 : Int32) (l1 : Int32) : Option Int32 := B_X9_digit_0 N l0 l1
set_option maxHeartbeats 4000000 in
theorem k_X9_digit (l : Launch) (N : Nat) (l0 : Int32) (l1 : Int32) {r : Int32} (h : F_X9_digit N l0 l1 = some r) : Met l yX9_digit (Cond.code yX9_digit cX9_digit 2 (some .int) :: GW) { frames := 0, cells := 0, slots := 0, locals := 0 } (va_Pc [.int l0, .int l1] (fun _ => True)) (vp_Si (fun rz => rz = r)) 0 0 (fun _ => False) := by
  refine Met.ofW (cc := cX9_digit) (maxL := 2) (ret := (some .int)) (by decide) rfl ?_
  intro p e s m args below meth c s₁ Bd hml hv
  obtain ⟨rfl, -⟩ := hv
  have hts := atoms_spec (ws := Cond.code yX9_digit cX9_digit 2 (some .int) :: GW) Bd.pre
  have hl := lv_entry ([.int l0, .int l1]) (n := 2) (Nat.le_of_ble_eq_true rfl)
  rw [lg_entry_eq]
  generalize (lg_sl ([.int l0, .int l1]) ++ List.replicate (2 - (lg_sl ([.int l0, .int l1])).length) Slot.unset).toArray = ls at hl ⊢
  have hl : lv_has ls 2 [(0, .int l0), (1, .int l1)] := hl
  have hr := Bd.returns
  have hlocks := Bd.notSynchronized
  have X : CallFix p m c cX9_digit 2 s ([.int l0, .int l1]).toArray (Cond.code yX9_digit cX9_digit 2 (some .int) :: GW) RX9 := ⟨Bd.exec, Bd.bytes, hml, findClass_of_methodNamed Bd.named, hts⟩
  have hE0 := fun (ls : Array Slot) (pc : Nat) (hd : decode cX9_digit pc = .ok (.ireturn, 1)) => W.iret (v := r) X.1 X.2.1 hr (Qc := vp_Si (fun rz => rz = r)) (H := s.heap) (locs := []) (cells := 0) (slots := 0) (free := fun _ => False) (R := (headSpec (Cond.code yX9_digit cX9_digit 2 (some .int) :: GW) ({ frames := 0, cells := 0, slots := 0, locals := 0 })).room) (p := p) (l := l) (e := e) (s := s) (m := m) (args := ([.int l0, .int l1]).toArray) (below := below) (meth := meth) (c := c) (ls := ls) (fun t ht hW => ⟨_, rfl, rfl, ht⟩) (fun _ h => nomatch h) hd hlocks
  exact b_X9_digit_0 X hE0 (Nat.le_refl _) (Nat.le_refl _) h (lv_sub hl [0, 1] rfl)
def B_X9_isWordByte_42 (N : Nat) : Option Int32 := some 1
set_option maxHeartbeats 4000000 in
theorem b_X9_isWordByte_42 {r : Int32} (X : CallFix p m c cX9_isWordByte 1 s args (Cond.code yX9_isWordByte cX9_isWordByte 1 (some .boolean) :: GW) RX9) (hE : ∀ (ls : Array Slot) (pc : Nat), (r = 0 ∨ r = 1) → decode cX9_isWordByte pc = .ok (.ireturn, 1) → W p l e R s m args below meth c s.heap [] 0 0 Q (F0 m pc ls [.int r])) (hF : 0 ≤ R.frames) (hL : 0 ≤ R.locals)  (h : B_X9_isWordByte_42 N = some r)  (hl : lv_has ls 1 []) : W p l e R s m args below meth c s.heap [] 0 0 Q (F0 m 42 ls []) := by
  obtain ⟨hx, hb, hml, hown, hts⟩ := id X
  have hG : ∀ w ∈ GW, w.before args s = true := fun w h => hts w (List.mem_cons_of_mem _ h)
  unfold B_X9_isWordByte_42 at h
  refine lv_iconst (v := 1) hx hb dX9_isWordByte_42 (by decide) ?_
  refine lv_goto (tgt := 47) hx hb dX9_isWordByte_43 (by decide) ?_
  obtain rfl := Option.some.inj h
  exact hE _ _ (Or.inr rfl) dX9_isWordByte_47
def B_X9_isWordByte_24 (N : Nat) (l0 : Int32) : Option Int32 := if l0 = (95 : Int32) then (B_X9_isWordByte_42 N) else (if l0 < (48 : Int32) then (some 0) else (if (57 : Int32) < l0 then (some 0) else (B_X9_isWordByte_42 N)))
set_option maxHeartbeats 4000000 in
theorem b_X9_isWordByte_24 {r : Int32} (X : CallFix p m c cX9_isWordByte 1 s args (Cond.code yX9_isWordByte cX9_isWordByte 1 (some .boolean) :: GW) RX9) (hE : ∀ (ls : Array Slot) (pc : Nat), (r = 0 ∨ r = 1) → decode cX9_isWordByte pc = .ok (.ireturn, 1) → W p l e R s m args below meth c s.heap [] 0 0 Q (F0 m pc ls [.int r])) (hF : 0 ≤ R.frames) (hL : 0 ≤ R.locals) {l0 : Int32}  (h : B_X9_isWordByte_24 N l0 = some r)  (hl : lv_has ls 1 [(0, .int l0)]) : W p l e R s m args below meth c s.heap [] 0 0 Q (F0 m 24 ls []) := by
  obtain ⟨hx, hb, hml, hown, hts⟩ := id X
  have hG : ∀ w ∈ GW, w.before args s = true := fun w h => hts w (List.mem_cons_of_mem _ h)
  unfold B_X9_isWordByte_24 at h
  refine lv_iload_n hx hb dX9_isWordByte_24 rfl (lv_at hl 0 rfl) ?_
  refine lv_bipush (v := 95) hx hb dX9_isWordByte_25 (by decide) ?_
  refine lv_icmp_eq (tgt := 42) hx hb dX9_isWordByte_27 (by decide) (fun c_1 => ?_) (fun c_1 => ?_)
  · have h := ip (c_1) h
    exact b_X9_isWordByte_42 X hE  hF hL  h  (lv_sub hl [] rfl)
  · have h := im (c_1) h
    refine lv_iload_n hx hb dX9_isWordByte_30 rfl (lv_at hl 0 rfl) ?_
    refine lv_bipush (v := 48) hx hb dX9_isWordByte_31 (by decide) ?_
    refine lv_icmp_lt (tgt := 46) hx hb dX9_isWordByte_33 (by decide) (fun c_2 => ?_) (fun c_2 => ?_)
    · have h := ip (c_2) h
      refine lv_iconst (v := 0) hx hb dX9_isWordByte_46 (by decide) ?_
      obtain rfl := Option.some.inj h
      exact hE _ _ (Or.inl rfl) dX9_isWordByte_47
    · have h := im (c_2) h
      refine lv_iload_n hx hb dX9_isWordByte_36 rfl (lv_at hl 0 rfl) ?_
      refine lv_bipush (v := 57) hx hb dX9_isWordByte_37 (by decide) ?_
      refine lv_icmp_gt (tgt := 46) hx hb dX9_isWordByte_39 (by decide) (fun c_3 => ?_) (fun c_3 => ?_)
      · have h := ip (c_3) h
        refine lv_iconst (v := 0) hx hb dX9_isWordByte_46 (by decide) ?_
        obtain rfl := Option.some.inj h
        exact hE _ _ (Or.inl rfl) dX9_isWordByte_47
      · have h := im (c_3) h
        exact b_X9_isWordByte_42 X hE  hF hL  h  (lv_sub hl [] rfl)
def B_X9_isWordByte_12 (N : Nat) (l0 : Int32) : Option Int32 := if l0 < (65 : Int32) then (B_X9_isWordByte_24 N l0) else (if l0 ≤ (90 : Int32) then (B_X9_isWordByte_42 N) else (B_X9_isWordByte_24 N l0))
set_option maxHeartbeats 4000000 in
theorem b_X9_isWordByte_12 {r : Int32} (X : CallFix p m c cX9_isWordByte 1 s args (Cond.code yX9_isWordByte cX9_isWordByte 1 (some .boolean) :: GW) RX9) (hE : ∀ (ls : Array Slot) (pc : Nat), (r = 0 ∨ r = 1) → decode cX9_isWordByte pc = .ok (.ireturn, 1) → W p l e R s m args below meth c s.heap [] 0 0 Q (F0 m pc ls [.int r])) (hF : 0 ≤ R.frames) (hL : 0 ≤ R.locals) {l0 : Int32}  (h : B_X9_isWordByte_12 N l0 = some r)  (hl : lv_has ls 1 [(0, .int l0)]) : W p l e R s m args below meth c s.heap [] 0 0 Q (F0 m 12 ls []) := by
  obtain ⟨hx, hb, hml, hown, hts⟩ := id X
  have hG : ∀ w ∈ GW, w.before args s = true := fun w h => hts w (List.mem_cons_of_mem _ h)
  unfold B_X9_isWordByte_12 at h
  refine lv_iload_n hx hb dX9_isWordByte_12 rfl (lv_at hl 0 rfl) ?_
  refine lv_bipush (v := 65) hx hb dX9_isWordByte_13 (by decide) ?_
  refine lv_icmp_lt (tgt := 24) hx hb dX9_isWordByte_15 (by decide) (fun c_4 => ?_) (fun c_4 => ?_)
  · have h := ip (c_4) h
    exact b_X9_isWordByte_24 X hE  hF hL  h  (lv_sub hl [0] rfl)
  · have h := im (c_4) h
    refine lv_iload_n hx hb dX9_isWordByte_18 rfl (lv_at hl 0 rfl) ?_
    refine lv_bipush (v := 90) hx hb dX9_isWordByte_19 (by decide) ?_
    refine lv_icmp_le (tgt := 42) hx hb dX9_isWordByte_21 (by decide) (fun c_5 => ?_) (fun c_5 => ?_)
    · have h := ip (c_5) h
      exact b_X9_isWordByte_42 X hE  hF hL  h  (lv_sub hl [] rfl)
    · have h := im (c_5) h
      exact b_X9_isWordByte_24 X hE  hF hL  h  (lv_sub hl [0] rfl)
def B_X9_isWordByte_0 (N : Nat) (l0 : Int32) : Option Int32 := if l0 < (97 : Int32) then (B_X9_isWordByte_12 N l0) else (if l0 ≤ (122 : Int32) then (B_X9_isWordByte_42 N) else (B_X9_isWordByte_12 N l0))
set_option maxHeartbeats 4000000 in
theorem b_X9_isWordByte_0 {r : Int32} (X : CallFix p m c cX9_isWordByte 1 s args (Cond.code yX9_isWordByte cX9_isWordByte 1 (some .boolean) :: GW) RX9) (hE : ∀ (ls : Array Slot) (pc : Nat), (r = 0 ∨ r = 1) → decode cX9_isWordByte pc = .ok (.ireturn, 1) → W p l e R s m args below meth c s.heap [] 0 0 Q (F0 m pc ls [.int r])) (hF : 0 ≤ R.frames) (hL : 0 ≤ R.locals) {l0 : Int32}  (h : B_X9_isWordByte_0 N l0 = some r)  (hl : lv_has ls 1 [(0, .int l0)]) : W p l e R s m args below meth c s.heap [] 0 0 Q (F0 m 0 ls []) := by
  obtain ⟨hx, hb, hml, hown, hts⟩ := id X
  have hG : ∀ w ∈ GW, w.before args s = true := fun w h => hts w (List.mem_cons_of_mem _ h)
  unfold B_X9_isWordByte_0 at h
  refine lv_iload_n hx hb dX9_isWordByte_0 rfl (lv_at hl 0 rfl) ?_
  refine lv_bipush (v := 97) hx hb dX9_isWordByte_1 (by decide) ?_
  refine lv_icmp_lt (tgt := 12) hx hb dX9_isWordByte_3 (by decide) (fun c_6 => ?_) (fun c_6 => ?_)
  · have h := ip (c_6) h
    exact b_X9_isWordByte_12 X hE  hF hL  h  (lv_sub hl [0] rfl)
  · have h := im (c_6) h
    refine lv_iload_n hx hb dX9_isWordByte_6 rfl (lv_at hl 0 rfl) ?_
    refine lv_bipush (v := 122) hx hb dX9_isWordByte_7 (by decide) ?_
    refine lv_icmp_le (tgt := 42) hx hb dX9_isWordByte_9 (by decide) (fun c_7 => ?_) (fun c_7 => ?_)
    · have h := ip (c_7) h
      exact b_X9_isWordByte_42 X hE  hF hL  h  (lv_sub hl [] rfl)
    · have h := im (c_7) h
      exact b_X9_isWordByte_12 X hE  hF hL  h  (lv_sub hl [0] rfl)
def F_X9_isWordByte (N : Nat) (l0 : Int32) : Option Int32 := B_X9_isWordByte_0 N l0
set_option maxHeartbeats 4000000 in
theorem k_X9_isWordByte (l : Launch) (N : Nat) (l0 : Int32) {r : Int32} (h : F_X9_isWordByte N l0 = some r) : Met l yX9_isWordByte (Cond.code yX9_isWordByte cX9_isWordByte 1 (some .boolean) :: GW) { frames := 0, cells := 0, slots := 0, locals := 0 } (va_Pc [.int l0] (fun _ => True)) (vp_Si (fun rz => rz = r)) 0 0 (fun _ => False) := by
  refine Met.ofW (cc := cX9_isWordByte) (maxL := 1) (ret := (some .boolean)) (by decide) rfl ?_
  intro p e s m args below meth c s₁ Bd hml hv
  obtain ⟨rfl, -⟩ := hv
  have hts := atoms_spec (ws := Cond.code yX9_isWordByte cX9_isWordByte 1 (some .boolean) :: GW) Bd.pre
  have hl := lv_entry ([.int l0]) (n := 1) (Nat.le_of_ble_eq_true rfl)
  rw [lg_entry_eq]
  generalize (lg_sl ([.int l0]) ++ List.replicate (1 - (lg_sl ([.int l0])).length) Slot.unset).toArray = ls at hl ⊢
  have hl : lv_has ls 1 [(0, .int l0)] := hl
  have hr := Bd.returns
  have hlocks := Bd.notSynchronized
  have X : CallFix p m c cX9_isWordByte 1 s ([.int l0]).toArray (Cond.code yX9_isWordByte cX9_isWordByte 1 (some .boolean) :: GW) RX9 := ⟨Bd.exec, Bd.bytes, hml, findClass_of_methodNamed Bd.named, hts⟩
  have hE0 := fun (ls : Array Slot) (pc : Nat) (hn : r = 0 ∨ r = 1) (hd : decode cX9_isWordByte pc = .ok (.ireturn, 1)) => W.zret (v := r) X.1 X.2.1 hr (zr_n hn) (Qc := vp_Si (fun rz => rz = r)) (H := s.heap) (locs := []) (cells := 0) (slots := 0) (free := fun _ => False) (R := (headSpec (Cond.code yX9_isWordByte cX9_isWordByte 1 (some .boolean) :: GW) ({ frames := 0, cells := 0, slots := 0, locals := 0 })).room) (p := p) (l := l) (e := e) (s := s) (m := m) (args := ([.int l0]).toArray) (below := below) (meth := meth) (c := c) (ls := ls) (fun t ht hW => ⟨_, rfl, rfl, ht⟩) (fun _ h => nomatch h) hd hlocks
  exact b_X9_isWordByte_0 X hE0 (Nat.le_refl _) (Nat.le_refl _) h (lv_sub hl [0] rfl)
def B_X9_strength_0 (N : Nat) (l0 : Int32) : Option Int32 := if l0 = 37 then (some 10) else (if l0 = 38 then (some 5) else (if l0 = 42 then (some 10) else (if l0 = 43 then (some 9) else (if l0 = 45 then (some 9) else (if l0 = 47 then (some 10) else (if l0 = 60 then (some 7) else (if l0 = 62 then (some 7) else (if l0 = 94 then (some 4) else (if l0 = 124 then (some 3) else (if l0 = 8509 then (some 6) else (if l0 = 9766 then (some 2) else (if l0 = 15420 then (some 8) else (if l0 = 15421 then (some 7) else (if l0 = 15677 then (some 6) else (if l0 = 15933 then (some 7) else (if l0 = 15934 then (some 8) else (if l0 = 31868 then (some 1) else (if l0 = 4079166 then (some 8) else (some 0)))))))))))))))))))
set_option maxHeartbeats 4000000 in
theorem b_X9_strength_0 {r : Int32} (X : CallFix p m c cX9_strength 1 s args (Cond.code yX9_strength cX9_strength 1 (some .int) :: GW) RX9) (hE : ∀ (ls : Array Slot) (pc : Nat), decode cX9_strength pc = .ok (.ireturn, 1) → W p l e R s m args below meth c s.heap [] 0 0 Q (F0 m pc ls [.int r])) (hF : 0 ≤ R.frames) (hL : 0 ≤ R.locals) {l0 : Int32}  (h : B_X9_strength_0 N l0 = some r)  (hl : lv_has ls 1 [(0, .int l0)]) : W p l e R s m args below meth c s.heap [] 0 0 Q (F0 m 0 ls []) := by
  obtain ⟨hx, hb, hml, hown, hts⟩ := id X
  have hG : ∀ w ∈ GW, w.before args s = true := fun w h => hts w (List.mem_cons_of_mem _ h)
  unfold B_X9_strength_0 at h
  refine lv_iload_n hx hb dX9_strength_0 rfl (lv_at hl 0 rfl) ?_
  by_cases e_1 : l0 = 37
  · have h := ip e_1 h
    refine lv_lookup (off := 185) (tgt := 186) hx hb dX9_strength_1 (by decide) (by rw [e_1]; decide) (by decide) ?_
    refine lv_bipush (v := 10) hx hb dX9_strength_186 (by decide) ?_
    obtain rfl := Option.some.inj h
    exact hE _ _ dX9_strength_188
  have h := im e_1 h
  by_cases e_2 : l0 = 38
  · have h := ip e_2 h
    refine lv_lookup (off := 171) (tgt := 172) hx hb dX9_strength_1 (by decide) (by rw [e_2]; decide) (by decide) ?_
    refine lv_iconst (v := 5) hx hb dX9_strength_172 (by decide) ?_
    obtain rfl := Option.some.inj h
    exact hE _ _ dX9_strength_173
  have h := im e_2 h
  by_cases e_3 : l0 = 42
  · have h := ip e_3 h
    refine lv_lookup (off := 185) (tgt := 186) hx hb dX9_strength_1 (by decide) (by rw [e_3]; decide) (by decide) ?_
    refine lv_bipush (v := 10) hx hb dX9_strength_186 (by decide) ?_
    obtain rfl := Option.some.inj h
    exact hE _ _ dX9_strength_188
  have h := im e_3 h
  by_cases e_4 : l0 = 43
  · have h := ip e_4 h
    refine lv_lookup (off := 182) (tgt := 183) hx hb dX9_strength_1 (by decide) (by rw [e_4]; decide) (by decide) ?_
    refine lv_bipush (v := 9) hx hb dX9_strength_183 (by decide) ?_
    obtain rfl := Option.some.inj h
    exact hE _ _ dX9_strength_185
  have h := im e_4 h
  by_cases e_5 : l0 = 45
  · have h := ip e_5 h
    refine lv_lookup (off := 182) (tgt := 183) hx hb dX9_strength_1 (by decide) (by rw [e_5]; decide) (by decide) ?_
    refine lv_bipush (v := 9) hx hb dX9_strength_183 (by decide) ?_
    obtain rfl := Option.some.inj h
    exact hE _ _ dX9_strength_185
  have h := im e_5 h
  by_cases e_6 : l0 = 47
  · have h := ip e_6 h
    refine lv_lookup (off := 185) (tgt := 186) hx hb dX9_strength_1 (by decide) (by rw [e_6]; decide) (by decide) ?_
    refine lv_bipush (v := 10) hx hb dX9_strength_186 (by decide) ?_
    obtain rfl := Option.some.inj h
    exact hE _ _ dX9_strength_188
  have h := im e_6 h
  by_cases e_7 : l0 = 60
  · have h := ip e_7 h
    refine lv_lookup (off := 176) (tgt := 177) hx hb dX9_strength_1 (by decide) (by rw [e_7]; decide) (by decide) ?_
    refine lv_bipush (v := 7) hx hb dX9_strength_177 (by decide) ?_
    obtain rfl := Option.some.inj h
    exact hE _ _ dX9_strength_179
  have h := im e_7 h
  by_cases e_8 : l0 = 62
  · have h := ip e_8 h
    refine lv_lookup (off := 176) (tgt := 177) hx hb dX9_strength_1 (by decide) (by rw [e_8]; decide) (by decide) ?_
    refine lv_bipush (v := 7) hx hb dX9_strength_177 (by decide) ?_
    obtain rfl := Option.some.inj h
    exact hE _ _ dX9_strength_179
  have h := im e_8 h
  by_cases e_9 : l0 = 94
  · have h := ip e_9 h
    refine lv_lookup (off := 169) (tgt := 170) hx hb dX9_strength_1 (by decide) (by rw [e_9]; decide) (by decide) ?_
    refine lv_iconst (v := 4) hx hb dX9_strength_170 (by decide) ?_
    obtain rfl := Option.some.inj h
    exact hE _ _ dX9_strength_171
  have h := im e_9 h
  by_cases e_10 : l0 = 124
  · have h := ip e_10 h
    refine lv_lookup (off := 167) (tgt := 168) hx hb dX9_strength_1 (by decide) (by rw [e_10]; decide) (by decide) ?_
    refine lv_iconst (v := 3) hx hb dX9_strength_168 (by decide) ?_
    obtain rfl := Option.some.inj h
    exact hE _ _ dX9_strength_169
  have h := im e_10 h
  by_cases e_11 : l0 = 8509
  · have h := ip e_11 h
    refine lv_lookup (off := 173) (tgt := 174) hx hb dX9_strength_1 (by decide) (by rw [e_11]; decide) (by decide) ?_
    refine lv_bipush (v := 6) hx hb dX9_strength_174 (by decide) ?_
    obtain rfl := Option.some.inj h
    exact hE _ _ dX9_strength_176
  have h := im e_11 h
  by_cases e_12 : l0 = 9766
  · have h := ip e_12 h
    refine lv_lookup (off := 165) (tgt := 166) hx hb dX9_strength_1 (by decide) (by rw [e_12]; decide) (by decide) ?_
    refine lv_iconst (v := 2) hx hb dX9_strength_166 (by decide) ?_
    obtain rfl := Option.some.inj h
    exact hE _ _ dX9_strength_167
  have h := im e_12 h
  by_cases e_13 : l0 = 15420
  · have h := ip e_13 h
    refine lv_lookup (off := 179) (tgt := 180) hx hb dX9_strength_1 (by decide) (by rw [e_13]; decide) (by decide) ?_
    refine lv_bipush (v := 8) hx hb dX9_strength_180 (by decide) ?_
    obtain rfl := Option.some.inj h
    exact hE _ _ dX9_strength_182
  have h := im e_13 h
  by_cases e_14 : l0 = 15421
  · have h := ip e_14 h
    refine lv_lookup (off := 176) (tgt := 177) hx hb dX9_strength_1 (by decide) (by rw [e_14]; decide) (by decide) ?_
    refine lv_bipush (v := 7) hx hb dX9_strength_177 (by decide) ?_
    obtain rfl := Option.some.inj h
    exact hE _ _ dX9_strength_179
  have h := im e_14 h
  by_cases e_15 : l0 = 15677
  · have h := ip e_15 h
    refine lv_lookup (off := 173) (tgt := 174) hx hb dX9_strength_1 (by decide) (by rw [e_15]; decide) (by decide) ?_
    refine lv_bipush (v := 6) hx hb dX9_strength_174 (by decide) ?_
    obtain rfl := Option.some.inj h
    exact hE _ _ dX9_strength_176
  have h := im e_15 h
  by_cases e_16 : l0 = 15933
  · have h := ip e_16 h
    refine lv_lookup (off := 176) (tgt := 177) hx hb dX9_strength_1 (by decide) (by rw [e_16]; decide) (by decide) ?_
    refine lv_bipush (v := 7) hx hb dX9_strength_177 (by decide) ?_
    obtain rfl := Option.some.inj h
    exact hE _ _ dX9_strength_179
  have h := im e_16 h
  by_cases e_17 : l0 = 15934
  · have h := ip e_17 h
    refine lv_lookup (off := 179) (tgt := 180) hx hb dX9_strength_1 (by decide) (by rw [e_17]; decide) (by decide) ?_
    refine lv_bipush (v := 8) hx hb dX9_strength_180 (by decide) ?_
    obtain rfl := Option.some.inj h
    exact hE _ _ dX9_strength_182
  have h := im e_17 h
  by_cases e_18 : l0 = 31868
  · have h := ip e_18 h
    refine lv_lookup (off := 163) (tgt := 164) hx hb dX9_strength_1 (by decide) (by rw [e_18]; decide) (by decide) ?_
    refine lv_iconst (v := 1) hx hb dX9_strength_164 (by decide) ?_
    obtain rfl := Option.some.inj h
    exact hE _ _ dX9_strength_165
  have h := im e_18 h
  by_cases e_19 : l0 = 4079166
  · have h := ip e_19 h
    refine lv_lookup (off := 179) (tgt := 180) hx hb dX9_strength_1 (by decide) (by rw [e_19]; decide) (by decide) ?_
    refine lv_bipush (v := 8) hx hb dX9_strength_180 (by decide) ?_
    obtain rfl := Option.some.inj h
    exact hE _ _ dX9_strength_182
  have h := im e_19 h
  have ne_1 : ¬ (37 : Int) = (l0).toInt := fun q => e_1 (Int32.toInt_inj.mp (q.symm.trans (by decide)))
  have ne_2 : ¬ (38 : Int) = (l0).toInt := fun q => e_2 (Int32.toInt_inj.mp (q.symm.trans (by decide)))
  have ne_3 : ¬ (42 : Int) = (l0).toInt := fun q => e_3 (Int32.toInt_inj.mp (q.symm.trans (by decide)))
  have ne_4 : ¬ (43 : Int) = (l0).toInt := fun q => e_4 (Int32.toInt_inj.mp (q.symm.trans (by decide)))
  have ne_5 : ¬ (45 : Int) = (l0).toInt := fun q => e_5 (Int32.toInt_inj.mp (q.symm.trans (by decide)))
  have ne_6 : ¬ (47 : Int) = (l0).toInt := fun q => e_6 (Int32.toInt_inj.mp (q.symm.trans (by decide)))
  have ne_7 : ¬ (60 : Int) = (l0).toInt := fun q => e_7 (Int32.toInt_inj.mp (q.symm.trans (by decide)))
  have ne_8 : ¬ (62 : Int) = (l0).toInt := fun q => e_8 (Int32.toInt_inj.mp (q.symm.trans (by decide)))
  have ne_9 : ¬ (94 : Int) = (l0).toInt := fun q => e_9 (Int32.toInt_inj.mp (q.symm.trans (by decide)))
  have ne_10 : ¬ (124 : Int) = (l0).toInt := fun q => e_10 (Int32.toInt_inj.mp (q.symm.trans (by decide)))
  have ne_11 : ¬ (8509 : Int) = (l0).toInt := fun q => e_11 (Int32.toInt_inj.mp (q.symm.trans (by decide)))
  have ne_12 : ¬ (9766 : Int) = (l0).toInt := fun q => e_12 (Int32.toInt_inj.mp (q.symm.trans (by decide)))
  have ne_13 : ¬ (15420 : Int) = (l0).toInt := fun q => e_13 (Int32.toInt_inj.mp (q.symm.trans (by decide)))
  have ne_14 : ¬ (15421 : Int) = (l0).toInt := fun q => e_14 (Int32.toInt_inj.mp (q.symm.trans (by decide)))
  have ne_15 : ¬ (15677 : Int) = (l0).toInt := fun q => e_15 (Int32.toInt_inj.mp (q.symm.trans (by decide)))
  have ne_16 : ¬ (15933 : Int) = (l0).toInt := fun q => e_16 (Int32.toInt_inj.mp (q.symm.trans (by decide)))
  have ne_17 : ¬ (15934 : Int) = (l0).toInt := fun q => e_17 (Int32.toInt_inj.mp (q.symm.trans (by decide)))
  have ne_18 : ¬ (31868 : Int) = (l0).toInt := fun q => e_18 (Int32.toInt_inj.mp (q.symm.trans (by decide)))
  have ne_19 : ¬ (4079166 : Int) = (l0).toInt := fun q => e_19 (Int32.toInt_inj.mp (q.symm.trans (by decide)))
  refine lv_lookup (off := 188) (tgt := 189) hx hb dX9_strength_1 (by decide) (by simp [Op.lookupswitch.offset, ne_1, ne_2, ne_3, ne_4, ne_5, ne_6, ne_7, ne_8, ne_9, ne_10, ne_11, ne_12, ne_13, ne_14, ne_15, ne_16, ne_17, ne_18, ne_19]) (by decide) ?_
  refine lv_iconst (v := 0) hx hb dX9_strength_189 (by decide) ?_
  obtain rfl := Option.some.inj h
  exact hE _ _ dX9_strength_190
def F_X9_strength (N : Nat) (l0 : Int32) : Option Int32 := B_X9_strength_0 N l0
set_option maxHeartbeats 4000000 in
theorem k_X9_strength (l : Launch) (N : Nat) (l0 : Int32) {r : Int32} (h : F_X9_strength N l0 = some r) : Met l yX9_strength (Cond.code yX9_strength cX9_strength 1 (some .int) :: GW) { frames := 0, cells := 0, slots := 0, locals := 0 } (va_Pc [.int l0] (fun _ => True)) (vp_Si (fun rz => rz = r)) 0 0 (fun _ => False) := by
  refine Met.ofW (cc := cX9_strength) (maxL := 1) (ret := (some .int)) (by decide) rfl ?_
  intro p e s m args below meth c s₁ Bd hml hv
  obtain ⟨rfl, -⟩ := hv
  have hts := atoms_spec (ws := Cond.code yX9_strength cX9_strength 1 (some .int) :: GW) Bd.pre
  have hl := lv_entry ([.int l0]) (n := 1) (Nat.le_of_ble_eq_true rfl)
  rw [lg_entry_eq]
  generalize (lg_sl ([.int l0]) ++ List.replicate (1 - (lg_sl ([.int l0])).length) Slot.unset).toArray = ls at hl ⊢
  have hl : lv_has ls 1 [(0, .int l0)] := hl
  have hr := Bd.returns
  have hlocks := Bd.notSynchronized
  have X : CallFix p m c cX9_strength 1 s ([.int l0]).toArray (Cond.code yX9_strength cX9_strength 1 (some .int) :: GW) RX9 := ⟨Bd.exec, Bd.bytes, hml, findClass_of_methodNamed Bd.named, hts⟩
  have hE0 := fun (ls : Array Slot) (pc : Nat) (hd : decode cX9_strength pc = .ok (.ireturn, 1)) => W.iret (v := r) X.1 X.2.1 hr (Qc := vp_Si (fun rz => rz = r)) (H := s.heap) (locs := []) (cells := 0) (slots := 0) (free := fun _ => False) (R := (headSpec (Cond.code yX9_strength cX9_strength 1 (some .int) :: GW) ({ frames := 0, cells := 0, slots := 0, locals := 0 })).room) (p := p) (l := l) (e := e) (s := s) (m := m) (args := ([.int l0]).toArray) (below := below) (meth := meth) (c := c) (ls := ls) (fun t ht hW => ⟨_, rfl, rfl, ht⟩) (fun _ h => nomatch h) hd hlocks
  exact b_X9_strength_0 X hE0 (Nat.le_refl _) (Nat.le_refl _) h (lv_sub hl [0] rfl)
def B_X9_operation_0 (N : Nat) (l0 : Int32) : Option Int32 := if l0 = 37 then (some 4) else (if l0 = 38 then (some 5) else (if l0 = 42 then (some 2) else (if l0 = 43 then (some 0) else (if l0 = 45 then (some 1) else (if l0 = 47 then (some 3) else (if l0 = 94 then (some 7) else (if l0 = 124 then (some 6) else (if l0 = 15420 then (some 8) else (if l0 = 15934 then (some 9) else (if l0 = 4079166 then (some 10) else (some (-1))))))))))))
set_option maxHeartbeats 4000000 in
theorem b_X9_operation_0 {r : Int32} (X : CallFix p m c cX9_operation 1 s args (Cond.code yX9_operation cX9_operation 1 (some .int) :: GW) RX9) (hE : ∀ (ls : Array Slot) (pc : Nat), decode cX9_operation pc = .ok (.ireturn, 1) → W p l e R s m args below meth c s.heap [] 0 0 Q (F0 m pc ls [.int r])) (hF : 0 ≤ R.frames) (hL : 0 ≤ R.locals) {l0 : Int32}  (h : B_X9_operation_0 N l0 = some r)  (hl : lv_has ls 1 [(0, .int l0)]) : W p l e R s m args below meth c s.heap [] 0 0 Q (F0 m 0 ls []) := by
  obtain ⟨hx, hb, hml, hown, hts⟩ := id X
  have hG : ∀ w ∈ GW, w.before args s = true := fun w h => hts w (List.mem_cons_of_mem _ h)
  unfold B_X9_operation_0 at h
  refine lv_iload_n hx hb dX9_operation_0 rfl (lv_at hl 0 rfl) ?_
  by_cases e_1 : l0 = 37
  · have h := ip e_1 h
    refine lv_lookup (off := 107) (tgt := 108) hx hb dX9_operation_1 (by decide) (by rw [e_1]; decide) (by decide) ?_
    refine lv_iconst (v := 4) hx hb dX9_operation_108 (by decide) ?_
    obtain rfl := Option.some.inj h
    exact hE _ _ dX9_operation_109
  have h := im e_1 h
  by_cases e_2 : l0 = 38
  · have h := ip e_2 h
    refine lv_lookup (off := 109) (tgt := 110) hx hb dX9_operation_1 (by decide) (by rw [e_2]; decide) (by decide) ?_
    refine lv_iconst (v := 5) hx hb dX9_operation_110 (by decide) ?_
    obtain rfl := Option.some.inj h
    exact hE _ _ dX9_operation_111
  have h := im e_2 h
  by_cases e_3 : l0 = 42
  · have h := ip e_3 h
    refine lv_lookup (off := 103) (tgt := 104) hx hb dX9_operation_1 (by decide) (by rw [e_3]; decide) (by decide) ?_
    refine lv_iconst (v := 2) hx hb dX9_operation_104 (by decide) ?_
    obtain rfl := Option.some.inj h
    exact hE _ _ dX9_operation_105
  have h := im e_3 h
  by_cases e_4 : l0 = 43
  · have h := ip e_4 h
    refine lv_lookup (off := 99) (tgt := 100) hx hb dX9_operation_1 (by decide) (by rw [e_4]; decide) (by decide) ?_
    refine lv_iconst (v := 0) hx hb dX9_operation_100 (by decide) ?_
    obtain rfl := Option.some.inj h
    exact hE _ _ dX9_operation_101
  have h := im e_4 h
  by_cases e_5 : l0 = 45
  · have h := ip e_5 h
    refine lv_lookup (off := 101) (tgt := 102) hx hb dX9_operation_1 (by decide) (by rw [e_5]; decide) (by decide) ?_
    refine lv_iconst (v := 1) hx hb dX9_operation_102 (by decide) ?_
    obtain rfl := Option.some.inj h
    exact hE _ _ dX9_operation_103
  have h := im e_5 h
  by_cases e_6 : l0 = 47
  · have h := ip e_6 h
    refine lv_lookup (off := 105) (tgt := 106) hx hb dX9_operation_1 (by decide) (by rw [e_6]; decide) (by decide) ?_
    refine lv_iconst (v := 3) hx hb dX9_operation_106 (by decide) ?_
    obtain rfl := Option.some.inj h
    exact hE _ _ dX9_operation_107
  have h := im e_6 h
  by_cases e_7 : l0 = 94
  · have h := ip e_7 h
    refine lv_lookup (off := 114) (tgt := 115) hx hb dX9_operation_1 (by decide) (by rw [e_7]; decide) (by decide) ?_
    refine lv_bipush (v := 7) hx hb dX9_operation_115 (by decide) ?_
    obtain rfl := Option.some.inj h
    exact hE _ _ dX9_operation_117
  have h := im e_7 h
  by_cases e_8 : l0 = 124
  · have h := ip e_8 h
    refine lv_lookup (off := 111) (tgt := 112) hx hb dX9_operation_1 (by decide) (by rw [e_8]; decide) (by decide) ?_
    refine lv_bipush (v := 6) hx hb dX9_operation_112 (by decide) ?_
    obtain rfl := Option.some.inj h
    exact hE _ _ dX9_operation_114
  have h := im e_8 h
  by_cases e_9 : l0 = 15420
  · have h := ip e_9 h
    refine lv_lookup (off := 117) (tgt := 118) hx hb dX9_operation_1 (by decide) (by rw [e_9]; decide) (by decide) ?_
    refine lv_bipush (v := 8) hx hb dX9_operation_118 (by decide) ?_
    obtain rfl := Option.some.inj h
    exact hE _ _ dX9_operation_120
  have h := im e_9 h
  by_cases e_10 : l0 = 15934
  · have h := ip e_10 h
    refine lv_lookup (off := 120) (tgt := 121) hx hb dX9_operation_1 (by decide) (by rw [e_10]; decide) (by decide) ?_
    refine lv_bipush (v := 9) hx hb dX9_operation_121 (by decide) ?_
    obtain rfl := Option.some.inj h
    exact hE _ _ dX9_operation_123
  have h := im e_10 h
  by_cases e_11 : l0 = 4079166
  · have h := ip e_11 h
    refine lv_lookup (off := 123) (tgt := 124) hx hb dX9_operation_1 (by decide) (by rw [e_11]; decide) (by decide) ?_
    refine lv_bipush (v := 10) hx hb dX9_operation_124 (by decide) ?_
    obtain rfl := Option.some.inj h
    exact hE _ _ dX9_operation_126
  have h := im e_11 h
  have ne_1 : ¬ (37 : Int) = (l0).toInt := fun q => e_1 (Int32.toInt_inj.mp (q.symm.trans (by decide)))
  have ne_2 : ¬ (38 : Int) = (l0).toInt := fun q => e_2 (Int32.toInt_inj.mp (q.symm.trans (by decide)))
  have ne_3 : ¬ (42 : Int) = (l0).toInt := fun q => e_3 (Int32.toInt_inj.mp (q.symm.trans (by decide)))
  have ne_4 : ¬ (43 : Int) = (l0).toInt := fun q => e_4 (Int32.toInt_inj.mp (q.symm.trans (by decide)))
  have ne_5 : ¬ (45 : Int) = (l0).toInt := fun q => e_5 (Int32.toInt_inj.mp (q.symm.trans (by decide)))
  have ne_6 : ¬ (47 : Int) = (l0).toInt := fun q => e_6 (Int32.toInt_inj.mp (q.symm.trans (by decide)))
  have ne_7 : ¬ (94 : Int) = (l0).toInt := fun q => e_7 (Int32.toInt_inj.mp (q.symm.trans (by decide)))
  have ne_8 : ¬ (124 : Int) = (l0).toInt := fun q => e_8 (Int32.toInt_inj.mp (q.symm.trans (by decide)))
  have ne_9 : ¬ (15420 : Int) = (l0).toInt := fun q => e_9 (Int32.toInt_inj.mp (q.symm.trans (by decide)))
  have ne_10 : ¬ (15934 : Int) = (l0).toInt := fun q => e_10 (Int32.toInt_inj.mp (q.symm.trans (by decide)))
  have ne_11 : ¬ (4079166 : Int) = (l0).toInt := fun q => e_11 (Int32.toInt_inj.mp (q.symm.trans (by decide)))
  refine lv_lookup (off := 126) (tgt := 127) hx hb dX9_operation_1 (by decide) (by simp [Op.lookupswitch.offset, ne_1, ne_2, ne_3, ne_4, ne_5, ne_6, ne_7, ne_8, ne_9, ne_10, ne_11]) (by decide) ?_
  refine lv_iconst (v := (-1)) hx hb dX9_operation_127 (by decide) ?_
  obtain rfl := Option.some.inj h
  exact hE _ _ dX9_operation_128
def F_X9_operation (N : Nat) (l0 : Int32) : Option Int32 := B_X9_operation_0 N l0
set_option maxHeartbeats 4000000 in
theorem k_X9_operation (l : Launch) (N : Nat) (l0 : Int32) {r : Int32} (h : F_X9_operation N l0 = some r) : Met l yX9_operation (Cond.code yX9_operation cX9_operation 1 (some .int) :: GW) { frames := 0, cells := 0, slots := 0, locals := 0 } (va_Pc [.int l0] (fun _ => True)) (vp_Si (fun rz => rz = r)) 0 0 (fun _ => False) := by
  refine Met.ofW (cc := cX9_operation) (maxL := 1) (ret := (some .int)) (by decide) rfl ?_
  intro p e s m args below meth c s₁ Bd hml hv
  obtain ⟨rfl, -⟩ := hv
  have hts := atoms_spec (ws := Cond.code yX9_operation cX9_operation 1 (some .int) :: GW) Bd.pre
  have hl := lv_entry ([.int l0]) (n := 1) (Nat.le_of_ble_eq_true rfl)
  rw [lg_entry_eq]
  generalize (lg_sl ([.int l0]) ++ List.replicate (1 - (lg_sl ([.int l0])).length) Slot.unset).toArray = ls at hl ⊢
  have hl : lv_has ls 1 [(0, .int l0)] := hl
  have hr := Bd.returns
  have hlocks := Bd.notSynchronized
  have X : CallFix p m c cX9_operation 1 s ([.int l0]).toArray (Cond.code yX9_operation cX9_operation 1 (some .int) :: GW) RX9 := ⟨Bd.exec, Bd.bytes, hml, findClass_of_methodNamed Bd.named, hts⟩
  have hE0 := fun (ls : Array Slot) (pc : Nat) (hd : decode cX9_operation pc = .ok (.ireturn, 1)) => W.iret (v := r) X.1 X.2.1 hr (Qc := vp_Si (fun rz => rz = r)) (H := s.heap) (locs := []) (cells := 0) (slots := 0) (free := fun _ => False) (R := (headSpec (Cond.code yX9_operation cX9_operation 1 (some .int) :: GW) ({ frames := 0, cells := 0, slots := 0, locals := 0 })).room) (p := p) (l := l) (e := e) (s := s) (m := m) (args := ([.int l0]).toArray) (below := below) (meth := meth) (c := c) (ls := ls) (fun t ht hW => ⟨_, rfl, rfl, ht⟩) (fun _ h => nomatch h) hd hlocks
  exact b_X9_operation_0 X hE0 (Nat.le_refl _) (Nat.le_refl _) h (lv_sub hl [0] rfl)
def B_X9_comparison_0 (N : Nat) (l0 : Int32) : Option Int32 := if l0 = 60 then (some 2) else (if l0 = 62 then (some 4) else (if l0 = 8509 then (some 1) else (if l0 = 15421 then (some 3) else (if l0 = 15677 then (some 0) else (if l0 = 15933 then (some 5) else (some (-1)))))))
set_option maxHeartbeats 4000000 in
theorem b_X9_comparison_0 {r : Int32} (X : CallFix p m c cX9_comparison 1 s args (Cond.code yX9_comparison cX9_comparison 1 (some .int) :: GW) RX9) (hE : ∀ (ls : Array Slot) (pc : Nat), decode cX9_comparison pc = .ok (.ireturn, 1) → W p l e R s m args below meth c s.heap [] 0 0 Q (F0 m pc ls [.int r])) (hF : 0 ≤ R.frames) (hL : 0 ≤ R.locals) {l0 : Int32}  (h : B_X9_comparison_0 N l0 = some r)  (hl : lv_has ls 1 [(0, .int l0)]) : W p l e R s m args below meth c s.heap [] 0 0 Q (F0 m 0 ls []) := by
  obtain ⟨hx, hb, hml, hown, hts⟩ := id X
  have hG : ∀ w ∈ GW, w.before args s = true := fun w h => hts w (List.mem_cons_of_mem _ h)
  unfold B_X9_comparison_0 at h
  refine lv_iload_n hx hb dX9_comparison_0 rfl (lv_at hl 0 rfl) ?_
  by_cases e_1 : l0 = 60
  · have h := ip e_1 h
    refine lv_lookup (off := 63) (tgt := 64) hx hb dX9_comparison_1 (by decide) (by rw [e_1]; decide) (by decide) ?_
    refine lv_iconst (v := 2) hx hb dX9_comparison_64 (by decide) ?_
    obtain rfl := Option.some.inj h
    exact hE _ _ dX9_comparison_65
  have h := im e_1 h
  by_cases e_2 : l0 = 62
  · have h := ip e_2 h
    refine lv_lookup (off := 67) (tgt := 68) hx hb dX9_comparison_1 (by decide) (by rw [e_2]; decide) (by decide) ?_
    refine lv_iconst (v := 4) hx hb dX9_comparison_68 (by decide) ?_
    obtain rfl := Option.some.inj h
    exact hE _ _ dX9_comparison_69
  have h := im e_2 h
  by_cases e_3 : l0 = 8509
  · have h := ip e_3 h
    refine lv_lookup (off := 61) (tgt := 62) hx hb dX9_comparison_1 (by decide) (by rw [e_3]; decide) (by decide) ?_
    refine lv_iconst (v := 1) hx hb dX9_comparison_62 (by decide) ?_
    obtain rfl := Option.some.inj h
    exact hE _ _ dX9_comparison_63
  have h := im e_3 h
  by_cases e_4 : l0 = 15421
  · have h := ip e_4 h
    refine lv_lookup (off := 65) (tgt := 66) hx hb dX9_comparison_1 (by decide) (by rw [e_4]; decide) (by decide) ?_
    refine lv_iconst (v := 3) hx hb dX9_comparison_66 (by decide) ?_
    obtain rfl := Option.some.inj h
    exact hE _ _ dX9_comparison_67
  have h := im e_4 h
  by_cases e_5 : l0 = 15677
  · have h := ip e_5 h
    refine lv_lookup (off := 59) (tgt := 60) hx hb dX9_comparison_1 (by decide) (by rw [e_5]; decide) (by decide) ?_
    refine lv_iconst (v := 0) hx hb dX9_comparison_60 (by decide) ?_
    obtain rfl := Option.some.inj h
    exact hE _ _ dX9_comparison_61
  have h := im e_5 h
  by_cases e_6 : l0 = 15933
  · have h := ip e_6 h
    refine lv_lookup (off := 69) (tgt := 70) hx hb dX9_comparison_1 (by decide) (by rw [e_6]; decide) (by decide) ?_
    refine lv_iconst (v := 5) hx hb dX9_comparison_70 (by decide) ?_
    obtain rfl := Option.some.inj h
    exact hE _ _ dX9_comparison_71
  have h := im e_6 h
  have ne_1 : ¬ (60 : Int) = (l0).toInt := fun q => e_1 (Int32.toInt_inj.mp (q.symm.trans (by decide)))
  have ne_2 : ¬ (62 : Int) = (l0).toInt := fun q => e_2 (Int32.toInt_inj.mp (q.symm.trans (by decide)))
  have ne_3 : ¬ (8509 : Int) = (l0).toInt := fun q => e_3 (Int32.toInt_inj.mp (q.symm.trans (by decide)))
  have ne_4 : ¬ (15421 : Int) = (l0).toInt := fun q => e_4 (Int32.toInt_inj.mp (q.symm.trans (by decide)))
  have ne_5 : ¬ (15677 : Int) = (l0).toInt := fun q => e_5 (Int32.toInt_inj.mp (q.symm.trans (by decide)))
  have ne_6 : ¬ (15933 : Int) = (l0).toInt := fun q => e_6 (Int32.toInt_inj.mp (q.symm.trans (by decide)))
  refine lv_lookup (off := 71) (tgt := 72) hx hb dX9_comparison_1 (by decide) (by simp [Op.lookupswitch.offset, ne_1, ne_2, ne_3, ne_4, ne_5, ne_6]) (by decide) ?_
  refine lv_iconst (v := (-1)) hx hb dX9_comparison_72 (by decide) ?_
  obtain rfl := Option.some.inj h
  exact hE _ _ dX9_comparison_73
def F_X9_comparison (N : Nat) (l0 : Int32) : Option Int32 := B_X9_comparison_0 N l0
set_option maxHeartbeats 4000000 in
theorem k_X9_comparison (l : Launch) (N : Nat) (l0 : Int32) {r : Int32} (h : F_X9_comparison N l0 = some r) : Met l yX9_comparison (Cond.code yX9_comparison cX9_comparison 1 (some .int) :: GW) { frames := 0, cells := 0, slots := 0, locals := 0 } (va_Pc [.int l0] (fun _ => True)) (vp_Si (fun rz => rz = r)) 0 0 (fun _ => False) := by
  refine Met.ofW (cc := cX9_comparison) (maxL := 1) (ret := (some .int)) (by decide) rfl ?_
  intro p e s m args below meth c s₁ Bd hml hv
  obtain ⟨rfl, -⟩ := hv
  have hts := atoms_spec (ws := Cond.code yX9_comparison cX9_comparison 1 (some .int) :: GW) Bd.pre
  have hl := lv_entry ([.int l0]) (n := 1) (Nat.le_of_ble_eq_true rfl)
  rw [lg_entry_eq]
  generalize (lg_sl ([.int l0]) ++ List.replicate (1 - (lg_sl ([.int l0])).length) Slot.unset).toArray = ls at hl ⊢
  have hl : lv_has ls 1 [(0, .int l0)] := hl
  have hr := Bd.returns
  have hlocks := Bd.notSynchronized
  have X : CallFix p m c cX9_comparison 1 s ([.int l0]).toArray (Cond.code yX9_comparison cX9_comparison 1 (some .int) :: GW) RX9 := ⟨Bd.exec, Bd.bytes, hml, findClass_of_methodNamed Bd.named, hts⟩
  have hE0 := fun (ls : Array Slot) (pc : Nat) (hd : decode cX9_comparison pc = .ok (.ireturn, 1)) => W.iret (v := r) X.1 X.2.1 hr (Qc := vp_Si (fun rz => rz = r)) (H := s.heap) (locs := []) (cells := 0) (slots := 0) (free := fun _ => False) (R := (headSpec (Cond.code yX9_comparison cX9_comparison 1 (some .int) :: GW) ({ frames := 0, cells := 0, slots := 0, locals := 0 })).room) (p := p) (l := l) (e := e) (s := s) (m := m) (args := ([.int l0]).toArray) (below := below) (meth := meth) (c := c) (ls := ls) (fun t ht hW => ⟨_, rfl, rfl, ht⟩) (fun _ h => nomatch h) hd hlocks
  exact b_X9_comparison_0 X hE0 (Nat.le_refl _) (Nat.le_refl _) h (lv_sub hl [0] rfl)
def B_X9_assigned_0 (N : Nat) (l0 : Int32) : Option Int32 := if (l0 &&& 255) = (61 : Int32) then (pb (F_X9_operation N (l0 >>> (8 &&& 31))) fun r_2 => some r_2) else (some (-1))
set_option maxHeartbeats 4000000 in
theorem b_X9_assigned_0 {r : Int32} (X : CallFix p m c cX9_assigned 1 s args (Cond.code yX9_assigned cX9_assigned 1 (some .int) :: GW) RX9) (hE : ∀ (ls : Array Slot) (pc : Nat), decode cX9_assigned pc = .ok (.ireturn, 1) → W p l e R s m args below meth c s.heap [] 0 0 Q (F0 m pc ls [.int r])) (hF : 1 ≤ R.frames) (hL : 20 ≤ R.locals) {l0 : Int32}  (h : B_X9_assigned_0 N l0 = some r)  (hl : lv_has ls 1 [(0, .int l0)]) : W p l e R s m args below meth c s.heap [] 0 0 Q (F0 m 0 ls []) := by
  obtain ⟨hx, hb, hml, hown, hts⟩ := id X
  have hG : ∀ w ∈ GW, w.before args s = true := fun w h => hts w (List.mem_cons_of_mem _ h)
  unfold B_X9_assigned_0 at h
  refine lv_iload_n hx hb dX9_assigned_0 rfl (lv_at hl 0 rfl) ?_
  refine lv_sipush (v := 255) hx hb dX9_assigned_1 (by decide) ?_
  refine lv_iand hx hb dX9_assigned_4 ?_
  refine lv_bipush (v := 61) hx hb dX9_assigned_5 (by decide) ?_
  refine lv_icmp_ne (tgt := 20) hx hb dX9_assigned_7 (by decide) (fun c_1 => ?_) (fun c_1 => ?_)
  · have h := im (c_1) h
    refine lv_iconst (v := (-1)) hx hb dX9_assigned_20 (by decide) ?_
    obtain rfl := Option.some.inj h
    exact hE _ _ dX9_assigned_21
  · have h := ip (c_1) h
    refine lv_iload_n hx hb dX9_assigned_10 rfl (lv_at hl 0 rfl) ?_
    refine lv_bipush (v := 8) hx hb dX9_assigned_11 (by decide) ?_
    refine lv_ishr hx hb dX9_assigned_13 ?_
    obtain ⟨r_2, e_r_2, h⟩ := pb_of h
    refine vp_callSi (W.runS (As := [.int (l0 >>> (8 &&& 31))]) (rest := []) X (k_X9_operation l N (l0 >>> (8 &&& 31)) e_r_2) (va_cwS 1 hts (gw_S gw_946 gw_947 gw_2 gw_948) rfl rfl rfl (by decide +kernel) ⟨Nat.le_trans (Nat.le_of_ble_eq_true rfl) hF, Nat.le_trans (Nat.le_of_ble_eq_true rfl) hL⟩) ⟨fun _ _ _ _ q => q, fun _ _ _ => ⟨rfl, trivial⟩⟩ rfl rfl hl.1 rfl (lv_room (Nat.le_of_ble_eq_true rfl)) dX9_assigned_14 ⟨Nat.zero_le _, Nat.zero_le _⟩) (fun r_3 q_4 => ?_)
    rw [q_4]
    refine lv_goto (tgt := 21) hx hb dX9_assigned_17 (by decide) ?_
    obtain rfl := Option.some.inj h
    exact hE _ _ dX9_assigned_21
def F_X9_assigned (N : Nat) (l0 : Int32) : Option Int32 := B_X9_assigned_0 N l0
set_option maxHeartbeats 4000000 in
theorem k_X9_assigned (l : Launch) (N : Nat) (l0 : Int32) {r : Int32} (h : F_X9_assigned N l0 = some r) : Met l yX9_assigned (Cond.code yX9_assigned cX9_assigned 1 (some .int) :: GW) { frames := 1, cells := 0, slots := 0, locals := 20 } (va_Pc [.int l0] (fun _ => True)) (vp_Si (fun rz => rz = r)) 0 0 (fun _ => False) := by
  refine Met.ofW (cc := cX9_assigned) (maxL := 1) (ret := (some .int)) (by decide) rfl ?_
  intro p e s m args below meth c s₁ Bd hml hv
  obtain ⟨rfl, -⟩ := hv
  have hts := atoms_spec (ws := Cond.code yX9_assigned cX9_assigned 1 (some .int) :: GW) Bd.pre
  have hl := lv_entry ([.int l0]) (n := 1) (Nat.le_of_ble_eq_true rfl)
  rw [lg_entry_eq]
  generalize (lg_sl ([.int l0]) ++ List.replicate (1 - (lg_sl ([.int l0])).length) Slot.unset).toArray = ls at hl ⊢
  have hl : lv_has ls 1 [(0, .int l0)] := hl
  have hr := Bd.returns
  have hlocks := Bd.notSynchronized
  have X : CallFix p m c cX9_assigned 1 s ([.int l0]).toArray (Cond.code yX9_assigned cX9_assigned 1 (some .int) :: GW) RX9 := ⟨Bd.exec, Bd.bytes, hml, findClass_of_methodNamed Bd.named, hts⟩
  have hE0 := fun (ls : Array Slot) (pc : Nat) (hd : decode cX9_assigned pc = .ok (.ireturn, 1)) => W.iret (v := r) X.1 X.2.1 hr (Qc := vp_Si (fun rz => rz = r)) (H := s.heap) (locs := []) (cells := 0) (slots := 0) (free := fun _ => False) (R := (headSpec (Cond.code yX9_assigned cX9_assigned 1 (some .int) :: GW) ({ frames := 1, cells := 0, slots := 0, locals := 20 })).room) (p := p) (l := l) (e := e) (s := s) (m := m) (args := ([.int l0]).toArray) (below := below) (meth := meth) (c := c) (ls := ls) (fun t ht hW => ⟨_, rfl, rfl, ht⟩) (fun _ h => nomatch h) hd hlocks
  exact b_X9_assigned_0 X hE0 (Nat.le_refl _) (Nat.le_refl _) h (lv_sub hl [0] rfl)
end C31signs
