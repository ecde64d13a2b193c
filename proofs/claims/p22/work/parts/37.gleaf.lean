abbrev cX0_opens : ByteArray := prog_2_method_27_code
def yX0_opens : MethodName := ⟨RX0, "opens", "(I)V"⟩
theorem dX0_opens_0 : decode cX0_opens 0 = .ok (.aload_n 0, 1) := by decide +kernel
theorem dX0_opens_1 : decode cX0_opens 1 = .ok (.getfield 9, 3) := by decide +kernel
theorem dX0_opens_4 : decode cX0_opens 4 = .ok (.iload_n 1, 1) := by decide +kernel
theorem dX0_opens_5 : decode cX0_opens 5 = .ok (.invokevirtual 24, 3) := by decide +kernel
theorem dX0_opens_8 : decode cX0_opens 8 = .ok (.ifCond .eq 12, 3) := by decide +kernel
theorem dX0_opens_11 : decode cX0_opens 11 = .ok (.aload_n 0, 1) := by decide +kernel
theorem dX0_opens_12 : decode cX0_opens 12 = .ok (.getfield 15, 3) := by decide +kernel
theorem dX0_opens_15 : decode cX0_opens 15 = .ok (.bipush 24, 2) := by decide +kernel
theorem dX0_opens_17 : decode cX0_opens 17 = .ok (.if_icmp .lt 10, 3) := by decide +kernel
theorem dX0_opens_20 : decode cX0_opens 20 = .ok (.aload_n 0, 1) := by decide +kernel
theorem dX0_opens_21 : decode cX0_opens 21 = .ok (.getfield 9, 3) := by decide +kernel
theorem dX0_opens_24 : decode cX0_opens 24 = .ok (.invokevirtual 53, 3) := by decide +kernel
theorem dX0_opens_27 : decode cX0_opens 27 = .ok (.aload_n 0, 1) := by decide +kernel
theorem dX0_opens_28 : decode cX0_opens 28 = .ok (.dup, 1) := by decide +kernel
theorem dX0_opens_29 : decode cX0_opens 29 = .ok (.getfield 15, 3) := by decide +kernel
theorem dX0_opens_32 : decode cX0_opens 32 = .ok (.iconst 1, 1) := by decide +kernel
theorem dX0_opens_33 : decode cX0_opens 33 = .ok (.iadd, 1) := by decide +kernel
theorem dX0_opens_34 : decode cX0_opens 34 = .ok (.putfield 15, 3) := by decide +kernel
theorem dX0_opens_37 : decode cX0_opens 37 = .ok (.aload_n 0, 1) := by decide +kernel
theorem dX0_opens_38 : decode cX0_opens 38 = .ok (.getfield 9, 3) := by decide +kernel
theorem dX0_opens_41 : decode cX0_opens 41 = .ok (.invokevirtual 38, 3) := by decide +kernel
theorem dX0_opens_44 : decode cX0_opens 44 = .ok (.return_, 1) := by decide +kernel
abbrev cX0_closes : ByteArray := prog_2_method_28_code
def yX0_closes : MethodName := ⟨RX0, "closes", "(I)V"⟩
theorem dX0_closes_0 : decode cX0_closes 0 = .ok (.aload_n 0, 1) := by decide +kernel
theorem dX0_closes_1 : decode cX0_closes 1 = .ok (.getfield 9, 3) := by decide +kernel
theorem dX0_closes_4 : decode cX0_closes 4 = .ok (.iload_n 1, 1) := by decide +kernel
theorem dX0_closes_5 : decode cX0_closes 5 = .ok (.invokevirtual 63, 3) := by decide +kernel
theorem dX0_closes_8 : decode cX0_closes 8 = .ok (.aload_n 0, 1) := by decide +kernel
theorem dX0_closes_9 : decode cX0_closes 9 = .ok (.dup, 1) := by decide +kernel
theorem dX0_closes_10 : decode cX0_closes 10 = .ok (.getfield 15, 3) := by decide +kernel
theorem dX0_closes_13 : decode cX0_closes 13 = .ok (.iconst 1, 1) := by decide +kernel
theorem dX0_closes_14 : decode cX0_closes 14 = .ok (.isub, 1) := by decide +kernel
theorem dX0_closes_15 : decode cX0_closes 15 = .ok (.putfield 15, 3) := by decide +kernel
theorem dX0_closes_18 : decode cX0_closes 18 = .ok (.return_, 1) := by decide +kernel
abbrev cX0_kind : ByteArray := prog_2_method_3_code
def yX0_kind : MethodName := ⟨RX0, "kind", "()V"⟩
theorem dX0_kind_0 : decode cX0_kind 0 = .ok (.aload_n 0, 1) := by decide +kernel
theorem dX0_kind_1 : decode cX0_kind 1 = .ok (.getfield 9, 3) := by decide +kernel
theorem dX0_kind_4 : decode cX0_kind 4 = .ok (.invokevirtual 56, 3) := by decide +kernel
theorem dX0_kind_7 : decode cX0_kind 7 = .ok (.ifCond .ne 10, 3) := by decide +kernel
theorem dX0_kind_10 : decode cX0_kind 10 = .ok (.aload_n 0, 1) := by decide +kernel
theorem dX0_kind_11 : decode cX0_kind 11 = .ok (.getfield 9, 3) := by decide +kernel
theorem dX0_kind_14 : decode cX0_kind 14 = .ok (.invokevirtual 53, 3) := by decide +kernel
theorem dX0_kind_17 : decode cX0_kind 17 = .ok (.aload_n 0, 1) := by decide +kernel
theorem dX0_kind_18 : decode cX0_kind 18 = .ok (.getfield 9, 3) := by decide +kernel
theorem dX0_kind_21 : decode cX0_kind 21 = .ok (.invokevirtual 38, 3) := by decide +kernel
theorem dX0_kind_24 : decode cX0_kind 24 = .ok (.return_, 1) := by decide +kernel
abbrev cX0_constant : ByteArray := prog_2_method_6_code
def yX0_constant : MethodName := ⟨RX0, "constant", "()V"⟩
theorem dX0_constant_0 : decode cX0_constant 0 = .ok (.aload_n 0, 1) := by decide +kernel
theorem dX0_constant_1 : decode cX0_constant 1 = .ok (.getfield 9, 3) := by decide +kernel
theorem dX0_constant_4 : decode cX0_constant 4 = .ok (.bipush 45, 2) := by decide +kernel
theorem dX0_constant_6 : decode cX0_constant 6 = .ok (.invokevirtual 24, 3) := by decide +kernel
theorem dX0_constant_9 : decode cX0_constant 9 = .ok (.ifCond .eq 10, 3) := by decide +kernel
theorem dX0_constant_12 : decode cX0_constant 12 = .ok (.aload_n 0, 1) := by decide +kernel
theorem dX0_constant_13 : decode cX0_constant 13 = .ok (.getfield 9, 3) := by decide +kernel
theorem dX0_constant_16 : decode cX0_constant 16 = .ok (.invokevirtual 38, 3) := by decide +kernel
theorem dX0_constant_19 : decode cX0_constant 19 = .ok (.aload_n 0, 1) := by decide +kernel
theorem dX0_constant_20 : decode cX0_constant 20 = .ok (.getfield 9, 3) := by decide +kernel
theorem dX0_constant_23 : decode cX0_constant 23 = .ok (.sipush 129, 3) := by decide +kernel
theorem dX0_constant_26 : decode cX0_constant 26 = .ok (.invokevirtual 24, 3) := by decide +kernel
theorem dX0_constant_29 : decode cX0_constant 29 = .ok (.ifCond .ne 23, 3) := by decide +kernel
theorem dX0_constant_32 : decode cX0_constant 32 = .ok (.aload_n 0, 1) := by decide +kernel
theorem dX0_constant_33 : decode cX0_constant 33 = .ok (.getfield 9, 3) := by decide +kernel
theorem dX0_constant_36 : decode cX0_constant 36 = .ok (.sipush 130, 3) := by decide +kernel
theorem dX0_constant_39 : decode cX0_constant 39 = .ok (.invokevirtual 24, 3) := by decide +kernel
theorem dX0_constant_42 : decode cX0_constant 42 = .ok (.ifCond .ne 10, 3) := by decide +kernel
theorem dX0_constant_45 : decode cX0_constant 45 = .ok (.aload_n 0, 1) := by decide +kernel
theorem dX0_constant_46 : decode cX0_constant 46 = .ok (.getfield 9, 3) := by decide +kernel
theorem dX0_constant_49 : decode cX0_constant 49 = .ok (.invokevirtual 53, 3) := by decide +kernel
theorem dX0_constant_52 : decode cX0_constant 52 = .ok (.aload_n 0, 1) := by decide +kernel
theorem dX0_constant_53 : decode cX0_constant 53 = .ok (.getfield 9, 3) := by decide +kernel
theorem dX0_constant_56 : decode cX0_constant 56 = .ok (.invokevirtual 38, 3) := by decide +kernel
theorem dX0_constant_59 : decode cX0_constant 59 = .ok (.return_, 1) := by decide +kernel
abbrev cX0_oneVariable : ByteArray := prog_2_method_5_code
def yX0_oneVariable : MethodName := ⟨RX0, "oneVariable", "()V"⟩
theorem dX0_oneVariable_0 : decode cX0_oneVariable 0 = .ok (.aload_n 0, 1) := by decide +kernel
theorem dX0_oneVariable_1 : decode cX0_oneVariable 1 = .ok (.getfield 9, 3) := by decide +kernel
theorem dX0_oneVariable_4 : decode cX0_oneVariable 4 = .ok (.sipush 128, 3) := by decide +kernel
theorem dX0_oneVariable_7 : decode cX0_oneVariable 7 = .ok (.invokevirtual 63, 3) := by decide +kernel
theorem dX0_oneVariable_10 : decode cX0_oneVariable 10 = .ok (.aload_n 0, 1) := by decide +kernel
theorem dX0_oneVariable_11 : decode cX0_oneVariable 11 = .ok (.getfield 9, 3) := by decide +kernel
theorem dX0_oneVariable_14 : decode cX0_oneVariable 14 = .ok (.bipush 91, 2) := by decide +kernel
theorem dX0_oneVariable_16 : decode cX0_oneVariable 16 = .ok (.invokevirtual 24, 3) := by decide +kernel
theorem dX0_oneVariable_19 : decode cX0_oneVariable 19 = .ok (.ifCond .eq 25, 3) := by decide +kernel
theorem dX0_oneVariable_22 : decode cX0_oneVariable 22 = .ok (.aload_n 0, 1) := by decide +kernel
theorem dX0_oneVariable_23 : decode cX0_oneVariable 23 = .ok (.bipush 91, 2) := by decide +kernel
theorem dX0_oneVariable_25 : decode cX0_oneVariable 25 = .ok (.invokevirtual 67, 3) := by decide +kernel
theorem dX0_oneVariable_28 : decode cX0_oneVariable 28 = .ok (.aload_n 0, 1) := by decide +kernel
theorem dX0_oneVariable_29 : decode cX0_oneVariable 29 = .ok (.getfield 9, 3) := by decide +kernel
theorem dX0_oneVariable_32 : decode cX0_oneVariable 32 = .ok (.sipush 129, 3) := by decide +kernel
theorem dX0_oneVariable_35 : decode cX0_oneVariable 35 = .ok (.invokevirtual 63, 3) := by decide +kernel
theorem dX0_oneVariable_38 : decode cX0_oneVariable 38 = .ok (.aload_n 0, 1) := by decide +kernel
theorem dX0_oneVariable_39 : decode cX0_oneVariable 39 = .ok (.bipush 93, 2) := by decide +kernel
theorem dX0_oneVariable_41 : decode cX0_oneVariable 41 = .ok (.invokevirtual 70, 3) := by decide +kernel
theorem dX0_oneVariable_44 : decode cX0_oneVariable 44 = .ok (.aload_n 0, 1) := by decide +kernel
theorem dX0_oneVariable_45 : decode cX0_oneVariable 45 = .ok (.getfield 9, 3) := by decide +kernel
theorem dX0_oneVariable_48 : decode cX0_oneVariable 48 = .ok (.bipush 61, 2) := by decide +kernel
theorem dX0_oneVariable_50 : decode cX0_oneVariable 50 = .ok (.invokevirtual 24, 3) := by decide +kernel
theorem dX0_oneVariable_53 : decode cX0_oneVariable 53 = .ok (.ifCond .eq 14, 3) := by decide +kernel
theorem dX0_oneVariable_56 : decode cX0_oneVariable 56 = .ok (.aload_n 0, 1) := by decide +kernel
theorem dX0_oneVariable_57 : decode cX0_oneVariable 57 = .ok (.getfield 9, 3) := by decide +kernel
theorem dX0_oneVariable_60 : decode cX0_oneVariable 60 = .ok (.invokevirtual 38, 3) := by decide +kernel
theorem dX0_oneVariable_63 : decode cX0_oneVariable 63 = .ok (.aload_n 0, 1) := by decide +kernel
theorem dX0_oneVariable_64 : decode cX0_oneVariable 64 = .ok (.invokevirtual 73, 3) := by decide +kernel
theorem dX0_oneVariable_67 : decode cX0_oneVariable 67 = .ok (.return_, 1) := by decide +kernel
abbrev cX0_variables : ByteArray := prog_2_method_4_code
def yX0_variables : MethodName := ⟨RX0, "variables", "()V"⟩
theorem dX0_variables_0 : decode cX0_variables 0 = .ok (.aload_n 0, 1) := by decide +kernel
theorem dX0_variables_1 : decode cX0_variables 1 = .ok (.getfield 9, 3) := by decide +kernel
theorem dX0_variables_4 : decode cX0_variables 4 = .ok (.invokevirtual 38, 3) := by decide +kernel
theorem dX0_variables_7 : decode cX0_variables 7 = .ok (.aload_n 0, 1) := by decide +kernel
theorem dX0_variables_8 : decode cX0_variables 8 = .ok (.invokevirtual 47, 3) := by decide +kernel
theorem dX0_variables_11 : decode cX0_variables 11 = .ok (.aload_n 0, 1) := by decide +kernel
theorem dX0_variables_12 : decode cX0_variables 12 = .ok (.invokevirtual 60, 3) := by decide +kernel
theorem dX0_variables_15 : decode cX0_variables 15 = .ok (.iconst 0, 1) := by decide +kernel
theorem dX0_variables_16 : decode cX0_variables 16 = .ok (.istore_n 1, 1) := by decide +kernel
theorem dX0_variables_17 : decode cX0_variables 17 = .ok (.iload_n 1, 1) := by decide +kernel
theorem dX0_variables_18 : decode cX0_variables 18 = .ok (.sipush 1500, 3) := by decide +kernel
theorem dX0_variables_21 : decode cX0_variables 21 = .ok (.if_icmp .ge 32, 3) := by decide +kernel
theorem dX0_variables_24 : decode cX0_variables 24 = .ok (.aload_n 0, 1) := by decide +kernel
theorem dX0_variables_25 : decode cX0_variables 25 = .ok (.getfield 9, 3) := by decide +kernel
theorem dX0_variables_28 : decode cX0_variables 28 = .ok (.bipush 44, 2) := by decide +kernel
theorem dX0_variables_30 : decode cX0_variables 30 = .ok (.invokevirtual 24, 3) := by decide +kernel
theorem dX0_variables_33 : decode cX0_variables 33 = .ok (.ifCond .eq 20, 3) := by decide +kernel
theorem dX0_variables_36 : decode cX0_variables 36 = .ok (.aload_n 0, 1) := by decide +kernel
theorem dX0_variables_37 : decode cX0_variables 37 = .ok (.getfield 9, 3) := by decide +kernel
theorem dX0_variables_40 : decode cX0_variables 40 = .ok (.invokevirtual 38, 3) := by decide +kernel
theorem dX0_variables_43 : decode cX0_variables 43 = .ok (.aload_n 0, 1) := by decide +kernel
theorem dX0_variables_44 : decode cX0_variables 44 = .ok (.invokevirtual 60, 3) := by decide +kernel
theorem dX0_variables_47 : decode cX0_variables 47 = .ok (.iinc 1 1, 3) := by decide +kernel
theorem dX0_variables_50 : decode cX0_variables 50 = .ok (.goto (-33), 3) := by decide +kernel
theorem dX0_variables_53 : decode cX0_variables 53 = .ok (.aload_n 0, 1) := by decide +kernel
theorem dX0_variables_54 : decode cX0_variables 54 = .ok (.getfield 9, 3) := by decide +kernel
theorem dX0_variables_57 : decode cX0_variables 57 = .ok (.bipush 59, 2) := by decide +kernel
theorem dX0_variables_59 : decode cX0_variables 59 = .ok (.invokevirtual 63, 3) := by decide +kernel
theorem dX0_variables_62 : decode cX0_variables 62 = .ok (.return_, 1) := by decide +kernel
abbrev cX0_placed : ByteArray := prog_2_method_7_code
def yX0_placed : MethodName := ⟨RX0, "placed", "()V"⟩
theorem dX0_placed_0 : decode cX0_placed 0 = .ok (.aload_n 0, 1) := by decide +kernel
theorem dX0_placed_1 : decode cX0_placed 1 = .ok (.getfield 9, 3) := by decide +kernel
theorem dX0_placed_4 : decode cX0_placed 4 = .ok (.invokevirtual 38, 3) := by decide +kernel
theorem dX0_placed_7 : decode cX0_placed 7 = .ok (.aload_n 0, 1) := by decide +kernel
theorem dX0_placed_8 : decode cX0_placed 8 = .ok (.invokevirtual 47, 3) := by decide +kernel
theorem dX0_placed_11 : decode cX0_placed 11 = .ok (.aload_n 0, 1) := by decide +kernel
theorem dX0_placed_12 : decode cX0_placed 12 = .ok (.getfield 9, 3) := by decide +kernel
theorem dX0_placed_15 : decode cX0_placed 15 = .ok (.sipush 128, 3) := by decide +kernel
theorem dX0_placed_18 : decode cX0_placed 18 = .ok (.invokevirtual 63, 3) := by decide +kernel
theorem dX0_placed_21 : decode cX0_placed 21 = .ok (.aload_n 0, 1) := by decide +kernel
theorem dX0_placed_22 : decode cX0_placed 22 = .ok (.getfield 9, 3) := by decide +kernel
theorem dX0_placed_25 : decode cX0_placed 25 = .ok (.iconst 5, 1) := by decide +kernel
theorem dX0_placed_26 : decode cX0_placed 26 = .ok (.invokevirtual 63, 3) := by decide +kernel
theorem dX0_placed_29 : decode cX0_placed 29 = .ok (.aload_n 0, 1) := by decide +kernel
theorem dX0_placed_30 : decode cX0_placed 30 = .ok (.getfield 9, 3) := by decide +kernel
theorem dX0_placed_33 : decode cX0_placed 33 = .ok (.sipush 129, 3) := by decide +kernel
theorem dX0_placed_36 : decode cX0_placed 36 = .ok (.invokevirtual 63, 3) := by decide +kernel
theorem dX0_placed_39 : decode cX0_placed 39 = .ok (.aload_n 0, 1) := by decide +kernel
theorem dX0_placed_40 : decode cX0_placed 40 = .ok (.getfield 9, 3) := by decide +kernel
theorem dX0_placed_43 : decode cX0_placed 43 = .ok (.bipush 59, 2) := by decide +kernel
theorem dX0_placed_45 : decode cX0_placed 45 = .ok (.invokevirtual 63, 3) := by decide +kernel
theorem dX0_placed_48 : decode cX0_placed 48 = .ok (.return_, 1) := by decide +kernel
abbrev cX0_uses : ByteArray := prog_2_method_8_code
def yX0_uses : MethodName := ⟨RX0, "uses", "()V"⟩
theorem dX0_uses_0 : decode cX0_uses 0 = .ok (.aload_n 0, 1) := by decide +kernel
theorem dX0_uses_1 : decode cX0_uses 1 = .ok (.getfield 9, 3) := by decide +kernel
theorem dX0_uses_4 : decode cX0_uses 4 = .ok (.invokevirtual 38, 3) := by decide +kernel
theorem dX0_uses_7 : decode cX0_uses 7 = .ok (.aload_n 0, 1) := by decide +kernel
theorem dX0_uses_8 : decode cX0_uses 8 = .ok (.getfield 9, 3) := by decide +kernel
theorem dX0_uses_11 : decode cX0_uses 11 = .ok (.sipush 128, 3) := by decide +kernel
theorem dX0_uses_14 : decode cX0_uses 14 = .ok (.invokevirtual 63, 3) := by decide +kernel
theorem dX0_uses_17 : decode cX0_uses 17 = .ok (.aload_n 0, 1) := by decide +kernel
theorem dX0_uses_18 : decode cX0_uses 18 = .ok (.getfield 9, 3) := by decide +kernel
theorem dX0_uses_21 : decode cX0_uses 21 = .ok (.sipush 128, 3) := by decide +kernel
theorem dX0_uses_24 : decode cX0_uses 24 = .ok (.invokevirtual 63, 3) := by decide +kernel
theorem dX0_uses_27 : decode cX0_uses 27 = .ok (.iconst 0, 1) := by decide +kernel
theorem dX0_uses_28 : decode cX0_uses 28 = .ok (.istore_n 1, 1) := by decide +kernel
theorem dX0_uses_29 : decode cX0_uses 29 = .ok (.iload_n 1, 1) := by decide +kernel
theorem dX0_uses_30 : decode cX0_uses 30 = .ok (.sipush 1500, 3) := by decide +kernel
theorem dX0_uses_33 : decode cX0_uses 33 = .ok (.if_icmp .ge 38, 3) := by decide +kernel
theorem dX0_uses_36 : decode cX0_uses 36 = .ok (.aload_n 0, 1) := by decide +kernel
theorem dX0_uses_37 : decode cX0_uses 37 = .ok (.getfield 9, 3) := by decide +kernel
theorem dX0_uses_40 : decode cX0_uses 40 = .ok (.bipush 44, 2) := by decide +kernel
theorem dX0_uses_42 : decode cX0_uses 42 = .ok (.invokevirtual 24, 3) := by decide +kernel
theorem dX0_uses_45 : decode cX0_uses 45 = .ok (.ifCond .eq 26, 3) := by decide +kernel
theorem dX0_uses_48 : decode cX0_uses 48 = .ok (.aload_n 0, 1) := by decide +kernel
theorem dX0_uses_49 : decode cX0_uses 49 = .ok (.getfield 9, 3) := by decide +kernel
theorem dX0_uses_52 : decode cX0_uses 52 = .ok (.invokevirtual 38, 3) := by decide +kernel
theorem dX0_uses_55 : decode cX0_uses 55 = .ok (.aload_n 0, 1) := by decide +kernel
theorem dX0_uses_56 : decode cX0_uses 56 = .ok (.getfield 9, 3) := by decide +kernel
theorem dX0_uses_59 : decode cX0_uses 59 = .ok (.sipush 128, 3) := by decide +kernel
theorem dX0_uses_62 : decode cX0_uses 62 = .ok (.invokevirtual 63, 3) := by decide +kernel
theorem dX0_uses_65 : decode cX0_uses 65 = .ok (.iinc 1 1, 3) := by decide +kernel
theorem dX0_uses_68 : decode cX0_uses 68 = .ok (.goto (-39), 3) := by decide +kernel
theorem dX0_uses_71 : decode cX0_uses 71 = .ok (.aload_n 0, 1) := by decide +kernel
theorem dX0_uses_72 : decode cX0_uses 72 = .ok (.getfield 9, 3) := by decide +kernel
theorem dX0_uses_75 : decode cX0_uses 75 = .ok (.bipush 59, 2) := by decide +kernel
theorem dX0_uses_77 : decode cX0_uses 77 = .ok (.invokevirtual 63, 3) := by decide +kernel
theorem dX0_uses_80 : decode cX0_uses 80 = .ok (.return_, 1) := by decide +kernel
abbrev cX0_label : ByteArray := prog_2_method_18_code
def yX0_label : MethodName := ⟨RX0, "label", "()V"⟩
theorem dX0_label_0 : decode cX0_label 0 = .ok (.aload_n 0, 1) := by decide +kernel
theorem dX0_label_1 : decode cX0_label 1 = .ok (.invokevirtual 73, 3) := by decide +kernel
theorem dX0_label_4 : decode cX0_label 4 = .ok (.aload_n 0, 1) := by decide +kernel
theorem dX0_label_5 : decode cX0_label 5 = .ok (.getfield 9, 3) := by decide +kernel
theorem dX0_label_8 : decode cX0_label 8 = .ok (.sipush 11822, 3) := by decide +kernel
theorem dX0_label_11 : decode cX0_label 11 = .ok (.invokevirtual 24, 3) := by decide +kernel
theorem dX0_label_14 : decode cX0_label 14 = .ok (.ifCond .eq 14, 3) := by decide +kernel
theorem dX0_label_17 : decode cX0_label 17 = .ok (.aload_n 0, 1) := by decide +kernel
theorem dX0_label_18 : decode cX0_label 18 = .ok (.getfield 9, 3) := by decide +kernel
theorem dX0_label_21 : decode cX0_label 21 = .ok (.invokevirtual 38, 3) := by decide +kernel
theorem dX0_label_24 : decode cX0_label 24 = .ok (.aload_n 0, 1) := by decide +kernel
theorem dX0_label_25 : decode cX0_label 25 = .ok (.invokevirtual 73, 3) := by decide +kernel
theorem dX0_label_28 : decode cX0_label 28 = .ok (.return_, 1) := by decide +kernel
abbrev cX0_bit : ByteArray := prog_2_method_26_code
def yX0_bit : MethodName := ⟨RX0, "bit", "()V"⟩
theorem dX0_bit_0 : decode cX0_bit 0 = .ok (.aload_n 0, 1) := by decide +kernel
theorem dX0_bit_1 : decode cX0_bit 1 = .ok (.getfield 9, 3) := by decide +kernel
theorem dX0_bit_4 : decode cX0_bit 4 = .ok (.bipush 46, 2) := by decide +kernel
theorem dX0_bit_6 : decode cX0_bit 6 = .ok (.invokevirtual 24, 3) := by decide +kernel
theorem dX0_bit_9 : decode cX0_bit 9 = .ok (.ifCond .eq 20, 3) := by decide +kernel
theorem dX0_bit_12 : decode cX0_bit 12 = .ok (.aload_n 0, 1) := by decide +kernel
theorem dX0_bit_13 : decode cX0_bit 13 = .ok (.getfield 9, 3) := by decide +kernel
theorem dX0_bit_16 : decode cX0_bit 16 = .ok (.invokevirtual 38, 3) := by decide +kernel
theorem dX0_bit_19 : decode cX0_bit 19 = .ok (.aload_n 0, 1) := by decide +kernel
theorem dX0_bit_20 : decode cX0_bit 20 = .ok (.getfield 9, 3) := by decide +kernel
theorem dX0_bit_23 : decode cX0_bit 23 = .ok (.sipush 129, 3) := by decide +kernel
theorem dX0_bit_26 : decode cX0_bit 26 = .ok (.invokevirtual 63, 3) := by decide +kernel
theorem dX0_bit_29 : decode cX0_bit 29 = .ok (.return_, 1) := by decide +kernel
theorem gs_1_13 : Cond.selects "SoftController$Grammar" ⟨"SoftController$Grammar", "variables", "()V"⟩ ⟨"SoftController$Grammar", "variables", "()V"⟩ ∈ GW := gw_s (List.mem_map.mpr ⟨_, pin_1 _ (List.mem_of_getElem? (i := 13) rfl), rfl⟩) rfl
theorem gs_1_14 : Cond.selects "SoftController$Grammar" ⟨"SoftController$Grammar", "kind", "()V"⟩ ⟨"SoftController$Grammar", "kind", "()V"⟩ ∈ GW := gw_s (List.mem_map.mpr ⟨_, pin_1 _ (List.mem_of_getElem? (i := 14) rfl), rfl⟩) rfl
theorem gs_2_1 : Cond.selects "SoftController$Grammar" ⟨"SoftController$Grammar", "oneVariable", "()V"⟩ ⟨"SoftController$Grammar", "oneVariable", "()V"⟩ ∈ GW := gw_s (List.mem_map.mpr ⟨_, pin_2 _ (List.mem_of_getElem? (i := 1) rfl), rfl⟩) rfl
theorem gs_2_2 : Cond.selects "SoftController$Grammar" ⟨"SoftController$Grammar", "opens", "(I)V"⟩ ⟨"SoftController$Grammar", "opens", "(I)V"⟩ ∈ GW := gw_s (List.mem_map.mpr ⟨_, pin_2 _ (List.mem_of_getElem? (i := 2) rfl), rfl⟩) rfl
theorem gs_2_3 : Cond.selects "SoftController$Grammar" ⟨"SoftController$Grammar", "closes", "(I)V"⟩ ⟨"SoftController$Grammar", "closes", "(I)V"⟩ ∈ GW := gw_s (List.mem_map.mpr ⟨_, pin_2 _ (List.mem_of_getElem? (i := 3) rfl), rfl⟩) rfl
theorem gs_2_4 : Cond.selects "SoftController$Grammar" ⟨"SoftController$Grammar", "constant", "()V"⟩ ⟨"SoftController$Grammar", "constant", "()V"⟩ ∈ GW := gw_s (List.mem_map.mpr ⟨_, pin_2 _ (List.mem_of_getElem? (i := 4) rfl), rfl⟩) rfl
theorem gs_2_5 : Cond.selects "SoftController$Grammar" ⟨"SoftController$Grammar", "placed", "()V"⟩ ⟨"SoftController$Grammar", "placed", "()V"⟩ ∈ GW := gw_s (List.mem_map.mpr ⟨_, pin_2 _ (List.mem_of_getElem? (i := 5) rfl), rfl⟩) rfl
theorem gs_3_0 : Cond.selects "SoftController$Grammar" ⟨"SoftController$Grammar", "bit", "()V"⟩ ⟨"SoftController$Grammar", "bit", "()V"⟩ ∈ GW := gw_s (List.mem_map.mpr ⟨_, pin_3 _ (List.mem_of_getElem? (i := 0) rfl), rfl⟩) rfl
theorem gs_3_5 : Cond.selects "SoftController$Grammar" ⟨"SoftController$Grammar", "label", "()V"⟩ ⟨"SoftController$Grammar", "label", "()V"⟩ ∈ GW := gw_s (List.mem_map.mpr ⟨_, pin_3 _ (List.mem_of_getElem? (i := 5) rfl), rfl⟩) rfl
theorem gs_3_7 : Cond.selects "SoftController$Grammar" ⟨"SoftController$Grammar", "uses", "()V"⟩ ⟨"SoftController$Grammar", "uses", "()V"⟩ ∈ GW := gw_s (List.mem_map.mpr ⟨_, pin_3 _ (List.mem_of_getElem? (i := 7) rfl), rfl⟩) rfl
theorem gw_141 : (Jvm.Cond.fieldLink "SoftController$Grammar" (9 : Nat) "SoftController$Grammar" "tokens" "LSoftController$Tokens;") ∈ GW := gw_t (tin_1 _ (List.mem_of_getElem? (i := 141) rfl)) rfl
theorem gw_142 : (Jvm.Cond.fieldLink "SoftController$Grammar" (15 : Nat) "SoftController$Grammar" "open" "I") ∈ GW := gw_t (tin_1 _ (List.mem_of_getElem? (i := 142) rfl)) rfl
theorem gw_7 : (Jvm.Cond.initialized "SoftController$Grammar") ∈ GW := gw_t (tin_1 _ (List.mem_of_getElem? (i := 7) rfl)) rfl
theorem gw_769 : (Jvm.Cond.methodLink "SoftController$Grammar" (32 : Nat) ({ cls := "SoftController$Grammar", name := "variables", desc := "()V" } : Jvm.MethodName)) ∈ GW := gw_t (tin_4 _ (List.mem_of_getElem? (i := 49) rfl)) rfl
theorem gw_771 : (Jvm.Cond.instanceMethod ({ cls := "SoftController$Grammar", name := "variables", desc := "()V" } : Jvm.MethodName)) ∈ GW := gw_t (tin_4 _ (List.mem_of_getElem? (i := 51) rfl)) rfl
theorem gw_772 : (Jvm.Cond.code ({ cls := "SoftController$Grammar", name := "variables", desc := "()V" } : Jvm.MethodName) prog_2_method_4_code (2 : Nat) (Option.none : Option Jvm.ClassFile.FieldType)) ∈ GW := gw_t (tin_4 _ (List.mem_of_getElem? (i := 52) rfl)) rfl
theorem gw_777 : (Jvm.Cond.methodLink "SoftController$Grammar" (47 : Nat) ({ cls := "SoftController$Grammar", name := "kind", desc := "()V" } : Jvm.MethodName)) ∈ GW := gw_t (tin_4 _ (List.mem_of_getElem? (i := 57) rfl)) rfl
theorem gw_779 : (Jvm.Cond.instanceMethod ({ cls := "SoftController$Grammar", name := "kind", desc := "()V" } : Jvm.MethodName)) ∈ GW := gw_t (tin_4 _ (List.mem_of_getElem? (i := 59) rfl)) rfl
theorem gw_780 : (Jvm.Cond.code ({ cls := "SoftController$Grammar", name := "kind", desc := "()V" } : Jvm.MethodName) prog_2_method_3_code (1 : Nat) (Option.none : Option Jvm.ClassFile.FieldType)) ∈ GW := gw_t (tin_4 _ (List.mem_of_getElem? (i := 60) rfl)) rfl
theorem gw_867 : (Jvm.Cond.methodLink "SoftController$Grammar" (60 : Nat) ({ cls := "SoftController$Grammar", name := "oneVariable", desc := "()V" } : Jvm.MethodName)) ∈ GW := gw_t (tin_4 _ (List.mem_of_getElem? (i := 147) rfl)) rfl
theorem gw_869 : (Jvm.Cond.instanceMethod ({ cls := "SoftController$Grammar", name := "oneVariable", desc := "()V" } : Jvm.MethodName)) ∈ GW := gw_t (tin_4 _ (List.mem_of_getElem? (i := 149) rfl)) rfl
theorem gw_870 : (Jvm.Cond.code ({ cls := "SoftController$Grammar", name := "oneVariable", desc := "()V" } : Jvm.MethodName) prog_2_method_5_code (1 : Nat) (Option.none : Option Jvm.ClassFile.FieldType)) ∈ GW := gw_t (tin_4 _ (List.mem_of_getElem? (i := 150) rfl)) rfl
theorem gw_876 : (Jvm.Cond.methodLink "SoftController$Grammar" (67 : Nat) ({ cls := "SoftController$Grammar", name := "opens", desc := "(I)V" } : Jvm.MethodName)) ∈ GW := gw_t (tin_4 _ (List.mem_of_getElem? (i := 156) rfl)) rfl
theorem gw_878 : (Jvm.Cond.instanceMethod ({ cls := "SoftController$Grammar", name := "opens", desc := "(I)V" } : Jvm.MethodName)) ∈ GW := gw_t (tin_4 _ (List.mem_of_getElem? (i := 158) rfl)) rfl
theorem gw_879 : (Jvm.Cond.code ({ cls := "SoftController$Grammar", name := "opens", desc := "(I)V" } : Jvm.MethodName) prog_2_method_27_code (2 : Nat) (Option.none : Option Jvm.ClassFile.FieldType)) ∈ GW := gw_t (tin_4 _ (List.mem_of_getElem? (i := 159) rfl)) rfl
theorem gw_880 : (Jvm.Cond.methodLink "SoftController$Grammar" (70 : Nat) ({ cls := "SoftController$Grammar", name := "closes", desc := "(I)V" } : Jvm.MethodName)) ∈ GW := gw_t (tin_4 _ (List.mem_of_getElem? (i := 160) rfl)) rfl
theorem gw_882 : (Jvm.Cond.instanceMethod ({ cls := "SoftController$Grammar", name := "closes", desc := "(I)V" } : Jvm.MethodName)) ∈ GW := gw_t (tin_4 _ (List.mem_of_getElem? (i := 162) rfl)) rfl
theorem gw_883 : (Jvm.Cond.code ({ cls := "SoftController$Grammar", name := "closes", desc := "(I)V" } : Jvm.MethodName) prog_2_method_28_code (2 : Nat) (Option.none : Option Jvm.ClassFile.FieldType)) ∈ GW := gw_t (tin_4 _ (List.mem_of_getElem? (i := 163) rfl)) rfl
theorem gw_884 : (Jvm.Cond.methodLink "SoftController$Grammar" (73 : Nat) ({ cls := "SoftController$Grammar", name := "constant", desc := "()V" } : Jvm.MethodName)) ∈ GW := gw_t (tin_4 _ (List.mem_of_getElem? (i := 164) rfl)) rfl
theorem gw_886 : (Jvm.Cond.instanceMethod ({ cls := "SoftController$Grammar", name := "constant", desc := "()V" } : Jvm.MethodName)) ∈ GW := gw_t (tin_4 _ (List.mem_of_getElem? (i := 166) rfl)) rfl
theorem gw_887 : (Jvm.Cond.code ({ cls := "SoftController$Grammar", name := "constant", desc := "()V" } : Jvm.MethodName) prog_2_method_6_code (1 : Nat) (Option.none : Option Jvm.ClassFile.FieldType)) ∈ GW := gw_t (tin_4 _ (List.mem_of_getElem? (i := 167) rfl)) rfl
theorem gw_888 : (Jvm.Cond.methodLink "SoftController$Grammar" (35 : Nat) ({ cls := "SoftController$Grammar", name := "placed", desc := "()V" } : Jvm.MethodName)) ∈ GW := gw_t (tin_4 _ (List.mem_of_getElem? (i := 168) rfl)) rfl
theorem gw_890 : (Jvm.Cond.instanceMethod ({ cls := "SoftController$Grammar", name := "placed", desc := "()V" } : Jvm.MethodName)) ∈ GW := gw_t (tin_4 _ (List.mem_of_getElem? (i := 170) rfl)) rfl
theorem gw_891 : (Jvm.Cond.code ({ cls := "SoftController$Grammar", name := "placed", desc := "()V" } : Jvm.MethodName) prog_2_method_7_code (1 : Nat) (Option.none : Option Jvm.ClassFile.FieldType)) ∈ GW := gw_t (tin_4 _ (List.mem_of_getElem? (i := 171) rfl)) rfl
theorem gw_936 : (Jvm.Cond.methodLink "SoftController$Grammar" (109 : Nat) ({ cls := "SoftController$Grammar", name := "bit", desc := "()V" } : Jvm.MethodName)) ∈ GW := gw_t (tin_4 _ (List.mem_of_getElem? (i := 216) rfl)) rfl
theorem gw_938 : (Jvm.Cond.instanceMethod ({ cls := "SoftController$Grammar", name := "bit", desc := "()V" } : Jvm.MethodName)) ∈ GW := gw_t (tin_4 _ (List.mem_of_getElem? (i := 218) rfl)) rfl
theorem gw_939 : (Jvm.Cond.code ({ cls := "SoftController$Grammar", name := "bit", desc := "()V" } : Jvm.MethodName) prog_2_method_26_code (1 : Nat) (Option.none : Option Jvm.ClassFile.FieldType)) ∈ GW := gw_t (tin_4 _ (List.mem_of_getElem? (i := 219) rfl)) rfl
theorem gw_965 : (Jvm.Cond.methodLink "SoftController$Grammar" (116 : Nat) ({ cls := "SoftController$Grammar", name := "label", desc := "()V" } : Jvm.MethodName)) ∈ GW := gw_t (tin_5 _ (List.mem_of_getElem? (i := 5) rfl)) rfl
theorem gw_967 : (Jvm.Cond.instanceMethod ({ cls := "SoftController$Grammar", name := "label", desc := "()V" } : Jvm.MethodName)) ∈ GW := gw_t (tin_5 _ (List.mem_of_getElem? (i := 7) rfl)) rfl
theorem gw_968 : (Jvm.Cond.code ({ cls := "SoftController$Grammar", name := "label", desc := "()V" } : Jvm.MethodName) prog_2_method_18_code (1 : Nat) (Option.none : Option Jvm.ClassFile.FieldType)) ∈ GW := gw_t (tin_5 _ (List.mem_of_getElem? (i := 8) rfl)) rfl
theorem gw_973 : (Jvm.Cond.methodLink "SoftController$Grammar" (44 : Nat) ({ cls := "SoftController$Grammar", name := "uses", desc := "()V" } : Jvm.MethodName)) ∈ GW := gw_t (tin_5 _ (List.mem_of_getElem? (i := 13) rfl)) rfl
theorem gw_975 : (Jvm.Cond.instanceMethod ({ cls := "SoftController$Grammar", name := "uses", desc := "()V" } : Jvm.MethodName)) ∈ GW := gw_t (tin_5 _ (List.mem_of_getElem? (i := 15) rfl)) rfl
theorem gw_976 : (Jvm.Cond.code ({ cls := "SoftController$Grammar", name := "uses", desc := "()V" } : Jvm.MethodName) prog_2_method_8_code (2 : Nat) (Option.none : Option Jvm.ClassFile.FieldType)) ∈ GW := gw_t (tin_5 _ (List.mem_of_getElem? (i := 16) rfl)) rfl
section C37gleafR
variable {p : Program} {l : Launch} {e : Env} {R : Room} {s : State} {m : MethodId} {args : Array Value} {below : List Frame} {meth : Method} {c : Code} {H : Heap} {locs : List Loc} {Q : State → Prop} {cells slots : Nat}
variable {cc : ByteArray} {pc nL : Nat} {c0 : Cond} {own : String} {ls : Array Slot} {rest : List Value} {D : va_G} {kA : Nat → ClassId} {V Z : Nat → Nat} {A : Nat → Prop}
variable {u u1 : CSt}
theorem cg_X0_15 (X : CC p s m args c cc nL c0 RX0 D kA V A) (hS : CS D kA Z A s u H locs) (hd : decode cc pc = .ok (.getfield 15, 3)) (kk : W p l e R s m args below meth c H locs cells slots Q (F0 m (pc + 3) ls (.int (cI u 8) :: rest))) : W p l e R s m args below meth c H locs cells slots Q (F0 m pc ls (.ref (Z 208) :: rest)) := by
  obtain ⟨⟨hx, hb, hml, hown, hts⟩, hK, hE, hA⟩ := X
  have hG : ∀ w ∈ GW, w.before args s = true := fun w h => hts w (List.mem_cons_of_mem _ h)
  exact va_get (D := D) (ci := 0) (v := .int (cI u 8)) (C := RX0) (T := TX0) (N := 2) hx hb hG gwl_X0 hown hK hS.1 8 (cw_lit rfl) rfl 1 (by decide) (hG _ gw_142) (fun _ h9 => h9) rfl hd kk
theorem cp_X0_15 (X : CC p s m args c cc nL c0 RX0 D kA V A) (hS : CS D kA Z A s u H locs) {v : Int32} (hu : xI u 8 v = u1) (hd : decode cc pc = .ok (.putfield 15, 3)) (kk : ∀ H locs, CS D kA Z A s u1 H locs → W p l e R s m args below meth c H locs cells slots Q (F0 m (pc + 3) ls rest)) : W p l e R s m args below meth c H locs cells slots Q (F0 m pc ls (.int v :: .ref (Z 208) :: rest)) := by
  obtain ⟨⟨hx, hb, hml, hown, hts⟩, hK, hE, hA⟩ := X
  have hG : ∀ w ∈ GW, w.before args s = true := fun w h => hts w (List.mem_cons_of_mem _ h)
  subst hu
  refine va_put (D := D) (ci := 0) (v := .int v) (ty := .int) (C := RX0) (T := TX0) (N := 2) hx hb hG gwl_X0 tyX0 tyX0_ok nmX0 hown hK hS.1 hS.2.1 hS.2.2 8 (cw_lit rfl) rfl 1 (by decide) (hG _ gw_142) (fun _ h9 => h9) rfl (by decide +kernel) rfl rfl (Nat.le_of_ble_eq_true rfl) hd (fun H1 locs1 hP hD hS1 => kk H1 locs1 ?_)
  have he := cw_setL (kA := kA) (Z := Z) (u := u) (w := xI u 8 v) (k := 8) (x := (Z 208, .inr (0, ([.ref (Z 202), .int (cI u 8)] : List Value).set 1 (.int v)))) (by decide) rfl rfl rfl
  exact cs_put he hP hD hS1
theorem cg_X0_9 (X : CC p s m args c cc nL c0 RX0 D kA V A) (hS : CS D kA Z A s u H locs) (hd : decode cc pc = .ok (.getfield 9, 3)) (kk : W p l e R s m args below meth c H locs cells slots Q (F0 m (pc + 3) ls (.ref (Z 202) :: rest))) : W p l e R s m args below meth c H locs cells slots Q (F0 m pc ls (.ref (Z 208) :: rest)) := by
  obtain ⟨⟨hx, hb, hml, hown, hts⟩, hK, hE, hA⟩ := X
  have hG : ∀ w ∈ GW, w.before args s = true := fun w h => hts w (List.mem_cons_of_mem _ h)
  exact va_get (D := D) (ci := 0) (v := .ref (Z 202)) (C := RX0) (T := TX0) (N := 2) hx hb hG gwl_X0 hown hK hS.1 8 (cw_lit rfl) rfl 0 (by decide) (hG _ gw_141) (fun _ h9 => h9) rfl hd kk
end C37gleafR
section C37gleaf
variable {p : Program} {l : Launch} {e : Env} {R : Room} {s : State} {m : MethodId} {args : Array Value} {below : List Frame} {meth : Method} {c : Code} {H : Heap} {locs : List Loc} {Q : State → Prop} {cells slots : Nat}
variable {ls : Array Slot} {D : va_G} {kA : Nat → ClassId} {V Z : Nat → Nat} {A : Nat → Prop} {N d : Nat} {w : CSt}
def B_X0_opens_27 (N : Nat) (u : CSt) : Option ((Sum Nat Int32) × CSt) := pc (xI u 8 ((cI u 8) + 1)) fun u_1 => bc (F_X9_next N u_1) fun _ u_2 => some (.inr 0, u_2)
set_option maxHeartbeats 4000000 in
theorem b_X0_opens_27 {y : (Sum Nat Int32)} (X : CC p s m args c cX0_opens 2 (Cond.code yX0_opens cX0_opens 2 none) RX0 D kA V A) (hE : CEvx p l e R s m args below meth c cX0_opens D kA Z A Q y w) (hst : l.stackTraces = false) (hX : CX p l e R s m args below meth c D kA Z A Q y w) (hC : 1 ≤ R.cells ∧ 6 ≤ R.slots) (hF : 8 ≤ R.frames) (hL : 142 ≤ R.locals) {u : CSt}  (h : B_X0_opens_27 N u = some (y, w))  (hS : CS D kA Z A s u H locs) (hl : lv_has ls 2 [(0, .ref (Z 208))]) : W p l e R s m args below meth c H locs 0 0 Q (F0 m 27 ls []) := by
  obtain ⟨⟨hx, hb, hml, hown, hts⟩, hK, hEV, hA⟩ := id X
  have hG : ∀ w ∈ GW, w.before args s = true := fun w h => hts w (List.mem_cons_of_mem _ h)
  unfold B_X0_opens_27 at h
  refine lv_aload_n hx hb dX0_opens_27 rfl (lv_at hl 0 rfl) ?_
  refine lv_dup hx hb dX0_opens_28 rfl ?_
  refine cg_X0_15 X hS dX0_opens_29 ?_
  refine lv_iconst (v := 1) hx hb dX0_opens_32 (by decide) ?_
  refine lv_iadd hx hb dX0_opens_33 ?_
  obtain ⟨u_1, e_u_1, h⟩ := pc_of h
  refine cp_X0_15 X hS e_u_1 dX0_opens_34 (fun H locs hS => ?_)
  refine lv_aload_n hx hb dX0_opens_37 rfl (lv_at hl 0 rfl) ?_
  refine cg_X0_9 X hS dX0_opens_38 ?_
  obtain ⟨r_u_2, u_2, h_u_2, h⟩ := bc_of h
  refine kc_X9_next_RX0 X  hS h_u_2 (Nat.le_trans (Nat.le_of_ble_eq_true rfl) hF) (Nat.le_trans (Nat.le_of_ble_eq_true rfl) hL) hl.1 (Nat.le_of_ble_eq_true rfl) dX0_opens_41 (fun H locs hS => ?_)
  obtain ⟨e9, rfl⟩ := so9 h
  exact hE _ e9.symm _ _ _ _ hS dX0_opens_44
def B_X0_opens_20 (N : Nat) (u : CSt) : Option ((Sum Nat Int32) × CSt) := bt (F_X9_refuseToken N u) fun _ u_3 => B_X0_opens_27 N u_3
set_option maxHeartbeats 4000000 in
theorem b_X0_opens_20 {y : (Sum Nat Int32)} (X : CC p s m args c cX0_opens 2 (Cond.code yX0_opens cX0_opens 2 none) RX0 D kA V A) (hE : CEvx p l e R s m args below meth c cX0_opens D kA Z A Q y w) (hst : l.stackTraces = false) (hX : CX p l e R s m args below meth c D kA Z A Q y w) (hC : 1 ≤ R.cells ∧ 6 ≤ R.slots) (hF : 8 ≤ R.frames) (hL : 142 ≤ R.locals) {u : CSt}  (h : B_X0_opens_20 N u = some (y, w))  (hS : CS D kA Z A s u H locs) (hl : lv_has ls 2 [(0, .ref (Z 208))]) : W p l e R s m args below meth c H locs 0 0 Q (F0 m 20 ls []) := by
  obtain ⟨⟨hx, hb, hml, hown, hts⟩, hK, hEV, hA⟩ := id X
  have hG : ∀ w ∈ GW, w.before args s = true := fun w h => hts w (List.mem_cons_of_mem _ h)
  unfold B_X0_opens_20 at h
  refine lv_aload_n hx hb dX0_opens_20 rfl (lv_at hl 0 rfl) ?_
  refine cg_X0_9 X hS dX0_opens_21 ?_
  obtain ⟨y_4, u_3, h_u_3, h⟩ := bt_of h
  refine kc_X9_refuseToken_RX0 hst X  hS h_u_3 (Nat.le_trans (Nat.le_of_ble_eq_true rfl) hF) (Nat.le_trans (Nat.le_of_ble_eq_true rfl) hL) hC hl.1 (Nat.le_of_ble_eq_true rfl) dX0_opens_24 (fun r_u_3 hr_u_3 H locs hS => ?_) (fun x9 hn H locs q9 ce hS a1 a2 a3 => by obtain ⟨e2, rfl⟩ := bt_no h hn; exact hX _ e2 _ _ _ _ _ _ _ hS a1 a2 a3)
  replace h := bt_ok h hr_u_3
  exact b_X0_opens_27 X hE hst hX hC hF hL  h  hS (lv_sub hl [0] rfl)
def B_X0_opens_0 (N : Nat) (l1 : Int32) (u : CSt) : Option ((Sum Nat Int32) × CSt) := bc (F_X9_is N l1 u) fun r_6 u_5 => if r_6 = (0 : Int32) then (B_X0_opens_20 N u_5) else (if (cI u_5 8) < (24 : Int32) then (B_X0_opens_27 N u_5) else (B_X0_opens_20 N u_5))
set_option maxHeartbeats 4000000 in
theorem b_X0_opens_0 {y : (Sum Nat Int32)} (X : CC p s m args c cX0_opens 2 (Cond.code yX0_opens cX0_opens 2 none) RX0 D kA V A) (hE : CEvx p l e R s m args below meth c cX0_opens D kA Z A Q y w) (hst : l.stackTraces = false) (hX : CX p l e R s m args below meth c D kA Z A Q y w) (hC : 1 ≤ R.cells ∧ 6 ≤ R.slots) (hF : 8 ≤ R.frames) (hL : 142 ≤ R.locals) {l1 : Int32} {u : CSt}  (h : B_X0_opens_0 N l1 u = some (y, w))  (hS : CS D kA Z A s u H locs) (hl : lv_has ls 2 [(0, .ref (Z 208)), (1, .int l1)]) : W p l e R s m args below meth c H locs 0 0 Q (F0 m 0 ls []) := by
  obtain ⟨⟨hx, hb, hml, hown, hts⟩, hK, hEV, hA⟩ := id X
  have hG : ∀ w ∈ GW, w.before args s = true := fun w h => hts w (List.mem_cons_of_mem _ h)
  unfold B_X0_opens_0 at h
  refine lv_aload_n hx hb dX0_opens_0 rfl (lv_at hl 0 rfl) ?_
  refine cg_X0_9 X hS dX0_opens_1 ?_
  refine lv_iload_n hx hb dX0_opens_4 rfl (lv_at hl 1 rfl) ?_
  obtain ⟨r_6, u_5, h_u_5, h⟩ := bc_of h
  refine kc_X9_is_RX0 X  hS h_u_5 (Nat.le_trans (Nat.le_of_ble_eq_true rfl) hF) (Nat.le_trans (Nat.le_of_ble_eq_true rfl) hL) hl.1 (Nat.le_of_ble_eq_true rfl) dX0_opens_5 (fun H locs hS => ?_)
  refine lv_if_eq (tgt := 20) hx hb dX0_opens_8 (by decide) (fun c_7 => ?_) (fun c_7 => ?_)
  · have h := ip (c_7) h
    exact b_X0_opens_20 X hE hst hX hC hF hL  h  hS (lv_sub hl [0] rfl)
  · have h := im (c_7) h
    refine lv_aload_n hx hb dX0_opens_11 rfl (lv_at hl 0 rfl) ?_
    refine cg_X0_15 X hS dX0_opens_12 ?_
    refine lv_bipush (v := 24) hx hb dX0_opens_15 (by decide) ?_
    refine lv_icmp_lt (tgt := 27) hx hb dX0_opens_17 (by decide) (fun c_8 => ?_) (fun c_8 => ?_)
    · have h := ip (c_8) h
      exact b_X0_opens_27 X hE hst hX hC hF hL  h  hS (lv_sub hl [0] rfl)
    · have h := im (c_8) h
      exact b_X0_opens_20 X hE hst hX hC hF hL  h  hS (lv_sub hl [0] rfl)
def F_X0_opens (N : Nat) (l1 : Int32) (u : CSt) : Option ((Sum Nat Int32) × CSt) := B_X0_opens_0 N l1 u
set_option maxHeartbeats 4000000 in
theorem k_X0_opens (l : Launch) (hst : l.stackTraces = false) (D : va_G) (kA : Nat → ClassId) (V Z : Nat → Nat) (N : Nat) (l1 : Int32) (u : CSt) (sz : Nat) {y : (Sum Nat Int32)} {w : CSt} (h : F_X0_opens N l1 u = some (y, w)) : vx_Met l yX0_opens (Cond.code yX0_opens cX0_opens 2 none :: GW) { frames := 8, cells := 1, slots := 6, locals := 142 } (cPc D kA V Z [.ref (Z 208), .int l1] u sz) (cQvx D kA Z u sz y w) (cXc D kA Z u sz y w) 1 6 (va_A (CW kA Z u) sz) := by
  refine vx_ofW (cc := cX0_opens) (maxL := 2) (ret := none) (by decide) rfl ?_
  intro p e s m args below meth c s₁ Bd hml hxt hv
  obtain ⟨rfl, hsz, hP, hK, hD0, hE⟩ := hv
  have hts := atoms_spec (ws := Cond.code yX0_opens cX0_opens 2 none :: GW) Bd.pre
  have hl := lv_entry ([.ref (Z 208), .int l1]) (n := 2) (Nat.le_of_ble_eq_true rfl)
  rw [lg_entry_eq]
  generalize (lg_sl ([.ref (Z 208), .int l1]) ++ List.replicate (2 - (lg_sl ([.ref (Z 208), .int l1])).length) Slot.unset).toArray = ls at hl ⊢
  have hl : lv_has ls 2 [(0, .ref (Z 208)), (1, .int l1)] := hl
  subst hsz
  have X : CC p s m ([.ref (Z 208), .int l1]).toArray c cX0_opens 2 (Cond.code yX0_opens cX0_opens 2 none) RX0 D kA V (va_A (CW kA Z u) s.heap.size) := ⟨⟨Bd.exec, Bd.bytes, hml, findClass_of_methodNamed Bd.named, hts⟩, hK, hE, fun q h => Or.inr h⟩
  refine b_X0_opens_0 X (cend_vx X Bd.returns Bd.notSynchronized) hst (cend_X X hxt Bd.notSynchronized) ⟨Nat.le_refl _, Nat.le_refl _⟩ (Nat.le_refl _) (Nat.le_refl _) h  ⟨hP, hD0.self, va_S.rf⟩ (lv_sub hl [0, 1] rfl)
theorem kc_X0_opens_RX0 {cc : ByteArray} {pc nL : Nat} {c0 : Cond} {rest : List Value} {l1 : Int32} {u w1 : CSt} {y1 : (Sum Nat Int32)} (hst : l.stackTraces = false) (X : CC p s m args c cc nL c0 RX0 D kA V A)  (hS : CS D kA Z A s u H locs) (h : F_X0_opens N l1 u = some (y1, w1)) (hF : 8 + 1 ≤ R.frames) (hL : 8 + (2 + 11) + 142 ≤ R.locals) (hC : 1 ≤ R.cells ∧ 6 ≤ R.slots) (hl : ls.size = nL) (hc : (rest.map fun v => v.category).sum ≤ 8) (hdg : decode cc pc = .ok (.invokevirtual 67, 3)) (kk : ∀ r, y1 = .inr r → ∀ H locs, CS D kA Z A s w1 H locs → W p l e R s m args below meth c H locs 0 0 Q (F0 m (pc + 3) ls (rest))) (kx : ∀ x, y1 = .inl x → ∀ (H : Heap) (locs : List Loc) (q : Addr) (ce : Cell), CS D kA Z A s w1 H locs → H[q]? = some ce → ce.vm = .none → s.vm.findClass (exN x) = some ce.cls → vx_W p l e R s m args below meth c H locs 1 6 Q (F0 m pc ls rest) q) : W p l e R s m args below meth c H locs 0 0 Q (F0 m pc ls (.int l1 :: .ref (Z 208) :: rest)) :=
  ccall_vx (n := 1) X hS (k_X0_opens l hst D kA V Z N l1  u H.size h) (gw_V gw_876 gw_878 gs_2_2 gw_7 gw_879) (by decide +kernel) (va_recv X.2.1 hS.1 (ci := 0) (q0 := 8) rfl (cw_lit rfl)) hF hL hC rfl hl hc rfl hdg kk kx
def B_X0_closes_0 (N : Nat) (l1 : Int32) (u : CSt) : Option ((Sum Nat Int32) × CSt) := bt (F_X9_take N l1 u) fun _ u_1 => pc (xI u_1 8 ((cI u_1 8) - 1)) fun u_3 => some (.inr 0, u_3)
set_option maxHeartbeats 4000000 in
theorem b_X0_closes_0 {y : (Sum Nat Int32)} (X : CC p s m args c cX0_closes 2 (Cond.code yX0_closes cX0_closes 2 none) RX0 D kA V A) (hE : CEvx p l e R s m args below meth c cX0_closes D kA Z A Q y w) (hst : l.stackTraces = false) (hX : CX p l e R s m args below meth c D kA Z A Q y w) (hC : 1 ≤ R.cells ∧ 6 ≤ R.slots) (hF : 8 ≤ R.frames) (hL : 143 ≤ R.locals) {l1 : Int32} {u : CSt}  (h : B_X0_closes_0 N l1 u = some (y, w))  (hS : CS D kA Z A s u H locs) (hl : lv_has ls 2 [(0, .ref (Z 208)), (1, .int l1)]) : W p l e R s m args below meth c H locs 0 0 Q (F0 m 0 ls []) := by
  obtain ⟨⟨hx, hb, hml, hown, hts⟩, hK, hEV, hA⟩ := id X
  have hG : ∀ w ∈ GW, w.before args s = true := fun w h => hts w (List.mem_cons_of_mem _ h)
  unfold B_X0_closes_0 at h
  refine lv_aload_n hx hb dX0_closes_0 rfl (lv_at hl 0 rfl) ?_
  refine cg_X0_9 X hS dX0_closes_1 ?_
  refine lv_iload_n hx hb dX0_closes_4 rfl (lv_at hl 1 rfl) ?_
  obtain ⟨y_2, u_1, h_u_1, h⟩ := bt_of h
  refine kc_X9_take_RX0 hst X  hS h_u_1 (Nat.le_trans (Nat.le_of_ble_eq_true rfl) hF) (Nat.le_trans (Nat.le_of_ble_eq_true rfl) hL) hC hl.1 (Nat.le_of_ble_eq_true rfl) dX0_closes_5 (fun r_u_1 hr_u_1 H locs hS => ?_) (fun x9 hn H locs q9 ce hS a1 a2 a3 => by obtain ⟨e2, rfl⟩ := bt_no h hn; exact hX _ e2 _ _ _ _ _ _ _ hS a1 a2 a3)
  replace h := bt_ok h hr_u_1
  refine lv_aload_n hx hb dX0_closes_8 rfl (lv_at hl 0 rfl) ?_
  refine lv_dup hx hb dX0_closes_9 rfl ?_
  refine cg_X0_15 X hS dX0_closes_10 ?_
  refine lv_iconst (v := 1) hx hb dX0_closes_13 (by decide) ?_
  refine lv_isub hx hb dX0_closes_14 ?_
  obtain ⟨u_3, e_u_3, h⟩ := pc_of h
  refine cp_X0_15 X hS e_u_3 dX0_closes_15 (fun H locs hS => ?_)
  obtain ⟨e9, rfl⟩ := so9 h
  exact hE _ e9.symm _ _ _ _ hS dX0_closes_18
def F_X0_closes (N : Nat) (l1 : Int32) (u : CSt) : Option ((Sum Nat Int32) × CSt) := B_X0_closes_0 N l1 u
set_option maxHeartbeats 4000000 in
theorem k_X0_closes (l : Launch) (hst : l.stackTraces = false) (D : va_G) (kA : Nat → ClassId) (V Z : Nat → Nat) (N : Nat) (l1 : Int32) (u : CSt) (sz : Nat) {y : (Sum Nat Int32)} {w : CSt} (h : F_X0_closes N l1 u = some (y, w)) : vx_Met l yX0_closes (Cond.code yX0_closes cX0_closes 2 none :: GW) { frames := 8, cells := 1, slots := 6, locals := 143 } (cPc D kA V Z [.ref (Z 208), .int l1] u sz) (cQvx D kA Z u sz y w) (cXc D kA Z u sz y w) 1 6 (va_A (CW kA Z u) sz) := by
  refine vx_ofW (cc := cX0_closes) (maxL := 2) (ret := none) (by decide) rfl ?_
  intro p e s m args below meth c s₁ Bd hml hxt hv
  obtain ⟨rfl, hsz, hP, hK, hD0, hE⟩ := hv
  have hts := atoms_spec (ws := Cond.code yX0_closes cX0_closes 2 none :: GW) Bd.pre
  have hl := lv_entry ([.ref (Z 208), .int l1]) (n := 2) (Nat.le_of_ble_eq_true rfl)
  rw [lg_entry_eq]
  generalize (lg_sl ([.ref (Z 208), .int l1]) ++ List.replicate (2 - (lg_sl ([.ref (Z 208), .int l1])).length) Slot.unset).toArray = ls at hl ⊢
  have hl : lv_has ls 2 [(0, .ref (Z 208)), (1, .int l1)] := hl
  subst hsz
  have X : CC p s m ([.ref (Z 208), .int l1]).toArray c cX0_closes 2 (Cond.code yX0_closes cX0_closes 2 none) RX0 D kA V (va_A (CW kA Z u) s.heap.size) := ⟨⟨Bd.exec, Bd.bytes, hml, findClass_of_methodNamed Bd.named, hts⟩, hK, hE, fun q h => Or.inr h⟩
  refine b_X0_closes_0 X (cend_vx X Bd.returns Bd.notSynchronized) hst (cend_X X hxt Bd.notSynchronized) ⟨Nat.le_refl _, Nat.le_refl _⟩ (Nat.le_refl _) (Nat.le_refl _) h  ⟨hP, hD0.self, va_S.rf⟩ (lv_sub hl [0, 1] rfl)
theorem kc_X0_closes_RX0 {cc : ByteArray} {pc nL : Nat} {c0 : Cond} {rest : List Value} {l1 : Int32} {u w1 : CSt} {y1 : (Sum Nat Int32)} (hst : l.stackTraces = false) (X : CC p s m args c cc nL c0 RX0 D kA V A)  (hS : CS D kA Z A s u H locs) (h : F_X0_closes N l1 u = some (y1, w1)) (hF : 8 + 1 ≤ R.frames) (hL : 8 + (2 + 11) + 143 ≤ R.locals) (hC : 1 ≤ R.cells ∧ 6 ≤ R.slots) (hl : ls.size = nL) (hc : (rest.map fun v => v.category).sum ≤ 8) (hdg : decode cc pc = .ok (.invokevirtual 70, 3)) (kk : ∀ r, y1 = .inr r → ∀ H locs, CS D kA Z A s w1 H locs → W p l e R s m args below meth c H locs 0 0 Q (F0 m (pc + 3) ls (rest))) (kx : ∀ x, y1 = .inl x → ∀ (H : Heap) (locs : List Loc) (q : Addr) (ce : Cell), CS D kA Z A s w1 H locs → H[q]? = some ce → ce.vm = .none → s.vm.findClass (exN x) = some ce.cls → vx_W p l e R s m args below meth c H locs 1 6 Q (F0 m pc ls rest) q) : W p l e R s m args below meth c H locs 0 0 Q (F0 m pc ls (.int l1 :: .ref (Z 208) :: rest)) :=
  ccall_vx (n := 1) X hS (k_X0_closes l hst D kA V Z N l1  u H.size h) (gw_V gw_880 gw_882 gs_2_3 gw_7 gw_883) (by decide +kernel) (va_recv X.2.1 hS.1 (ci := 0) (q0 := 8) rfl (cw_lit rfl)) hF hL hC rfl hl hc rfl hdg kk kx
def B_X0_kind_17 (N : Nat) (u : CSt) : Option ((Sum Nat Int32) × CSt) := bc (F_X9_next N u) fun _ u_1 => some (.inr 0, u_1)
set_option maxHeartbeats 4000000 in
theorem b_X0_kind_17 {y : (Sum Nat Int32)} (X : CC p s m args c cX0_kind 1 (Cond.code yX0_kind cX0_kind 1 none) RX0 D kA V A) (hE : CEvx p l e R s m args below meth c cX0_kind D kA Z A Q y w) (hst : l.stackTraces = false) (hX : CX p l e R s m args below meth c D kA Z A Q y w) (hC : 1 ≤ R.cells ∧ 6 ≤ R.slots) (hF : 8 ≤ R.frames) (hL : 142 ≤ R.locals) {u : CSt}  (h : B_X0_kind_17 N u = some (y, w))  (hS : CS D kA Z A s u H locs) (hl : lv_has ls 1 [(0, .ref (Z 208))]) : W p l e R s m args below meth c H locs 0 0 Q (F0 m 17 ls []) := by
  obtain ⟨⟨hx, hb, hml, hown, hts⟩, hK, hEV, hA⟩ := id X
  have hG : ∀ w ∈ GW, w.before args s = true := fun w h => hts w (List.mem_cons_of_mem _ h)
  unfold B_X0_kind_17 at h
  refine lv_aload_n hx hb dX0_kind_17 rfl (lv_at hl 0 rfl) ?_
  refine cg_X0_9 X hS dX0_kind_18 ?_
  obtain ⟨r_u_1, u_1, h_u_1, h⟩ := bc_of h
  refine kc_X9_next_RX0 X  hS h_u_1 (Nat.le_trans (Nat.le_of_ble_eq_true rfl) hF) (Nat.le_trans (Nat.le_of_ble_eq_true rfl) hL) hl.1 (Nat.le_of_ble_eq_true rfl) dX0_kind_21 (fun H locs hS => ?_)
  obtain ⟨e9, rfl⟩ := so9 h
  exact hE _ e9.symm _ _ _ _ hS dX0_kind_24
def B_X0_kind_0 (N : Nat) (u : CSt) : Option ((Sum Nat Int32) × CSt) := bc (F_X9_isKindWord N u) fun r_3 u_2 => if r_3 = (0 : Int32) then (bt (F_X9_refuseToken N u_2) fun _ u_5 => B_X0_kind_17 N u_5) else (B_X0_kind_17 N u_2)
set_option maxHeartbeats 4000000 in
theorem b_X0_kind_0 {y : (Sum Nat Int32)} (X : CC p s m args c cX0_kind 1 (Cond.code yX0_kind cX0_kind 1 none) RX0 D kA V A) (hE : CEvx p l e R s m args below meth c cX0_kind D kA Z A Q y w) (hst : l.stackTraces = false) (hX : CX p l e R s m args below meth c D kA Z A Q y w) (hC : 1 ≤ R.cells ∧ 6 ≤ R.slots) (hF : 8 ≤ R.frames) (hL : 142 ≤ R.locals) {u : CSt}  (h : B_X0_kind_0 N u = some (y, w))  (hS : CS D kA Z A s u H locs) (hl : lv_has ls 1 [(0, .ref (Z 208))]) : W p l e R s m args below meth c H locs 0 0 Q (F0 m 0 ls []) := by
  obtain ⟨⟨hx, hb, hml, hown, hts⟩, hK, hEV, hA⟩ := id X
  have hG : ∀ w ∈ GW, w.before args s = true := fun w h => hts w (List.mem_cons_of_mem _ h)
  unfold B_X0_kind_0 at h
  refine lv_aload_n hx hb dX0_kind_0 rfl (lv_at hl 0 rfl) ?_
  refine cg_X0_9 X hS dX0_kind_1 ?_
  obtain ⟨r_3, u_2, h_u_2, h⟩ := bc_of h
  refine kc_X9_isKindWord_RX0 X  hS h_u_2 (Nat.le_trans (Nat.le_of_ble_eq_true rfl) hF) (Nat.le_trans (Nat.le_of_ble_eq_true rfl) hL) hl.1 (Nat.le_of_ble_eq_true rfl) dX0_kind_4 (fun H locs hS => ?_)
  refine lv_if_ne (tgt := 17) hx hb dX0_kind_7 (by decide) (fun c_4 => ?_) (fun c_4 => ?_)
  · have h := im (c_4) h
    exact b_X0_kind_17 X hE hst hX hC hF hL  h  hS (lv_sub hl [0] rfl)
  · have h := ip (c_4) h
    refine lv_aload_n hx hb dX0_kind_10 rfl (lv_at hl 0 rfl) ?_
    refine cg_X0_9 X hS dX0_kind_11 ?_
    obtain ⟨y_6, u_5, h_u_5, h⟩ := bt_of h
    refine kc_X9_refuseToken_RX0 hst X  hS h_u_5 (Nat.le_trans (Nat.le_of_ble_eq_true rfl) hF) (Nat.le_trans (Nat.le_of_ble_eq_true rfl) hL) hC hl.1 (Nat.le_of_ble_eq_true rfl) dX0_kind_14 (fun r_u_5 hr_u_5 H locs hS => ?_) (fun x9 hn H locs q9 ce hS a1 a2 a3 => by obtain ⟨e2, rfl⟩ := bt_no h hn; exact hX _ e2 _ _ _ _ _ _ _ hS a1 a2 a3)
    replace h := bt_ok h hr_u_5
    exact b_X0_kind_17 X hE hst hX hC hF hL  h  hS (lv_sub hl [0] rfl)
def F_X0_kind (N : Nat) (u : CSt) : Option ((Sum Nat Int32) × CSt) := B_X0_kind_0 N u
set_option maxHeartbeats 4000000 in
theorem k_X0_kind (l : Launch) (hst : l.stackTraces = false) (D : va_G) (kA : Nat → ClassId) (V Z : Nat → Nat) (N : Nat) (u : CSt) (sz : Nat) {y : (Sum Nat Int32)} {w : CSt} (h : F_X0_kind N u = some (y, w)) : vx_Met l yX0_kind (Cond.code yX0_kind cX0_kind 1 none :: GW) { frames := 8, cells := 1, slots := 6, locals := 142 } (cPc D kA V Z [.ref (Z 208)] u sz) (cQvx D kA Z u sz y w) (cXc D kA Z u sz y w) 1 6 (va_A (CW kA Z u) sz) := by
  refine vx_ofW (cc := cX0_kind) (maxL := 1) (ret := none) (by decide) rfl ?_
  intro p e s m args below meth c s₁ Bd hml hxt hv
  obtain ⟨rfl, hsz, hP, hK, hD0, hE⟩ := hv
  have hts := atoms_spec (ws := Cond.code yX0_kind cX0_kind 1 none :: GW) Bd.pre
  have hl := lv_entry ([.ref (Z 208)]) (n := 1) (Nat.le_of_ble_eq_true rfl)
  rw [lg_entry_eq]
  generalize (lg_sl ([.ref (Z 208)]) ++ List.replicate (1 - (lg_sl ([.ref (Z 208)])).length) Slot.unset).toArray = ls at hl ⊢
  have hl : lv_has ls 1 [(0, .ref (Z 208))] := hl
  subst hsz
  have X : CC p s m ([.ref (Z 208)]).toArray c cX0_kind 1 (Cond.code yX0_kind cX0_kind 1 none) RX0 D kA V (va_A (CW kA Z u) s.heap.size) := ⟨⟨Bd.exec, Bd.bytes, hml, findClass_of_methodNamed Bd.named, hts⟩, hK, hE, fun q h => Or.inr h⟩
  refine b_X0_kind_0 X (cend_vx X Bd.returns Bd.notSynchronized) hst (cend_X X hxt Bd.notSynchronized) ⟨Nat.le_refl _, Nat.le_refl _⟩ (Nat.le_refl _) (Nat.le_refl _) h  ⟨hP, hD0.self, va_S.rf⟩ (lv_sub hl [0] rfl)
theorem kc_X0_kind_RX0 {cc : ByteArray} {pc nL : Nat} {c0 : Cond} {rest : List Value} {u w1 : CSt} {y1 : (Sum Nat Int32)} (hst : l.stackTraces = false) (X : CC p s m args c cc nL c0 RX0 D kA V A)  (hS : CS D kA Z A s u H locs) (h : F_X0_kind N u = some (y1, w1)) (hF : 8 + 1 ≤ R.frames) (hL : 8 + (1 + 11) + 142 ≤ R.locals) (hC : 1 ≤ R.cells ∧ 6 ≤ R.slots) (hl : ls.size = nL) (hc : (rest.map fun v => v.category).sum ≤ 8) (hdg : decode cc pc = .ok (.invokevirtual 47, 3)) (kk : ∀ r, y1 = .inr r → ∀ H locs, CS D kA Z A s w1 H locs → W p l e R s m args below meth c H locs 0 0 Q (F0 m (pc + 3) ls (rest))) (kx : ∀ x, y1 = .inl x → ∀ (H : Heap) (locs : List Loc) (q : Addr) (ce : Cell), CS D kA Z A s w1 H locs → H[q]? = some ce → ce.vm = .none → s.vm.findClass (exN x) = some ce.cls → vx_W p l e R s m args below meth c H locs 1 6 Q (F0 m pc ls rest) q) : W p l e R s m args below meth c H locs 0 0 Q (F0 m pc ls (.ref (Z 208) :: rest)) :=
  ccall_vx (n := 0) X hS (k_X0_kind l hst D kA V Z N   u H.size h) (gw_V gw_777 gw_779 gs_1_14 gw_7 gw_780) (by decide +kernel) (va_recv X.2.1 hS.1 (ci := 0) (q0 := 8) rfl (cw_lit rfl)) hF hL hC rfl hl hc rfl hdg kk kx
def B_X0_constant_52 (N : Nat) (u : CSt) : Option ((Sum Nat Int32) × CSt) := bc (F_X9_next N u) fun _ u_1 => some (.inr 0, u_1)
set_option maxHeartbeats 4000000 in
theorem b_X0_constant_52 {y : (Sum Nat Int32)} (X : CC p s m args c cX0_constant 1 (Cond.code yX0_constant cX0_constant 1 none) RX0 D kA V A) (hE : CEvx p l e R s m args below meth c cX0_constant D kA Z A Q y w) (hst : l.stackTraces = false) (hX : CX p l e R s m args below meth c D kA Z A Q y w) (hC : 1 ≤ R.cells ∧ 6 ≤ R.slots) (hF : 8 ≤ R.frames) (hL : 142 ≤ R.locals) {u : CSt}  (h : B_X0_constant_52 N u = some (y, w))  (hS : CS D kA Z A s u H locs) (hl : lv_has ls 1 [(0, .ref (Z 208))]) : W p l e R s m args below meth c H locs 0 0 Q (F0 m 52 ls []) := by
  obtain ⟨⟨hx, hb, hml, hown, hts⟩, hK, hEV, hA⟩ := id X
  have hG : ∀ w ∈ GW, w.before args s = true := fun w h => hts w (List.mem_cons_of_mem _ h)
  unfold B_X0_constant_52 at h
  refine lv_aload_n hx hb dX0_constant_52 rfl (lv_at hl 0 rfl) ?_
  refine cg_X0_9 X hS dX0_constant_53 ?_
  obtain ⟨r_u_1, u_1, h_u_1, h⟩ := bc_of h
  refine kc_X9_next_RX0 X  hS h_u_1 (Nat.le_trans (Nat.le_of_ble_eq_true rfl) hF) (Nat.le_trans (Nat.le_of_ble_eq_true rfl) hL) hl.1 (Nat.le_of_ble_eq_true rfl) dX0_constant_56 (fun H locs hS => ?_)
  obtain ⟨e9, rfl⟩ := so9 h
  exact hE _ e9.symm _ _ _ _ hS dX0_constant_59
def B_X0_constant_19 (N : Nat) (u : CSt) : Option ((Sum Nat Int32) × CSt) := bc (F_X9_is N 129 u) fun r_3 u_2 => if r_3 = (0 : Int32) then (bc (F_X9_is N 130 u_2) fun r_6 u_5 => if r_6 = (0 : Int32) then (bt (F_X9_refuseToken N u_5) fun _ u_8 => B_X0_constant_52 N u_8) else (B_X0_constant_52 N u_5)) else (B_X0_constant_52 N u_2)
set_option maxHeartbeats 4000000 in
theorem b_X0_constant_19 {y : (Sum Nat Int32)} (X : CC p s m args c cX0_constant 1 (Cond.code yX0_constant cX0_constant 1 none) RX0 D kA V A) (hE : CEvx p l e R s m args below meth c cX0_constant D kA Z A Q y w) (hst : l.stackTraces = false) (hX : CX p l e R s m args below meth c D kA Z A Q y w) (hC : 1 ≤ R.cells ∧ 6 ≤ R.slots) (hF : 8 ≤ R.frames) (hL : 142 ≤ R.locals) {u : CSt}  (h : B_X0_constant_19 N u = some (y, w))  (hS : CS D kA Z A s u H locs) (hl : lv_has ls 1 [(0, .ref (Z 208))]) : W p l e R s m args below meth c H locs 0 0 Q (F0 m 19 ls []) := by
  obtain ⟨⟨hx, hb, hml, hown, hts⟩, hK, hEV, hA⟩ := id X
  have hG : ∀ w ∈ GW, w.before args s = true := fun w h => hts w (List.mem_cons_of_mem _ h)
  unfold B_X0_constant_19 at h
  refine lv_aload_n hx hb dX0_constant_19 rfl (lv_at hl 0 rfl) ?_
  refine cg_X0_9 X hS dX0_constant_20 ?_
  refine lv_sipush (v := 129) hx hb dX0_constant_23 (by decide) ?_
  obtain ⟨r_3, u_2, h_u_2, h⟩ := bc_of h
  refine kc_X9_is_RX0 X  hS h_u_2 (Nat.le_trans (Nat.le_of_ble_eq_true rfl) hF) (Nat.le_trans (Nat.le_of_ble_eq_true rfl) hL) hl.1 (Nat.le_of_ble_eq_true rfl) dX0_constant_26 (fun H locs hS => ?_)
  refine lv_if_ne (tgt := 52) hx hb dX0_constant_29 (by decide) (fun c_4 => ?_) (fun c_4 => ?_)
  · have h := im (c_4) h
    exact b_X0_constant_52 X hE hst hX hC hF hL  h  hS (lv_sub hl [0] rfl)
  · have h := ip (c_4) h
    refine lv_aload_n hx hb dX0_constant_32 rfl (lv_at hl 0 rfl) ?_
    refine cg_X0_9 X hS dX0_constant_33 ?_
    refine lv_sipush (v := 130) hx hb dX0_constant_36 (by decide) ?_
    obtain ⟨r_6, u_5, h_u_5, h⟩ := bc_of h
    refine kc_X9_is_RX0 X  hS h_u_5 (Nat.le_trans (Nat.le_of_ble_eq_true rfl) hF) (Nat.le_trans (Nat.le_of_ble_eq_true rfl) hL) hl.1 (Nat.le_of_ble_eq_true rfl) dX0_constant_39 (fun H locs hS => ?_)
    refine lv_if_ne (tgt := 52) hx hb dX0_constant_42 (by decide) (fun c_7 => ?_) (fun c_7 => ?_)
    · have h := im (c_7) h
      exact b_X0_constant_52 X hE hst hX hC hF hL  h  hS (lv_sub hl [0] rfl)
    · have h := ip (c_7) h
      refine lv_aload_n hx hb dX0_constant_45 rfl (lv_at hl 0 rfl) ?_
      refine cg_X0_9 X hS dX0_constant_46 ?_
      obtain ⟨y_9, u_8, h_u_8, h⟩ := bt_of h
      refine kc_X9_refuseToken_RX0 hst X  hS h_u_8 (Nat.le_trans (Nat.le_of_ble_eq_true rfl) hF) (Nat.le_trans (Nat.le_of_ble_eq_true rfl) hL) hC hl.1 (Nat.le_of_ble_eq_true rfl) dX0_constant_49 (fun r_u_8 hr_u_8 H locs hS => ?_) (fun x9 hn H locs q9 ce hS a1 a2 a3 => by obtain ⟨e2, rfl⟩ := bt_no h hn; exact hX _ e2 _ _ _ _ _ _ _ hS a1 a2 a3)
      replace h := bt_ok h hr_u_8
      exact b_X0_constant_52 X hE hst hX hC hF hL  h  hS (lv_sub hl [0] rfl)
def B_X0_constant_0 (N : Nat) (u : CSt) : Option ((Sum Nat Int32) × CSt) := bc (F_X9_is N 45 u) fun r_11 u_10 => if r_11 = (0 : Int32) then (B_X0_constant_19 N u_10) else (bc (F_X9_next N u_10) fun _ u_13 => B_X0_constant_19 N u_13)
set_option maxHeartbeats 4000000 in
theorem b_X0_constant_0 {y : (Sum Nat Int32)} (X : CC p s m args c cX0_constant 1 (Cond.code yX0_constant cX0_constant 1 none) RX0 D kA V A) (hE : CEvx p l e R s m args below meth c cX0_constant D kA Z A Q y w) (hst : l.stackTraces = false) (hX : CX p l e R s m args below meth c D kA Z A Q y w) (hC : 1 ≤ R.cells ∧ 6 ≤ R.slots) (hF : 8 ≤ R.frames) (hL : 142 ≤ R.locals) {u : CSt}  (h : B_X0_constant_0 N u = some (y, w))  (hS : CS D kA Z A s u H locs) (hl : lv_has ls 1 [(0, .ref (Z 208))]) : W p l e R s m args below meth c H locs 0 0 Q (F0 m 0 ls []) := by
  obtain ⟨⟨hx, hb, hml, hown, hts⟩, hK, hEV, hA⟩ := id X
  have hG : ∀ w ∈ GW, w.before args s = true := fun w h => hts w (List.mem_cons_of_mem _ h)
  unfold B_X0_constant_0 at h
  refine lv_aload_n hx hb dX0_constant_0 rfl (lv_at hl 0 rfl) ?_
  refine cg_X0_9 X hS dX0_constant_1 ?_
  refine lv_bipush (v := 45) hx hb dX0_constant_4 (by decide) ?_
  obtain ⟨r_11, u_10, h_u_10, h⟩ := bc_of h
  refine kc_X9_is_RX0 X  hS h_u_10 (Nat.le_trans (Nat.le_of_ble_eq_true rfl) hF) (Nat.le_trans (Nat.le_of_ble_eq_true rfl) hL) hl.1 (Nat.le_of_ble_eq_true rfl) dX0_constant_6 (fun H locs hS => ?_)
  refine lv_if_eq (tgt := 19) hx hb dX0_constant_9 (by decide) (fun c_12 => ?_) (fun c_12 => ?_)
  · have h := ip (c_12) h
    exact b_X0_constant_19 X hE hst hX hC hF hL  h  hS (lv_sub hl [0] rfl)
  · have h := im (c_12) h
    refine lv_aload_n hx hb dX0_constant_12 rfl (lv_at hl 0 rfl) ?_
    refine cg_X0_9 X hS dX0_constant_13 ?_
    obtain ⟨r_u_13, u_13, h_u_13, h⟩ := bc_of h
    refine kc_X9_next_RX0 X  hS h_u_13 (Nat.le_trans (Nat.le_of_ble_eq_true rfl) hF) (Nat.le_trans (Nat.le_of_ble_eq_true rfl) hL) hl.1 (Nat.le_of_ble_eq_true rfl) dX0_constant_16 (fun H locs hS => ?_)
    exact b_X0_constant_19 X hE hst hX hC hF hL  h  hS (lv_sub hl [0] rfl)
def F_X0_constant (N : Nat) (u : CSt) : Option ((Sum Nat Int32) × CSt) := B_X0_constant_0 N u
set_option maxHeartbeats 4000000 in
theorem k_X0_constant (l : Launch) (hst : l.stackTraces = false) (D : va_G) (kA : Nat → ClassId) (V Z : Nat → Nat) (N : Nat) (u : CSt) (sz : Nat) {y : (Sum Nat Int32)} {w : CSt} (h : F_X0_constant N u = some (y, w)) : vx_Met l yX0_constant (Cond.code yX0_constant cX0_constant 1 none :: GW) { frames := 8, cells := 1, slots := 6, locals := 142 } (cPc D kA V Z [.ref (Z 208)] u sz) (cQvx D kA Z u sz y w) (cXc D kA Z u sz y w) 1 6 (va_A (CW kA Z u) sz) := by
  refine vx_ofW (cc := cX0_constant) (maxL := 1) (ret := none) (by decide) rfl ?_
  intro p e s m args below meth c s₁ Bd hml hxt hv
  obtain ⟨rfl, hsz, hP, hK, hD0, hE⟩ := hv
  have hts := atoms_spec (ws := Cond.code yX0_constant cX0_constant 1 none :: GW) Bd.pre
  have hl := lv_entry ([.ref (Z 208)]) (n := 1) (Nat.le_of_ble_eq_true rfl)
  rw [lg_entry_eq]
  generalize (lg_sl ([.ref (Z 208)]) ++ List.replicate (1 - (lg_sl ([.ref (Z 208)])).length) Slot.unset).toArray = ls at hl ⊢
  have hl : lv_has ls 1 [(0, .ref (Z 208))] := hl
  subst hsz
  have X : CC p s m ([.ref (Z 208)]).toArray c cX0_constant 1 (Cond.code yX0_constant cX0_constant 1 none) RX0 D kA V (va_A (CW kA Z u) s.heap.size) := ⟨⟨Bd.exec, Bd.bytes, hml, findClass_of_methodNamed Bd.named, hts⟩, hK, hE, fun q h => Or.inr h⟩
  refine b_X0_constant_0 X (cend_vx X Bd.returns Bd.notSynchronized) hst (cend_X X hxt Bd.notSynchronized) ⟨Nat.le_refl _, Nat.le_refl _⟩ (Nat.le_refl _) (Nat.le_refl _) h  ⟨hP, hD0.self, va_S.rf⟩ (lv_sub hl [0] rfl)
theorem kc_X0_constant_RX0 {cc : ByteArray} {pc nL : Nat} {c0 : Cond} {rest : List Value} {u w1 : CSt} {y1 : (Sum Nat Int32)} (hst : l.stackTraces = false) (X : CC p s m args c cc nL c0 RX0 D kA V A)  (hS : CS D kA Z A s u H locs) (h : F_X0_constant N u = some (y1, w1)) (hF : 8 + 1 ≤ R.frames) (hL : 8 + (1 + 11) + 142 ≤ R.locals) (hC : 1 ≤ R.cells ∧ 6 ≤ R.slots) (hl : ls.size = nL) (hc : (rest.map fun v => v.category).sum ≤ 8) (hdg : decode cc pc = .ok (.invokevirtual 73, 3)) (kk : ∀ r, y1 = .inr r → ∀ H locs, CS D kA Z A s w1 H locs → W p l e R s m args below meth c H locs 0 0 Q (F0 m (pc + 3) ls (rest))) (kx : ∀ x, y1 = .inl x → ∀ (H : Heap) (locs : List Loc) (q : Addr) (ce : Cell), CS D kA Z A s w1 H locs → H[q]? = some ce → ce.vm = .none → s.vm.findClass (exN x) = some ce.cls → vx_W p l e R s m args below meth c H locs 1 6 Q (F0 m pc ls rest) q) : W p l e R s m args below meth c H locs 0 0 Q (F0 m pc ls (.ref (Z 208) :: rest)) :=
  ccall_vx (n := 0) X hS (k_X0_constant l hst D kA V Z N   u H.size h) (gw_V gw_884 gw_886 gs_2_4 gw_7 gw_887) (by decide +kernel) (va_recv X.2.1 hS.1 (ci := 0) (q0 := 8) rfl (cw_lit rfl)) hF hL hC rfl hl hc rfl hdg kk kx
def B_X0_oneVariable_44 (N : Nat) (u : CSt) : Option ((Sum Nat Int32) × CSt) := bc (F_X9_is N 61 u) fun r_2 u_1 => if r_2 = (0 : Int32) then (some (.inr 0, u_1)) else (bc (F_X9_next N u_1) fun _ u_4 => bt (F_X0_constant N u_4) fun _ u_5 => some (.inr 0, u_5))
set_option maxHeartbeats 4000000 in
theorem b_X0_oneVariable_44 {y : (Sum Nat Int32)} (X : CC p s m args c cX0_oneVariable 1 (Cond.code yX0_oneVariable cX0_oneVariable 1 none) RX0 D kA V A) (hE : CEvx p l e R s m args below meth c cX0_oneVariable D kA Z A Q y w) (hst : l.stackTraces = false) (hX : CX p l e R s m args below meth c D kA Z A Q y w) (hC : 1 ≤ R.cells ∧ 6 ≤ R.slots) (hF : 9 ≤ R.frames) (hL : 164 ≤ R.locals) {u : CSt}  (h : B_X0_oneVariable_44 N u = some (y, w))  (hS : CS D kA Z A s u H locs) (hl : lv_has ls 1 [(0, .ref (Z 208))]) : W p l e R s m args below meth c H locs 0 0 Q (F0 m 44 ls []) := by
  obtain ⟨⟨hx, hb, hml, hown, hts⟩, hK, hEV, hA⟩ := id X
  have hG : ∀ w ∈ GW, w.before args s = true := fun w h => hts w (List.mem_cons_of_mem _ h)
  unfold B_X0_oneVariable_44 at h
  refine lv_aload_n hx hb dX0_oneVariable_44 rfl (lv_at hl 0 rfl) ?_
  refine cg_X0_9 X hS dX0_oneVariable_45 ?_
  refine lv_bipush (v := 61) hx hb dX0_oneVariable_48 (by decide) ?_
  obtain ⟨r_2, u_1, h_u_1, h⟩ := bc_of h
  refine kc_X9_is_RX0 X  hS h_u_1 (Nat.le_trans (Nat.le_of_ble_eq_true rfl) hF) (Nat.le_trans (Nat.le_of_ble_eq_true rfl) hL) hl.1 (Nat.le_of_ble_eq_true rfl) dX0_oneVariable_50 (fun H locs hS => ?_)
  refine lv_if_eq (tgt := 67) hx hb dX0_oneVariable_53 (by decide) (fun c_3 => ?_) (fun c_3 => ?_)
  · have h := ip (c_3) h
    obtain ⟨e9, rfl⟩ := so9 h
    exact hE _ e9.symm _ _ _ _ hS dX0_oneVariable_67
  · have h := im (c_3) h
    refine lv_aload_n hx hb dX0_oneVariable_56 rfl (lv_at hl 0 rfl) ?_
    refine cg_X0_9 X hS dX0_oneVariable_57 ?_
    obtain ⟨r_u_4, u_4, h_u_4, h⟩ := bc_of h
    refine kc_X9_next_RX0 X  hS h_u_4 (Nat.le_trans (Nat.le_of_ble_eq_true rfl) hF) (Nat.le_trans (Nat.le_of_ble_eq_true rfl) hL) hl.1 (Nat.le_of_ble_eq_true rfl) dX0_oneVariable_60 (fun H locs hS => ?_)
    refine lv_aload_n hx hb dX0_oneVariable_63 rfl (lv_at hl 0 rfl) ?_
    obtain ⟨y_6, u_5, h_u_5, h⟩ := bt_of h
    refine kc_X0_constant_RX0 hst X  hS h_u_5 (Nat.le_trans (Nat.le_of_ble_eq_true rfl) hF) (Nat.le_trans (Nat.le_of_ble_eq_true rfl) hL) hC hl.1 (Nat.le_of_ble_eq_true rfl) dX0_oneVariable_64 (fun r_u_5 hr_u_5 H locs hS => ?_) (fun x9 hn H locs q9 ce hS a1 a2 a3 => by obtain ⟨e2, rfl⟩ := bt_no h hn; exact hX _ e2 _ _ _ _ _ _ _ hS a1 a2 a3)
    replace h := bt_ok h hr_u_5
    obtain ⟨e9, rfl⟩ := so9 h
    exact hE _ e9.symm _ _ _ _ hS dX0_oneVariable_67
def B_X0_oneVariable_0 (N : Nat) (u : CSt) : Option ((Sum Nat Int32) × CSt) := bt (F_X9_take N 128 u) fun _ u_7 => bc (F_X9_is N 91 u_7) fun r_10 u_9 => if r_10 = (0 : Int32) then (B_X0_oneVariable_44 N u_9) else (bt (F_X0_opens N 91 u_9) fun _ u_12 => bt (F_X9_take N 129 u_12) fun _ u_14 => bt (F_X0_closes N 93 u_14) fun _ u_16 => B_X0_oneVariable_44 N u_16)
set_option maxHeartbeats 4000000 in
theorem b_X0_oneVariable_0 {y : (Sum Nat Int32)} (X : CC p s m args c cX0_oneVariable 1 (Cond.code yX0_oneVariable cX0_oneVariable 1 none) RX0 D kA V A) (hE : CEvx p l e R s m args below meth c cX0_oneVariable D kA Z A Q y w) (hst : l.stackTraces = false) (hX : CX p l e R s m args below meth c D kA Z A Q y w) (hC : 1 ≤ R.cells ∧ 6 ≤ R.slots) (hF : 9 ≤ R.frames) (hL : 164 ≤ R.locals) {u : CSt}  (h : B_X0_oneVariable_0 N u = some (y, w))  (hS : CS D kA Z A s u H locs) (hl : lv_has ls 1 [(0, .ref (Z 208))]) : W p l e R s m args below meth c H locs 0 0 Q (F0 m 0 ls []) := by
  obtain ⟨⟨hx, hb, hml, hown, hts⟩, hK, hEV, hA⟩ := id X
  have hG : ∀ w ∈ GW, w.before args s = true := fun w h => hts w (List.mem_cons_of_mem _ h)
  unfold B_X0_oneVariable_0 at h
  refine lv_aload_n hx hb dX0_oneVariable_0 rfl (lv_at hl 0 rfl) ?_
  refine cg_X0_9 X hS dX0_oneVariable_1 ?_
  refine lv_sipush (v := 128) hx hb dX0_oneVariable_4 (by decide) ?_
  obtain ⟨y_8, u_7, h_u_7, h⟩ := bt_of h
  refine kc_X9_take_RX0 hst X  hS h_u_7 (Nat.le_trans (Nat.le_of_ble_eq_true rfl) hF) (Nat.le_trans (Nat.le_of_ble_eq_true rfl) hL) hC hl.1 (Nat.le_of_ble_eq_true rfl) dX0_oneVariable_7 (fun r_u_7 hr_u_7 H locs hS => ?_) (fun x9 hn H locs q9 ce hS a1 a2 a3 => by obtain ⟨e2, rfl⟩ := bt_no h hn; exact hX _ e2 _ _ _ _ _ _ _ hS a1 a2 a3)
  replace h := bt_ok h hr_u_7
  refine lv_aload_n hx hb dX0_oneVariable_10 rfl (lv_at hl 0 rfl) ?_
  refine cg_X0_9 X hS dX0_oneVariable_11 ?_
  refine lv_bipush (v := 91) hx hb dX0_oneVariable_14 (by decide) ?_
  obtain ⟨r_10, u_9, h_u_9, h⟩ := bc_of h
  refine kc_X9_is_RX0 X  hS h_u_9 (Nat.le_trans (Nat.le_of_ble_eq_true rfl) hF) (Nat.le_trans (Nat.le_of_ble_eq_true rfl) hL) hl.1 (Nat.le_of_ble_eq_true rfl) dX0_oneVariable_16 (fun H locs hS => ?_)
  refine lv_if_eq (tgt := 44) hx hb dX0_oneVariable_19 (by decide) (fun c_11 => ?_) (fun c_11 => ?_)
  · have h := ip (c_11) h
    exact b_X0_oneVariable_44 X hE hst hX hC hF hL  h  hS (lv_sub hl [0] rfl)
  · have h := im (c_11) h
    refine lv_aload_n hx hb dX0_oneVariable_22 rfl (lv_at hl 0 rfl) ?_
    refine lv_bipush (v := 91) hx hb dX0_oneVariable_23 (by decide) ?_
    obtain ⟨y_13, u_12, h_u_12, h⟩ := bt_of h
    refine kc_X0_opens_RX0 hst X  hS h_u_12 (Nat.le_trans (Nat.le_of_ble_eq_true rfl) hF) (Nat.le_trans (Nat.le_of_ble_eq_true rfl) hL) hC hl.1 (Nat.le_of_ble_eq_true rfl) dX0_oneVariable_25 (fun r_u_12 hr_u_12 H locs hS => ?_) (fun x9 hn H locs q9 ce hS a1 a2 a3 => by obtain ⟨e2, rfl⟩ := bt_no h hn; exact hX _ e2 _ _ _ _ _ _ _ hS a1 a2 a3)
    replace h := bt_ok h hr_u_12
    refine lv_aload_n hx hb dX0_oneVariable_28 rfl (lv_at hl 0 rfl) ?_
    refine cg_X0_9 X hS dX0_oneVariable_29 ?_
    refine lv_sipush (v := 129) hx hb dX0_oneVariable_32 (by decide) ?_
    obtain ⟨y_15, u_14, h_u_14, h⟩ := bt_of h
    refine kc_X9_take_RX0 hst X  hS h_u_14 (Nat.le_trans (Nat.le_of_ble_eq_true rfl) hF) (Nat.le_trans (Nat.le_of_ble_eq_true rfl) hL) hC hl.1 (Nat.le_of_ble_eq_true rfl) dX0_oneVariable_35 (fun r_u_14 hr_u_14 H locs hS => ?_) (fun x9 hn H locs q9 ce hS a1 a2 a3 => by obtain ⟨e2, rfl⟩ := bt_no h hn; exact hX _ e2 _ _ _ _ _ _ _ hS a1 a2 a3)
    replace h := bt_ok h hr_u_14
    refine lv_aload_n hx hb dX0_oneVariable_38 rfl (lv_at hl 0 rfl) ?_
    refine lv_bipush (v := 93) hx hb dX0_oneVariable_39 (by decide) ?_
    obtain ⟨y_17, u_16, h_u_16, h⟩ := bt_of h
    refine kc_X0_closes_RX0 hst X  hS h_u_16 (Nat.le_trans (Nat.le_of_ble_eq_true rfl) hF) (Nat.le_trans (Nat.le_of_ble_eq_true rfl) hL) hC hl.1 (Nat.le_of_ble_eq_true rfl) dX0_oneVariable_41 (fun r_u_16 hr_u_16 H locs hS => ?_) (fun x9 hn H locs q9 ce hS a1 a2 a3 => by obtain ⟨e2, rfl⟩ := bt_no h hn; exact hX _ e2 _ _ _ _ _ _ _ hS a1 a2 a3)
    replace h := bt_ok h hr_u_16
    exact b_X0_oneVariable_44 X hE hst hX hC hF hL  h  hS (lv_sub hl [0] rfl)
def F_X0_oneVariable (N : Nat) (u : CSt) : Option ((Sum Nat Int32) × CSt) := B_X0_oneVariable_0 N u
set_option maxHeartbeats 4000000 in
theorem k_X0_oneVariable (l : Launch) (hst : l.stackTraces = false) (D : va_G) (kA : Nat → ClassId) (V Z : Nat → Nat) (N : Nat) (u : CSt) (sz : Nat) {y : (Sum Nat Int32)} {w : CSt} (h : F_X0_oneVariable N u = some (y, w)) : vx_Met l yX0_oneVariable (Cond.code yX0_oneVariable cX0_oneVariable 1 none :: GW) { frames := 9, cells := 1, slots := 6, locals := 164 } (cPc D kA V Z [.ref (Z 208)] u sz) (cQvx D kA Z u sz y w) (cXc D kA Z u sz y w) 1 6 (va_A (CW kA Z u) sz) := by
  refine vx_ofW (cc := cX0_oneVariable) (maxL := 1) (ret := none) (by decide) rfl ?_
  intro p e s m args below meth c s₁ Bd hml hxt hv
  obtain ⟨rfl, hsz, hP, hK, hD0, hE⟩ := hv
  have hts := atoms_spec (ws := Cond.code yX0_oneVariable cX0_oneVariable 1 none :: GW) Bd.pre
  have hl := lv_entry ([.ref (Z 208)]) (n := 1) (Nat.le_of_ble_eq_true rfl)
  rw [lg_entry_eq]
  generalize (lg_sl ([.ref (Z 208)]) ++ List.replicate (1 - (lg_sl ([.ref (Z 208)])).length) Slot.unset).toArray = ls at hl ⊢
  have hl : lv_has ls 1 [(0, .ref (Z 208))] := hl
  subst hsz
  have X : CC p s m ([.ref (Z 208)]).toArray c cX0_oneVariable 1 (Cond.code yX0_oneVariable cX0_oneVariable 1 none) RX0 D kA V (va_A (CW kA Z u) s.heap.size) := ⟨⟨Bd.exec, Bd.bytes, hml, findClass_of_methodNamed Bd.named, hts⟩, hK, hE, fun q h => Or.inr h⟩
  refine b_X0_oneVariable_0 X (cend_vx X Bd.returns Bd.notSynchronized) hst (cend_X X hxt Bd.notSynchronized) ⟨Nat.le_refl _, Nat.le_refl _⟩ (Nat.le_refl _) (Nat.le_refl _) h  ⟨hP, hD0.self, va_S.rf⟩ (lv_sub hl [0] rfl)
theorem kc_X0_oneVariable_RX0 {cc : ByteArray} {pc nL : Nat} {c0 : Cond} {rest : List Value} {u w1 : CSt} {y1 : (Sum Nat Int32)} (hst : l.stackTraces = false) (X : CC p s m args c cc nL c0 RX0 D kA V A)  (hS : CS D kA Z A s u H locs) (h : F_X0_oneVariable N u = some (y1, w1)) (hF : 9 + 1 ≤ R.frames) (hL : 8 + (1 + 11) + 164 ≤ R.locals) (hC : 1 ≤ R.cells ∧ 6 ≤ R.slots) (hl : ls.size = nL) (hc : (rest.map fun v => v.category).sum ≤ 8) (hdg : decode cc pc = .ok (.invokevirtual 60, 3)) (kk : ∀ r, y1 = .inr r → ∀ H locs, CS D kA Z A s w1 H locs → W p l e R s m args below meth c H locs 0 0 Q (F0 m (pc + 3) ls (rest))) (kx : ∀ x, y1 = .inl x → ∀ (H : Heap) (locs : List Loc) (q : Addr) (ce : Cell), CS D kA Z A s w1 H locs → H[q]? = some ce → ce.vm = .none → s.vm.findClass (exN x) = some ce.cls → vx_W p l e R s m args below meth c H locs 1 6 Q (F0 m pc ls rest) q) : W p l e R s m args below meth c H locs 0 0 Q (F0 m pc ls (.ref (Z 208) :: rest)) :=
  ccall_vx (n := 0) X hS (k_X0_oneVariable l hst D kA V Z N   u H.size h) (gw_V gw_867 gw_869 gs_2_1 gw_7 gw_870) (by decide +kernel) (va_recv X.2.1 hS.1 (ci := 0) (q0 := 8) rfl (cw_lit rfl)) hF hL hC rfl hl hc rfl hdg kk kx
def B_X0_variables_53 (N : Nat) (u : CSt) : Option ((Sum Nat Int32) × CSt) := bt (F_X9_take N 59 u) fun _ u_1 => some (.inr 0, u_1)
set_option maxHeartbeats 4000000 in
theorem b_X0_variables_53 {y : (Sum Nat Int32)} (X : CC p s m args c cX0_variables 2 (Cond.code yX0_variables cX0_variables 2 none) RX0 D kA V A) (hE : CEvx p l e R s m args below meth c cX0_variables D kA Z A Q y w) (hst : l.stackTraces = false) (hX : CX p l e R s m args below meth c D kA Z A Q y w) (hC : 1 ≤ R.cells ∧ 6 ≤ R.slots) (hF : 10 ≤ R.frames) (hL : 184 ≤ R.locals) {u : CSt}  (h : B_X0_variables_53 N u = some (y, w))  (hS : CS D kA Z A s u H locs) (hl : lv_has ls 2 [(0, .ref (Z 208))]) : W p l e R s m args below meth c H locs 0 0 Q (F0 m 53 ls []) := by
  obtain ⟨⟨hx, hb, hml, hown, hts⟩, hK, hEV, hA⟩ := id X
  have hG : ∀ w ∈ GW, w.before args s = true := fun w h => hts w (List.mem_cons_of_mem _ h)
  unfold B_X0_variables_53 at h
  refine lv_aload_n hx hb dX0_variables_53 rfl (lv_at hl 0 rfl) ?_
  refine cg_X0_9 X hS dX0_variables_54 ?_
  refine lv_bipush (v := 59) hx hb dX0_variables_57 (by decide) ?_
  obtain ⟨y_2, u_1, h_u_1, h⟩ := bt_of h
  refine kc_X9_take_RX0 hst X  hS h_u_1 (Nat.le_trans (Nat.le_of_ble_eq_true rfl) hF) (Nat.le_trans (Nat.le_of_ble_eq_true rfl) hL) hC hl.1 (Nat.le_of_ble_eq_true rfl) dX0_variables_59 (fun r_u_1 hr_u_1 H locs hS => ?_) (fun x9 hn H locs q9 ce hS a1 a2 a3 => by obtain ⟨e2, rfl⟩ := bt_no h hn; exact hX _ e2 _ _ _ _ _ _ _ hS a1 a2 a3)
  replace h := bt_ok h hr_u_1
  obtain ⟨e9, rfl⟩ := so9 h
  exact hE _ e9.symm _ _ _ _ hS dX0_variables_62
def B_X0_variables_17 (N : Nat) (R_17 : Int32 × CSt → Option ((Sum Nat Int32) × CSt)) (l1 : Int32) (u : CSt) : Option ((Sum Nat Int32) × CSt) := if (1500 : Int32) ≤ l1 then (B_X0_variables_53 N u) else (bc (F_X9_is N 44 u) fun r_5 u_4 => if r_5 = (0 : Int32) then (B_X0_variables_53 N u_4) else (bc (F_X9_next N u_4) fun _ u_7 => bt (F_X0_oneVariable N u_7) fun _ u_8 => R_17 ((l1 + 1), u_8)))
set_option maxHeartbeats 4000000 in
theorem b_X0_variables_17 {y : (Sum Nat Int32)} (X : CC p s m args c cX0_variables 2 (Cond.code yX0_variables cX0_variables 2 none) RX0 D kA V A) (hE : CEvx p l e R s m args below meth c cX0_variables D kA Z A Q y w) (hst : l.stackTraces = false) (hX : CX p l e R s m args below meth c D kA Z A Q y w) (hC : 1 ≤ R.cells ∧ 6 ≤ R.slots) (hF : 10 ≤ R.frames) (hL : 184 ≤ R.locals) {R_17 : Int32 × CSt → Option ((Sum Nat Int32) × CSt)} {l1 : Int32} {u : CSt} (hR_17 : ∀ (l1 : Int32) (u : CSt), R_17 (l1, u) = some (y, w) → ∀ (H : Heap) (locs : List Loc) (ls : Array Slot), CS D kA Z A s u H locs → lv_has ls 2 [(0, .ref (Z 208)), (1, .int l1)] → W p l e R s m args below meth c H locs 0 0 Q (F0 m 17 ls [])) (h : B_X0_variables_17 N R_17 l1 u = some (y, w))  (hS : CS D kA Z A s u H locs) (hl : lv_has ls 2 [(0, .ref (Z 208)), (1, .int l1)]) : W p l e R s m args below meth c H locs 0 0 Q (F0 m 17 ls []) := by
  obtain ⟨⟨hx, hb, hml, hown, hts⟩, hK, hEV, hA⟩ := id X
  have hG : ∀ w ∈ GW, w.before args s = true := fun w h => hts w (List.mem_cons_of_mem _ h)
  unfold B_X0_variables_17 at h
  refine lv_iload_n hx hb dX0_variables_17 rfl (lv_at hl 1 rfl) ?_
  refine lv_sipush (v := 1500) hx hb dX0_variables_18 (by decide) ?_
  refine lv_icmp_ge (tgt := 53) hx hb dX0_variables_21 (by decide) (fun c_3 => ?_) (fun c_3 => ?_)
  · have h := ip (c_3) h
    exact b_X0_variables_53 X hE hst hX hC hF hL  h  hS (lv_sub hl [0] rfl)
  · have h := im (c_3) h
    refine lv_aload_n hx hb dX0_variables_24 rfl (lv_at hl 0 rfl) ?_
    refine cg_X0_9 X hS dX0_variables_25 ?_
    refine lv_bipush (v := 44) hx hb dX0_variables_28 (by decide) ?_
    obtain ⟨r_5, u_4, h_u_4, h⟩ := bc_of h
    refine kc_X9_is_RX0 X  hS h_u_4 (Nat.le_trans (Nat.le_of_ble_eq_true rfl) hF) (Nat.le_trans (Nat.le_of_ble_eq_true rfl) hL) hl.1 (Nat.le_of_ble_eq_true rfl) dX0_variables_30 (fun H locs hS => ?_)
    refine lv_if_eq (tgt := 53) hx hb dX0_variables_33 (by decide) (fun c_6 => ?_) (fun c_6 => ?_)
    · have h := ip (c_6) h
      exact b_X0_variables_53 X hE hst hX hC hF hL  h  hS (lv_sub hl [0] rfl)
    · have h := im (c_6) h
      refine lv_aload_n hx hb dX0_variables_36 rfl (lv_at hl 0 rfl) ?_
      refine cg_X0_9 X hS dX0_variables_37 ?_
      obtain ⟨r_u_7, u_7, h_u_7, h⟩ := bc_of h
      refine kc_X9_next_RX0 X  hS h_u_7 (Nat.le_trans (Nat.le_of_ble_eq_true rfl) hF) (Nat.le_trans (Nat.le_of_ble_eq_true rfl) hL) hl.1 (Nat.le_of_ble_eq_true rfl) dX0_variables_40 (fun H locs hS => ?_)
      refine lv_aload_n hx hb dX0_variables_43 rfl (lv_at hl 0 rfl) ?_
      obtain ⟨y_9, u_8, h_u_8, h⟩ := bt_of h
      refine kc_X0_oneVariable_RX0 hst X  hS h_u_8 (Nat.le_trans (Nat.le_of_ble_eq_true rfl) hF) (Nat.le_trans (Nat.le_of_ble_eq_true rfl) hL) hC hl.1 (Nat.le_of_ble_eq_true rfl) dX0_variables_44 (fun r_u_8 hr_u_8 H locs hS => ?_) (fun x9 hn H locs q9 ce hS a1 a2 a3 => by obtain ⟨e2, rfl⟩ := bt_no h hn; exact hX _ e2 _ _ _ _ _ _ _ hS a1 a2 a3)
      replace h := bt_ok h hr_u_8
      refine lv_iinc (v := l1 + 1) (lv' := [(1, .int (l1 + 1)), (0, .ref (Z 208))]) hx hb dX0_variables_47 hl (k := 1) rfl rfl (by decide) rfl (fun ls hl => ?_)
      refine lv_goto (tgt := 17) hx hb dX0_variables_50 (by decide) ?_
      exact hR_17 _ _  h _ _ _ hS (lv_sub hl [1, 0] rfl)
def LP_X0_variables_17 (N : Nat) : Nat → Int32 × CSt → Option ((Sum Nat Int32) × CSt) := lp (fun R a => B_X0_variables_17 N R a.1 a.2)
theorem bl_X0_variables_17 {y : (Sum Nat Int32)} (X : CC p s m args c cX0_variables 2 (Cond.code yX0_variables cX0_variables 2 none) RX0 D kA V A) (hE : CEvx p l e R s m args below meth c cX0_variables D kA Z A Q y w) (hst : l.stackTraces = false) (hX : CX p l e R s m args below meth c D kA Z A Q y w) (hC : 1 ≤ R.cells ∧ 6 ≤ R.slots) (hF : 10 ≤ R.frames) (hL : 184 ≤ R.locals)  : ∀ (n : Nat) (l1 : Int32) (u : CSt), LP_X0_variables_17 N n (l1, u) = some (y, w) → ∀ (H : Heap) (locs : List Loc) (ls : Array Slot), CS D kA Z A s u H locs → lv_has ls 2 [(0, .ref (Z 208)), (1, .int l1)] → W p l e R s m args below meth c H locs 0 0 Q (F0 m 17 ls []) := by
  intro n
  induction n with
  | zero => intro l1 u h; exact nomatch h
  | succ n ih => intro l1 u h H locs ls hS hl; exact b_X0_variables_17 (N := N) (R_17 := LP_X0_variables_17 N n) X hE hst hX hC hF hL  ih h  hS hl
def B_X0_variables_0 (N : Nat) (u : CSt) : Option ((Sum Nat Int32) × CSt) := bc (F_X9_next N u) fun _ u_10 => bt (F_X0_kind N u_10) fun _ u_11 => bt (F_X0_oneVariable N u_11) fun _ u_13 => LP_X0_variables_17 N N (0, u_13)
set_option maxHeartbeats 4000000 in
theorem b_X0_variables_0 {y : (Sum Nat Int32)} (X : CC p s m args c cX0_variables 2 (Cond.code yX0_variables cX0_variables 2 none) RX0 D kA V A) (hE : CEvx p l e R s m args below meth c cX0_variables D kA Z A Q y w) (hst : l.stackTraces = false) (hX : CX p l e R s m args below meth c D kA Z A Q y w) (hC : 1 ≤ R.cells ∧ 6 ≤ R.slots) (hF : 10 ≤ R.frames) (hL : 184 ≤ R.locals) {u : CSt}  (h : B_X0_variables_0 N u = some (y, w))  (hS : CS D kA Z A s u H locs) (hl : lv_has ls 2 [(0, .ref (Z 208))]) : W p l e R s m args below meth c H locs 0 0 Q (F0 m 0 ls []) := by
  obtain ⟨⟨hx, hb, hml, hown, hts⟩, hK, hEV, hA⟩ := id X
  have hG : ∀ w ∈ GW, w.before args s = true := fun w h => hts w (List.mem_cons_of_mem _ h)
  unfold B_X0_variables_0 at h
  refine lv_aload_n hx hb dX0_variables_0 rfl (lv_at hl 0 rfl) ?_
  refine cg_X0_9 X hS dX0_variables_1 ?_
  obtain ⟨r_u_10, u_10, h_u_10, h⟩ := bc_of h
  refine kc_X9_next_RX0 X  hS h_u_10 (Nat.le_trans (Nat.le_of_ble_eq_true rfl) hF) (Nat.le_trans (Nat.le_of_ble_eq_true rfl) hL) hl.1 (Nat.le_of_ble_eq_true rfl) dX0_variables_4 (fun H locs hS => ?_)
  refine lv_aload_n hx hb dX0_variables_7 rfl (lv_at hl 0 rfl) ?_
  obtain ⟨y_12, u_11, h_u_11, h⟩ := bt_of h
  refine kc_X0_kind_RX0 hst X  hS h_u_11 (Nat.le_trans (Nat.le_of_ble_eq_true rfl) hF) (Nat.le_trans (Nat.le_of_ble_eq_true rfl) hL) hC hl.1 (Nat.le_of_ble_eq_true rfl) dX0_variables_8 (fun r_u_11 hr_u_11 H locs hS => ?_) (fun x9 hn H locs q9 ce hS a1 a2 a3 => by obtain ⟨e2, rfl⟩ := bt_no h hn; exact hX _ e2 _ _ _ _ _ _ _ hS a1 a2 a3)
  replace h := bt_ok h hr_u_11
  refine lv_aload_n hx hb dX0_variables_11 rfl (lv_at hl 0 rfl) ?_
  obtain ⟨y_14, u_13, h_u_13, h⟩ := bt_of h
  refine kc_X0_oneVariable_RX0 hst X  hS h_u_13 (Nat.le_trans (Nat.le_of_ble_eq_true rfl) hF) (Nat.le_trans (Nat.le_of_ble_eq_true rfl) hL) hC hl.1 (Nat.le_of_ble_eq_true rfl) dX0_variables_12 (fun r_u_13 hr_u_13 H locs hS => ?_) (fun x9 hn H locs q9 ce hS a1 a2 a3 => by obtain ⟨e2, rfl⟩ := bt_no h hn; exact hX _ e2 _ _ _ _ _ _ _ hS a1 a2 a3)
  replace h := bt_ok h hr_u_13
  refine lv_iconst (v := 0) hx hb dX0_variables_15 (by decide) ?_
  refine lv_istore_n (lv' := [(1, .int 0), (0, .ref (Z 208))]) hx hb dX0_variables_16 rfl hl (by decide) rfl (fun ls hl => ?_)
  exact bl_X0_variables_17 X hE hst hX hC hF hL  _ _ _  h _ _ _ hS (lv_sub hl [1, 0] rfl)
def F_X0_variables (N : Nat) (u : CSt) : Option ((Sum Nat Int32) × CSt) := B_X0_variables_0 N u
set_option maxHeartbeats 4000000 in
theorem k_X0_variables (l : Launch) (hst : l.stackTraces = false) (D : va_G) (kA : Nat → ClassId) (V Z : Nat → Nat) (N : Nat) (u : CSt) (sz : Nat) {y : (Sum Nat Int32)} {w : CSt} (h : F_X0_variables N u = some (y, w)) : vx_Met l yX0_variables (Cond.code yX0_variables cX0_variables 2 none :: GW) { frames := 10, cells := 1, slots := 6, locals := 184 } (cPc D kA V Z [.ref (Z 208)] u sz) (cQvx D kA Z u sz y w) (cXc D kA Z u sz y w) 1 6 (va_A (CW kA Z u) sz) := by
  refine vx_ofW (cc := cX0_variables) (maxL := 2) (ret := none) (by decide) rfl ?_
  intro p e s m args below meth c s₁ Bd hml hxt hv
  obtain ⟨rfl, hsz, hP, hK, hD0, hE⟩ := hv
  have hts := atoms_spec (ws := Cond.code yX0_variables cX0_variables 2 none :: GW) Bd.pre
  have hl := lv_entry ([.ref (Z 208)]) (n := 2) (Nat.le_of_ble_eq_true rfl)
  rw [lg_entry_eq]
  generalize (lg_sl ([.ref (Z 208)]) ++ List.replicate (2 - (lg_sl ([.ref (Z 208)])).length) Slot.unset).toArray = ls at hl ⊢
  have hl : lv_has ls 2 [(0, .ref (Z 208))] := hl
  subst hsz
  have X : CC p s m ([.ref (Z 208)]).toArray c cX0_variables 2 (Cond.code yX0_variables cX0_variables 2 none) RX0 D kA V (va_A (CW kA Z u) s.heap.size) := ⟨⟨Bd.exec, Bd.bytes, hml, findClass_of_methodNamed Bd.named, hts⟩, hK, hE, fun q h => Or.inr h⟩
  refine b_X0_variables_0 X (cend_vx X Bd.returns Bd.notSynchronized) hst (cend_X X hxt Bd.notSynchronized) ⟨Nat.le_refl _, Nat.le_refl _⟩ (Nat.le_refl _) (Nat.le_refl _) h  ⟨hP, hD0.self, va_S.rf⟩ (lv_sub hl [0] rfl)
theorem kc_X0_variables_RX0 {cc : ByteArray} {pc nL : Nat} {c0 : Cond} {rest : List Value} {u w1 : CSt} {y1 : (Sum Nat Int32)} (hst : l.stackTraces = false) (X : CC p s m args c cc nL c0 RX0 D kA V A)  (hS : CS D kA Z A s u H locs) (h : F_X0_variables N u = some (y1, w1)) (hF : 10 + 1 ≤ R.frames) (hL : 8 + (2 + 11) + 184 ≤ R.locals) (hC : 1 ≤ R.cells ∧ 6 ≤ R.slots) (hl : ls.size = nL) (hc : (rest.map fun v => v.category).sum ≤ 8) (hdg : decode cc pc = .ok (.invokevirtual 32, 3)) (kk : ∀ r, y1 = .inr r → ∀ H locs, CS D kA Z A s w1 H locs → W p l e R s m args below meth c H locs 0 0 Q (F0 m (pc + 3) ls (rest))) (kx : ∀ x, y1 = .inl x → ∀ (H : Heap) (locs : List Loc) (q : Addr) (ce : Cell), CS D kA Z A s w1 H locs → H[q]? = some ce → ce.vm = .none → s.vm.findClass (exN x) = some ce.cls → vx_W p l e R s m args below meth c H locs 1 6 Q (F0 m pc ls rest) q) : W p l e R s m args below meth c H locs 0 0 Q (F0 m pc ls (.ref (Z 208) :: rest)) :=
  ccall_vx (n := 0) X hS (k_X0_variables l hst D kA V Z N   u H.size h) (gw_V gw_769 gw_771 gs_1_13 gw_7 gw_772) (by decide +kernel) (va_recv X.2.1 hS.1 (ci := 0) (q0 := 8) rfl (cw_lit rfl)) hF hL hC rfl hl hc rfl hdg kk kx
def B_X0_placed_0 (N : Nat) (u : CSt) : Option ((Sum Nat Int32) × CSt) := bc (F_X9_next N u) fun _ u_1 => bt (F_X0_kind N u_1) fun _ u_2 => bt (F_X9_take N 128 u_2) fun _ u_4 => bt (F_X9_take N 5 u_4) fun _ u_6 => bt (F_X9_take N 129 u_6) fun _ u_8 => bt (F_X9_take N 59 u_8) fun _ u_10 => some (.inr 0, u_10)
set_option maxHeartbeats 4000000 in
theorem b_X0_placed_0 {y : (Sum Nat Int32)} (X : CC p s m args c cX0_placed 1 (Cond.code yX0_placed cX0_placed 1 none) RX0 D kA V A) (hE : CEvx p l e R s m args below meth c cX0_placed D kA Z A Q y w) (hst : l.stackTraces = false) (hX : CX p l e R s m args below meth c D kA Z A Q y w) (hC : 1 ≤ R.cells ∧ 6 ≤ R.slots) (hF : 9 ≤ R.frames) (hL : 162 ≤ R.locals) {u : CSt}  (h : B_X0_placed_0 N u = some (y, w))  (hS : CS D kA Z A s u H locs) (hl : lv_has ls 1 [(0, .ref (Z 208))]) : W p l e R s m args below meth c H locs 0 0 Q (F0 m 0 ls []) := by
  obtain ⟨⟨hx, hb, hml, hown, hts⟩, hK, hEV, hA⟩ := id X
  have hG : ∀ w ∈ GW, w.before args s = true := fun w h => hts w (List.mem_cons_of_mem _ h)
  unfold B_X0_placed_0 at h
  refine lv_aload_n hx hb dX0_placed_0 rfl (lv_at hl 0 rfl) ?_
  refine cg_X0_9 X hS dX0_placed_1 ?_
  obtain ⟨r_u_1, u_1, h_u_1, h⟩ := bc_of h
  refine kc_X9_next_RX0 X  hS h_u_1 (Nat.le_trans (Nat.le_of_ble_eq_true rfl) hF) (Nat.le_trans (Nat.le_of_ble_eq_true rfl) hL) hl.1 (Nat.le_of_ble_eq_true rfl) dX0_placed_4 (fun H locs hS => ?_)
  refine lv_aload_n hx hb dX0_placed_7 rfl (lv_at hl 0 rfl) ?_
  obtain ⟨y_3, u_2, h_u_2, h⟩ := bt_of h
  refine kc_X0_kind_RX0 hst X  hS h_u_2 (Nat.le_trans (Nat.le_of_ble_eq_true rfl) hF) (Nat.le_trans (Nat.le_of_ble_eq_true rfl) hL) hC hl.1 (Nat.le_of_ble_eq_true rfl) dX0_placed_8 (fun r_u_2 hr_u_2 H locs hS => ?_) (fun x9 hn H locs q9 ce hS a1 a2 a3 => by obtain ⟨e2, rfl⟩ := bt_no h hn; exact hX _ e2 _ _ _ _ _ _ _ hS a1 a2 a3)
  replace h := bt_ok h hr_u_2
  refine lv_aload_n hx hb dX0_placed_11 rfl (lv_at hl 0 rfl) ?_
  refine cg_X0_9 X hS dX0_placed_12 ?_
  refine lv_sipush (v := 128) hx hb dX0_placed_15 (by decide) ?_
  obtain ⟨y_5, u_4, h_u_4, h⟩ := bt_of h
  refine kc_X9_take_RX0 hst X  hS h_u_4 (Nat.le_trans (Nat.le_of_ble_eq_true rfl) hF) (Nat.le_trans (Nat.le_of_ble_eq_true rfl) hL) hC hl.1 (Nat.le_of_ble_eq_true rfl) dX0_placed_18 (fun r_u_4 hr_u_4 H locs hS => ?_) (fun x9 hn H locs q9 ce hS a1 a2 a3 => by obtain ⟨e2, rfl⟩ := bt_no h hn; exact hX _ e2 _ _ _ _ _ _ _ hS a1 a2 a3)
  replace h := bt_ok h hr_u_4
  refine lv_aload_n hx hb dX0_placed_21 rfl (lv_at hl 0 rfl) ?_
  refine cg_X0_9 X hS dX0_placed_22 ?_
  refine lv_iconst (v := 5) hx hb dX0_placed_25 (by decide) ?_
  obtain ⟨y_7, u_6, h_u_6, h⟩ := bt_of h
  refine kc_X9_take_RX0 hst X  hS h_u_6 (Nat.le_trans (Nat.le_of_ble_eq_true rfl) hF) (Nat.le_trans (Nat.le_of_ble_eq_true rfl) hL) hC hl.1 (Nat.le_of_ble_eq_true rfl) dX0_placed_26 (fun r_u_6 hr_u_6 H locs hS => ?_) (fun x9 hn H locs q9 ce hS a1 a2 a3 => by obtain ⟨e2, rfl⟩ := bt_no h hn; exact hX _ e2 _ _ _ _ _ _ _ hS a1 a2 a3)
  replace h := bt_ok h hr_u_6
  refine lv_aload_n hx hb dX0_placed_29 rfl (lv_at hl 0 rfl) ?_
  refine cg_X0_9 X hS dX0_placed_30 ?_
  refine lv_sipush (v := 129) hx hb dX0_placed_33 (by decide) ?_
  obtain ⟨y_9, u_8, h_u_8, h⟩ := bt_of h
  refine kc_X9_take_RX0 hst X  hS h_u_8 (Nat.le_trans (Nat.le_of_ble_eq_true rfl) hF) (Nat.le_trans (Nat.le_of_ble_eq_true rfl) hL) hC hl.1 (Nat.le_of_ble_eq_true rfl) dX0_placed_36 (fun r_u_8 hr_u_8 H locs hS => ?_) (fun x9 hn H locs q9 ce hS a1 a2 a3 => by obtain ⟨e2, rfl⟩ := bt_no h hn; exact hX _ e2 _ _ _ _ _ _ _ hS a1 a2 a3)
  replace h := bt_ok h hr_u_8
  refine lv_aload_n hx hb dX0_placed_39 rfl (lv_at hl 0 rfl) ?_
  refine cg_X0_9 X hS dX0_placed_40 ?_
  refine lv_bipush (v := 59) hx hb dX0_placed_43 (by decide) ?_
  obtain ⟨y_11, u_10, h_u_10, h⟩ := bt_of h
  refine kc_X9_take_RX0 hst X  hS h_u_10 (Nat.le_trans (Nat.le_of_ble_eq_true rfl) hF) (Nat.le_trans (Nat.le_of_ble_eq_true rfl) hL) hC hl.1 (Nat.le_of_ble_eq_true rfl) dX0_placed_45 (fun r_u_10 hr_u_10 H locs hS => ?_) (fun x9 hn H locs q9 ce hS a1 a2 a3 => by obtain ⟨e2, rfl⟩ := bt_no h hn; exact hX _ e2 _ _ _ _ _ _ _ hS a1 a2 a3)
  replace h := bt_ok h hr_u_10
  obtain ⟨e9, rfl⟩ := so9 h
  exact hE _ e9.symm _ _ _ _ hS dX0_placed_48
def F_X0_placed (N : Nat) (u : CSt) : Option ((Sum Nat Int32) × CSt) := B_X0_placed_0 N u
set_option maxHeartbeats 4000000 in
theorem k_X0_placed (l : Launch) (hst : l.stackTraces = false) (D : va_G) (kA : Nat → ClassId) (V Z : Nat → Nat) (N : Nat) (u : CSt) (sz : Nat) {y : (Sum Nat Int32)} {w : CSt} (h : F_X0_placed N u = some (y, w)) : vx_Met l yX0_placed (Cond.code yX0_placed cX0_placed 1 none :: GW) { frames := 9, cells := 1, slots := 6, locals := 162 } (cPc D kA V Z [.ref (Z 208)] u sz) (cQvx D kA Z u sz y w) (cXc D kA Z u sz y w) 1 6 (va_A (CW kA Z u) sz) := by
  refine vx_ofW (cc := cX0_placed) (maxL := 1) (ret := none) (by decide) rfl ?_
  intro p e s m args below meth c s₁ Bd hml hxt hv
  obtain ⟨rfl, hsz, hP, hK, hD0, hE⟩ := hv
  have hts := atoms_spec (ws := Cond.code yX0_placed cX0_placed 1 none :: GW) Bd.pre
  have hl := lv_entry ([.ref (Z 208)]) (n := 1) (Nat.le_of_ble_eq_true rfl)
  rw [lg_entry_eq]
  generalize (lg_sl ([.ref (Z 208)]) ++ List.replicate (1 - (lg_sl ([.ref (Z 208)])).length) Slot.unset).toArray = ls at hl ⊢
  have hl : lv_has ls 1 [(0, .ref (Z 208))] := hl
  subst hsz
  have X : CC p s m ([.ref (Z 208)]).toArray c cX0_placed 1 (Cond.code yX0_placed cX0_placed 1 none) RX0 D kA V (va_A (CW kA Z u) s.heap.size) := ⟨⟨Bd.exec, Bd.bytes, hml, findClass_of_methodNamed Bd.named, hts⟩, hK, hE, fun q h => Or.inr h⟩
  refine b_X0_placed_0 X (cend_vx X Bd.returns Bd.notSynchronized) hst (cend_X X hxt Bd.notSynchronized) ⟨Nat.le_refl _, Nat.le_refl _⟩ (Nat.le_refl _) (Nat.le_refl _) h  ⟨hP, hD0.self, va_S.rf⟩ (lv_sub hl [0] rfl)
theorem kc_X0_placed_RX0 {cc : ByteArray} {pc nL : Nat} {c0 : Cond} {rest : List Value} {u w1 : CSt} {y1 : (Sum Nat Int32)} (hst : l.stackTraces = false) (X : CC p s m args c cc nL c0 RX0 D kA V A)  (hS : CS D kA Z A s u H locs) (h : F_X0_placed N u = some (y1, w1)) (hF : 9 + 1 ≤ R.frames) (hL : 8 + (1 + 11) + 162 ≤ R.locals) (hC : 1 ≤ R.cells ∧ 6 ≤ R.slots) (hl : ls.size = nL) (hc : (rest.map fun v => v.category).sum ≤ 8) (hdg : decode cc pc = .ok (.invokevirtual 35, 3)) (kk : ∀ r, y1 = .inr r → ∀ H locs, CS D kA Z A s w1 H locs → W p l e R s m args below meth c H locs 0 0 Q (F0 m (pc + 3) ls (rest))) (kx : ∀ x, y1 = .inl x → ∀ (H : Heap) (locs : List Loc) (q : Addr) (ce : Cell), CS D kA Z A s w1 H locs → H[q]? = some ce → ce.vm = .none → s.vm.findClass (exN x) = some ce.cls → vx_W p l e R s m args below meth c H locs 1 6 Q (F0 m pc ls rest) q) : W p l e R s m args below meth c H locs 0 0 Q (F0 m pc ls (.ref (Z 208) :: rest)) :=
  ccall_vx (n := 0) X hS (k_X0_placed l hst D kA V Z N   u H.size h) (gw_V gw_888 gw_890 gs_2_5 gw_7 gw_891) (by decide +kernel) (va_recv X.2.1 hS.1 (ci := 0) (q0 := 8) rfl (cw_lit rfl)) hF hL hC rfl hl hc rfl hdg kk kx
def B_X0_uses_71 (N : Nat) (u : CSt) : Option ((Sum Nat Int32) × CSt) := bt (F_X9_take N 59 u) fun _ u_1 => some (.inr 0, u_1)
set_option maxHeartbeats 4000000 in
theorem b_X0_uses_71 {y : (Sum Nat Int32)} (X : CC p s m args c cX0_uses 2 (Cond.code yX0_uses cX0_uses 2 none) RX0 D kA V A) (hE : CEvx p l e R s m args below meth c cX0_uses D kA Z A Q y w) (hst : l.stackTraces = false) (hX : CX p l e R s m args below meth c D kA Z A Q y w) (hC : 1 ≤ R.cells ∧ 6 ≤ R.slots) (hF : 8 ≤ R.frames) (hL : 143 ≤ R.locals) {u : CSt}  (h : B_X0_uses_71 N u = some (y, w))  (hS : CS D kA Z A s u H locs) (hl : lv_has ls 2 [(0, .ref (Z 208))]) : W p l e R s m args below meth c H locs 0 0 Q (F0 m 71 ls []) := by
  obtain ⟨⟨hx, hb, hml, hown, hts⟩, hK, hEV, hA⟩ := id X
  have hG : ∀ w ∈ GW, w.before args s = true := fun w h => hts w (List.mem_cons_of_mem _ h)
  unfold B_X0_uses_71 at h
  refine lv_aload_n hx hb dX0_uses_71 rfl (lv_at hl 0 rfl) ?_
  refine cg_X0_9 X hS dX0_uses_72 ?_
  refine lv_bipush (v := 59) hx hb dX0_uses_75 (by decide) ?_
  obtain ⟨y_2, u_1, h_u_1, h⟩ := bt_of h
  refine kc_X9_take_RX0 hst X  hS h_u_1 (Nat.le_trans (Nat.le_of_ble_eq_true rfl) hF) (Nat.le_trans (Nat.le_of_ble_eq_true rfl) hL) hC hl.1 (Nat.le_of_ble_eq_true rfl) dX0_uses_77 (fun r_u_1 hr_u_1 H locs hS => ?_) (fun x9 hn H locs q9 ce hS a1 a2 a3 => by obtain ⟨e2, rfl⟩ := bt_no h hn; exact hX _ e2 _ _ _ _ _ _ _ hS a1 a2 a3)
  replace h := bt_ok h hr_u_1
  obtain ⟨e9, rfl⟩ := so9 h
  exact hE _ e9.symm _ _ _ _ hS dX0_uses_80
def B_X0_uses_29 (N : Nat) (R_29 : Int32 × CSt → Option ((Sum Nat Int32) × CSt)) (l1 : Int32) (u : CSt) : Option ((Sum Nat Int32) × CSt) := if (1500 : Int32) ≤ l1 then (B_X0_uses_71 N u) else (bc (F_X9_is N 44 u) fun r_5 u_4 => if r_5 = (0 : Int32) then (B_X0_uses_71 N u_4) else (bc (F_X9_next N u_4) fun _ u_7 => bt (F_X9_take N 128 u_7) fun _ u_8 => R_29 ((l1 + 1), u_8)))
set_option maxHeartbeats 4000000 in
theorem b_X0_uses_29 {y : (Sum Nat Int32)} (X : CC p s m args c cX0_uses 2 (Cond.code yX0_uses cX0_uses 2 none) RX0 D kA V A) (hE : CEvx p l e R s m args below meth c cX0_uses D kA Z A Q y w) (hst : l.stackTraces = false) (hX : CX p l e R s m args below meth c D kA Z A Q y w) (hC : 1 ≤ R.cells ∧ 6 ≤ R.slots) (hF : 8 ≤ R.frames) (hL : 143 ≤ R.locals) {R_29 : Int32 × CSt → Option ((Sum Nat Int32) × CSt)} {l1 : Int32} {u : CSt} (hR_29 : ∀ (l1 : Int32) (u : CSt), R_29 (l1, u) = some (y, w) → ∀ (H : Heap) (locs : List Loc) (ls : Array Slot), CS D kA Z A s u H locs → lv_has ls 2 [(0, .ref (Z 208)), (1, .int l1)] → W p l e R s m args below meth c H locs 0 0 Q (F0 m 29 ls [])) (h : B_X0_uses_29 N R_29 l1 u = some (y, w))  (hS : CS D kA Z A s u H locs) (hl : lv_has ls 2 [(0, .ref (Z 208)), (1, .int l1)]) : W p l e R s m args below meth c H locs 0 0 Q (F0 m 29 ls []) := by
  obtain ⟨⟨hx, hb, hml, hown, hts⟩, hK, hEV, hA⟩ := id X
  have hG : ∀ w ∈ GW, w.before args s = true := fun w h => hts w (List.mem_cons_of_mem _ h)
  unfold B_X0_uses_29 at h
  refine lv_iload_n hx hb dX0_uses_29 rfl (lv_at hl 1 rfl) ?_
  refine lv_sipush (v := 1500) hx hb dX0_uses_30 (by decide) ?_
  refine lv_icmp_ge (tgt := 71) hx hb dX0_uses_33 (by decide) (fun c_3 => ?_) (fun c_3 => ?_)
  · have h := ip (c_3) h
    exact b_X0_uses_71 X hE hst hX hC hF hL  h  hS (lv_sub hl [0] rfl)
  · have h := im (c_3) h
    refine lv_aload_n hx hb dX0_uses_36 rfl (lv_at hl 0 rfl) ?_
    refine cg_X0_9 X hS dX0_uses_37 ?_
    refine lv_bipush (v := 44) hx hb dX0_uses_40 (by decide) ?_
    obtain ⟨r_5, u_4, h_u_4, h⟩ := bc_of h
    refine kc_X9_is_RX0 X  hS h_u_4 (Nat.le_trans (Nat.le_of_ble_eq_true rfl) hF) (Nat.le_trans (Nat.le_of_ble_eq_true rfl) hL) hl.1 (Nat.le_of_ble_eq_true rfl) dX0_uses_42 (fun H locs hS => ?_)
    refine lv_if_eq (tgt := 71) hx hb dX0_uses_45 (by decide) (fun c_6 => ?_) (fun c_6 => ?_)
    · have h := ip (c_6) h
      exact b_X0_uses_71 X hE hst hX hC hF hL  h  hS (lv_sub hl [0] rfl)
    · have h := im (c_6) h
      refine lv_aload_n hx hb dX0_uses_48 rfl (lv_at hl 0 rfl) ?_
      refine cg_X0_9 X hS dX0_uses_49 ?_
      obtain ⟨r_u_7, u_7, h_u_7, h⟩ := bc_of h
      refine kc_X9_next_RX0 X  hS h_u_7 (Nat.le_trans (Nat.le_of_ble_eq_true rfl) hF) (Nat.le_trans (Nat.le_of_ble_eq_true rfl) hL) hl.1 (Nat.le_of_ble_eq_true rfl) dX0_uses_52 (fun H locs hS => ?_)
      refine lv_aload_n hx hb dX0_uses_55 rfl (lv_at hl 0 rfl) ?_
      refine cg_X0_9 X hS dX0_uses_56 ?_
      refine lv_sipush (v := 128) hx hb dX0_uses_59 (by decide) ?_
      obtain ⟨y_9, u_8, h_u_8, h⟩ := bt_of h
      refine kc_X9_take_RX0 hst X  hS h_u_8 (Nat.le_trans (Nat.le_of_ble_eq_true rfl) hF) (Nat.le_trans (Nat.le_of_ble_eq_true rfl) hL) hC hl.1 (Nat.le_of_ble_eq_true rfl) dX0_uses_62 (fun r_u_8 hr_u_8 H locs hS => ?_) (fun x9 hn H locs q9 ce hS a1 a2 a3 => by obtain ⟨e2, rfl⟩ := bt_no h hn; exact hX _ e2 _ _ _ _ _ _ _ hS a1 a2 a3)
      replace h := bt_ok h hr_u_8
      refine lv_iinc (v := l1 + 1) (lv' := [(1, .int (l1 + 1)), (0, .ref (Z 208))]) hx hb dX0_uses_65 hl (k := 1) rfl rfl (by decide) rfl (fun ls hl => ?_)
      refine lv_goto (tgt := 29) hx hb dX0_uses_68 (by decide) ?_
      exact hR_29 _ _  h _ _ _ hS (lv_sub hl [1, 0] rfl)
def LP_X0_uses_29 (N : Nat) : Nat → Int32 × CSt → Option ((Sum Nat Int32) × CSt) := lp (fun R a => B_X0_uses_29 N R a.1 a.2)
theorem bl_X0_uses_29 {y : (Sum Nat Int32)} (X : CC p s m args c cX0_uses 2 (Cond.code yX0_uses cX0_uses 2 none) RX0 D kA V A) (hE : CEvx p l e R s m args below meth c cX0_uses D kA Z A Q y w) (hst : l.stackTraces = false) (hX : CX p l e R s m args below meth c D kA Z A Q y w) (hC : 1 ≤ R.cells ∧ 6 ≤ R.slots) (hF : 8 ≤ R.frames) (hL : 143 ≤ R.locals)  : ∀ (n : Nat) (l1 : Int32) (u : CSt), LP_X0_uses_29 N n (l1, u) = some (y, w) → ∀ (H : Heap) (locs : List Loc) (ls : Array Slot), CS D kA Z A s u H locs → lv_has ls 2 [(0, .ref (Z 208)), (1, .int l1)] → W p l e R s m args below meth c H locs 0 0 Q (F0 m 29 ls []) := by
  intro n
  induction n with
  | zero => intro l1 u h; exact nomatch h
  | succ n ih => intro l1 u h H locs ls hS hl; exact b_X0_uses_29 (N := N) (R_29 := LP_X0_uses_29 N n) X hE hst hX hC hF hL  ih h  hS hl
def B_X0_uses_0 (N : Nat) (u : CSt) : Option ((Sum Nat Int32) × CSt) := bc (F_X9_next N u) fun _ u_10 => bt (F_X9_take N 128 u_10) fun _ u_11 => bt (F_X9_take N 128 u_11) fun _ u_13 => LP_X0_uses_29 N N (0, u_13)
set_option maxHeartbeats 4000000 in
theorem b_X0_uses_0 {y : (Sum Nat Int32)} (X : CC p s m args c cX0_uses 2 (Cond.code yX0_uses cX0_uses 2 none) RX0 D kA V A) (hE : CEvx p l e R s m args below meth c cX0_uses D kA Z A Q y w) (hst : l.stackTraces = false) (hX : CX p l e R s m args below meth c D kA Z A Q y w) (hC : 1 ≤ R.cells ∧ 6 ≤ R.slots) (hF : 8 ≤ R.frames) (hL : 143 ≤ R.locals) {u : CSt}  (h : B_X0_uses_0 N u = some (y, w))  (hS : CS D kA Z A s u H locs) (hl : lv_has ls 2 [(0, .ref (Z 208))]) : W p l e R s m args below meth c H locs 0 0 Q (F0 m 0 ls []) := by
  obtain ⟨⟨hx, hb, hml, hown, hts⟩, hK, hEV, hA⟩ := id X
  have hG : ∀ w ∈ GW, w.before args s = true := fun w h => hts w (List.mem_cons_of_mem _ h)
  unfold B_X0_uses_0 at h
  refine lv_aload_n hx hb dX0_uses_0 rfl (lv_at hl 0 rfl) ?_
  refine cg_X0_9 X hS dX0_uses_1 ?_
  obtain ⟨r_u_10, u_10, h_u_10, h⟩ := bc_of h
  refine kc_X9_next_RX0 X  hS h_u_10 (Nat.le_trans (Nat.le_of_ble_eq_true rfl) hF) (Nat.le_trans (Nat.le_of_ble_eq_true rfl) hL) hl.1 (Nat.le_of_ble_eq_true rfl) dX0_uses_4 (fun H locs hS => ?_)
  refine lv_aload_n hx hb dX0_uses_7 rfl (lv_at hl 0 rfl) ?_
  refine cg_X0_9 X hS dX0_uses_8 ?_
  refine lv_sipush (v := 128) hx hb dX0_uses_11 (by decide) ?_
  obtain ⟨y_12, u_11, h_u_11, h⟩ := bt_of h
  refine kc_X9_take_RX0 hst X  hS h_u_11 (Nat.le_trans (Nat.le_of_ble_eq_true rfl) hF) (Nat.le_trans (Nat.le_of_ble_eq_true rfl) hL) hC hl.1 (Nat.le_of_ble_eq_true rfl) dX0_uses_14 (fun r_u_11 hr_u_11 H locs hS => ?_) (fun x9 hn H locs q9 ce hS a1 a2 a3 => by obtain ⟨e2, rfl⟩ := bt_no h hn; exact hX _ e2 _ _ _ _ _ _ _ hS a1 a2 a3)
  replace h := bt_ok h hr_u_11
  refine lv_aload_n hx hb dX0_uses_17 rfl (lv_at hl 0 rfl) ?_
  refine cg_X0_9 X hS dX0_uses_18 ?_
  refine lv_sipush (v := 128) hx hb dX0_uses_21 (by decide) ?_
  obtain ⟨y_14, u_13, h_u_13, h⟩ := bt_of h
  refine kc_X9_take_RX0 hst X  hS h_u_13 (Nat.le_trans (Nat.le_of_ble_eq_true rfl) hF) (Nat.le_trans (Nat.le_of_ble_eq_true rfl) hL) hC hl.1 (Nat.le_of_ble_eq_true rfl) dX0_uses_24 (fun r_u_13 hr_u_13 H locs hS => ?_) (fun x9 hn H locs q9 ce hS a1 a2 a3 => by obtain ⟨e2, rfl⟩ := bt_no h hn; exact hX _ e2 _ _ _ _ _ _ _ hS a1 a2 a3)
  replace h := bt_ok h hr_u_13
  refine lv_iconst (v := 0) hx hb dX0_uses_27 (by decide) ?_
  refine lv_istore_n (lv' := [(1, .int 0), (0, .ref (Z 208))]) hx hb dX0_uses_28 rfl hl (by decide) rfl (fun ls hl => ?_)
  exact bl_X0_uses_29 X hE hst hX hC hF hL  _ _ _  h _ _ _ hS (lv_sub hl [1, 0] rfl)
def F_X0_uses (N : Nat) (u : CSt) : Option ((Sum Nat Int32) × CSt) := B_X0_uses_0 N u
set_option maxHeartbeats 4000000 in
theorem k_X0_uses (l : Launch) (hst : l.stackTraces = false) (D : va_G) (kA : Nat → ClassId) (V Z : Nat → Nat) (N : Nat) (u : CSt) (sz : Nat) {y : (Sum Nat Int32)} {w : CSt} (h : F_X0_uses N u = some (y, w)) : vx_Met l yX0_uses (Cond.code yX0_uses cX0_uses 2 none :: GW) { frames := 8, cells := 1, slots := 6, locals := 143 } (cPc D kA V Z [.ref (Z 208)] u sz) (cQvx D kA Z u sz y w) (cXc D kA Z u sz y w) 1 6 (va_A (CW kA Z u) sz) := by
  refine vx_ofW (cc := cX0_uses) (maxL := 2) (ret := none) (by decide) rfl ?_
  intro p e s m args below meth c s₁ Bd hml hxt hv
  obtain ⟨rfl, hsz, hP, hK, hD0, hE⟩ := hv
  have hts := atoms_spec (ws := Cond.code yX0_uses cX0_uses 2 none :: GW) Bd.pre
  have hl := lv_entry ([.ref (Z 208)]) (n := 2) (Nat.le_of_ble_eq_true rfl)
  rw [lg_entry_eq]
  generalize (lg_sl ([.ref (Z 208)]) ++ List.replicate (2 - (lg_sl ([.ref (Z 208)])).length) Slot.unset).toArray = ls at hl ⊢
  have hl : lv_has ls 2 [(0, .ref (Z 208))] := hl
  subst hsz
  have X : CC p s m ([.ref (Z 208)]).toArray c cX0_uses 2 (Cond.code yX0_uses cX0_uses 2 none) RX0 D kA V (va_A (CW kA Z u) s.heap.size) := ⟨⟨Bd.exec, Bd.bytes, hml, findClass_of_methodNamed Bd.named, hts⟩, hK, hE, fun q h => Or.inr h⟩
  refine b_X0_uses_0 X (cend_vx X Bd.returns Bd.notSynchronized) hst (cend_X X hxt Bd.notSynchronized) ⟨Nat.le_refl _, Nat.le_refl _⟩ (Nat.le_refl _) (Nat.le_refl _) h  ⟨hP, hD0.self, va_S.rf⟩ (lv_sub hl [0] rfl)
theorem kc_X0_uses_RX0 {cc : ByteArray} {pc nL : Nat} {c0 : Cond} {rest : List Value} {u w1 : CSt} {y1 : (Sum Nat Int32)} (hst : l.stackTraces = false) (X : CC p s m args c cc nL c0 RX0 D kA V A)  (hS : CS D kA Z A s u H locs) (h : F_X0_uses N u = some (y1, w1)) (hF : 8 + 1 ≤ R.frames) (hL : 8 + (2 + 11) + 143 ≤ R.locals) (hC : 1 ≤ R.cells ∧ 6 ≤ R.slots) (hl : ls.size = nL) (hc : (rest.map fun v => v.category).sum ≤ 8) (hdg : decode cc pc = .ok (.invokevirtual 44, 3)) (kk : ∀ r, y1 = .inr r → ∀ H locs, CS D kA Z A s w1 H locs → W p l e R s m args below meth c H locs 0 0 Q (F0 m (pc + 3) ls (rest))) (kx : ∀ x, y1 = .inl x → ∀ (H : Heap) (locs : List Loc) (q : Addr) (ce : Cell), CS D kA Z A s w1 H locs → H[q]? = some ce → ce.vm = .none → s.vm.findClass (exN x) = some ce.cls → vx_W p l e R s m args below meth c H locs 1 6 Q (F0 m pc ls rest) q) : W p l e R s m args below meth c H locs 0 0 Q (F0 m pc ls (.ref (Z 208) :: rest)) :=
  ccall_vx (n := 0) X hS (k_X0_uses l hst D kA V Z N   u H.size h) (gw_V gw_973 gw_975 gs_3_7 gw_7 gw_976) (by decide +kernel) (va_recv X.2.1 hS.1 (ci := 0) (q0 := 8) rfl (cw_lit rfl)) hF hL hC rfl hl hc rfl hdg kk kx
def B_X0_label_0 (N : Nat) (u : CSt) : Option ((Sum Nat Int32) × CSt) := bt (F_X0_constant N u) fun _ u_1 => bc (F_X9_is N 11822 u_1) fun r_4 u_3 => if r_4 = (0 : Int32) then (some (.inr 0, u_3)) else (bc (F_X9_next N u_3) fun _ u_6 => bt (F_X0_constant N u_6) fun _ u_7 => some (.inr 0, u_7))
set_option maxHeartbeats 4000000 in
theorem b_X0_label_0 {y : (Sum Nat Int32)} (X : CC p s m args c cX0_label 1 (Cond.code yX0_label cX0_label 1 none) RX0 D kA V A) (hE : CEvx p l e R s m args below meth c cX0_label D kA Z A Q y w) (hst : l.stackTraces = false) (hX : CX p l e R s m args below meth c D kA Z A Q y w) (hC : 1 ≤ R.cells ∧ 6 ≤ R.slots) (hF : 9 ≤ R.frames) (hL : 162 ≤ R.locals) {u : CSt}  (h : B_X0_label_0 N u = some (y, w))  (hS : CS D kA Z A s u H locs) (hl : lv_has ls 1 [(0, .ref (Z 208))]) : W p l e R s m args below meth c H locs 0 0 Q (F0 m 0 ls []) := by
  obtain ⟨⟨hx, hb, hml, hown, hts⟩, hK, hEV, hA⟩ := id X
  have hG : ∀ w ∈ GW, w.before args s = true := fun w h => hts w (List.mem_cons_of_mem _ h)
  unfold B_X0_label_0 at h
  refine lv_aload_n hx hb dX0_label_0 rfl (lv_at hl 0 rfl) ?_
  obtain ⟨y_2, u_1, h_u_1, h⟩ := bt_of h
  refine kc_X0_constant_RX0 hst X  hS h_u_1 (Nat.le_trans (Nat.le_of_ble_eq_true rfl) hF) (Nat.le_trans (Nat.le_of_ble_eq_true rfl) hL) hC hl.1 (Nat.le_of_ble_eq_true rfl) dX0_label_1 (fun r_u_1 hr_u_1 H locs hS => ?_) (fun x9 hn H locs q9 ce hS a1 a2 a3 => by obtain ⟨e2, rfl⟩ := bt_no h hn; exact hX _ e2 _ _ _ _ _ _ _ hS a1 a2 a3)
  replace h := bt_ok h hr_u_1
  refine lv_aload_n hx hb dX0_label_4 rfl (lv_at hl 0 rfl) ?_
  refine cg_X0_9 X hS dX0_label_5 ?_
  refine lv_sipush (v := 11822) hx hb dX0_label_8 (by decide) ?_
  obtain ⟨r_4, u_3, h_u_3, h⟩ := bc_of h
  refine kc_X9_is_RX0 X  hS h_u_3 (Nat.le_trans (Nat.le_of_ble_eq_true rfl) hF) (Nat.le_trans (Nat.le_of_ble_eq_true rfl) hL) hl.1 (Nat.le_of_ble_eq_true rfl) dX0_label_11 (fun H locs hS => ?_)
  refine lv_if_eq (tgt := 28) hx hb dX0_label_14 (by decide) (fun c_5 => ?_) (fun c_5 => ?_)
  · have h := ip (c_5) h
    obtain ⟨e9, rfl⟩ := so9 h
    exact hE _ e9.symm _ _ _ _ hS dX0_label_28
  · have h := im (c_5) h
    refine lv_aload_n hx hb dX0_label_17 rfl (lv_at hl 0 rfl) ?_
    refine cg_X0_9 X hS dX0_label_18 ?_
    obtain ⟨r_u_6, u_6, h_u_6, h⟩ := bc_of h
    refine kc_X9_next_RX0 X  hS h_u_6 (Nat.le_trans (Nat.le_of_ble_eq_true rfl) hF) (Nat.le_trans (Nat.le_of_ble_eq_true rfl) hL) hl.1 (Nat.le_of_ble_eq_true rfl) dX0_label_21 (fun H locs hS => ?_)
    refine lv_aload_n hx hb dX0_label_24 rfl (lv_at hl 0 rfl) ?_
    obtain ⟨y_8, u_7, h_u_7, h⟩ := bt_of h
    refine kc_X0_constant_RX0 hst X  hS h_u_7 (Nat.le_trans (Nat.le_of_ble_eq_true rfl) hF) (Nat.le_trans (Nat.le_of_ble_eq_true rfl) hL) hC hl.1 (Nat.le_of_ble_eq_true rfl) dX0_label_25 (fun r_u_7 hr_u_7 H locs hS => ?_) (fun x9 hn H locs q9 ce hS a1 a2 a3 => by obtain ⟨e2, rfl⟩ := bt_no h hn; exact hX _ e2 _ _ _ _ _ _ _ hS a1 a2 a3)
    replace h := bt_ok h hr_u_7
    obtain ⟨e9, rfl⟩ := so9 h
    exact hE _ e9.symm _ _ _ _ hS dX0_label_28
def F_X0_label (N : Nat) (u : CSt) : Option ((Sum Nat Int32) × CSt) := B_X0_label_0 N u
set_option maxHeartbeats 4000000 in
theorem k_X0_label (l : Launch) (hst : l.stackTraces = false) (D : va_G) (kA : Nat → ClassId) (V Z : Nat → Nat) (N : Nat) (u : CSt) (sz : Nat) {y : (Sum Nat Int32)} {w : CSt} (h : F_X0_label N u = some (y, w)) : vx_Met l yX0_label (Cond.code yX0_label cX0_label 1 none :: GW) { frames := 9, cells := 1, slots := 6, locals := 162 } (cPc D kA V Z [.ref (Z 208)] u sz) (cQvx D kA Z u sz y w) (cXc D kA Z u sz y w) 1 6 (va_A (CW kA Z u) sz) := by
  refine vx_ofW (cc := cX0_label) (maxL := 1) (ret := none) (by decide) rfl ?_
  intro p e s m args below meth c s₁ Bd hml hxt hv
  obtain ⟨rfl, hsz, hP, hK, hD0, hE⟩ := hv
  have hts := atoms_spec (ws := Cond.code yX0_label cX0_label 1 none :: GW) Bd.pre
  have hl := lv_entry ([.ref (Z 208)]) (n := 1) (Nat.le_of_ble_eq_true rfl)
  rw [lg_entry_eq]
  generalize (lg_sl ([.ref (Z 208)]) ++ List.replicate (1 - (lg_sl ([.ref (Z 208)])).length) Slot.unset).toArray = ls at hl ⊢
  have hl : lv_has ls 1 [(0, .ref (Z 208))] := hl
  subst hsz
  have X : CC p s m ([.ref (Z 208)]).toArray c cX0_label 1 (Cond.code yX0_label cX0_label 1 none) RX0 D kA V (va_A (CW kA Z u) s.heap.size) := ⟨⟨Bd.exec, Bd.bytes, hml, findClass_of_methodNamed Bd.named, hts⟩, hK, hE, fun q h => Or.inr h⟩
  refine b_X0_label_0 X (cend_vx X Bd.returns Bd.notSynchronized) hst (cend_X X hxt Bd.notSynchronized) ⟨Nat.le_refl _, Nat.le_refl _⟩ (Nat.le_refl _) (Nat.le_refl _) h  ⟨hP, hD0.self, va_S.rf⟩ (lv_sub hl [0] rfl)
theorem kc_X0_label_RX0 {cc : ByteArray} {pc nL : Nat} {c0 : Cond} {rest : List Value} {u w1 : CSt} {y1 : (Sum Nat Int32)} (hst : l.stackTraces = false) (X : CC p s m args c cc nL c0 RX0 D kA V A)  (hS : CS D kA Z A s u H locs) (h : F_X0_label N u = some (y1, w1)) (hF : 9 + 1 ≤ R.frames) (hL : 8 + (1 + 11) + 162 ≤ R.locals) (hC : 1 ≤ R.cells ∧ 6 ≤ R.slots) (hl : ls.size = nL) (hc : (rest.map fun v => v.category).sum ≤ 8) (hdg : decode cc pc = .ok (.invokevirtual 116, 3)) (kk : ∀ r, y1 = .inr r → ∀ H locs, CS D kA Z A s w1 H locs → W p l e R s m args below meth c H locs 0 0 Q (F0 m (pc + 3) ls (rest))) (kx : ∀ x, y1 = .inl x → ∀ (H : Heap) (locs : List Loc) (q : Addr) (ce : Cell), CS D kA Z A s w1 H locs → H[q]? = some ce → ce.vm = .none → s.vm.findClass (exN x) = some ce.cls → vx_W p l e R s m args below meth c H locs 1 6 Q (F0 m pc ls rest) q) : W p l e R s m args below meth c H locs 0 0 Q (F0 m pc ls (.ref (Z 208) :: rest)) :=
  ccall_vx (n := 0) X hS (k_X0_label l hst D kA V Z N   u H.size h) (gw_V gw_965 gw_967 gs_3_5 gw_7 gw_968) (by decide +kernel) (va_recv X.2.1 hS.1 (ci := 0) (q0 := 8) rfl (cw_lit rfl)) hF hL hC rfl hl hc rfl hdg kk kx
def B_X0_bit_0 (N : Nat) (u : CSt) : Option ((Sum Nat Int32) × CSt) := bc (F_X9_is N 46 u) fun r_2 u_1 => if r_2 = (0 : Int32) then (some (.inr 0, u_1)) else (bc (F_X9_next N u_1) fun _ u_4 => bt (F_X9_take N 129 u_4) fun _ u_5 => some (.inr 0, u_5))
set_option maxHeartbeats 4000000 in
theorem b_X0_bit_0 {y : (Sum Nat Int32)} (X : CC p s m args c cX0_bit 1 (Cond.code yX0_bit cX0_bit 1 none) RX0 D kA V A) (hE : CEvx p l e R s m args below meth c cX0_bit D kA Z A Q y w) (hst : l.stackTraces = false) (hX : CX p l e R s m args below meth c D kA Z A Q y w) (hC : 1 ≤ R.cells ∧ 6 ≤ R.slots) (hF : 8 ≤ R.frames) (hL : 143 ≤ R.locals) {u : CSt}  (h : B_X0_bit_0 N u = some (y, w))  (hS : CS D kA Z A s u H locs) (hl : lv_has ls 1 [(0, .ref (Z 208))]) : W p l e R s m args below meth c H locs 0 0 Q (F0 m 0 ls []) := by
  obtain ⟨⟨hx, hb, hml, hown, hts⟩, hK, hEV, hA⟩ := id X
  have hG : ∀ w ∈ GW, w.before args s = true := fun w h => hts w (List.mem_cons_of_mem _ h)
  unfold B_X0_bit_0 at h
  refine lv_aload_n hx hb dX0_bit_0 rfl (lv_at hl 0 rfl) ?_
  refine cg_X0_9 X hS dX0_bit_1 ?_
  refine lv_bipush (v := 46) hx hb dX0_bit_4 (by decide) ?_
  obtain ⟨r_2, u_1, h_u_1, h⟩ := bc_of h
  refine kc_X9_is_RX0 X  hS h_u_1 (Nat.le_trans (Nat.le_of_ble_eq_true rfl) hF) (Nat.le_trans (Nat.le_of_ble_eq_true rfl) hL) hl.1 (Nat.le_of_ble_eq_true rfl) dX0_bit_6 (fun H locs hS => ?_)
  refine lv_if_eq (tgt := 29) hx hb dX0_bit_9 (by decide) (fun c_3 => ?_) (fun c_3 => ?_)
  · have h := ip (c_3) h
    obtain ⟨e9, rfl⟩ := so9 h
    exact hE _ e9.symm _ _ _ _ hS dX0_bit_29
  · have h := im (c_3) h
    refine lv_aload_n hx hb dX0_bit_12 rfl (lv_at hl 0 rfl) ?_
    refine cg_X0_9 X hS dX0_bit_13 ?_
    obtain ⟨r_u_4, u_4, h_u_4, h⟩ := bc_of h
    refine kc_X9_next_RX0 X  hS h_u_4 (Nat.le_trans (Nat.le_of_ble_eq_true rfl) hF) (Nat.le_trans (Nat.le_of_ble_eq_true rfl) hL) hl.1 (Nat.le_of_ble_eq_true rfl) dX0_bit_16 (fun H locs hS => ?_)
    refine lv_aload_n hx hb dX0_bit_19 rfl (lv_at hl 0 rfl) ?_
    refine cg_X0_9 X hS dX0_bit_20 ?_
    refine lv_sipush (v := 129) hx hb dX0_bit_23 (by decide) ?_
    obtain ⟨y_6, u_5, h_u_5, h⟩ := bt_of h
    refine kc_X9_take_RX0 hst X  hS h_u_5 (Nat.le_trans (Nat.le_of_ble_eq_true rfl) hF) (Nat.le_trans (Nat.le_of_ble_eq_true rfl) hL) hC hl.1 (Nat.le_of_ble_eq_true rfl) dX0_bit_26 (fun r_u_5 hr_u_5 H locs hS => ?_) (fun x9 hn H locs q9 ce hS a1 a2 a3 => by obtain ⟨e2, rfl⟩ := bt_no h hn; exact hX _ e2 _ _ _ _ _ _ _ hS a1 a2 a3)
    replace h := bt_ok h hr_u_5
    obtain ⟨e9, rfl⟩ := so9 h
    exact hE _ e9.symm _ _ _ _ hS dX0_bit_29
def F_X0_bit (N : Nat) (u : CSt) : Option ((Sum Nat Int32) × CSt) := B_X0_bit_0 N u
set_option maxHeartbeats 4000000 in
theorem k_X0_bit (l : Launch) (hst : l.stackTraces = false) (D : va_G) (kA : Nat → ClassId) (V Z : Nat → Nat) (N : Nat) (u : CSt) (sz : Nat) {y : (Sum Nat Int32)} {w : CSt} (h : F_X0_bit N u = some (y, w)) : vx_Met l yX0_bit (Cond.code yX0_bit cX0_bit 1 none :: GW) { frames := 8, cells := 1, slots := 6, locals := 143 } (cPc D kA V Z [.ref (Z 208)] u sz) (cQvx D kA Z u sz y w) (cXc D kA Z u sz y w) 1 6 (va_A (CW kA Z u) sz) := by
  refine vx_ofW (cc := cX0_bit) (maxL := 1) (ret := none) (by decide) rfl ?_
  intro p e s m args below meth c s₁ Bd hml hxt hv
  obtain ⟨rfl, hsz, hP, hK, hD0, hE⟩ := hv
  have hts := atoms_spec (ws := Cond.code yX0_bit cX0_bit 1 none :: GW) Bd.pre
  have hl := lv_entry ([.ref (Z 208)]) (n := 1) (Nat.le_of_ble_eq_true rfl)
  rw [lg_entry_eq]
  generalize (lg_sl ([.ref (Z 208)]) ++ List.replicate (1 - (lg_sl ([.ref (Z 208)])).length) Slot.unset).toArray = ls at hl ⊢
  have hl : lv_has ls 1 [(0, .ref (Z 208))] := hl
  subst hsz
  have X : CC p s m ([.ref (Z 208)]).toArray c cX0_bit 1 (Cond.code yX0_bit cX0_bit 1 none) RX0 D kA V (va_A (CW kA Z u) s.heap.size) := ⟨⟨Bd.exec, Bd.bytes, hml, findClass_of_methodNamed Bd.named, hts⟩, hK, hE, fun q h => Or.inr h⟩
  refine b_X0_bit_0 X (cend_vx X Bd.returns Bd.notSynchronized) hst (cend_X X hxt Bd.notSynchronized) ⟨Nat.le_refl _, Nat.le_refl _⟩ (Nat.le_refl _) (Nat.le_refl _) h  ⟨hP, hD0.self, va_S.rf⟩ (lv_sub hl [0] rfl)
theorem kc_X0_bit_RX0 {cc : ByteArray} {pc nL : Nat} {c0 : Cond} {rest : List Value} {u w1 : CSt} {y1 : (Sum Nat Int32)} (hst : l.stackTraces = false) (X : CC p s m args c cc nL c0 RX0 D kA V A)  (hS : CS D kA Z A s u H locs) (h : F_X0_bit N u = some (y1, w1)) (hF : 8 + 1 ≤ R.frames) (hL : 8 + (1 + 11) + 143 ≤ R.locals) (hC : 1 ≤ R.cells ∧ 6 ≤ R.slots) (hl : ls.size = nL) (hc : (rest.map fun v => v.category).sum ≤ 8) (hdg : decode cc pc = .ok (.invokevirtual 109, 3)) (kk : ∀ r, y1 = .inr r → ∀ H locs, CS D kA Z A s w1 H locs → W p l e R s m args below meth c H locs 0 0 Q (F0 m (pc + 3) ls (rest))) (kx : ∀ x, y1 = .inl x → ∀ (H : Heap) (locs : List Loc) (q : Addr) (ce : Cell), CS D kA Z A s w1 H locs → H[q]? = some ce → ce.vm = .none → s.vm.findClass (exN x) = some ce.cls → vx_W p l e R s m args below meth c H locs 1 6 Q (F0 m pc ls rest) q) : W p l e R s m args below meth c H locs 0 0 Q (F0 m pc ls (.ref (Z 208) :: rest)) :=
  ccall_vx (n := 0) X hS (k_X0_bit l hst D kA V Z N   u H.size h) (gw_V gw_936 gw_938 gs_3_0 gw_7 gw_939) (by decide +kernel) (va_recv X.2.1 hS.1 (ci := 0) (q0 := 8) rfl (cw_lit rfl)) hF hL hC rfl hl hc rfl hdg kk kx
end C37gleaf
