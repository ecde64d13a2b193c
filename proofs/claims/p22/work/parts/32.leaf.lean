abbrev cX4_become : ByteArray := prog_6_method_2_code
def yX4_become : MethodName := ⟨RX4, "become", "(IJI)V"⟩
theorem dX4_become_0 : decode cX4_become 0 = .ok (.aload_n 0, 1) := by decide +kernel
theorem dX4_become_1 : decode cX4_become 1 = .ok (.lload_n 2, 1) := by decide +kernel
theorem dX4_become_2 : decode cX4_become 2 = .ok (.putfield 21, 3) := by decide +kernel
theorem dX4_become_5 : decode cX4_become 5 = .ok (.aload_n 0, 1) := by decide +kernel
theorem dX4_become_6 : decode cX4_become 6 = .ok (.iload 4, 2) := by decide +kernel
theorem dX4_become_8 : decode cX4_become 8 = .ok (.putfield 25, 3) := by decide +kernel
theorem dX4_become_11 : decode cX4_become 11 = .ok (.aload_n 0, 1) := by decide +kernel
theorem dX4_become_12 : decode cX4_become 12 = .ok (.iload_n 1, 1) := by decide +kernel
theorem dX4_become_13 : decode cX4_become 13 = .ok (.putfield 9, 3) := by decide +kernel
theorem dX4_become_16 : decode cX4_become 16 = .ok (.aload_n 0, 1) := by decide +kernel
theorem dX4_become_17 : decode cX4_become 17 = .ok (.iconst 0, 1) := by decide +kernel
theorem dX4_become_18 : decode cX4_become 18 = .ok (.putfield 28, 3) := by decide +kernel
theorem dX4_become_21 : decode cX4_become 21 = .ok (.aload_n 0, 1) := by decide +kernel
theorem dX4_become_22 : decode cX4_become 22 = .ok (.iconst 3, 1) := by decide +kernel
theorem dX4_become_23 : decode cX4_become 23 = .ok (.putfield 31, 3) := by decide +kernel
theorem dX4_become_26 : decode cX4_become 26 = .ok (.aload_n 0, 1) := by decide +kernel
theorem dX4_become_27 : decode cX4_become 27 = .ok (.iconst 0, 1) := by decide +kernel
theorem dX4_become_28 : decode cX4_become 28 = .ok (.putfield 34, 3) := by decide +kernel
theorem dX4_become_31 : decode cX4_become 31 = .ok (.aload_n 0, 1) := by decide +kernel
theorem dX4_become_32 : decode cX4_become 32 = .ok (.iconst 0, 1) := by decide +kernel
theorem dX4_become_33 : decode cX4_become 33 = .ok (.putfield 37, 3) := by decide +kernel
theorem dX4_become_36 : decode cX4_become 36 = .ok (.aload_n 0, 1) := by decide +kernel
theorem dX4_become_37 : decode cX4_become 37 = .ok (.iconst 0, 1) := by decide +kernel
theorem dX4_become_38 : decode cX4_become 38 = .ok (.putfield 40, 3) := by decide +kernel
theorem dX4_become_41 : decode cX4_become 41 = .ok (.aload_n 0, 1) := by decide +kernel
theorem dX4_become_42 : decode cX4_become 42 = .ok (.iconst 0, 1) := by decide +kernel
theorem dX4_become_43 : decode cX4_become 43 = .ok (.putfield 44, 3) := by decide +kernel
theorem dX4_become_46 : decode cX4_become 46 = .ok (.aload_n 0, 1) := by decide +kernel
theorem dX4_become_47 : decode cX4_become 47 = .ok (.lconst 0, 1) := by decide +kernel
theorem dX4_become_48 : decode cX4_become 48 = .ok (.putfield 47, 3) := by decide +kernel
theorem dX4_become_51 : decode cX4_become 51 = .ok (.aload_n 0, 1) := by decide +kernel
theorem dX4_become_52 : decode cX4_become 52 = .ok (.iconst 0, 1) := by decide +kernel
theorem dX4_become_53 : decode cX4_become 53 = .ok (.putfield 50, 3) := by decide +kernel
theorem dX4_become_56 : decode cX4_become 56 = .ok (.aload_n 0, 1) := by decide +kernel
theorem dX4_become_57 : decode cX4_become 57 = .ok (.iconst 0, 1) := by decide +kernel
theorem dX4_become_58 : decode cX4_become 58 = .ok (.putfield 53, 3) := by decide +kernel
theorem dX4_become_61 : decode cX4_become 61 = .ok (.aload_n 0, 1) := by decide +kernel
theorem dX4_become_62 : decode cX4_become 62 = .ok (.iconst 0, 1) := by decide +kernel
theorem dX4_become_63 : decode cX4_become 63 = .ok (.putfield 56, 3) := by decide +kernel
theorem dX4_become_66 : decode cX4_become 66 = .ok (.aload_n 0, 1) := by decide +kernel
theorem dX4_become_67 : decode cX4_become 67 = .ok (.iconst (-1), 1) := by decide +kernel
theorem dX4_become_68 : decode cX4_become 68 = .ok (.putfield 18, 3) := by decide +kernel
theorem dX4_become_71 : decode cX4_become 71 = .ok (.return_, 1) := by decide +kernel
abbrev cX4_isLocal : ByteArray := prog_6_method_3_code
def yX4_isLocal : MethodName := ⟨RX4, "isLocal", "()Z"⟩
theorem dX4_isLocal_0 : decode cX4_isLocal 0 = .ok (.aload_n 0, 1) := by decide +kernel
theorem dX4_isLocal_1 : decode cX4_isLocal 1 = .ok (.getfield 9, 3) := by decide +kernel
theorem dX4_isLocal_4 : decode cX4_isLocal 4 = .ok (.iconst 5, 1) := by decide +kernel
theorem dX4_isLocal_5 : decode cX4_isLocal 5 = .ok (.if_icmp .eq 12, 3) := by decide +kernel
theorem dX4_isLocal_8 : decode cX4_isLocal 8 = .ok (.aload_n 0, 1) := by decide +kernel
theorem dX4_isLocal_9 : decode cX4_isLocal 9 = .ok (.getfield 9, 3) := by decide +kernel
theorem dX4_isLocal_12 : decode cX4_isLocal 12 = .ok (.bipush 6, 2) := by decide +kernel
theorem dX4_isLocal_14 : decode cX4_isLocal 14 = .ok (.if_icmp .ne 7, 3) := by decide +kernel
theorem dX4_isLocal_17 : decode cX4_isLocal 17 = .ok (.iconst 1, 1) := by decide +kernel
theorem dX4_isLocal_18 : decode cX4_isLocal 18 = .ok (.goto 4, 3) := by decide +kernel
theorem dX4_isLocal_21 : decode cX4_isLocal 21 = .ok (.iconst 0, 1) := by decide +kernel
theorem dX4_isLocal_22 : decode cX4_isLocal 22 = .ok (.ireturn, 1) := by decide +kernel
abbrev cX4_hasNumbers : ByteArray := prog_6_method_4_code
def yX4_hasNumbers : MethodName := ⟨RX4, "hasNumbers", "()Z"⟩
theorem dX4_hasNumbers_0 : decode cX4_hasNumbers 0 = .ok (.aload_n 0, 1) := by decide +kernel
theorem dX4_hasNumbers_1 : decode cX4_hasNumbers 1 = .ok (.getfield 9, 3) := by decide +kernel
theorem dX4_hasNumbers_4 : decode cX4_hasNumbers 4 = .ok (.ifCond .eq 10, 3) := by decide +kernel
theorem dX4_hasNumbers_7 : decode cX4_hasNumbers 7 = .ok (.aload_n 0, 1) := by decide +kernel
theorem dX4_hasNumbers_8 : decode cX4_hasNumbers 8 = .ok (.invokevirtual 59, 3) := by decide +kernel
theorem dX4_hasNumbers_11 : decode cX4_hasNumbers 11 = .ok (.ifCond .eq 7, 3) := by decide +kernel
theorem dX4_hasNumbers_14 : decode cX4_hasNumbers 14 = .ok (.iconst 1, 1) := by decide +kernel
theorem dX4_hasNumbers_15 : decode cX4_hasNumbers 15 = .ok (.goto 4, 3) := by decide +kernel
theorem dX4_hasNumbers_18 : decode cX4_hasNumbers 18 = .ok (.iconst 0, 1) := by decide +kernel
theorem dX4_hasNumbers_19 : decode cX4_hasNumbers 19 = .ok (.ireturn, 1) := by decide +kernel
abbrev cX4_isPlaced : ByteArray := prog_6_method_5_code
def yX4_isPlaced : MethodName := ⟨RX4, "isPlaced", "()Z"⟩
theorem dX4_isPlaced_0 : decode cX4_isPlaced 0 = .ok (.aload_n 0, 1) := by decide +kernel
theorem dX4_isPlaced_1 : decode cX4_isPlaced 1 = .ok (.getfield 9, 3) := by decide +kernel
theorem dX4_isPlaced_4 : decode cX4_isPlaced 4 = .ok (.ifCond .ne 23, 3) := by decide +kernel
theorem dX4_isPlaced_7 : decode cX4_isPlaced 7 = .ok (.aload_n 0, 1) := by decide +kernel
theorem dX4_isPlaced_8 : decode cX4_isPlaced 8 = .ok (.getfield 34, 3) := by decide +kernel
theorem dX4_isPlaced_11 : decode cX4_isPlaced 11 = .ok (.iconst 2, 1) := by decide +kernel
theorem dX4_isPlaced_12 : decode cX4_isPlaced 12 = .ok (.if_icmp .eq 11, 3) := by decide +kernel
theorem dX4_isPlaced_15 : decode cX4_isPlaced 15 = .ok (.aload_n 0, 1) := by decide +kernel
theorem dX4_isPlaced_16 : decode cX4_isPlaced 16 = .ok (.getfield 34, 3) := by decide +kernel
theorem dX4_isPlaced_19 : decode cX4_isPlaced 19 = .ok (.iconst 3, 1) := by decide +kernel
theorem dX4_isPlaced_20 : decode cX4_isPlaced 20 = .ok (.if_icmp .ne 7, 3) := by decide +kernel
theorem dX4_isPlaced_23 : decode cX4_isPlaced 23 = .ok (.iconst 1, 1) := by decide +kernel
theorem dX4_isPlaced_24 : decode cX4_isPlaced 24 = .ok (.goto 4, 3) := by decide +kernel
theorem dX4_isPlaced_27 : decode cX4_isPlaced 27 = .ok (.iconst 0, 1) := by decide +kernel
theorem dX4_isPlaced_28 : decode cX4_isPlaced 28 = .ok (.ireturn, 1) := by decide +kernel
abbrev cX4_isInput : ByteArray := prog_6_method_6_code
def yX4_isInput : MethodName := ⟨RX4, "isInput", "()Z"⟩
theorem dX4_isInput_0 : decode cX4_isInput 0 = .ok (.aload_n 0, 1) := by decide +kernel
theorem dX4_isInput_1 : decode cX4_isInput 1 = .ok (.getfield 9, 3) := by decide +kernel
theorem dX4_isInput_4 : decode cX4_isInput 4 = .ok (.ifCond .ne 15, 3) := by decide +kernel
theorem dX4_isInput_7 : decode cX4_isInput 7 = .ok (.aload_n 0, 1) := by decide +kernel
theorem dX4_isInput_8 : decode cX4_isInput 8 = .ok (.getfield 34, 3) := by decide +kernel
theorem dX4_isInput_11 : decode cX4_isInput 11 = .ok (.iconst 2, 1) := by decide +kernel
theorem dX4_isInput_12 : decode cX4_isInput 12 = .ok (.if_icmp .ne 7, 3) := by decide +kernel
theorem dX4_isInput_15 : decode cX4_isInput 15 = .ok (.iconst 1, 1) := by decide +kernel
theorem dX4_isInput_16 : decode cX4_isInput 16 = .ok (.goto 4, 3) := by decide +kernel
theorem dX4_isInput_19 : decode cX4_isInput 19 = .ok (.iconst 0, 1) := by decide +kernel
theorem dX4_isInput_20 : decode cX4_isInput 20 = .ok (.ireturn, 1) := by decide +kernel
abbrev cX7_become : ByteArray := prog_9_method_2_code
def yX7_become : MethodName := ⟨RX7, "become", "(III)V"⟩
theorem dX7_become_0 : decode cX7_become 0 = .ok (.aload_n 0, 1) := by decide +kernel
theorem dX7_become_1 : decode cX7_become 1 = .ok (.iload_n 1, 1) := by decide +kernel
theorem dX7_become_2 : decode cX7_become 2 = .ok (.putfield 7, 3) := by decide +kernel
theorem dX7_become_5 : decode cX7_become 5 = .ok (.aload_n 0, 1) := by decide +kernel
theorem dX7_become_6 : decode cX7_become 6 = .ok (.iload_n 2, 1) := by decide +kernel
theorem dX7_become_7 : decode cX7_become 7 = .ok (.putfield 13, 3) := by decide +kernel
theorem dX7_become_10 : decode cX7_become 10 = .ok (.aload_n 0, 1) := by decide +kernel
theorem dX7_become_11 : decode cX7_become 11 = .ok (.iload_n 3, 1) := by decide +kernel
theorem dX7_become_12 : decode cX7_become 12 = .ok (.putfield 16, 3) := by decide +kernel
theorem dX7_become_15 : decode cX7_become 15 = .ok (.aload_n 0, 1) := by decide +kernel
theorem dX7_become_16 : decode cX7_become 16 = .ok (.iconst 0, 1) := by decide +kernel
theorem dX7_become_17 : decode cX7_become 17 = .ok (.putfield 19, 3) := by decide +kernel
theorem dX7_become_20 : decode cX7_become 20 = .ok (.aload_n 0, 1) := by decide +kernel
theorem dX7_become_21 : decode cX7_become 21 = .ok (.iconst 0, 1) := by decide +kernel
theorem dX7_become_22 : decode cX7_become 22 = .ok (.putfield 23, 3) := by decide +kernel
theorem dX7_become_25 : decode cX7_become 25 = .ok (.aload_n 0, 1) := by decide +kernel
theorem dX7_become_26 : decode cX7_become 26 = .ok (.iconst 0, 1) := by decide +kernel
theorem dX7_become_27 : decode cX7_become 27 = .ok (.putfield 26, 3) := by decide +kernel
theorem dX7_become_30 : decode cX7_become 30 = .ok (.aload_n 0, 1) := by decide +kernel
theorem dX7_become_31 : decode cX7_become 31 = .ok (.iconst 0, 1) := by decide +kernel
theorem dX7_become_32 : decode cX7_become 32 = .ok (.putfield 29, 3) := by decide +kernel
theorem dX7_become_35 : decode cX7_become 35 = .ok (.aload_n 0, 1) := by decide +kernel
theorem dX7_become_36 : decode cX7_become 36 = .ok (.iconst 0, 1) := by decide +kernel
theorem dX7_become_37 : decode cX7_become 37 = .ok (.putfield 32, 3) := by decide +kernel
theorem dX7_become_40 : decode cX7_become 40 = .ok (.aload_n 0, 1) := by decide +kernel
theorem dX7_become_41 : decode cX7_become 41 = .ok (.iconst 0, 1) := by decide +kernel
theorem dX7_become_42 : decode cX7_become 42 = .ok (.putfield 35, 3) := by decide +kernel
theorem dX7_become_45 : decode cX7_become 45 = .ok (.aload_n 0, 1) := by decide +kernel
theorem dX7_become_46 : decode cX7_become 46 = .ok (.iconst 0, 1) := by decide +kernel
theorem dX7_become_47 : decode cX7_become 47 = .ok (.putfield 38, 3) := by decide +kernel
theorem dX7_become_50 : decode cX7_become 50 = .ok (.return_, 1) := by decide +kernel
abbrev cX10_forget : ByteArray := prog_12_method_2_code
def yX10_forget : MethodName := ⟨RX10, "forget", "()V"⟩
theorem dX10_forget_0 : decode cX10_forget 0 = .ok (.aload_n 0, 1) := by decide +kernel
theorem dX10_forget_1 : decode cX10_forget 1 = .ok (.iconst 0, 1) := by decide +kernel
theorem dX10_forget_2 : decode cX10_forget 2 = .ok (.putfield 34, 3) := by decide +kernel
theorem dX10_forget_5 : decode cX10_forget 5 = .ok (.aload_n 0, 1) := by decide +kernel
theorem dX10_forget_6 : decode cX10_forget 6 = .ok (.iconst 0, 1) := by decide +kernel
theorem dX10_forget_7 : decode cX10_forget 7 = .ok (.putfield 38, 3) := by decide +kernel
theorem dX10_forget_10 : decode cX10_forget 10 = .ok (.aload_n 0, 1) := by decide +kernel
theorem dX10_forget_11 : decode cX10_forget 11 = .ok (.iconst 0, 1) := by decide +kernel
theorem dX10_forget_12 : decode cX10_forget 12 = .ok (.putfield 41, 3) := by decide +kernel
theorem dX10_forget_15 : decode cX10_forget 15 = .ok (.return_, 1) := by decide +kernel
abbrev cX10_indexOf : ByteArray := prog_12_method_3_code
def yX10_indexOf : MethodName := ⟨RX10, "indexOf", "(II)I"⟩
theorem dX10_indexOf_0 : decode cX10_indexOf 0 = .ok (.iconst 0, 1) := by decide +kernel
theorem dX10_indexOf_1 : decode cX10_indexOf 1 = .ok (.istore_n 3, 1) := by decide +kernel
theorem dX10_indexOf_2 : decode cX10_indexOf 2 = .ok (.iload_n 3, 1) := by decide +kernel
theorem dX10_indexOf_3 : decode cX10_indexOf 3 = .ok (.aload_n 0, 1) := by decide +kernel
theorem dX10_indexOf_4 : decode cX10_indexOf 4 = .ok (.getfield 34, 3) := by decide +kernel
theorem dX10_indexOf_7 : decode cX10_indexOf 7 = .ok (.if_icmp .ge 31, 3) := by decide +kernel
theorem dX10_indexOf_10 : decode cX10_indexOf 10 = .ok (.aload_n 0, 1) := by decide +kernel
theorem dX10_indexOf_11 : decode cX10_indexOf 11 = .ok (.getfield 9, 3) := by decide +kernel
theorem dX10_indexOf_14 : decode cX10_indexOf 14 = .ok (.iload_n 3, 1) := by decide +kernel
theorem dX10_indexOf_15 : decode cX10_indexOf 15 = .ok (.iaload, 1) := by decide +kernel
theorem dX10_indexOf_16 : decode cX10_indexOf 16 = .ok (.iload_n 1, 1) := by decide +kernel
theorem dX10_indexOf_17 : decode cX10_indexOf 17 = .ok (.if_icmp .ne 15, 3) := by decide +kernel
theorem dX10_indexOf_20 : decode cX10_indexOf 20 = .ok (.aload_n 0, 1) := by decide +kernel
theorem dX10_indexOf_21 : decode cX10_indexOf 21 = .ok (.getfield 15, 3) := by decide +kernel
theorem dX10_indexOf_24 : decode cX10_indexOf 24 = .ok (.iload_n 3, 1) := by decide +kernel
theorem dX10_indexOf_25 : decode cX10_indexOf 25 = .ok (.iaload, 1) := by decide +kernel
theorem dX10_indexOf_26 : decode cX10_indexOf 26 = .ok (.iload_n 2, 1) := by decide +kernel
theorem dX10_indexOf_27 : decode cX10_indexOf 27 = .ok (.if_icmp .ne 5, 3) := by decide +kernel
theorem dX10_indexOf_30 : decode cX10_indexOf 30 = .ok (.iload_n 3, 1) := by decide +kernel
theorem dX10_indexOf_31 : decode cX10_indexOf 31 = .ok (.ireturn, 1) := by decide +kernel
theorem dX10_indexOf_32 : decode cX10_indexOf 32 = .ok (.iinc 3 1, 3) := by decide +kernel
theorem dX10_indexOf_35 : decode cX10_indexOf 35 = .ok (.goto (-33), 3) := by decide +kernel
theorem dX10_indexOf_38 : decode cX10_indexOf 38 = .ok (.iconst (-1), 1) := by decide +kernel
theorem dX10_indexOf_39 : decode cX10_indexOf 39 = .ok (.ireturn, 1) := by decide +kernel
abbrev cX10_begin : ByteArray := prog_12_method_4_code
def yX10_begin : MethodName := ⟨RX10, "begin", "(IIJ)V"⟩
theorem dX10_begin_0 : decode cX10_begin 0 = .ok (.aload_n 0, 1) := by decide +kernel
theorem dX10_begin_1 : decode cX10_begin 1 = .ok (.getfield 34, 3) := by decide +kernel
theorem dX10_begin_4 : decode cX10_begin 4 = .ok (.bipush 16, 2) := by decide +kernel
theorem dX10_begin_6 : decode cX10_begin 6 = .ok (.if_icmp .ge 43, 3) := by decide +kernel
theorem dX10_begin_9 : decode cX10_begin 9 = .ok (.aload_n 0, 1) := by decide +kernel
theorem dX10_begin_10 : decode cX10_begin 10 = .ok (.getfield 9, 3) := by decide +kernel
theorem dX10_begin_13 : decode cX10_begin 13 = .ok (.aload_n 0, 1) := by decide +kernel
theorem dX10_begin_14 : decode cX10_begin 14 = .ok (.getfield 34, 3) := by decide +kernel
theorem dX10_begin_17 : decode cX10_begin 17 = .ok (.iload_n 1, 1) := by decide +kernel
theorem dX10_begin_18 : decode cX10_begin 18 = .ok (.iastore, 1) := by decide +kernel
theorem dX10_begin_19 : decode cX10_begin 19 = .ok (.aload_n 0, 1) := by decide +kernel
theorem dX10_begin_20 : decode cX10_begin 20 = .ok (.getfield 15, 3) := by decide +kernel
theorem dX10_begin_23 : decode cX10_begin 23 = .ok (.aload_n 0, 1) := by decide +kernel
theorem dX10_begin_24 : decode cX10_begin 24 = .ok (.getfield 34, 3) := by decide +kernel
theorem dX10_begin_27 : decode cX10_begin 27 = .ok (.iload_n 2, 1) := by decide +kernel
theorem dX10_begin_28 : decode cX10_begin 28 = .ok (.iastore, 1) := by decide +kernel
theorem dX10_begin_29 : decode cX10_begin 29 = .ok (.aload_n 0, 1) := by decide +kernel
theorem dX10_begin_30 : decode cX10_begin 30 = .ok (.getfield 18, 3) := by decide +kernel
theorem dX10_begin_33 : decode cX10_begin 33 = .ok (.aload_n 0, 1) := by decide +kernel
theorem dX10_begin_34 : decode cX10_begin 34 = .ok (.getfield 34, 3) := by decide +kernel
theorem dX10_begin_37 : decode cX10_begin 37 = .ok (.lload_n 3, 1) := by decide +kernel
theorem dX10_begin_38 : decode cX10_begin 38 = .ok (.lastore, 1) := by decide +kernel
theorem dX10_begin_39 : decode cX10_begin 39 = .ok (.aload_n 0, 1) := by decide +kernel
theorem dX10_begin_40 : decode cX10_begin 40 = .ok (.dup, 1) := by decide +kernel
theorem dX10_begin_41 : decode cX10_begin 41 = .ok (.getfield 34, 3) := by decide +kernel
theorem dX10_begin_44 : decode cX10_begin 44 = .ok (.iconst 1, 1) := by decide +kernel
theorem dX10_begin_45 : decode cX10_begin 45 = .ok (.iadd, 1) := by decide +kernel
theorem dX10_begin_46 : decode cX10_begin 46 = .ok (.putfield 34, 3) := by decide +kernel
theorem dX10_begin_49 : decode cX10_begin 49 = .ok (.return_, 1) := by decide +kernel
abbrev cX10_leave : ByteArray := prog_12_method_5_code
def yX10_leave : MethodName := ⟨RX10, "leave", "(I)V"⟩
theorem dX10_leave_0 : decode cX10_leave 0 = .ok (.iload_n 1, 1) := by decide +kernel
theorem dX10_leave_1 : decode cX10_leave 1 = .ok (.istore_n 2, 1) := by decide +kernel
theorem dX10_leave_2 : decode cX10_leave 2 = .ok (.iload_n 2, 1) := by decide +kernel
theorem dX10_leave_3 : decode cX10_leave 3 = .ok (.ifCond .lt 61, 3) := by decide +kernel
theorem dX10_leave_6 : decode cX10_leave 6 = .ok (.iload_n 2, 1) := by decide +kernel
theorem dX10_leave_7 : decode cX10_leave 7 = .ok (.iconst 1, 1) := by decide +kernel
theorem dX10_leave_8 : decode cX10_leave 8 = .ok (.iadd, 1) := by decide +kernel
theorem dX10_leave_9 : decode cX10_leave 9 = .ok (.aload_n 0, 1) := by decide +kernel
theorem dX10_leave_10 : decode cX10_leave 10 = .ok (.getfield 34, 3) := by decide +kernel
theorem dX10_leave_13 : decode cX10_leave 13 = .ok (.if_icmp .ge 51, 3) := by decide +kernel
theorem dX10_leave_16 : decode cX10_leave 16 = .ok (.aload_n 0, 1) := by decide +kernel
theorem dX10_leave_17 : decode cX10_leave 17 = .ok (.getfield 9, 3) := by decide +kernel
theorem dX10_leave_20 : decode cX10_leave 20 = .ok (.iload_n 2, 1) := by decide +kernel
theorem dX10_leave_21 : decode cX10_leave 21 = .ok (.aload_n 0, 1) := by decide +kernel
theorem dX10_leave_22 : decode cX10_leave 22 = .ok (.getfield 9, 3) := by decide +kernel
theorem dX10_leave_25 : decode cX10_leave 25 = .ok (.iload_n 2, 1) := by decide +kernel
theorem dX10_leave_26 : decode cX10_leave 26 = .ok (.iconst 1, 1) := by decide +kernel
theorem dX10_leave_27 : decode cX10_leave 27 = .ok (.iadd, 1) := by decide +kernel
theorem dX10_leave_28 : decode cX10_leave 28 = .ok (.iaload, 1) := by decide +kernel
theorem dX10_leave_29 : decode cX10_leave 29 = .ok (.iastore, 1) := by decide +kernel
theorem dX10_leave_30 : decode cX10_leave 30 = .ok (.aload_n 0, 1) := by decide +kernel
theorem dX10_leave_31 : decode cX10_leave 31 = .ok (.getfield 15, 3) := by decide +kernel
theorem dX10_leave_34 : decode cX10_leave 34 = .ok (.iload_n 2, 1) := by decide +kernel
theorem dX10_leave_35 : decode cX10_leave 35 = .ok (.aload_n 0, 1) := by decide +kernel
theorem dX10_leave_36 : decode cX10_leave 36 = .ok (.getfield 15, 3) := by decide +kernel
theorem dX10_leave_39 : decode cX10_leave 39 = .ok (.iload_n 2, 1) := by decide +kernel
theorem dX10_leave_40 : decode cX10_leave 40 = .ok (.iconst 1, 1) := by decide +kernel
theorem dX10_leave_41 : decode cX10_leave 41 = .ok (.iadd, 1) := by decide +kernel
theorem dX10_leave_42 : decode cX10_leave 42 = .ok (.iaload, 1) := by decide +kernel
theorem dX10_leave_43 : decode cX10_leave 43 = .ok (.iastore, 1) := by decide +kernel
theorem dX10_leave_44 : decode cX10_leave 44 = .ok (.aload_n 0, 1) := by decide +kernel
theorem dX10_leave_45 : decode cX10_leave 45 = .ok (.getfield 18, 3) := by decide +kernel
theorem dX10_leave_48 : decode cX10_leave 48 = .ok (.iload_n 2, 1) := by decide +kernel
theorem dX10_leave_49 : decode cX10_leave 49 = .ok (.aload_n 0, 1) := by decide +kernel
theorem dX10_leave_50 : decode cX10_leave 50 = .ok (.getfield 18, 3) := by decide +kernel
theorem dX10_leave_53 : decode cX10_leave 53 = .ok (.iload_n 2, 1) := by decide +kernel
theorem dX10_leave_54 : decode cX10_leave 54 = .ok (.iconst 1, 1) := by decide +kernel
theorem dX10_leave_55 : decode cX10_leave 55 = .ok (.iadd, 1) := by decide +kernel
theorem dX10_leave_56 : decode cX10_leave 56 = .ok (.laload, 1) := by decide +kernel
theorem dX10_leave_57 : decode cX10_leave 57 = .ok (.lastore, 1) := by decide +kernel
theorem dX10_leave_58 : decode cX10_leave 58 = .ok (.iinc 2 1, 3) := by decide +kernel
theorem dX10_leave_61 : decode cX10_leave 61 = .ok (.goto (-59), 3) := by decide +kernel
theorem dX10_leave_64 : decode cX10_leave 64 = .ok (.aload_n 0, 1) := by decide +kernel
theorem dX10_leave_65 : decode cX10_leave 65 = .ok (.dup, 1) := by decide +kernel
theorem dX10_leave_66 : decode cX10_leave 66 = .ok (.getfield 34, 3) := by decide +kernel
theorem dX10_leave_69 : decode cX10_leave 69 = .ok (.iconst 1, 1) := by decide +kernel
theorem dX10_leave_70 : decode cX10_leave 70 = .ok (.isub, 1) := by decide +kernel
theorem dX10_leave_71 : decode cX10_leave 71 = .ok (.putfield 34, 3) := by decide +kernel
theorem dX10_leave_74 : decode cX10_leave 74 = .ok (.return_, 1) := by decide +kernel
abbrev cX10_see : ByteArray := prog_12_method_6_code
def yX10_see : MethodName := ⟨RX10, "see", "(IIJ)V"⟩
theorem dX10_see_0 : decode cX10_see 0 = .ok (.aload_n 0, 1) := by decide +kernel
theorem dX10_see_1 : decode cX10_see 1 = .ok (.getfield 18, 3) := by decide +kernel
theorem dX10_see_4 : decode cX10_see 4 = .ok (.iload_n 1, 1) := by decide +kernel
theorem dX10_see_5 : decode cX10_see 5 = .ok (.laload, 1) := by decide +kernel
theorem dX10_see_6 : decode cX10_see 6 = .ok (.lload_n 3, 1) := by decide +kernel
theorem dX10_see_7 : decode cX10_see 7 = .ok (.lcmp, 1) := by decide +kernel
theorem dX10_see_8 : decode cX10_see 8 = .ok (.ifCond .ne 4, 3) := by decide +kernel
theorem dX10_see_11 : decode cX10_see 11 = .ok (.return_, 1) := by decide +kernel
theorem dX10_see_12 : decode cX10_see 12 = .ok (.aload_n 0, 1) := by decide +kernel
theorem dX10_see_13 : decode cX10_see 13 = .ok (.getfield 18, 3) := by decide +kernel
theorem dX10_see_16 : decode cX10_see 16 = .ok (.iload_n 1, 1) := by decide +kernel
theorem dX10_see_17 : decode cX10_see 17 = .ok (.lload_n 3, 1) := by decide +kernel
theorem dX10_see_18 : decode cX10_see 18 = .ok (.lastore, 1) := by decide +kernel
theorem dX10_see_19 : decode cX10_see 19 = .ok (.aload_n 0, 1) := by decide +kernel
theorem dX10_see_20 : decode cX10_see 20 = .ok (.getfield 22, 3) := by decide +kernel
theorem dX10_see_23 : decode cX10_see 23 = .ok (.aload_n 0, 1) := by decide +kernel
theorem dX10_see_24 : decode cX10_see 24 = .ok (.getfield 41, 3) := by decide +kernel
theorem dX10_see_27 : decode cX10_see 27 = .ok (.iload_n 2, 1) := by decide +kernel
theorem dX10_see_28 : decode cX10_see 28 = .ok (.iastore, 1) := by decide +kernel
theorem dX10_see_29 : decode cX10_see 29 = .ok (.aload_n 0, 1) := by decide +kernel
theorem dX10_see_30 : decode cX10_see 30 = .ok (.getfield 25, 3) := by decide +kernel
theorem dX10_see_33 : decode cX10_see 33 = .ok (.aload_n 0, 1) := by decide +kernel
theorem dX10_see_34 : decode cX10_see 34 = .ok (.getfield 41, 3) := by decide +kernel
theorem dX10_see_37 : decode cX10_see 37 = .ok (.aload_n 0, 1) := by decide +kernel
theorem dX10_see_38 : decode cX10_see 38 = .ok (.getfield 9, 3) := by decide +kernel
theorem dX10_see_41 : decode cX10_see 41 = .ok (.iload_n 1, 1) := by decide +kernel
theorem dX10_see_42 : decode cX10_see 42 = .ok (.iaload, 1) := by decide +kernel
theorem dX10_see_43 : decode cX10_see 43 = .ok (.iastore, 1) := by decide +kernel
theorem dX10_see_44 : decode cX10_see 44 = .ok (.aload_n 0, 1) := by decide +kernel
theorem dX10_see_45 : decode cX10_see 45 = .ok (.getfield 28, 3) := by decide +kernel
theorem dX10_see_48 : decode cX10_see 48 = .ok (.aload_n 0, 1) := by decide +kernel
theorem dX10_see_49 : decode cX10_see 49 = .ok (.getfield 41, 3) := by decide +kernel
theorem dX10_see_52 : decode cX10_see 52 = .ok (.aload_n 0, 1) := by decide +kernel
theorem dX10_see_53 : decode cX10_see 53 = .ok (.getfield 15, 3) := by decide +kernel
theorem dX10_see_56 : decode cX10_see 56 = .ok (.iload_n 1, 1) := by decide +kernel
theorem dX10_see_57 : decode cX10_see 57 = .ok (.iaload, 1) := by decide +kernel
theorem dX10_see_58 : decode cX10_see 58 = .ok (.iastore, 1) := by decide +kernel
theorem dX10_see_59 : decode cX10_see 59 = .ok (.aload_n 0, 1) := by decide +kernel
theorem dX10_see_60 : decode cX10_see 60 = .ok (.getfield 31, 3) := by decide +kernel
theorem dX10_see_63 : decode cX10_see 63 = .ok (.aload_n 0, 1) := by decide +kernel
theorem dX10_see_64 : decode cX10_see 64 = .ok (.getfield 41, 3) := by decide +kernel
theorem dX10_see_67 : decode cX10_see 67 = .ok (.lload_n 3, 1) := by decide +kernel
theorem dX10_see_68 : decode cX10_see 68 = .ok (.lastore, 1) := by decide +kernel
theorem dX10_see_69 : decode cX10_see 69 = .ok (.aload_n 0, 1) := by decide +kernel
theorem dX10_see_70 : decode cX10_see 70 = .ok (.aload_n 0, 1) := by decide +kernel
theorem dX10_see_71 : decode cX10_see 71 = .ok (.getfield 41, 3) := by decide +kernel
theorem dX10_see_74 : decode cX10_see 74 = .ok (.iconst 1, 1) := by decide +kernel
theorem dX10_see_75 : decode cX10_see 75 = .ok (.iadd, 1) := by decide +kernel
theorem dX10_see_76 : decode cX10_see 76 = .ok (.bipush 100, 2) := by decide +kernel
theorem dX10_see_78 : decode cX10_see 78 = .ok (.irem, 1) := by decide +kernel
theorem dX10_see_79 : decode cX10_see 79 = .ok (.putfield 41, 3) := by decide +kernel
theorem dX10_see_82 : decode cX10_see 82 = .ok (.aload_n 0, 1) := by decide +kernel
theorem dX10_see_83 : decode cX10_see 83 = .ok (.aload_n 0, 1) := by decide +kernel
theorem dX10_see_84 : decode cX10_see 84 = .ok (.getfield 38, 3) := by decide +kernel
theorem dX10_see_87 : decode cX10_see 87 = .ok (.bipush 100, 2) := by decide +kernel
theorem dX10_see_89 : decode cX10_see 89 = .ok (.if_icmp .ge 12, 3) := by decide +kernel
theorem dX10_see_92 : decode cX10_see 92 = .ok (.aload_n 0, 1) := by decide +kernel
theorem dX10_see_93 : decode cX10_see 93 = .ok (.getfield 38, 3) := by decide +kernel
theorem dX10_see_96 : decode cX10_see 96 = .ok (.iconst 1, 1) := by decide +kernel
theorem dX10_see_97 : decode cX10_see 97 = .ok (.iadd, 1) := by decide +kernel
theorem dX10_see_98 : decode cX10_see 98 = .ok (.goto 5, 3) := by decide +kernel
theorem dX10_see_101 : decode cX10_see 101 = .ok (.bipush 100, 2) := by decide +kernel
theorem dX10_see_103 : decode cX10_see 103 = .ok (.putfield 38, 3) := by decide +kernel
theorem dX10_see_106 : decode cX10_see 106 = .ok (.return_, 1) := by decide +kernel
abbrev cX6_ofSort : ByteArray := prog_8_method_3_code
def yX6_ofSort : MethodName := ⟨RX6, "ofSort", "(I)I"⟩
theorem dX6_ofSort_0 : decode cX6_ofSort 0 = .ok (.aload_n 0, 1) := by decide +kernel
theorem dX6_ofSort_1 : decode cX6_ofSort 1 = .ok (.getfield 34, 3) := by decide +kernel
theorem dX6_ofSort_4 : decode cX6_ofSort 4 = .ok (.iload_n 1, 1) := by decide +kernel
theorem dX6_ofSort_5 : decode cX6_ofSort 5 = .ok (.iaload, 1) := by decide +kernel
theorem dX6_ofSort_6 : decode cX6_ofSort 6 = .ok (.ireturn, 1) := by decide +kernel
abbrev cX6_has : ByteArray := prog_8_method_4_code
def yX6_has : MethodName := ⟨RX6, "has", "(II)Z"⟩
theorem dX6_has_0 : decode cX6_has 0 = .ok (.iload_n 2, 1) := by decide +kernel
theorem dX6_has_1 : decode cX6_has 1 = .ok (.ifCond .lt 17, 3) := by decide +kernel
theorem dX6_has_4 : decode cX6_has 4 = .ok (.iload_n 2, 1) := by decide +kernel
theorem dX6_has_5 : decode cX6_has 5 = .ok (.aload_n 0, 1) := by decide +kernel
theorem dX6_has_6 : decode cX6_has 6 = .ok (.getfield 34, 3) := by decide +kernel
theorem dX6_has_9 : decode cX6_has 9 = .ok (.iload_n 1, 1) := by decide +kernel
theorem dX6_has_10 : decode cX6_has 10 = .ok (.iaload, 1) := by decide +kernel
theorem dX6_has_11 : decode cX6_has 11 = .ok (.if_icmp .ge 7, 3) := by decide +kernel
theorem dX6_has_14 : decode cX6_has 14 = .ok (.iconst 1, 1) := by decide +kernel
theorem dX6_has_15 : decode cX6_has 15 = .ok (.goto 4, 3) := by decide +kernel
theorem dX6_has_18 : decode cX6_has 18 = .ok (.iconst 0, 1) := by decide +kernel
theorem dX6_has_19 : decode cX6_has 19 = .ok (.ireturn, 1) := by decide +kernel
abbrev cX6_name : ByteArray := prog_8_method_6_code
def yX6_name : MethodName := ⟨RX6, "name", "(I)LSoftController$Name;"⟩
theorem dX6_name_0 : decode cX6_name 0 = .ok (.iload_n 1, 1) := by decide +kernel
theorem dX6_name_1 : decode cX6_name 1 = .ok (.ifCond .lt 20, 3) := by decide +kernel
theorem dX6_name_4 : decode cX6_name 4 = .ok (.iload_n 1, 1) := by decide +kernel
theorem dX6_name_5 : decode cX6_name 5 = .ok (.aload_n 0, 1) := by decide +kernel
theorem dX6_name_6 : decode cX6_name 6 = .ok (.getfield 92, 3) := by decide +kernel
theorem dX6_name_9 : decode cX6_name 9 = .ok (.if_icmp .ge 12, 3) := by decide +kernel
theorem dX6_name_12 : decode cX6_name 12 = .ok (.aload_n 0, 1) := by decide +kernel
theorem dX6_name_13 : decode cX6_name 13 = .ok (.getfield 11, 3) := by decide +kernel
theorem dX6_name_16 : decode cX6_name 16 = .ok (.iload_n 1, 1) := by decide +kernel
theorem dX6_name_17 : decode cX6_name 17 = .ok (.aaload, 1) := by decide +kernel
theorem dX6_name_18 : decode cX6_name 18 = .ok (.goto 7, 3) := by decide +kernel
theorem dX6_name_21 : decode cX6_name 21 = .ok (.aload_n 0, 1) := by decide +kernel
theorem dX6_name_22 : decode cX6_name 22 = .ok (.getfield 25, 3) := by decide +kernel
theorem dX6_name_25 : decode cX6_name 25 = .ok (.areturn, 1) := by decide +kernel
abbrev cX6_nth : ByteArray := prog_8_method_5_code
def yX6_nth : MethodName := ⟨RX6, "nth", "(II)LSoftController$Name;"⟩
theorem dX6_nth_0 : decode cX6_nth 0 = .ok (.aload_n 0, 1) := by decide +kernel
theorem dX6_nth_1 : decode cX6_nth 1 = .ok (.iload_n 1, 1) := by decide +kernel
theorem dX6_nth_2 : decode cX6_nth 2 = .ok (.iload_n 2, 1) := by decide +kernel
theorem dX6_nth_3 : decode cX6_nth 3 = .ok (.invokevirtual 107, 3) := by decide +kernel
theorem dX6_nth_6 : decode cX6_nth 6 = .ok (.ifCond .eq 18, 3) := by decide +kernel
theorem dX6_nth_9 : decode cX6_nth 9 = .ok (.aload_n 0, 1) := by decide +kernel
theorem dX6_nth_10 : decode cX6_nth 10 = .ok (.aload_n 0, 1) := by decide +kernel
theorem dX6_nth_11 : decode cX6_nth 11 = .ok (.getfield 31, 3) := by decide +kernel
theorem dX6_nth_14 : decode cX6_nth 14 = .ok (.iload_n 1, 1) := by decide +kernel
theorem dX6_nth_15 : decode cX6_nth 15 = .ok (.aaload, 1) := by decide +kernel
theorem dX6_nth_16 : decode cX6_nth 16 = .ok (.iload_n 2, 1) := by decide +kernel
theorem dX6_nth_17 : decode cX6_nth 17 = .ok (.iaload, 1) := by decide +kernel
theorem dX6_nth_18 : decode cX6_nth 18 = .ok (.invokevirtual 111, 3) := by decide +kernel
theorem dX6_nth_21 : decode cX6_nth 21 = .ok (.goto 7, 3) := by decide +kernel
theorem dX6_nth_24 : decode cX6_nth 24 = .ok (.aload_n 0, 1) := by decide +kernel
theorem dX6_nth_25 : decode cX6_nth 25 = .ok (.getfield 25, 3) := by decide +kernel
theorem dX6_nth_28 : decode cX6_nth 28 = .ok (.areturn, 1) := by decide +kernel
abbrev cX6_local : ByteArray := prog_8_method_7_code
def yX6_local : MethodName := ⟨RX6, "local", "(LSoftController$Name;I)LSoftController$Name;"⟩
theorem dX6_local_0 : decode cX6_local 0 = .ok (.iload_n 2, 1) := by decide +kernel
theorem dX6_local_1 : decode cX6_local 1 = .ok (.ifCond .lt 26, 3) := by decide +kernel
theorem dX6_local_4 : decode cX6_local 4 = .ok (.iload_n 2, 1) := by decide +kernel
theorem dX6_local_5 : decode cX6_local 5 = .ok (.aload_n 1, 1) := by decide +kernel
theorem dX6_local_6 : decode cX6_local 6 = .ok (.getfield 115, 3) := by decide +kernel
theorem dX6_local_9 : decode cX6_local 9 = .ok (.if_icmp .ge 18, 3) := by decide +kernel
theorem dX6_local_12 : decode cX6_local 12 = .ok (.aload_n 0, 1) := by decide +kernel
theorem dX6_local_13 : decode cX6_local 13 = .ok (.aload_n 1, 1) := by decide +kernel
theorem dX6_local_14 : decode cX6_local 14 = .ok (.getfield 118, 3) := by decide +kernel
theorem dX6_local_17 : decode cX6_local 17 = .ok (.iconst 1, 1) := by decide +kernel
theorem dX6_local_18 : decode cX6_local 18 = .ok (.iadd, 1) := by decide +kernel
theorem dX6_local_19 : decode cX6_local 19 = .ok (.iload_n 2, 1) := by decide +kernel
theorem dX6_local_20 : decode cX6_local 20 = .ok (.iadd, 1) := by decide +kernel
theorem dX6_local_21 : decode cX6_local 21 = .ok (.invokevirtual 111, 3) := by decide +kernel
theorem dX6_local_24 : decode cX6_local 24 = .ok (.goto 7, 3) := by decide +kernel
theorem dX6_local_27 : decode cX6_local 27 = .ok (.aload_n 0, 1) := by decide +kernel
theorem dX6_local_28 : decode cX6_local 28 = .ok (.getfield 25, 3) := by decide +kernel
theorem dX6_local_31 : decode cX6_local 31 = .ok (.areturn, 1) := by decide +kernel
abbrev cX6_localCalled : ByteArray := prog_8_method_8_code
def yX6_localCalled : MethodName := ⟨RX6, "localCalled", "(LSoftController$Name;JI)LSoftController$Name;"⟩
theorem dX6_localCalled_0 : decode cX6_localCalled 0 = .ok (.aload_n 1, 1) := by decide +kernel
theorem dX6_localCalled_1 : decode cX6_localCalled 1 = .ok (.getfield 118, 3) := by decide +kernel
theorem dX6_localCalled_4 : decode cX6_localCalled 4 = .ok (.iconst 1, 1) := by decide +kernel
theorem dX6_localCalled_5 : decode cX6_localCalled 5 = .ok (.iadd, 1) := by decide +kernel
theorem dX6_localCalled_6 : decode cX6_localCalled 6 = .ok (.istore 5, 2) := by decide +kernel
theorem dX6_localCalled_8 : decode cX6_localCalled 8 = .ok (.iload 5, 2) := by decide +kernel
theorem dX6_localCalled_10 : decode cX6_localCalled 10 = .ok (.istore 6, 2) := by decide +kernel
theorem dX6_localCalled_12 : decode cX6_localCalled 12 = .ok (.iload 6, 2) := by decide +kernel
theorem dX6_localCalled_14 : decode cX6_localCalled 14 = .ok (.iload 5, 2) := by decide +kernel
theorem dX6_localCalled_16 : decode cX6_localCalled 16 = .ok (.aload_n 1, 1) := by decide +kernel
theorem dX6_localCalled_17 : decode cX6_localCalled 17 = .ok (.getfield 115, 3) := by decide +kernel
theorem dX6_localCalled_20 : decode cX6_localCalled 20 = .ok (.iadd, 1) := by decide +kernel
theorem dX6_localCalled_21 : decode cX6_localCalled 21 = .ok (.if_icmp .ge 56, 3) := by decide +kernel
theorem dX6_localCalled_24 : decode cX6_localCalled 24 = .ok (.iload 6, 2) := by decide +kernel
theorem dX6_localCalled_26 : decode cX6_localCalled 26 = .ok (.aload_n 0, 1) := by decide +kernel
theorem dX6_localCalled_27 : decode cX6_localCalled 27 = .ok (.getfield 92, 3) := by decide +kernel
theorem dX6_localCalled_30 : decode cX6_localCalled 30 = .ok (.if_icmp .ge 47, 3) := by decide +kernel
theorem dX6_localCalled_33 : decode cX6_localCalled 33 = .ok (.aload_n 0, 1) := by decide +kernel
theorem dX6_localCalled_34 : decode cX6_localCalled 34 = .ok (.getfield 11, 3) := by decide +kernel
theorem dX6_localCalled_37 : decode cX6_localCalled 37 = .ok (.iload 6, 2) := by decide +kernel
theorem dX6_localCalled_39 : decode cX6_localCalled 39 = .ok (.aaload, 1) := by decide +kernel
theorem dX6_localCalled_40 : decode cX6_localCalled 40 = .ok (.getfield 121, 3) := by decide +kernel
theorem dX6_localCalled_43 : decode cX6_localCalled 43 = .ok (.lload_n 2, 1) := by decide +kernel
theorem dX6_localCalled_44 : decode cX6_localCalled 44 = .ok (.lcmp, 1) := by decide +kernel
theorem dX6_localCalled_45 : decode cX6_localCalled 45 = .ok (.ifCond .ne 26, 3) := by decide +kernel
theorem dX6_localCalled_48 : decode cX6_localCalled 48 = .ok (.aload_n 0, 1) := by decide +kernel
theorem dX6_localCalled_49 : decode cX6_localCalled 49 = .ok (.getfield 11, 3) := by decide +kernel
theorem dX6_localCalled_52 : decode cX6_localCalled 52 = .ok (.iload 6, 2) := by decide +kernel
theorem dX6_localCalled_54 : decode cX6_localCalled 54 = .ok (.aaload, 1) := by decide +kernel
theorem dX6_localCalled_55 : decode cX6_localCalled 55 = .ok (.getfield 125, 3) := by decide +kernel
theorem dX6_localCalled_58 : decode cX6_localCalled 58 = .ok (.iload 4, 2) := by decide +kernel
theorem dX6_localCalled_60 : decode cX6_localCalled 60 = .ok (.if_icmp .ne 11, 3) := by decide +kernel
theorem dX6_localCalled_63 : decode cX6_localCalled 63 = .ok (.aload_n 0, 1) := by decide +kernel
theorem dX6_localCalled_64 : decode cX6_localCalled 64 = .ok (.getfield 11, 3) := by decide +kernel
theorem dX6_localCalled_67 : decode cX6_localCalled 67 = .ok (.iload 6, 2) := by decide +kernel
theorem dX6_localCalled_69 : decode cX6_localCalled 69 = .ok (.aaload, 1) := by decide +kernel
theorem dX6_localCalled_70 : decode cX6_localCalled 70 = .ok (.areturn, 1) := by decide +kernel
theorem dX6_localCalled_71 : decode cX6_localCalled 71 = .ok (.iinc 6 1, 3) := by decide +kernel
theorem dX6_localCalled_74 : decode cX6_localCalled 74 = .ok (.goto (-62), 3) := by decide +kernel
theorem dX6_localCalled_77 : decode cX6_localCalled 77 = .ok (.aload_n 0, 1) := by decide +kernel
theorem dX6_localCalled_78 : decode cX6_localCalled 78 = .ok (.getfield 25, 3) := by decide +kernel
theorem dX6_localCalled_81 : decode cX6_localCalled 81 = .ok (.areturn, 1) := by decide +kernel
abbrev cX6_ofText : ByteArray := prog_8_method_9_code
def yX6_ofText : MethodName := ⟨RX6, "ofText", "(JI)LSoftController$Name;"⟩
theorem dX6_ofText_0 : decode cX6_ofText 0 = .ok (.iconst 0, 1) := by decide +kernel
theorem dX6_ofText_1 : decode cX6_ofText 1 = .ok (.istore 4, 2) := by decide +kernel
theorem dX6_ofText_3 : decode cX6_ofText 3 = .ok (.iload 4, 2) := by decide +kernel
theorem dX6_ofText_5 : decode cX6_ofText 5 = .ok (.aload_n 0, 1) := by decide +kernel
theorem dX6_ofText_6 : decode cX6_ofText 6 = .ok (.getfield 92, 3) := by decide +kernel
theorem dX6_ofText_9 : decode cX6_ofText 9 = .ok (.if_icmp .ge 49, 3) := by decide +kernel
theorem dX6_ofText_12 : decode cX6_ofText 12 = .ok (.aload_n 0, 1) := by decide +kernel
theorem dX6_ofText_13 : decode cX6_ofText 13 = .ok (.getfield 11, 3) := by decide +kernel
theorem dX6_ofText_16 : decode cX6_ofText 16 = .ok (.iload 4, 2) := by decide +kernel
theorem dX6_ofText_18 : decode cX6_ofText 18 = .ok (.aaload, 1) := by decide +kernel
theorem dX6_ofText_19 : decode cX6_ofText 19 = .ok (.astore 5, 2) := by decide +kernel
theorem dX6_ofText_21 : decode cX6_ofText 21 = .ok (.aload 5, 2) := by decide +kernel
theorem dX6_ofText_23 : decode cX6_ofText 23 = .ok (.getfield 121, 3) := by decide +kernel
theorem dX6_ofText_26 : decode cX6_ofText 26 = .ok (.lload_n 1, 1) := by decide +kernel
theorem dX6_ofText_27 : decode cX6_ofText 27 = .ok (.lcmp, 1) := by decide +kernel
theorem dX6_ofText_28 : decode cX6_ofText 28 = .ok (.ifCond .ne 24, 3) := by decide +kernel
theorem dX6_ofText_31 : decode cX6_ofText 31 = .ok (.aload 5, 2) := by decide +kernel
theorem dX6_ofText_33 : decode cX6_ofText 33 = .ok (.getfield 125, 3) := by decide +kernel
theorem dX6_ofText_36 : decode cX6_ofText 36 = .ok (.iload_n 3, 1) := by decide +kernel
theorem dX6_ofText_37 : decode cX6_ofText 37 = .ok (.if_icmp .ne 15, 3) := by decide +kernel
theorem dX6_ofText_40 : decode cX6_ofText 40 = .ok (.aload 5, 2) := by decide +kernel
theorem dX6_ofText_42 : decode cX6_ofText 42 = .ok (.getfield 128, 3) := by decide +kernel
theorem dX6_ofText_45 : decode cX6_ofText 45 = .ok (.iconst 4, 1) := by decide +kernel
theorem dX6_ofText_46 : decode cX6_ofText 46 = .ok (.if_icmp .gt 6, 3) := by decide +kernel
theorem dX6_ofText_49 : decode cX6_ofText 49 = .ok (.aload 5, 2) := by decide +kernel
theorem dX6_ofText_51 : decode cX6_ofText 51 = .ok (.areturn, 1) := by decide +kernel
theorem dX6_ofText_52 : decode cX6_ofText 52 = .ok (.iinc 4 1, 3) := by decide +kernel
theorem dX6_ofText_55 : decode cX6_ofText 55 = .ok (.goto (-52), 3) := by decide +kernel
theorem dX6_ofText_58 : decode cX6_ofText 58 = .ok (.iconst 0, 1) := by decide +kernel
theorem dX6_ofText_59 : decode cX6_ofText 59 = .ok (.istore 4, 2) := by decide +kernel
theorem dX6_ofText_61 : decode cX6_ofText 61 = .ok (.iload 4, 2) := by decide +kernel
theorem dX6_ofText_63 : decode cX6_ofText 63 = .ok (.aload_n 0, 1) := by decide +kernel
theorem dX6_ofText_64 : decode cX6_ofText 64 = .ok (.getfield 21, 3) := by decide +kernel
theorem dX6_ofText_67 : decode cX6_ofText 67 = .ok (.arraylength, 1) := by decide +kernel
theorem dX6_ofText_68 : decode cX6_ofText 68 = .ok (.if_icmp .ge 36, 3) := by decide +kernel
theorem dX6_ofText_71 : decode cX6_ofText 71 = .ok (.iload_n 3, 1) := by decide +kernel
theorem dX6_ofText_72 : decode cX6_ofText 72 = .ok (.ifCond .ne 32, 3) := by decide +kernel
theorem dX6_ofText_75 : decode cX6_ofText 75 = .ok (.aload_n 0, 1) := by decide +kernel
theorem dX6_ofText_76 : decode cX6_ofText 76 = .ok (.getfield 21, 3) := by decide +kernel
theorem dX6_ofText_79 : decode cX6_ofText 79 = .ok (.iload 4, 2) := by decide +kernel
theorem dX6_ofText_81 : decode cX6_ofText 81 = .ok (.aaload, 1) := by decide +kernel
theorem dX6_ofText_82 : decode cX6_ofText 82 = .ok (.getfield 121, 3) := by decide +kernel
theorem dX6_ofText_85 : decode cX6_ofText 85 = .ok (.lload_n 1, 1) := by decide +kernel
theorem dX6_ofText_86 : decode cX6_ofText 86 = .ok (.lcmp, 1) := by decide +kernel
theorem dX6_ofText_87 : decode cX6_ofText 87 = .ok (.ifCond .ne 11, 3) := by decide +kernel
theorem dX6_ofText_90 : decode cX6_ofText 90 = .ok (.aload_n 0, 1) := by decide +kernel
theorem dX6_ofText_91 : decode cX6_ofText 91 = .ok (.getfield 21, 3) := by decide +kernel
theorem dX6_ofText_94 : decode cX6_ofText 94 = .ok (.iload 4, 2) := by decide +kernel
theorem dX6_ofText_96 : decode cX6_ofText 96 = .ok (.aaload, 1) := by decide +kernel
theorem dX6_ofText_97 : decode cX6_ofText 97 = .ok (.areturn, 1) := by decide +kernel
theorem dX6_ofText_98 : decode cX6_ofText 98 = .ok (.iinc 4 1, 3) := by decide +kernel
theorem dX6_ofText_101 : decode cX6_ofText 101 = .ok (.goto (-40), 3) := by decide +kernel
theorem dX6_ofText_104 : decode cX6_ofText 104 = .ok (.aload_n 0, 1) := by decide +kernel
theorem dX6_ofText_105 : decode cX6_ofText 105 = .ok (.getfield 25, 3) := by decide +kernel
theorem dX6_ofText_108 : decode cX6_ofText 108 = .ok (.areturn, 1) := by decide +kernel
abbrev cX6_add : ByteArray := prog_8_method_11_code
def yX6_add : MethodName := ⟨RX6, "add", "(IJI)LSoftController$Name;"⟩
theorem dX6_add_0 : decode cX6_add 0 = .ok (.aload_n 0, 1) := by decide +kernel
theorem dX6_add_1 : decode cX6_add 1 = .ok (.getfield 92, 3) := by decide +kernel
theorem dX6_add_4 : decode cX6_add 4 = .ok (.sipush 160, 3) := by decide +kernel
theorem dX6_add_7 : decode cX6_add 7 = .ok (.if_icmp .lt 8, 3) := by decide +kernel
theorem dX6_add_10 : decode cX6_add 10 = .ok (.aload_n 0, 1) := by decide +kernel
theorem dX6_add_11 : decode cX6_add 11 = .ok (.getfield 25, 3) := by decide +kernel
theorem dX6_add_14 : decode cX6_add 14 = .ok (.areturn, 1) := by decide +kernel
theorem dX6_add_15 : decode cX6_add 15 = .ok (.aload_n 0, 1) := by decide +kernel
theorem dX6_add_16 : decode cX6_add 16 = .ok (.getfield 11, 3) := by decide +kernel
theorem dX6_add_19 : decode cX6_add 19 = .ok (.aload_n 0, 1) := by decide +kernel
theorem dX6_add_20 : decode cX6_add 20 = .ok (.getfield 92, 3) := by decide +kernel
theorem dX6_add_23 : decode cX6_add 23 = .ok (.aaload, 1) := by decide +kernel
theorem dX6_add_24 : decode cX6_add 24 = .ok (.astore 5, 2) := by decide +kernel
theorem dX6_add_26 : decode cX6_add 26 = .ok (.aload 5, 2) := by decide +kernel
theorem dX6_add_28 : decode cX6_add 28 = .ok (.iload_n 1, 1) := by decide +kernel
theorem dX6_add_29 : decode cX6_add 29 = .ok (.lload_n 2, 1) := by decide +kernel
theorem dX6_add_30 : decode cX6_add 30 = .ok (.iload 4, 2) := by decide +kernel
theorem dX6_add_32 : decode cX6_add 32 = .ok (.invokevirtual 75, 3) := by decide +kernel
theorem dX6_add_35 : decode cX6_add 35 = .ok (.aload 5, 2) := by decide +kernel
theorem dX6_add_37 : decode cX6_add 37 = .ok (.aload_n 0, 1) := by decide +kernel
theorem dX6_add_38 : decode cX6_add 38 = .ok (.getfield 92, 3) := by decide +kernel
theorem dX6_add_41 : decode cX6_add 41 = .ok (.putfield 118, 3) := by decide +kernel
theorem dX6_add_44 : decode cX6_add 44 = .ok (.iload_n 1, 1) := by decide +kernel
theorem dX6_add_45 : decode cX6_add 45 = .ok (.iconst 4, 1) := by decide +kernel
theorem dX6_add_46 : decode cX6_add 46 = .ok (.if_icmp .gt 40, 3) := by decide +kernel
theorem dX6_add_49 : decode cX6_add 49 = .ok (.aload 5, 2) := by decide +kernel
theorem dX6_add_51 : decode cX6_add 51 = .ok (.aload_n 0, 1) := by decide +kernel
theorem dX6_add_52 : decode cX6_add 52 = .ok (.getfield 34, 3) := by decide +kernel
theorem dX6_add_55 : decode cX6_add 55 = .ok (.iload_n 1, 1) := by decide +kernel
theorem dX6_add_56 : decode cX6_add 56 = .ok (.iaload, 1) := by decide +kernel
theorem dX6_add_57 : decode cX6_add 57 = .ok (.putfield 79, 3) := by decide +kernel
theorem dX6_add_60 : decode cX6_add 60 = .ok (.aload_n 0, 1) := by decide +kernel
theorem dX6_add_61 : decode cX6_add 61 = .ok (.getfield 31, 3) := by decide +kernel
theorem dX6_add_64 : decode cX6_add 64 = .ok (.iload_n 1, 1) := by decide +kernel
theorem dX6_add_65 : decode cX6_add 65 = .ok (.aaload, 1) := by decide +kernel
theorem dX6_add_66 : decode cX6_add 66 = .ok (.aload 5, 2) := by decide +kernel
theorem dX6_add_68 : decode cX6_add 68 = .ok (.getfield 79, 3) := by decide +kernel
theorem dX6_add_71 : decode cX6_add 71 = .ok (.aload_n 0, 1) := by decide +kernel
theorem dX6_add_72 : decode cX6_add 72 = .ok (.getfield 92, 3) := by decide +kernel
theorem dX6_add_75 : decode cX6_add 75 = .ok (.iastore, 1) := by decide +kernel
theorem dX6_add_76 : decode cX6_add 76 = .ok (.aload_n 0, 1) := by decide +kernel
theorem dX6_add_77 : decode cX6_add 77 = .ok (.getfield 34, 3) := by decide +kernel
theorem dX6_add_80 : decode cX6_add 80 = .ok (.iload_n 1, 1) := by decide +kernel
theorem dX6_add_81 : decode cX6_add 81 = .ok (.dup2, 1) := by decide +kernel
theorem dX6_add_82 : decode cX6_add 82 = .ok (.iaload, 1) := by decide +kernel
theorem dX6_add_83 : decode cX6_add 83 = .ok (.iconst 1, 1) := by decide +kernel
theorem dX6_add_84 : decode cX6_add 84 = .ok (.iadd, 1) := by decide +kernel
theorem dX6_add_85 : decode cX6_add 85 = .ok (.iastore, 1) := by decide +kernel
theorem dX6_add_86 : decode cX6_add 86 = .ok (.aload_n 0, 1) := by decide +kernel
theorem dX6_add_87 : decode cX6_add 87 = .ok (.dup, 1) := by decide +kernel
theorem dX6_add_88 : decode cX6_add 88 = .ok (.getfield 92, 3) := by decide +kernel
theorem dX6_add_91 : decode cX6_add 91 = .ok (.iconst 1, 1) := by decide +kernel
theorem dX6_add_92 : decode cX6_add 92 = .ok (.iadd, 1) := by decide +kernel
theorem dX6_add_93 : decode cX6_add 93 = .ok (.putfield 92, 3) := by decide +kernel
theorem dX6_add_96 : decode cX6_add 96 = .ok (.aload 5, 2) := by decide +kernel
theorem dX6_add_98 : decode cX6_add 98 = .ok (.areturn, 1) := by decide +kernel
abbrev cX6_stoppedTasks : ByteArray := prog_8_method_12_code
def yX6_stoppedTasks : MethodName := ⟨RX6, "stoppedTasks", "()I"⟩
theorem dX6_stoppedTasks_0 : decode cX6_stoppedTasks 0 = .ok (.iconst 0, 1) := by decide +kernel
theorem dX6_stoppedTasks_1 : decode cX6_stoppedTasks 1 = .ok (.istore_n 1, 1) := by decide +kernel
theorem dX6_stoppedTasks_2 : decode cX6_stoppedTasks 2 = .ok (.iconst 0, 1) := by decide +kernel
theorem dX6_stoppedTasks_3 : decode cX6_stoppedTasks 3 = .ok (.istore_n 2, 1) := by decide +kernel
theorem dX6_stoppedTasks_4 : decode cX6_stoppedTasks 4 = .ok (.iload_n 2, 1) := by decide +kernel
theorem dX6_stoppedTasks_5 : decode cX6_stoppedTasks 5 = .ok (.aload_n 0, 1) := by decide +kernel
theorem dX6_stoppedTasks_6 : decode cX6_stoppedTasks 6 = .ok (.getfield 34, 3) := by decide +kernel
theorem dX6_stoppedTasks_9 : decode cX6_stoppedTasks 9 = .ok (.iconst 2, 1) := by decide +kernel
theorem dX6_stoppedTasks_10 : decode cX6_stoppedTasks 10 = .ok (.iaload, 1) := by decide +kernel
theorem dX6_stoppedTasks_11 : decode cX6_stoppedTasks 11 = .ok (.if_icmp .ge 29, 3) := by decide +kernel
theorem dX6_stoppedTasks_14 : decode cX6_stoppedTasks 14 = .ok (.iload_n 1, 1) := by decide +kernel
theorem dX6_stoppedTasks_15 : decode cX6_stoppedTasks 15 = .ok (.aload_n 0, 1) := by decide +kernel
theorem dX6_stoppedTasks_16 : decode cX6_stoppedTasks 16 = .ok (.getfield 39, 3) := by decide +kernel
theorem dX6_stoppedTasks_19 : decode cX6_stoppedTasks 19 = .ok (.iload_n 2, 1) := by decide +kernel
theorem dX6_stoppedTasks_20 : decode cX6_stoppedTasks 20 = .ok (.aaload, 1) := by decide +kernel
theorem dX6_stoppedTasks_21 : decode cX6_stoppedTasks 21 = .ok (.getfield 134, 3) := by decide +kernel
theorem dX6_stoppedTasks_24 : decode cX6_stoppedTasks 24 = .ok (.ifCond .eq 7, 3) := by decide +kernel
theorem dX6_stoppedTasks_27 : decode cX6_stoppedTasks 27 = .ok (.iconst 1, 1) := by decide +kernel
theorem dX6_stoppedTasks_28 : decode cX6_stoppedTasks 28 = .ok (.goto 4, 3) := by decide +kernel
theorem dX6_stoppedTasks_31 : decode cX6_stoppedTasks 31 = .ok (.iconst 0, 1) := by decide +kernel
theorem dX6_stoppedTasks_32 : decode cX6_stoppedTasks 32 = .ok (.iadd, 1) := by decide +kernel
theorem dX6_stoppedTasks_33 : decode cX6_stoppedTasks 33 = .ok (.istore_n 1, 1) := by decide +kernel
theorem dX6_stoppedTasks_34 : decode cX6_stoppedTasks 34 = .ok (.iinc 2 1, 3) := by decide +kernel
theorem dX6_stoppedTasks_37 : decode cX6_stoppedTasks 37 = .ok (.goto (-33), 3) := by decide +kernel
theorem dX6_stoppedTasks_40 : decode cX6_stoppedTasks 40 = .ok (.iload_n 1, 1) := by decide +kernel
theorem dX6_stoppedTasks_41 : decode cX6_stoppedTasks 41 = .ok (.ireturn, 1) := by decide +kernel
abbrev cX6_step : ByteArray := prog_8_method_13_code
def yX6_step : MethodName := ⟨RX6, "step", "(IIII)I"⟩
theorem dX6_step_0 : decode cX6_step 0 = .ok (.aload_n 0, 1) := by decide +kernel
theorem dX6_step_1 : decode cX6_step 1 = .ok (.getfield 95, 3) := by decide +kernel
theorem dX6_step_4 : decode cX6_step 4 = .ok (.sipush 3200, 3) := by decide +kernel
theorem dX6_step_7 : decode cX6_step 7 = .ok (.if_icmp .lt 5, 3) := by decide +kernel
theorem dX6_step_10 : decode cX6_step 10 = .ok (.iconst (-1), 1) := by decide +kernel
theorem dX6_step_11 : decode cX6_step 11 = .ok (.ireturn, 1) := by decide +kernel
theorem dX6_step_12 : decode cX6_step 12 = .ok (.aload_n 0, 1) := by decide +kernel
theorem dX6_step_13 : decode cX6_step 13 = .ok (.getfield 43, 3) := by decide +kernel
theorem dX6_step_16 : decode cX6_step 16 = .ok (.aload_n 0, 1) := by decide +kernel
theorem dX6_step_17 : decode cX6_step 17 = .ok (.getfield 95, 3) := by decide +kernel
theorem dX6_step_20 : decode cX6_step 20 = .ok (.iload_n 1, 1) := by decide +kernel
theorem dX6_step_21 : decode cX6_step 21 = .ok (.iastore, 1) := by decide +kernel
theorem dX6_step_22 : decode cX6_step 22 = .ok (.aload_n 0, 1) := by decide +kernel
theorem dX6_step_23 : decode cX6_step 23 = .ok (.getfield 46, 3) := by decide +kernel
theorem dX6_step_26 : decode cX6_step 26 = .ok (.aload_n 0, 1) := by decide +kernel
theorem dX6_step_27 : decode cX6_step 27 = .ok (.getfield 95, 3) := by decide +kernel
theorem dX6_step_30 : decode cX6_step 30 = .ok (.iload_n 2, 1) := by decide +kernel
theorem dX6_step_31 : decode cX6_step 31 = .ok (.iastore, 1) := by decide +kernel
theorem dX6_step_32 : decode cX6_step 32 = .ok (.aload_n 0, 1) := by decide +kernel
theorem dX6_step_33 : decode cX6_step 33 = .ok (.getfield 49, 3) := by decide +kernel
theorem dX6_step_36 : decode cX6_step 36 = .ok (.aload_n 0, 1) := by decide +kernel
theorem dX6_step_37 : decode cX6_step 37 = .ok (.getfield 95, 3) := by decide +kernel
theorem dX6_step_40 : decode cX6_step 40 = .ok (.iload_n 3, 1) := by decide +kernel
theorem dX6_step_41 : decode cX6_step 41 = .ok (.iastore, 1) := by decide +kernel
theorem dX6_step_42 : decode cX6_step 42 = .ok (.aload_n 0, 1) := by decide +kernel
theorem dX6_step_43 : decode cX6_step 43 = .ok (.getfield 52, 3) := by decide +kernel
theorem dX6_step_46 : decode cX6_step 46 = .ok (.aload_n 0, 1) := by decide +kernel
theorem dX6_step_47 : decode cX6_step 47 = .ok (.getfield 95, 3) := by decide +kernel
theorem dX6_step_50 : decode cX6_step 50 = .ok (.iload 4, 2) := by decide +kernel
theorem dX6_step_52 : decode cX6_step 52 = .ok (.iastore, 1) := by decide +kernel
theorem dX6_step_53 : decode cX6_step 53 = .ok (.aload_n 0, 1) := by decide +kernel
theorem dX6_step_54 : decode cX6_step 54 = .ok (.dup, 1) := by decide +kernel
theorem dX6_step_55 : decode cX6_step 55 = .ok (.getfield 95, 3) := by decide +kernel
theorem dX6_step_58 : decode cX6_step 58 = .ok (.iconst 1, 1) := by decide +kernel
theorem dX6_step_59 : decode cX6_step 59 = .ok (.iadd, 1) := by decide +kernel
theorem dX6_step_60 : decode cX6_step 60 = .ok (.putfield 95, 3) := by decide +kernel
theorem dX6_step_63 : decode cX6_step 63 = .ok (.aload_n 0, 1) := by decide +kernel
theorem dX6_step_64 : decode cX6_step 64 = .ok (.getfield 95, 3) := by decide +kernel
theorem dX6_step_67 : decode cX6_step 67 = .ok (.iconst 1, 1) := by decide +kernel
theorem dX6_step_68 : decode cX6_step 68 = .ok (.isub, 1) := by decide +kernel
theorem dX6_step_69 : decode cX6_step 69 = .ok (.ireturn, 1) := by decide +kernel
abbrev cX6_cost : ByteArray := prog_8_method_14_code
def yX6_cost : MethodName := ⟨RX6, "cost", "(I)V"⟩
theorem dX6_cost_0 : decode cX6_cost 0 = .ok (.aload_n 0, 1) := by decide +kernel
theorem dX6_cost_1 : decode cX6_cost 1 = .ok (.bipush 64, 2) := by decide +kernel
theorem dX6_cost_3 : decode cX6_cost 3 = .ok (.iconst 0, 1) := by decide +kernel
theorem dX6_cost_4 : decode cX6_cost 4 = .ok (.iconst 0, 1) := by decide +kernel
theorem dX6_cost_5 : decode cX6_cost 5 = .ok (.iload_n 1, 1) := by decide +kernel
theorem dX6_cost_6 : decode cX6_cost 6 = .ok (.invokevirtual 138, 3) := by decide +kernel
theorem dX6_cost_9 : decode cX6_cost 9 = .ok (.pop, 1) := by decide +kernel
theorem dX6_cost_10 : decode cX6_cost 10 = .ok (.return_, 1) := by decide +kernel
abbrev cX6_constant : ByteArray := prog_8_method_15_code
def yX6_constant : MethodName := ⟨RX6, "constant", "(JII)V"⟩
theorem dX6_constant_0 : decode cX6_constant 0 = .ok (.aload_n 0, 1) := by decide +kernel
theorem dX6_constant_1 : decode cX6_constant 1 = .ok (.iconst 1, 1) := by decide +kernel
theorem dX6_constant_2 : decode cX6_constant 2 = .ok (.iload_n 3, 1) := by decide +kernel
theorem dX6_constant_3 : decode cX6_constant 3 = .ok (.iadd, 1) := by decide +kernel
theorem dX6_constant_4 : decode cX6_constant 4 = .ok (.lload_n 1, 1) := by decide +kernel
theorem dX6_constant_5 : decode cX6_constant 5 = .ok (.bipush 32, 2) := by decide +kernel
theorem dX6_constant_7 : decode cX6_constant 7 = .ok (.lshr, 1) := by decide +kernel
theorem dX6_constant_8 : decode cX6_constant 8 = .ok (.l2i, 1) := by decide +kernel
theorem dX6_constant_9 : decode cX6_constant 9 = .ok (.lload_n 1, 1) := by decide +kernel
theorem dX6_constant_10 : decode cX6_constant 10 = .ok (.l2i, 1) := by decide +kernel
theorem dX6_constant_11 : decode cX6_constant 11 = .ok (.iload 4, 2) := by decide +kernel
theorem dX6_constant_13 : decode cX6_constant 13 = .ok (.invokevirtual 138, 3) := by decide +kernel
theorem dX6_constant_16 : decode cX6_constant 16 = .ok (.pop, 1) := by decide +kernel
theorem dX6_constant_17 : decode cX6_constant 17 = .ok (.return_, 1) := by decide +kernel
abbrev cX6_land : ByteArray := prog_8_method_16_code
def yX6_land : MethodName := ⟨RX6, "land", "(I)V"⟩
theorem dX6_land_0 : decode cX6_land 0 = .ok (.iload_n 1, 1) := by decide +kernel
theorem dX6_land_1 : decode cX6_land 1 = .ok (.istore_n 2, 1) := by decide +kernel
theorem dX6_land_2 : decode cX6_land 2 = .ok (.iconst 0, 1) := by decide +kernel
theorem dX6_land_3 : decode cX6_land 3 = .ok (.istore_n 3, 1) := by decide +kernel
theorem dX6_land_4 : decode cX6_land 4 = .ok (.iload_n 3, 1) := by decide +kernel
theorem dX6_land_5 : decode cX6_land 5 = .ok (.sipush 3200, 3) := by decide +kernel
theorem dX6_land_8 : decode cX6_land 8 = .ok (.if_icmp .ge 42, 3) := by decide +kernel
theorem dX6_land_11 : decode cX6_land 11 = .ok (.iload_n 2, 1) := by decide +kernel
theorem dX6_land_12 : decode cX6_land 12 = .ok (.ifCond .lt 38, 3) := by decide +kernel
theorem dX6_land_15 : decode cX6_land 15 = .ok (.iload_n 2, 1) := by decide +kernel
theorem dX6_land_16 : decode cX6_land 16 = .ok (.aload_n 0, 1) := by decide +kernel
theorem dX6_land_17 : decode cX6_land 17 = .ok (.getfield 95, 3) := by decide +kernel
theorem dX6_land_20 : decode cX6_land 20 = .ok (.if_icmp .ge 30, 3) := by decide +kernel
theorem dX6_land_23 : decode cX6_land 23 = .ok (.aload_n 0, 1) := by decide +kernel
theorem dX6_land_24 : decode cX6_land 24 = .ok (.getfield 46, 3) := by decide +kernel
theorem dX6_land_27 : decode cX6_land 27 = .ok (.iload_n 2, 1) := by decide +kernel
theorem dX6_land_28 : decode cX6_land 28 = .ok (.iaload, 1) := by decide +kernel
theorem dX6_land_29 : decode cX6_land 29 = .ok (.istore 4, 2) := by decide +kernel
theorem dX6_land_31 : decode cX6_land 31 = .ok (.aload_n 0, 1) := by decide +kernel
theorem dX6_land_32 : decode cX6_land 32 = .ok (.getfield 46, 3) := by decide +kernel
theorem dX6_land_35 : decode cX6_land 35 = .ok (.iload_n 2, 1) := by decide +kernel
theorem dX6_land_36 : decode cX6_land 36 = .ok (.aload_n 0, 1) := by decide +kernel
theorem dX6_land_37 : decode cX6_land 37 = .ok (.getfield 95, 3) := by decide +kernel
theorem dX6_land_40 : decode cX6_land 40 = .ok (.iastore, 1) := by decide +kernel
theorem dX6_land_41 : decode cX6_land 41 = .ok (.iload 4, 2) := by decide +kernel
theorem dX6_land_43 : decode cX6_land 43 = .ok (.istore_n 2, 1) := by decide +kernel
theorem dX6_land_44 : decode cX6_land 44 = .ok (.iinc 3 1, 3) := by decide +kernel
theorem dX6_land_47 : decode cX6_land 47 = .ok (.goto (-43), 3) := by decide +kernel
theorem dX6_land_50 : decode cX6_land 50 = .ok (.return_, 1) := by decide +kernel
abbrev cX6_label : ByteArray := prog_8_method_17_code
def yX6_label : MethodName := ⟨RX6, "label", "(JJ)V"⟩
theorem dX6_label_0 : decode cX6_label 0 = .ok (.aload_n 0, 1) := by decide +kernel
theorem dX6_label_1 : decode cX6_label 1 = .ok (.getfield 98, 3) := by decide +kernel
theorem dX6_label_4 : decode cX6_label 4 = .ok (.sipush 750, 3) := by decide +kernel
theorem dX6_label_7 : decode cX6_label 7 = .ok (.if_icmp .ge 33, 3) := by decide +kernel
theorem dX6_label_10 : decode cX6_label 10 = .ok (.aload_n 0, 1) := by decide +kernel
theorem dX6_label_11 : decode cX6_label 11 = .ok (.getfield 55, 3) := by decide +kernel
theorem dX6_label_14 : decode cX6_label 14 = .ok (.aload_n 0, 1) := by decide +kernel
theorem dX6_label_15 : decode cX6_label 15 = .ok (.getfield 98, 3) := by decide +kernel
theorem dX6_label_18 : decode cX6_label 18 = .ok (.lload_n 1, 1) := by decide +kernel
theorem dX6_label_19 : decode cX6_label 19 = .ok (.lastore, 1) := by decide +kernel
theorem dX6_label_20 : decode cX6_label 20 = .ok (.aload_n 0, 1) := by decide +kernel
theorem dX6_label_21 : decode cX6_label 21 = .ok (.getfield 59, 3) := by decide +kernel
theorem dX6_label_24 : decode cX6_label 24 = .ok (.aload_n 0, 1) := by decide +kernel
theorem dX6_label_25 : decode cX6_label 25 = .ok (.getfield 98, 3) := by decide +kernel
theorem dX6_label_28 : decode cX6_label 28 = .ok (.lload_n 3, 1) := by decide +kernel
theorem dX6_label_29 : decode cX6_label 29 = .ok (.lastore, 1) := by decide +kernel
theorem dX6_label_30 : decode cX6_label 30 = .ok (.aload_n 0, 1) := by decide +kernel
theorem dX6_label_31 : decode cX6_label 31 = .ok (.dup, 1) := by decide +kernel
theorem dX6_label_32 : decode cX6_label 32 = .ok (.getfield 98, 3) := by decide +kernel
theorem dX6_label_35 : decode cX6_label 35 = .ok (.iconst 1, 1) := by decide +kernel
theorem dX6_label_36 : decode cX6_label 36 = .ok (.iadd, 1) := by decide +kernel
theorem dX6_label_37 : decode cX6_label 37 = .ok (.putfield 98, 3) := by decide +kernel
theorem dX6_label_40 : decode cX6_label 40 = .ok (.return_, 1) := by decide +kernel
abbrev cX6_liesIn : ByteArray := prog_8_method_18_code
def yX6_liesIn : MethodName := ⟨RX6, "liesIn", "(JII)Z"⟩
theorem dX6_liesIn_0 : decode cX6_liesIn 0 = .ok (.iload_n 3, 1) := by decide +kernel
theorem dX6_liesIn_1 : decode cX6_liesIn 1 = .ok (.istore 5, 2) := by decide +kernel
theorem dX6_liesIn_3 : decode cX6_liesIn 3 = .ok (.iload 5, 2) := by decide +kernel
theorem dX6_liesIn_5 : decode cX6_liesIn 5 = .ok (.iload_n 3, 1) := by decide +kernel
theorem dX6_liesIn_6 : decode cX6_liesIn 6 = .ok (.iload 4, 2) := by decide +kernel
theorem dX6_liesIn_8 : decode cX6_liesIn 8 = .ok (.iadd, 1) := by decide +kernel
theorem dX6_liesIn_9 : decode cX6_liesIn 9 = .ok (.if_icmp .ge 49, 3) := by decide +kernel
theorem dX6_liesIn_12 : decode cX6_liesIn 12 = .ok (.iload 5, 2) := by decide +kernel
theorem dX6_liesIn_14 : decode cX6_liesIn 14 = .ok (.ifCond .lt 44, 3) := by decide +kernel
theorem dX6_liesIn_17 : decode cX6_liesIn 17 = .ok (.iload 5, 2) := by decide +kernel
theorem dX6_liesIn_19 : decode cX6_liesIn 19 = .ok (.aload_n 0, 1) := by decide +kernel
theorem dX6_liesIn_20 : decode cX6_liesIn 20 = .ok (.getfield 98, 3) := by decide +kernel
theorem dX6_liesIn_23 : decode cX6_liesIn 23 = .ok (.if_icmp .ge 35, 3) := by decide +kernel
theorem dX6_liesIn_26 : decode cX6_liesIn 26 = .ok (.lload_n 1, 1) := by decide +kernel
theorem dX6_liesIn_27 : decode cX6_liesIn 27 = .ok (.aload_n 0, 1) := by decide +kernel
theorem dX6_liesIn_28 : decode cX6_liesIn 28 = .ok (.getfield 55, 3) := by decide +kernel
theorem dX6_liesIn_31 : decode cX6_liesIn 31 = .ok (.iload 5, 2) := by decide +kernel
theorem dX6_liesIn_33 : decode cX6_liesIn 33 = .ok (.laload, 1) := by decide +kernel
theorem dX6_liesIn_34 : decode cX6_liesIn 34 = .ok (.lcmp, 1) := by decide +kernel
theorem dX6_liesIn_35 : decode cX6_liesIn 35 = .ok (.ifCond .lt 17, 3) := by decide +kernel
theorem dX6_liesIn_38 : decode cX6_liesIn 38 = .ok (.lload_n 1, 1) := by decide +kernel
theorem dX6_liesIn_39 : decode cX6_liesIn 39 = .ok (.aload_n 0, 1) := by decide +kernel
theorem dX6_liesIn_40 : decode cX6_liesIn 40 = .ok (.getfield 59, 3) := by decide +kernel
theorem dX6_liesIn_43 : decode cX6_liesIn 43 = .ok (.iload 5, 2) := by decide +kernel
theorem dX6_liesIn_45 : decode cX6_liesIn 45 = .ok (.laload, 1) := by decide +kernel
theorem dX6_liesIn_46 : decode cX6_liesIn 46 = .ok (.lcmp, 1) := by decide +kernel
theorem dX6_liesIn_47 : decode cX6_liesIn 47 = .ok (.ifCond .gt 5, 3) := by decide +kernel
theorem dX6_liesIn_50 : decode cX6_liesIn 50 = .ok (.iconst 1, 1) := by decide +kernel
theorem dX6_liesIn_51 : decode cX6_liesIn 51 = .ok (.ireturn, 1) := by decide +kernel
theorem dX6_liesIn_52 : decode cX6_liesIn 52 = .ok (.iinc 5 1, 3) := by decide +kernel
theorem dX6_liesIn_55 : decode cX6_liesIn 55 = .ok (.goto (-52), 3) := by decide +kernel
theorem dX6_liesIn_58 : decode cX6_liesIn 58 = .ok (.iconst 0, 1) := by decide +kernel
theorem dX6_liesIn_59 : decode cX6_liesIn 59 = .ok (.ireturn, 1) := by decide +kernel
theorem gw_10 : (Jvm.Cond.initialized "SoftController$Program") ∈ GW := gw_t (tin_1 _ (List.mem_of_getElem? (i := 10) rfl)) rfl
theorem gw_1029 : (Jvm.Cond.methodLink "SoftController$Maker" (106 : Nat) ({ cls := "SoftController$Program", name := "ofText", desc := "(JI)LSoftController$Name;" } : Jvm.MethodName)) ∈ GW := gw_t (tin_5 _ (List.mem_of_getElem? (i := 69) rfl)) rfl
theorem gw_1030 : (Jvm.Cond.instanceMethod ({ cls := "SoftController$Program", name := "ofText", desc := "(JI)LSoftController$Name;" } : Jvm.MethodName)) ∈ GW := gw_t (tin_5 _ (List.mem_of_getElem? (i := 70) rfl)) rfl
theorem gw_1031 : (Jvm.Cond.selects "SoftController$Program" ({ cls := "SoftController$Program", name := "ofText", desc := "(JI)LSoftController$Name;" } : Jvm.MethodName) ({ cls := "SoftController$Program", name := "ofText", desc := "(JI)LSoftController$Name;" } : Jvm.MethodName)) ∈ GW := gw_t (tin_5 _ (List.mem_of_getElem? (i := 71) rfl)) rfl
theorem gw_1032 : (Jvm.Cond.code ({ cls := "SoftController$Program", name := "ofText", desc := "(JI)LSoftController$Name;" } : Jvm.MethodName) prog_8_method_9_code (6 : Nat) (Option.some (Jvm.ClassFile.FieldType.object "SoftController$Name"))) ∈ GW := gw_t (tin_5 _ (List.mem_of_getElem? (i := 72) rfl)) rfl
theorem gw_1033 : (Jvm.Cond.methodLink "SoftController$Maker" (113 : Nat) ({ cls := "SoftController$Program", name := "name", desc := "(I)LSoftController$Name;" } : Jvm.MethodName)) ∈ GW := gw_t (tin_5 _ (List.mem_of_getElem? (i := 73) rfl)) rfl
theorem gw_1034 : (Jvm.Cond.instanceMethod ({ cls := "SoftController$Program", name := "name", desc := "(I)LSoftController$Name;" } : Jvm.MethodName)) ∈ GW := gw_t (tin_5 _ (List.mem_of_getElem? (i := 74) rfl)) rfl
theorem gw_1035 : (Jvm.Cond.selects "SoftController$Program" ({ cls := "SoftController$Program", name := "name", desc := "(I)LSoftController$Name;" } : Jvm.MethodName) ({ cls := "SoftController$Program", name := "name", desc := "(I)LSoftController$Name;" } : Jvm.MethodName)) ∈ GW := gw_t (tin_5 _ (List.mem_of_getElem? (i := 75) rfl)) rfl
theorem gw_1036 : (Jvm.Cond.code ({ cls := "SoftController$Program", name := "name", desc := "(I)LSoftController$Name;" } : Jvm.MethodName) prog_8_method_6_code (2 : Nat) (Option.some (Jvm.ClassFile.FieldType.object "SoftController$Name"))) ∈ GW := gw_t (tin_5 _ (List.mem_of_getElem? (i := 76) rfl)) rfl
theorem gw_1037 : (Jvm.Cond.methodLink "SoftController$Maker" (117 : Nat) ({ cls := "SoftController$Program", name := "localCalled", desc := "(LSoftController$Name;JI)LSoftController$Name;" } : Jvm.MethodName)) ∈ GW := gw_t (tin_5 _ (List.mem_of_getElem? (i := 77) rfl)) rfl
theorem gw_1038 : (Jvm.Cond.instanceMethod ({ cls := "SoftController$Program", name := "localCalled", desc := "(LSoftController$Name;JI)LSoftController$Name;" } : Jvm.MethodName)) ∈ GW := gw_t (tin_5 _ (List.mem_of_getElem? (i := 78) rfl)) rfl
theorem gw_1039 : (Jvm.Cond.selects "SoftController$Program" ({ cls := "SoftController$Program", name := "localCalled", desc := "(LSoftController$Name;JI)LSoftController$Name;" } : Jvm.MethodName) ({ cls := "SoftController$Program", name := "localCalled", desc := "(LSoftController$Name;JI)LSoftController$Name;" } : Jvm.MethodName)) ∈ GW := gw_t (tin_5 _ (List.mem_of_getElem? (i := 79) rfl)) rfl
theorem gw_1040 : (Jvm.Cond.code ({ cls := "SoftController$Program", name := "localCalled", desc := "(LSoftController$Name;JI)LSoftController$Name;" } : Jvm.MethodName) prog_8_method_8_code (7 : Nat) (Option.some (Jvm.ClassFile.FieldType.object "SoftController$Name"))) ∈ GW := gw_t (tin_5 _ (List.mem_of_getElem? (i := 80) rfl)) rfl
theorem gw_1046 : (Jvm.Cond.methodLink "SoftController$Program" (111 : Nat) ({ cls := "SoftController$Program", name := "name", desc := "(I)LSoftController$Name;" } : Jvm.MethodName)) ∈ GW := gw_t (tin_5 _ (List.mem_of_getElem? (i := 86) rfl)) rfl
theorem gw_1049 : (Jvm.Cond.methodLink "SoftController$Maker" (132 : Nat) ({ cls := "SoftController$Program", name := "add", desc := "(IJI)LSoftController$Name;" } : Jvm.MethodName)) ∈ GW := gw_t (tin_5 _ (List.mem_of_getElem? (i := 89) rfl)) rfl
theorem gw_1050 : (Jvm.Cond.instanceMethod ({ cls := "SoftController$Program", name := "add", desc := "(IJI)LSoftController$Name;" } : Jvm.MethodName)) ∈ GW := gw_t (tin_5 _ (List.mem_of_getElem? (i := 90) rfl)) rfl
theorem gw_1051 : (Jvm.Cond.selects "SoftController$Program" ({ cls := "SoftController$Program", name := "add", desc := "(IJI)LSoftController$Name;" } : Jvm.MethodName) ({ cls := "SoftController$Program", name := "add", desc := "(IJI)LSoftController$Name;" } : Jvm.MethodName)) ∈ GW := gw_t (tin_5 _ (List.mem_of_getElem? (i := 91) rfl)) rfl
theorem gw_1052 : (Jvm.Cond.code ({ cls := "SoftController$Program", name := "add", desc := "(IJI)LSoftController$Name;" } : Jvm.MethodName) prog_8_method_11_code (6 : Nat) (Option.some (Jvm.ClassFile.FieldType.object "SoftController$Name"))) ∈ GW := gw_t (tin_5 _ (List.mem_of_getElem? (i := 92) rfl)) rfl
theorem gw_11 : (Jvm.Cond.initialized "SoftController$Name") ∈ GW := gw_t (tin_1 _ (List.mem_of_getElem? (i := 11) rfl)) rfl
theorem gw_1110 : (Jvm.Cond.methodLink "SoftController$Maker" (260 : Nat) ({ cls := "SoftController$Program", name := "cost", desc := "(I)V" } : Jvm.MethodName)) ∈ GW := gw_t (tin_5 _ (List.mem_of_getElem? (i := 150) rfl)) rfl
theorem gw_1111 : (Jvm.Cond.instanceMethod ({ cls := "SoftController$Program", name := "cost", desc := "(I)V" } : Jvm.MethodName)) ∈ GW := gw_t (tin_5 _ (List.mem_of_getElem? (i := 151) rfl)) rfl
theorem gw_1112 : (Jvm.Cond.selects "SoftController$Program" ({ cls := "SoftController$Program", name := "cost", desc := "(I)V" } : Jvm.MethodName) ({ cls := "SoftController$Program", name := "cost", desc := "(I)V" } : Jvm.MethodName)) ∈ GW := gw_t (tin_5 _ (List.mem_of_getElem? (i := 152) rfl)) rfl
theorem gw_1113 : (Jvm.Cond.code ({ cls := "SoftController$Program", name := "cost", desc := "(I)V" } : Jvm.MethodName) prog_8_method_14_code (2 : Nat) (Option.none : Option Jvm.ClassFile.FieldType)) ∈ GW := gw_t (tin_5 _ (List.mem_of_getElem? (i := 153) rfl)) rfl
theorem gw_1114 : (Jvm.Cond.methodLink "SoftController$Program" (138 : Nat) ({ cls := "SoftController$Program", name := "step", desc := "(IIII)I" } : Jvm.MethodName)) ∈ GW := gw_t (tin_5 _ (List.mem_of_getElem? (i := 154) rfl)) rfl
theorem gw_1115 : (Jvm.Cond.instanceMethod ({ cls := "SoftController$Program", name := "step", desc := "(IIII)I" } : Jvm.MethodName)) ∈ GW := gw_t (tin_5 _ (List.mem_of_getElem? (i := 155) rfl)) rfl
theorem gw_1116 : (Jvm.Cond.selects "SoftController$Program" ({ cls := "SoftController$Program", name := "step", desc := "(IIII)I" } : Jvm.MethodName) ({ cls := "SoftController$Program", name := "step", desc := "(IIII)I" } : Jvm.MethodName)) ∈ GW := gw_t (tin_5 _ (List.mem_of_getElem? (i := 156) rfl)) rfl
theorem gw_1117 : (Jvm.Cond.code ({ cls := "SoftController$Program", name := "step", desc := "(IIII)I" } : Jvm.MethodName) prog_8_method_13_code (5 : Nat) (Option.some Jvm.ClassFile.FieldType.int)) ∈ GW := gw_t (tin_5 _ (List.mem_of_getElem? (i := 157) rfl)) rfl
theorem gw_1140 : (Jvm.Cond.methodLink "SoftController$Terms" (186 : Nat) ({ cls := "SoftController$Program", name := "cost", desc := "(I)V" } : Jvm.MethodName)) ∈ GW := gw_t (tin_5 _ (List.mem_of_getElem? (i := 180) rfl)) rfl
theorem gw_1146 : (Jvm.Cond.methodLink "SoftController$Terms" (118 : Nat) ({ cls := "SoftController$Program", name := "step", desc := "(IIII)I" } : Jvm.MethodName)) ∈ GW := gw_t (tin_5 _ (List.mem_of_getElem? (i := 186) rfl)) rfl
theorem gw_1161 : (Jvm.Cond.methodLink "SoftController$Terms" (182 : Nat) ({ cls := "SoftController$Program", name := "constant", desc := "(JII)V" } : Jvm.MethodName)) ∈ GW := gw_t (tin_5 _ (List.mem_of_getElem? (i := 201) rfl)) rfl
theorem gw_1162 : (Jvm.Cond.instanceMethod ({ cls := "SoftController$Program", name := "constant", desc := "(JII)V" } : Jvm.MethodName)) ∈ GW := gw_t (tin_5 _ (List.mem_of_getElem? (i := 202) rfl)) rfl
theorem gw_1163 : (Jvm.Cond.selects "SoftController$Program" ({ cls := "SoftController$Program", name := "constant", desc := "(JII)V" } : Jvm.MethodName) ({ cls := "SoftController$Program", name := "constant", desc := "(JII)V" } : Jvm.MethodName)) ∈ GW := gw_t (tin_5 _ (List.mem_of_getElem? (i := 203) rfl)) rfl
theorem gw_1164 : (Jvm.Cond.code ({ cls := "SoftController$Program", name := "constant", desc := "(JII)V" } : Jvm.MethodName) prog_8_method_15_code (5 : Nat) (Option.none : Option Jvm.ClassFile.FieldType)) ∈ GW := gw_t (tin_5 _ (List.mem_of_getElem? (i := 204) rfl)) rfl
theorem gw_1180 : (Jvm.Cond.methodLink "SoftController$Terms" (51 : Nat) ({ cls := "SoftController$Program", name := "name", desc := "(I)LSoftController$Name;" } : Jvm.MethodName)) ∈ GW := gw_t (tin_5 _ (List.mem_of_getElem? (i := 220) rfl)) rfl
theorem gw_1181 : (Jvm.Cond.methodLink "SoftController$Terms" (55 : Nat) ({ cls := "SoftController$Program", name := "localCalled", desc := "(LSoftController$Name;JI)LSoftController$Name;" } : Jvm.MethodName)) ∈ GW := gw_t (tin_5 _ (List.mem_of_getElem? (i := 221) rfl)) rfl
theorem gw_1182 : (Jvm.Cond.methodLink "SoftController$Terms" (64 : Nat) ({ cls := "SoftController$Program", name := "ofText", desc := "(JI)LSoftController$Name;" } : Jvm.MethodName)) ∈ GW := gw_t (tin_5 _ (List.mem_of_getElem? (i := 222) rfl)) rfl
theorem gw_1192 : (Jvm.Cond.methodLink "SoftController$Terms" (252 : Nat) ({ cls := "SoftController$Program", name := "local", desc := "(LSoftController$Name;I)LSoftController$Name;" } : Jvm.MethodName)) ∈ GW := gw_t (tin_5 _ (List.mem_of_getElem? (i := 232) rfl)) rfl
theorem gw_1193 : (Jvm.Cond.instanceMethod ({ cls := "SoftController$Program", name := "local", desc := "(LSoftController$Name;I)LSoftController$Name;" } : Jvm.MethodName)) ∈ GW := gw_t (tin_5 _ (List.mem_of_getElem? (i := 233) rfl)) rfl
theorem gw_1194 : (Jvm.Cond.selects "SoftController$Program" ({ cls := "SoftController$Program", name := "local", desc := "(LSoftController$Name;I)LSoftController$Name;" } : Jvm.MethodName) ({ cls := "SoftController$Program", name := "local", desc := "(LSoftController$Name;I)LSoftController$Name;" } : Jvm.MethodName)) ∈ GW := gw_t (tin_5 _ (List.mem_of_getElem? (i := 234) rfl)) rfl
theorem gw_1195 : (Jvm.Cond.code ({ cls := "SoftController$Program", name := "local", desc := "(LSoftController$Name;I)LSoftController$Name;" } : Jvm.MethodName) prog_8_method_7_code (3 : Nat) (Option.some (Jvm.ClassFile.FieldType.object "SoftController$Name"))) ∈ GW := gw_t (tin_5 _ (List.mem_of_getElem? (i := 235) rfl)) rfl
theorem gw_12 : (Jvm.Cond.initialized "SoftController$Task") ∈ GW := gw_t (tin_1 _ (List.mem_of_getElem? (i := 12) rfl)) rfl
theorem gw_1220 : (Jvm.Cond.methodLink "SoftController$Terms" (72 : Nat) ({ cls := "SoftController$Name", name := "hasNumbers", desc := "()Z" } : Jvm.MethodName)) ∈ GW := gw_t (tin_6 _ (List.mem_of_getElem? (i := 20) rfl)) rfl
theorem gw_1221 : (Jvm.Cond.instanceMethod ({ cls := "SoftController$Name", name := "hasNumbers", desc := "()Z" } : Jvm.MethodName)) ∈ GW := gw_t (tin_6 _ (List.mem_of_getElem? (i := 21) rfl)) rfl
theorem gw_1222 : (Jvm.Cond.selects "SoftController$Name" ({ cls := "SoftController$Name", name := "hasNumbers", desc := "()Z" } : Jvm.MethodName) ({ cls := "SoftController$Name", name := "hasNumbers", desc := "()Z" } : Jvm.MethodName)) ∈ GW := gw_t (tin_6 _ (List.mem_of_getElem? (i := 22) rfl)) rfl
theorem gw_1223 : (Jvm.Cond.code ({ cls := "SoftController$Name", name := "hasNumbers", desc := "()Z" } : Jvm.MethodName) prog_6_method_4_code (1 : Nat) (Option.some Jvm.ClassFile.FieldType.boolean)) ∈ GW := gw_t (tin_6 _ (List.mem_of_getElem? (i := 23) rfl)) rfl
theorem gw_1224 : (Jvm.Cond.methodLink "SoftController$Name" (59 : Nat) ({ cls := "SoftController$Name", name := "isLocal", desc := "()Z" } : Jvm.MethodName)) ∈ GW := gw_t (tin_6 _ (List.mem_of_getElem? (i := 24) rfl)) rfl
theorem gw_1225 : (Jvm.Cond.instanceMethod ({ cls := "SoftController$Name", name := "isLocal", desc := "()Z" } : Jvm.MethodName)) ∈ GW := gw_t (tin_6 _ (List.mem_of_getElem? (i := 25) rfl)) rfl
theorem gw_1226 : (Jvm.Cond.selects "SoftController$Name" ({ cls := "SoftController$Name", name := "isLocal", desc := "()Z" } : Jvm.MethodName) ({ cls := "SoftController$Name", name := "isLocal", desc := "()Z" } : Jvm.MethodName)) ∈ GW := gw_t (tin_6 _ (List.mem_of_getElem? (i := 26) rfl)) rfl
theorem gw_1227 : (Jvm.Cond.code ({ cls := "SoftController$Name", name := "isLocal", desc := "()Z" } : Jvm.MethodName) prog_6_method_3_code (1 : Nat) (Option.some Jvm.ClassFile.FieldType.boolean)) ∈ GW := gw_t (tin_6 _ (List.mem_of_getElem? (i := 27) rfl)) rfl
theorem gw_1228 : (Jvm.Cond.methodLink "SoftController$Terms" (91 : Nat) ({ cls := "SoftController$Name", name := "isInput", desc := "()Z" } : Jvm.MethodName)) ∈ GW := gw_t (tin_6 _ (List.mem_of_getElem? (i := 28) rfl)) rfl
theorem gw_1229 : (Jvm.Cond.instanceMethod ({ cls := "SoftController$Name", name := "isInput", desc := "()Z" } : Jvm.MethodName)) ∈ GW := gw_t (tin_6 _ (List.mem_of_getElem? (i := 29) rfl)) rfl
theorem gw_1230 : (Jvm.Cond.selects "SoftController$Name" ({ cls := "SoftController$Name", name := "isInput", desc := "()Z" } : Jvm.MethodName) ({ cls := "SoftController$Name", name := "isInput", desc := "()Z" } : Jvm.MethodName)) ∈ GW := gw_t (tin_6 _ (List.mem_of_getElem? (i := 30) rfl)) rfl
theorem gw_1231 : (Jvm.Cond.code ({ cls := "SoftController$Name", name := "isInput", desc := "()Z" } : Jvm.MethodName) prog_6_method_6_code (1 : Nat) (Option.some Jvm.ClassFile.FieldType.boolean)) ∈ GW := gw_t (tin_6 _ (List.mem_of_getElem? (i := 31) rfl)) rfl
theorem gw_1236 : (Jvm.Cond.methodLink "SoftController$Terms" (259 : Nat) ({ cls := "SoftController$Name", name := "isLocal", desc := "()Z" } : Jvm.MethodName)) ∈ GW := gw_t (tin_6 _ (List.mem_of_getElem? (i := 36) rfl)) rfl
theorem gw_1241 : (Jvm.Cond.methodLink "SoftController$Terms" (269 : Nat) ({ cls := "SoftController$Name", name := "isPlaced", desc := "()Z" } : Jvm.MethodName)) ∈ GW := gw_t (tin_6 _ (List.mem_of_getElem? (i := 41) rfl)) rfl
theorem gw_1242 : (Jvm.Cond.instanceMethod ({ cls := "SoftController$Name", name := "isPlaced", desc := "()Z" } : Jvm.MethodName)) ∈ GW := gw_t (tin_6 _ (List.mem_of_getElem? (i := 42) rfl)) rfl
theorem gw_1243 : (Jvm.Cond.selects "SoftController$Name" ({ cls := "SoftController$Name", name := "isPlaced", desc := "()Z" } : Jvm.MethodName) ({ cls := "SoftController$Name", name := "isPlaced", desc := "()Z" } : Jvm.MethodName)) ∈ GW := gw_t (tin_6 _ (List.mem_of_getElem? (i := 43) rfl)) rfl
theorem gw_1244 : (Jvm.Cond.code ({ cls := "SoftController$Name", name := "isPlaced", desc := "()Z" } : Jvm.MethodName) prog_6_method_5_code (1 : Nat) (Option.some Jvm.ClassFile.FieldType.boolean)) ∈ GW := gw_t (tin_6 _ (List.mem_of_getElem? (i := 44) rfl)) rfl
theorem gw_1259 : (Jvm.Cond.methodLink "SoftController$Terms" (128 : Nat) ({ cls := "SoftController$Program", name := "land", desc := "(I)V" } : Jvm.MethodName)) ∈ GW := gw_t (tin_6 _ (List.mem_of_getElem? (i := 59) rfl)) rfl
theorem gw_1260 : (Jvm.Cond.instanceMethod ({ cls := "SoftController$Program", name := "land", desc := "(I)V" } : Jvm.MethodName)) ∈ GW := gw_t (tin_6 _ (List.mem_of_getElem? (i := 60) rfl)) rfl
theorem gw_1261 : (Jvm.Cond.selects "SoftController$Program" ({ cls := "SoftController$Program", name := "land", desc := "(I)V" } : Jvm.MethodName) ({ cls := "SoftController$Program", name := "land", desc := "(I)V" } : Jvm.MethodName)) ∈ GW := gw_t (tin_6 _ (List.mem_of_getElem? (i := 61) rfl)) rfl
theorem gw_1262 : (Jvm.Cond.code ({ cls := "SoftController$Program", name := "land", desc := "(I)V" } : Jvm.MethodName) prog_8_method_16_code (5 : Nat) (Option.none : Option Jvm.ClassFile.FieldType)) ∈ GW := gw_t (tin_6 _ (List.mem_of_getElem? (i := 62) rfl)) rfl
theorem gw_1275 : (Jvm.Cond.methodLink "SoftController$Maker" (239 : Nat) ({ cls := "SoftController$Program", name := "step", desc := "(IIII)I" } : Jvm.MethodName)) ∈ GW := gw_t (tin_6 _ (List.mem_of_getElem? (i := 75) rfl)) rfl
theorem gw_1280 : (Jvm.Cond.methodLink "SoftController$Maker" (338 : Nat) ({ cls := "SoftController$Program", name := "land", desc := "(I)V" } : Jvm.MethodName)) ∈ GW := gw_t (tin_6 _ (List.mem_of_getElem? (i := 80) rfl)) rfl
theorem gw_1294 : (Jvm.Cond.methodLink "SoftController$Maker" (344 : Nat) ({ cls := "SoftController$Name", name := "hasNumbers", desc := "()Z" } : Jvm.MethodName)) ∈ GW := gw_t (tin_6 _ (List.mem_of_getElem? (i := 94) rfl)) rfl
theorem gw_1295 : (Jvm.Cond.methodLink "SoftController$Maker" (347 : Nat) ({ cls := "SoftController$Name", name := "isInput", desc := "()Z" } : Jvm.MethodName)) ∈ GW := gw_t (tin_6 _ (List.mem_of_getElem? (i := 95) rfl)) rfl
theorem gw_1306 : (Jvm.Cond.methodLink "SoftController$Maker" (236 : Nat) ({ cls := "SoftController$Program", name := "constant", desc := "(JII)V" } : Jvm.MethodName)) ∈ GW := gw_t (tin_6 _ (List.mem_of_getElem? (i := 106) rfl)) rfl
theorem gw_1316 : (Jvm.Cond.methodLink "SoftController$Maker" (355 : Nat) ({ cls := "SoftController$Program", name := "label", desc := "(JJ)V" } : Jvm.MethodName)) ∈ GW := gw_t (tin_6 _ (List.mem_of_getElem? (i := 116) rfl)) rfl
theorem gw_1317 : (Jvm.Cond.instanceMethod ({ cls := "SoftController$Program", name := "label", desc := "(JJ)V" } : Jvm.MethodName)) ∈ GW := gw_t (tin_6 _ (List.mem_of_getElem? (i := 117) rfl)) rfl
theorem gw_1318 : (Jvm.Cond.selects "SoftController$Program" ({ cls := "SoftController$Program", name := "label", desc := "(JJ)V" } : Jvm.MethodName) ({ cls := "SoftController$Program", name := "label", desc := "(JJ)V" } : Jvm.MethodName)) ∈ GW := gw_t (tin_6 _ (List.mem_of_getElem? (i := 118) rfl)) rfl
theorem gw_1319 : (Jvm.Cond.code ({ cls := "SoftController$Program", name := "label", desc := "(JJ)V" } : Jvm.MethodName) prog_8_method_17_code (5 : Nat) (Option.none : Option Jvm.ClassFile.FieldType)) ∈ GW := gw_t (tin_6 _ (List.mem_of_getElem? (i := 119) rfl)) rfl
theorem gw_1362 : (Jvm.Cond.methodLink "SoftController$Maker" (220 : Nat) ({ cls := "SoftController$Program", name := "local", desc := "(LSoftController$Name;I)LSoftController$Name;" } : Jvm.MethodName)) ∈ GW := gw_t (tin_6 _ (List.mem_of_getElem? (i := 162) rfl)) rfl
theorem gw_1368 : (Jvm.Cond.methodLink "SoftController$Maker" (252 : Nat) ({ cls := "SoftController$Task", name := "become", desc := "(III)V" } : Jvm.MethodName)) ∈ GW := gw_t (tin_6 _ (List.mem_of_getElem? (i := 168) rfl)) rfl
theorem gw_1369 : (Jvm.Cond.instanceMethod ({ cls := "SoftController$Task", name := "become", desc := "(III)V" } : Jvm.MethodName)) ∈ GW := gw_t (tin_6 _ (List.mem_of_getElem? (i := 169) rfl)) rfl
theorem gw_1370 : (Jvm.Cond.selects "SoftController$Task" ({ cls := "SoftController$Task", name := "become", desc := "(III)V" } : Jvm.MethodName) ({ cls := "SoftController$Task", name := "become", desc := "(III)V" } : Jvm.MethodName)) ∈ GW := gw_t (tin_6 _ (List.mem_of_getElem? (i := 170) rfl)) rfl
theorem gw_1371 : (Jvm.Cond.code ({ cls := "SoftController$Task", name := "become", desc := "(III)V" } : Jvm.MethodName) prog_9_method_2_code (4 : Nat) (Option.none : Option Jvm.ClassFile.FieldType)) ∈ GW := gw_t (tin_6 _ (List.mem_of_getElem? (i := 171) rfl)) rfl
theorem gw_1383 : (Jvm.Cond.methodLink "SoftController$Machine" (82 : Nat) ({ cls := "SoftController$Program", name := "ofSort", desc := "(I)I" } : Jvm.MethodName)) ∈ GW := gw_t (tin_6 _ (List.mem_of_getElem? (i := 183) rfl)) rfl
theorem gw_1384 : (Jvm.Cond.instanceMethod ({ cls := "SoftController$Program", name := "ofSort", desc := "(I)I" } : Jvm.MethodName)) ∈ GW := gw_t (tin_6 _ (List.mem_of_getElem? (i := 184) rfl)) rfl
theorem gw_1385 : (Jvm.Cond.selects "SoftController$Program" ({ cls := "SoftController$Program", name := "ofSort", desc := "(I)I" } : Jvm.MethodName) ({ cls := "SoftController$Program", name := "ofSort", desc := "(I)I" } : Jvm.MethodName)) ∈ GW := gw_t (tin_6 _ (List.mem_of_getElem? (i := 185) rfl)) rfl
theorem gw_1386 : (Jvm.Cond.code ({ cls := "SoftController$Program", name := "ofSort", desc := "(I)I" } : Jvm.MethodName) prog_8_method_3_code (2 : Nat) (Option.some Jvm.ClassFile.FieldType.int)) ∈ GW := gw_t (tin_6 _ (List.mem_of_getElem? (i := 186) rfl)) rfl
theorem gw_1387 : (Jvm.Cond.methodLink "SoftController$Machine" (88 : Nat) ({ cls := "SoftController$Program", name := "nth", desc := "(II)LSoftController$Name;" } : Jvm.MethodName)) ∈ GW := gw_t (tin_6 _ (List.mem_of_getElem? (i := 187) rfl)) rfl
theorem gw_1388 : (Jvm.Cond.instanceMethod ({ cls := "SoftController$Program", name := "nth", desc := "(II)LSoftController$Name;" } : Jvm.MethodName)) ∈ GW := gw_t (tin_6 _ (List.mem_of_getElem? (i := 188) rfl)) rfl
theorem gw_1389 : (Jvm.Cond.selects "SoftController$Program" ({ cls := "SoftController$Program", name := "nth", desc := "(II)LSoftController$Name;" } : Jvm.MethodName) ({ cls := "SoftController$Program", name := "nth", desc := "(II)LSoftController$Name;" } : Jvm.MethodName)) ∈ GW := gw_t (tin_6 _ (List.mem_of_getElem? (i := 189) rfl)) rfl
theorem gw_1390 : (Jvm.Cond.code ({ cls := "SoftController$Program", name := "nth", desc := "(II)LSoftController$Name;" } : Jvm.MethodName) prog_8_method_5_code (3 : Nat) (Option.some (Jvm.ClassFile.FieldType.object "SoftController$Name"))) ∈ GW := gw_t (tin_6 _ (List.mem_of_getElem? (i := 190) rfl)) rfl
theorem gw_1391 : (Jvm.Cond.methodLink "SoftController$Program" (107 : Nat) ({ cls := "SoftController$Program", name := "has", desc := "(II)Z" } : Jvm.MethodName)) ∈ GW := gw_t (tin_6 _ (List.mem_of_getElem? (i := 191) rfl)) rfl
theorem gw_1392 : (Jvm.Cond.instanceMethod ({ cls := "SoftController$Program", name := "has", desc := "(II)Z" } : Jvm.MethodName)) ∈ GW := gw_t (tin_6 _ (List.mem_of_getElem? (i := 192) rfl)) rfl
theorem gw_1393 : (Jvm.Cond.selects "SoftController$Program" ({ cls := "SoftController$Program", name := "has", desc := "(II)Z" } : Jvm.MethodName) ({ cls := "SoftController$Program", name := "has", desc := "(II)Z" } : Jvm.MethodName)) ∈ GW := gw_t (tin_6 _ (List.mem_of_getElem? (i := 193) rfl)) rfl
theorem gw_1394 : (Jvm.Cond.code ({ cls := "SoftController$Program", name := "has", desc := "(II)Z" } : Jvm.MethodName) prog_8_method_4_code (3 : Nat) (Option.some Jvm.ClassFile.FieldType.boolean)) ∈ GW := gw_t (tin_6 _ (List.mem_of_getElem? (i := 194) rfl)) rfl
theorem gw_1395 : (Jvm.Cond.methodLink "SoftController$Machine" (40 : Nat) ({ cls := "SoftController$Name", name := "isPlaced", desc := "()Z" } : Jvm.MethodName)) ∈ GW := gw_t (tin_6 _ (List.mem_of_getElem? (i := 195) rfl)) rfl
theorem gw_1404 : (Jvm.Cond.methodLink "SoftController$Machine" (108 : Nat) ({ cls := "SoftController$Program", name := "ofText", desc := "(JI)LSoftController$Name;" } : Jvm.MethodName)) ∈ GW := gw_t (tin_6 _ (List.mem_of_getElem? (i := 204) rfl)) rfl
theorem gw_1414 : (Jvm.Cond.methodLink "SoftController$Machine" (126 : Nat) ({ cls := "SoftController$Program", name := "name", desc := "(I)LSoftController$Name;" } : Jvm.MethodName)) ∈ GW := gw_t (tin_6 _ (List.mem_of_getElem? (i := 214) rfl)) rfl
theorem gw_1415 : (Jvm.Cond.methodLink "SoftController$Machine" (133 : Nat) ({ cls := "SoftController$Program", name := "local", desc := "(LSoftController$Name;I)LSoftController$Name;" } : Jvm.MethodName)) ∈ GW := gw_t (tin_6 _ (List.mem_of_getElem? (i := 215) rfl)) rfl
theorem gw_1416 : (Jvm.Cond.methodLink "SoftController" (363 : Nat) ({ cls := "SoftController$Trace", name := "forget", desc := "()V" } : Jvm.MethodName)) ∈ GW := gw_t (tin_6 _ (List.mem_of_getElem? (i := 216) rfl)) rfl
theorem gw_1417 : (Jvm.Cond.instanceMethod ({ cls := "SoftController$Trace", name := "forget", desc := "()V" } : Jvm.MethodName)) ∈ GW := gw_t (tin_6 _ (List.mem_of_getElem? (i := 217) rfl)) rfl
theorem gw_1418 : (Jvm.Cond.selects "SoftController$Trace" ({ cls := "SoftController$Trace", name := "forget", desc := "()V" } : Jvm.MethodName) ({ cls := "SoftController$Trace", name := "forget", desc := "()V" } : Jvm.MethodName)) ∈ GW := gw_t (tin_6 _ (List.mem_of_getElem? (i := 218) rfl)) rfl
theorem gw_1419 : (Jvm.Cond.code ({ cls := "SoftController$Trace", name := "forget", desc := "()V" } : Jvm.MethodName) prog_12_method_2_code (1 : Nat) (Option.none : Option Jvm.ClassFile.FieldType)) ∈ GW := gw_t (tin_6 _ (List.mem_of_getElem? (i := 219) rfl)) rfl
theorem gw_1433 : (Jvm.Cond.methodLink "SoftController" (117 : Nat) ({ cls := "SoftController$Program", name := "ofSort", desc := "(I)I" } : Jvm.MethodName)) ∈ GW := gw_t (tin_6 _ (List.mem_of_getElem? (i := 233) rfl)) rfl
theorem gw_1434 : (Jvm.Cond.methodLink "SoftController" (121 : Nat) ({ cls := "SoftController$Program", name := "nth", desc := "(II)LSoftController$Name;" } : Jvm.MethodName)) ∈ GW := gw_t (tin_6 _ (List.mem_of_getElem? (i := 234) rfl)) rfl
theorem gw_1446 : (Jvm.Cond.methodLink "SoftController$Machine" (46 : Nat) ({ cls := "SoftController$Name", name := "isInput", desc := "()Z" } : Jvm.MethodName)) ∈ GW := gw_t (tin_7 _ (List.mem_of_getElem? (i := 6) rfl)) rfl
theorem gw_1457 : (Jvm.Cond.methodLink "SoftController" (244 : Nat) ({ cls := "SoftController$Program", name := "name", desc := "(I)LSoftController$Name;" } : Jvm.MethodName)) ∈ GW := gw_t (tin_7 _ (List.mem_of_getElem? (i := 17) rfl)) rfl
theorem gw_1592 : (Jvm.Cond.methodLink "SoftController$Machine" (242 : Nat) ({ cls := "SoftController$Program", name := "liesIn", desc := "(JII)Z" } : Jvm.MethodName)) ∈ GW := gw_t (tin_7 _ (List.mem_of_getElem? (i := 152) rfl)) rfl
theorem gw_1593 : (Jvm.Cond.instanceMethod ({ cls := "SoftController$Program", name := "liesIn", desc := "(JII)Z" } : Jvm.MethodName)) ∈ GW := gw_t (tin_7 _ (List.mem_of_getElem? (i := 153) rfl)) rfl
theorem gw_1594 : (Jvm.Cond.selects "SoftController$Program" ({ cls := "SoftController$Program", name := "liesIn", desc := "(JII)Z" } : Jvm.MethodName) ({ cls := "SoftController$Program", name := "liesIn", desc := "(JII)Z" } : Jvm.MethodName)) ∈ GW := gw_t (tin_7 _ (List.mem_of_getElem? (i := 154) rfl)) rfl
theorem gw_1595 : (Jvm.Cond.code ({ cls := "SoftController$Program", name := "liesIn", desc := "(JII)Z" } : Jvm.MethodName) prog_8_method_18_code (6 : Nat) (Option.some Jvm.ClassFile.FieldType.boolean)) ∈ GW := gw_t (tin_7 _ (List.mem_of_getElem? (i := 155) rfl)) rfl
theorem gw_1624 : (Jvm.Cond.methodLink "SoftController" (392 : Nat) ({ cls := "SoftController$Trace", name := "see", desc := "(IIJ)V" } : Jvm.MethodName)) ∈ GW := gw_t (tin_7 _ (List.mem_of_getElem? (i := 184) rfl)) rfl
theorem gw_1625 : (Jvm.Cond.instanceMethod ({ cls := "SoftController$Trace", name := "see", desc := "(IIJ)V" } : Jvm.MethodName)) ∈ GW := gw_t (tin_7 _ (List.mem_of_getElem? (i := 185) rfl)) rfl
theorem gw_1626 : (Jvm.Cond.selects "SoftController$Trace" ({ cls := "SoftController$Trace", name := "see", desc := "(IIJ)V" } : Jvm.MethodName) ({ cls := "SoftController$Trace", name := "see", desc := "(IIJ)V" } : Jvm.MethodName)) ∈ GW := gw_t (tin_7 _ (List.mem_of_getElem? (i := 186) rfl)) rfl
theorem gw_1627 : (Jvm.Cond.code ({ cls := "SoftController$Trace", name := "see", desc := "(IIJ)V" } : Jvm.MethodName) prog_12_method_6_code (5 : Nat) (Option.none : Option Jvm.ClassFile.FieldType)) ∈ GW := gw_t (tin_7 _ (List.mem_of_getElem? (i := 187) rfl)) rfl
theorem gw_167 : (Jvm.Cond.fieldLink "SoftController$Trace" (9 : Nat) "SoftController$Trace" "variables" "[I") ∈ GW := gw_t (tin_1 _ (List.mem_of_getElem? (i := 167) rfl)) rfl
theorem gw_1683 : (Jvm.Cond.methodLink "SoftController" (176 : Nat) ({ cls := "SoftController$Program", name := "has", desc := "(II)Z" } : Jvm.MethodName)) ∈ GW := gw_t (tin_8 _ (List.mem_of_getElem? (i := 3) rfl)) rfl
theorem gw_169 : (Jvm.Cond.fieldLink "SoftController$Trace" (15 : Nat) "SoftController$Trace" "places" "[I") ∈ GW := gw_t (tin_1 _ (List.mem_of_getElem? (i := 169) rfl)) rfl
theorem gw_171 : (Jvm.Cond.fieldLink "SoftController$Trace" (18 : Nat) "SoftController$Trace" "numbers" "[J") ∈ GW := gw_t (tin_1 _ (List.mem_of_getElem? (i := 171) rfl)) rfl
theorem gw_172 : (Jvm.Cond.fieldLink "SoftController$Trace" (34 : Nat) "SoftController$Trace" "traced" "I") ∈ GW := gw_t (tin_1 _ (List.mem_of_getElem? (i := 172) rfl)) rfl
theorem gw_174 : (Jvm.Cond.fieldLink "SoftController$Trace" (22 : Nat) "SoftController$Trace" "eventTicks" "[I") ∈ GW := gw_t (tin_1 _ (List.mem_of_getElem? (i := 174) rfl)) rfl
theorem gw_1756 : (Jvm.Cond.methodLink "SoftController" (233 : Nat) ({ cls := "SoftController$Name", name := "isPlaced", desc := "()Z" } : Jvm.MethodName)) ∈ GW := gw_t (tin_8 _ (List.mem_of_getElem? (i := 76) rfl)) rfl
theorem gw_176 : (Jvm.Cond.fieldLink "SoftController$Trace" (25 : Nat) "SoftController$Trace" "eventVariables" "[I") ∈ GW := gw_t (tin_1 _ (List.mem_of_getElem? (i := 176) rfl)) rfl
theorem gw_1766 : (Jvm.Cond.methodLink "SoftController" (248 : Nat) ({ cls := "SoftController$Program", name := "local", desc := "(LSoftController$Name;I)LSoftController$Name;" } : Jvm.MethodName)) ∈ GW := gw_t (tin_8 _ (List.mem_of_getElem? (i := 86) rfl)) rfl
theorem gw_178 : (Jvm.Cond.fieldLink "SoftController$Trace" (28 : Nat) "SoftController$Trace" "eventPlaces" "[I") ∈ GW := gw_t (tin_1 _ (List.mem_of_getElem? (i := 178) rfl)) rfl
theorem gw_1782 : (Jvm.Cond.methodLink "SoftController" (275 : Nat) ({ cls := "SoftController$Program", name := "ofText", desc := "(JI)LSoftController$Name;" } : Jvm.MethodName)) ∈ GW := gw_t (tin_8 _ (List.mem_of_getElem? (i := 102) rfl)) rfl
theorem gw_1791 : (Jvm.Cond.methodLink "SoftController" (282 : Nat) ({ cls := "SoftController$Trace", name := "indexOf", desc := "(II)I" } : Jvm.MethodName)) ∈ GW := gw_t (tin_8 _ (List.mem_of_getElem? (i := 111) rfl)) rfl
theorem gw_1792 : (Jvm.Cond.instanceMethod ({ cls := "SoftController$Trace", name := "indexOf", desc := "(II)I" } : Jvm.MethodName)) ∈ GW := gw_t (tin_8 _ (List.mem_of_getElem? (i := 112) rfl)) rfl
theorem gw_1793 : (Jvm.Cond.selects "SoftController$Trace" ({ cls := "SoftController$Trace", name := "indexOf", desc := "(II)I" } : Jvm.MethodName) ({ cls := "SoftController$Trace", name := "indexOf", desc := "(II)I" } : Jvm.MethodName)) ∈ GW := gw_t (tin_8 _ (List.mem_of_getElem? (i := 113) rfl)) rfl
theorem gw_1794 : (Jvm.Cond.code ({ cls := "SoftController$Trace", name := "indexOf", desc := "(II)I" } : Jvm.MethodName) prog_12_method_3_code (4 : Nat) (Option.some Jvm.ClassFile.FieldType.int)) ∈ GW := gw_t (tin_8 _ (List.mem_of_getElem? (i := 114) rfl)) rfl
theorem gw_1797 : (Jvm.Cond.methodLink "SoftController" (291 : Nat) ({ cls := "SoftController$Trace", name := "begin", desc := "(IIJ)V" } : Jvm.MethodName)) ∈ GW := gw_t (tin_8 _ (List.mem_of_getElem? (i := 117) rfl)) rfl
theorem gw_1798 : (Jvm.Cond.instanceMethod ({ cls := "SoftController$Trace", name := "begin", desc := "(IIJ)V" } : Jvm.MethodName)) ∈ GW := gw_t (tin_8 _ (List.mem_of_getElem? (i := 118) rfl)) rfl
theorem gw_1799 : (Jvm.Cond.selects "SoftController$Trace" ({ cls := "SoftController$Trace", name := "begin", desc := "(IIJ)V" } : Jvm.MethodName) ({ cls := "SoftController$Trace", name := "begin", desc := "(IIJ)V" } : Jvm.MethodName)) ∈ GW := gw_t (tin_8 _ (List.mem_of_getElem? (i := 119) rfl)) rfl
theorem gw_180 : (Jvm.Cond.fieldLink "SoftController$Trace" (31 : Nat) "SoftController$Trace" "eventNumbers" "[J") ∈ GW := gw_t (tin_1 _ (List.mem_of_getElem? (i := 180) rfl)) rfl
theorem gw_1800 : (Jvm.Cond.code ({ cls := "SoftController$Trace", name := "begin", desc := "(IIJ)V" } : Jvm.MethodName) prog_12_method_4_code (5 : Nat) (Option.none : Option Jvm.ClassFile.FieldType)) ∈ GW := gw_t (tin_8 _ (List.mem_of_getElem? (i := 120) rfl)) rfl
theorem gw_1801 : (Jvm.Cond.methodLink "SoftController" (294 : Nat) ({ cls := "SoftController$Trace", name := "leave", desc := "(I)V" } : Jvm.MethodName)) ∈ GW := gw_t (tin_8 _ (List.mem_of_getElem? (i := 121) rfl)) rfl
theorem gw_1802 : (Jvm.Cond.instanceMethod ({ cls := "SoftController$Trace", name := "leave", desc := "(I)V" } : Jvm.MethodName)) ∈ GW := gw_t (tin_8 _ (List.mem_of_getElem? (i := 122) rfl)) rfl
theorem gw_1803 : (Jvm.Cond.selects "SoftController$Trace" ({ cls := "SoftController$Trace", name := "leave", desc := "(I)V" } : Jvm.MethodName) ({ cls := "SoftController$Trace", name := "leave", desc := "(I)V" } : Jvm.MethodName)) ∈ GW := gw_t (tin_8 _ (List.mem_of_getElem? (i := 123) rfl)) rfl
theorem gw_1804 : (Jvm.Cond.code ({ cls := "SoftController$Trace", name := "leave", desc := "(I)V" } : Jvm.MethodName) prog_12_method_5_code (3 : Nat) (Option.none : Option Jvm.ClassFile.FieldType)) ∈ GW := gw_t (tin_8 _ (List.mem_of_getElem? (i := 124) rfl)) rfl
theorem gw_182 : (Jvm.Cond.fieldLink "SoftController$Trace" (38 : Nat) "SoftController$Trace" "kept" "I") ∈ GW := gw_t (tin_1 _ (List.mem_of_getElem? (i := 182) rfl)) rfl
theorem gw_1826 : (Jvm.Cond.methodLink "SoftController" (321 : Nat) ({ cls := "SoftController$Program", name := "stoppedTasks", desc := "()I" } : Jvm.MethodName)) ∈ GW := gw_t (tin_8 _ (List.mem_of_getElem? (i := 146) rfl)) rfl
theorem gw_1827 : (Jvm.Cond.instanceMethod ({ cls := "SoftController$Program", name := "stoppedTasks", desc := "()I" } : Jvm.MethodName)) ∈ GW := gw_t (tin_8 _ (List.mem_of_getElem? (i := 147) rfl)) rfl
theorem gw_1828 : (Jvm.Cond.selects "SoftController$Program" ({ cls := "SoftController$Program", name := "stoppedTasks", desc := "()I" } : Jvm.MethodName) ({ cls := "SoftController$Program", name := "stoppedTasks", desc := "()I" } : Jvm.MethodName)) ∈ GW := gw_t (tin_8 _ (List.mem_of_getElem? (i := 148) rfl)) rfl
theorem gw_1829 : (Jvm.Cond.code ({ cls := "SoftController$Program", name := "stoppedTasks", desc := "()I" } : Jvm.MethodName) prog_8_method_12_code (3 : Nat) (Option.some Jvm.ClassFile.FieldType.int)) ∈ GW := gw_t (tin_8 _ (List.mem_of_getElem? (i := 149) rfl)) rfl
theorem gw_184 : (Jvm.Cond.fieldLink "SoftController$Trace" (41 : Nat) "SoftController$Trace" "next" "I") ∈ GW := gw_t (tin_1 _ (List.mem_of_getElem? (i := 184) rfl)) rfl
theorem gw_221 : (Jvm.Cond.fieldLink "SoftController$Name" (21 : Nat) "SoftController$Name" "head" "J") ∈ GW := gw_t (tin_1 _ (List.mem_of_getElem? (i := 221) rfl)) rfl
theorem gw_224 : (Jvm.Cond.fieldLink "SoftController$Name" (25 : Nat) "SoftController$Name" "tail" "I") ∈ GW := gw_t (tin_1 _ (List.mem_of_getElem? (i := 224) rfl)) rfl
theorem gw_227 : (Jvm.Cond.fieldLink "SoftController$Name" (9 : Nat) "SoftController$Name" "sort" "I") ∈ GW := gw_t (tin_1 _ (List.mem_of_getElem? (i := 227) rfl)) rfl
theorem gw_238 : (Jvm.Cond.fieldLink "SoftController$Name" (28 : Nat) "SoftController$Name" "number" "I") ∈ GW := gw_t (tin_1 _ (List.mem_of_getElem? (i := 238) rfl)) rfl
theorem gw_242 : (Jvm.Cond.fieldLink "SoftController$Name" (31 : Nat) "SoftController$Name" "kind" "I") ∈ GW := gw_t (tin_2 _ (List.mem_of_getElem? (i := 2) rfl)) rfl
theorem gw_247 : (Jvm.Cond.fieldLink "SoftController$Name" (34 : Nat) "SoftController$Name" "how" "I") ∈ GW := gw_t (tin_2 _ (List.mem_of_getElem? (i := 7) rfl)) rfl
theorem gw_250 : (Jvm.Cond.fieldLink "SoftController$Name" (37 : Nat) "SoftController$Name" "size" "I") ∈ GW := gw_t (tin_2 _ (List.mem_of_getElem? (i := 10) rfl)) rfl
theorem gw_255 : (Jvm.Cond.fieldLink "SoftController$Name" (40 : Nat) "SoftController$Name" "row" "Z") ∈ GW := gw_t (tin_2 _ (List.mem_of_getElem? (i := 15) rfl)) rfl
theorem gw_259 : (Jvm.Cond.fieldLink "SoftController$Name" (44 : Nat) "SoftController$Name" "at" "I") ∈ GW := gw_t (tin_2 _ (List.mem_of_getElem? (i := 19) rfl)) rfl
theorem gw_264 : (Jvm.Cond.fieldLink "SoftController$Name" (47 : Nat) "SoftController$Name" "first" "J") ∈ GW := gw_t (tin_2 _ (List.mem_of_getElem? (i := 24) rfl)) rfl
theorem gw_269 : (Jvm.Cond.fieldLink "SoftController$Name" (50 : Nat) "SoftController$Name" "parameters" "I") ∈ GW := gw_t (tin_2 _ (List.mem_of_getElem? (i := 29) rfl)) rfl
theorem gw_273 : (Jvm.Cond.fieldLink "SoftController$Name" (53 : Nat) "SoftController$Name" "locals" "I") ∈ GW := gw_t (tin_2 _ (List.mem_of_getElem? (i := 33) rfl)) rfl
theorem gw_277 : (Jvm.Cond.fieldLink "SoftController$Name" (56 : Nat) "SoftController$Name" "entry" "I") ∈ GW := gw_t (tin_2 _ (List.mem_of_getElem? (i := 37) rfl)) rfl
theorem gw_280 : (Jvm.Cond.fieldLink "SoftController$Name" (18 : Nat) "SoftController$Name" "block" "I") ∈ GW := gw_t (tin_2 _ (List.mem_of_getElem? (i := 40) rfl)) rfl
theorem gw_324 : (Jvm.Cond.fieldLink "SoftController$Task" (7 : Nat) "SoftController$Task" "every" "I") ∈ GW := gw_t (tin_2 _ (List.mem_of_getElem? (i := 84) rfl)) rfl
theorem gw_326 : (Jvm.Cond.fieldLink "SoftController$Task" (13 : Nat) "SoftController$Task" "after" "I") ∈ GW := gw_t (tin_2 _ (List.mem_of_getElem? (i := 86) rfl)) rfl
theorem gw_328 : (Jvm.Cond.fieldLink "SoftController$Task" (16 : Nat) "SoftController$Task" "entry" "I") ∈ GW := gw_t (tin_2 _ (List.mem_of_getElem? (i := 88) rfl)) rfl
theorem gw_330 : (Jvm.Cond.fieldLink "SoftController$Task" (19 : Nat) "SoftController$Task" "stopped" "Z") ∈ GW := gw_t (tin_2 _ (List.mem_of_getElem? (i := 90) rfl)) rfl
theorem gw_333 : (Jvm.Cond.fieldLink "SoftController$Task" (23 : Nat) "SoftController$Task" "runs" "I") ∈ GW := gw_t (tin_2 _ (List.mem_of_getElem? (i := 93) rfl)) rfl
theorem gw_335 : (Jvm.Cond.fieldLink "SoftController$Task" (26 : Nat) "SoftController$Task" "work" "I") ∈ GW := gw_t (tin_2 _ (List.mem_of_getElem? (i := 95) rfl)) rfl
theorem gw_337 : (Jvm.Cond.fieldLink "SoftController$Task" (29 : Nat) "SoftController$Task" "fault" "I") ∈ GW := gw_t (tin_2 _ (List.mem_of_getElem? (i := 97) rfl)) rfl
theorem gw_339 : (Jvm.Cond.fieldLink "SoftController$Task" (32 : Nat) "SoftController$Task" "faultPlace" "I") ∈ GW := gw_t (tin_2 _ (List.mem_of_getElem? (i := 99) rfl)) rfl
theorem gw_341 : (Jvm.Cond.fieldLink "SoftController$Task" (35 : Nat) "SoftController$Task" "faultTick" "I") ∈ GW := gw_t (tin_2 _ (List.mem_of_getElem? (i := 101) rfl)) rfl
theorem gw_343 : (Jvm.Cond.fieldLink "SoftController$Task" (38 : Nat) "SoftController$Task" "faultNumber" "I") ∈ GW := gw_t (tin_2 _ (List.mem_of_getElem? (i := 103) rfl)) rfl
theorem gw_369 : (Jvm.Cond.methodLink "SoftController$Program" (75 : Nat) ({ cls := "SoftController$Name", name := "become", desc := "(IJI)V" } : Jvm.MethodName)) ∈ GW := gw_t (tin_2 _ (List.mem_of_getElem? (i := 129) rfl)) rfl
theorem gw_370 : (Jvm.Cond.instanceMethod ({ cls := "SoftController$Name", name := "become", desc := "(IJI)V" } : Jvm.MethodName)) ∈ GW := gw_t (tin_2 _ (List.mem_of_getElem? (i := 130) rfl)) rfl
theorem gw_371 : (Jvm.Cond.selects "SoftController$Name" ({ cls := "SoftController$Name", name := "become", desc := "(IJI)V" } : Jvm.MethodName) ({ cls := "SoftController$Name", name := "become", desc := "(IJI)V" } : Jvm.MethodName)) ∈ GW := gw_t (tin_2 _ (List.mem_of_getElem? (i := 131) rfl)) rfl
theorem gw_372 : (Jvm.Cond.code ({ cls := "SoftController$Name", name := "become", desc := "(IJI)V" } : Jvm.MethodName) prog_6_method_2_code (5 : Nat) (Option.none : Option Jvm.ClassFile.FieldType)) ∈ GW := gw_t (tin_2 _ (List.mem_of_getElem? (i := 132) rfl)) rfl
theorem gw_375 : (Jvm.Cond.fieldLink "SoftController$Program" (11 : Nat) "SoftController$Program" "names" "[LSoftController$Name;") ∈ GW := gw_t (tin_2 _ (List.mem_of_getElem? (i := 135) rfl)) rfl
theorem gw_376 : (Jvm.Cond.fieldLink "SoftController$Program" (21 : Nat) "SoftController$Program" "builtIns" "[LSoftController$Name;") ∈ GW := gw_t (tin_2 _ (List.mem_of_getElem? (i := 136) rfl)) rfl
theorem gw_377 : (Jvm.Cond.fieldLink "SoftController$Program" (25 : Nat) "SoftController$Program" "unknown" "LSoftController$Name;") ∈ GW := gw_t (tin_2 _ (List.mem_of_getElem? (i := 137) rfl)) rfl
theorem gw_378 : (Jvm.Cond.fieldLink "SoftController$Program" (31 : Nat) "SoftController$Program" "sorted" "[[I") ∈ GW := gw_t (tin_2 _ (List.mem_of_getElem? (i := 138) rfl)) rfl
theorem gw_379 : (Jvm.Cond.fieldLink "SoftController$Program" (34 : Nat) "SoftController$Program" "sorts" "[I") ∈ GW := gw_t (tin_2 _ (List.mem_of_getElem? (i := 139) rfl)) rfl
theorem gw_380 : (Jvm.Cond.fieldLink "SoftController$Program" (39 : Nat) "SoftController$Program" "tasks" "[LSoftController$Task;") ∈ GW := gw_t (tin_2 _ (List.mem_of_getElem? (i := 140) rfl)) rfl
theorem gw_383 : (Jvm.Cond.fieldLink "SoftController$Program" (43 : Nat) "SoftController$Program" "operations" "[I") ∈ GW := gw_t (tin_2 _ (List.mem_of_getElem? (i := 143) rfl)) rfl
theorem gw_385 : (Jvm.Cond.fieldLink "SoftController$Program" (46 : Nat) "SoftController$Program" "firsts" "[I") ∈ GW := gw_t (tin_2 _ (List.mem_of_getElem? (i := 145) rfl)) rfl
theorem gw_387 : (Jvm.Cond.fieldLink "SoftController$Program" (49 : Nat) "SoftController$Program" "seconds" "[I") ∈ GW := gw_t (tin_2 _ (List.mem_of_getElem? (i := 147) rfl)) rfl
theorem gw_389 : (Jvm.Cond.fieldLink "SoftController$Program" (52 : Nat) "SoftController$Program" "places" "[I") ∈ GW := gw_t (tin_2 _ (List.mem_of_getElem? (i := 149) rfl)) rfl
theorem gw_391 : (Jvm.Cond.fieldLink "SoftController$Program" (55 : Nat) "SoftController$Program" "lows" "[J") ∈ GW := gw_t (tin_2 _ (List.mem_of_getElem? (i := 151) rfl)) rfl
theorem gw_392 : (Jvm.Cond.fieldLink "SoftController$Program" (59 : Nat) "SoftController$Program" "highs" "[J") ∈ GW := gw_t (tin_2 _ (List.mem_of_getElem? (i := 152) rfl)) rfl
theorem gw_393 : (Jvm.Cond.fieldLink "SoftController$Program" (92 : Nat) "SoftController$Program" "told" "I") ∈ GW := gw_t (tin_2 _ (List.mem_of_getElem? (i := 153) rfl)) rfl
theorem gw_394 : (Jvm.Cond.fieldLink "SoftController$Program" (95 : Nat) "SoftController$Program" "steps" "I") ∈ GW := gw_t (tin_2 _ (List.mem_of_getElem? (i := 154) rfl)) rfl
theorem gw_397 : (Jvm.Cond.fieldLink "SoftController$Program" (98 : Nat) "SoftController$Program" "labels" "I") ∈ GW := gw_t (tin_2 _ (List.mem_of_getElem? (i := 157) rfl)) rfl
theorem gw_9 : (Jvm.Cond.initialized "SoftController$Trace") ∈ GW := gw_t (tin_1 _ (List.mem_of_getElem? (i := 9) rfl)) rfl
theorem nw_223 : (Jvm.Cond.fieldLinkNest "SoftController$Program" (121 : Nat) "SoftController$Name" "head" "J" "SoftController") ∈ NWL := gw_n (tin_1 _ (List.mem_of_getElem? (i := 223) rfl)) rfl
theorem nw_226 : (Jvm.Cond.fieldLinkNest "SoftController$Program" (125 : Nat) "SoftController$Name" "tail" "I" "SoftController") ∈ NWL := gw_n (tin_1 _ (List.mem_of_getElem? (i := 226) rfl)) rfl
theorem nw_231 : (Jvm.Cond.fieldLinkNest "SoftController$Program" (128 : Nat) "SoftController$Name" "sort" "I" "SoftController") ∈ NWL := gw_n (tin_1 _ (List.mem_of_getElem? (i := 231) rfl)) rfl
theorem nw_234 : (Jvm.Cond.fieldLinkNest "SoftController$Program" (118 : Nat) "SoftController$Name" "index" "I" "SoftController") ∈ NWL := gw_n (tin_1 _ (List.mem_of_getElem? (i := 234) rfl)) rfl
theorem nw_237 : (Jvm.Cond.fieldLinkNest "SoftController$Program" (79 : Nat) "SoftController$Name" "number" "I" "SoftController") ∈ NWL := gw_n (tin_1 _ (List.mem_of_getElem? (i := 237) rfl)) rfl
theorem nw_274 : (Jvm.Cond.fieldLinkNest "SoftController$Program" (115 : Nat) "SoftController$Name" "locals" "I" "SoftController") ∈ NWL := gw_n (tin_2 _ (List.mem_of_getElem? (i := 34) rfl)) rfl
theorem nw_332 : (Jvm.Cond.fieldLinkNest "SoftController$Program" (134 : Nat) "SoftController$Task" "stopped" "Z" "SoftController") ∈ NWL := gw_n (tin_2 _ (List.mem_of_getElem? (i := 92) rfl)) rfl
section C32leafR
variable {p : Program} {l : Launch} {e : Env} {R : Room} {s : State} {m : MethodId} {args : Array Value} {below : List Frame} {meth : Method} {c : Code} {H : Heap} {locs : List Loc} {Q : State → Prop} {cells slots : Nat}
variable {cc : ByteArray} {pc nL : Nat} {c0 : Cond} {own : String} {ls : Array Slot} {rest : List Value} {D : va_G} {kA : Nat → ClassId} {V Z : Nat → Nat} {A : Nat → Prop}
variable {u u1 : CSt}
theorem cp_X4_21 (X : CC p s m args c cc nL c0 RX4 D kA V A) {q : Nat} (hq : q < 338) (hS : CS D kA Z A s u H locs) {v : Int64} (hu : xmL u q 0 v = u1) (hd : decode cc pc = .ok (.putfield 21, 3)) (kk : ∀ H locs, CS D kA Z A s u1 H locs → W p l e R s m args below meth c H locs cells slots Q (F0 m (pc + 3) ls rest)) : W p l e R s m args below meth c H locs cells slots Q (F0 m pc ls (.long v :: .ref (Z (1000 + q)) :: rest)) := by
  obtain ⟨⟨hx, hb, hml, hown, hts⟩, hK, hE, hA⟩ := X
  have hG : ∀ w ∈ GW, w.before args s = true := fun w h => hts w (List.mem_cons_of_mem _ h)
  subst hu
  refine va_put (D := D) (ci := 4) (v := .long v) (ty := .long) (C := RX4) (T := TX4) (N := 15) hx hb hG gwl_X4 tyX4 tyX4_ok nmX4 hown hK hS.1 hS.2.1 hS.2.2 (90 + q) (cw_name hq) rfl 0 (by decide) (hG _ gw_221) (fun _ h9 => h9) rfl (by decide +kernel) rfl rfl (Nat.le_of_ble_eq_true rfl) hd (fun H1 locs1 hP hD hS1 => kk H1 locs1 ?_)
  have he := cw_setN (kA := kA) (Z := Z) (u := u) (w := xmL u q 0 v) (q := q) (x := (Z (1000 + q), .inr (4, (NF u q).set 0 (.long v)))) hq rfl rfl (by simp [NW, NF, xmL, mI, mL]) (fun j hj => by simp [NW, NF, xmL, mI, mL, hj])
  exact cs_put he hP hD hS1
theorem cp_X4_25 (X : CC p s m args c cc nL c0 RX4 D kA V A) {q : Nat} (hq : q < 338) (hS : CS D kA Z A s u H locs) {v : Int32} (hu : xmI u q 1 v = u1) (hd : decode cc pc = .ok (.putfield 25, 3)) (kk : ∀ H locs, CS D kA Z A s u1 H locs → W p l e R s m args below meth c H locs cells slots Q (F0 m (pc + 3) ls rest)) : W p l e R s m args below meth c H locs cells slots Q (F0 m pc ls (.int v :: .ref (Z (1000 + q)) :: rest)) := by
  obtain ⟨⟨hx, hb, hml, hown, hts⟩, hK, hE, hA⟩ := X
  have hG : ∀ w ∈ GW, w.before args s = true := fun w h => hts w (List.mem_cons_of_mem _ h)
  subst hu
  refine va_put (D := D) (ci := 4) (v := .int v) (ty := .int) (C := RX4) (T := TX4) (N := 15) hx hb hG gwl_X4 tyX4 tyX4_ok nmX4 hown hK hS.1 hS.2.1 hS.2.2 (90 + q) (cw_name hq) rfl 1 (by decide) (hG _ gw_224) (fun _ h9 => h9) rfl (by decide +kernel) rfl rfl (Nat.le_of_ble_eq_true rfl) hd (fun H1 locs1 hP hD hS1 => kk H1 locs1 ?_)
  have he := cw_setN (kA := kA) (Z := Z) (u := u) (w := xmI u q 1 v) (q := q) (x := (Z (1000 + q), .inr (4, (NF u q).set 1 (.int v)))) hq rfl rfl (by simp [NW, NF, xmI, mI, mL]) (fun j hj => by simp [NW, NF, xmI, mI, mL, hj])
  exact cs_put he hP hD hS1
theorem cp_X4_9 (X : CC p s m args c cc nL c0 RX4 D kA V A) {q : Nat} (hq : q < 338) (hS : CS D kA Z A s u H locs) {v : Int32} (hu : xmI u q 2 v = u1) (hd : decode cc pc = .ok (.putfield 9, 3)) (kk : ∀ H locs, CS D kA Z A s u1 H locs → W p l e R s m args below meth c H locs cells slots Q (F0 m (pc + 3) ls rest)) : W p l e R s m args below meth c H locs cells slots Q (F0 m pc ls (.int v :: .ref (Z (1000 + q)) :: rest)) := by
  obtain ⟨⟨hx, hb, hml, hown, hts⟩, hK, hE, hA⟩ := X
  have hG : ∀ w ∈ GW, w.before args s = true := fun w h => hts w (List.mem_cons_of_mem _ h)
  subst hu
  refine va_put (D := D) (ci := 4) (v := .int v) (ty := .int) (C := RX4) (T := TX4) (N := 15) hx hb hG gwl_X4 tyX4 tyX4_ok nmX4 hown hK hS.1 hS.2.1 hS.2.2 (90 + q) (cw_name hq) rfl 2 (by decide) (hG _ gw_227) (fun _ h9 => h9) rfl (by decide +kernel) rfl rfl (Nat.le_of_ble_eq_true rfl) hd (fun H1 locs1 hP hD hS1 => kk H1 locs1 ?_)
  have he := cw_setN (kA := kA) (Z := Z) (u := u) (w := xmI u q 2 v) (q := q) (x := (Z (1000 + q), .inr (4, (NF u q).set 2 (.int v)))) hq rfl rfl (by simp [NW, NF, xmI, mI, mL]) (fun j hj => by simp [NW, NF, xmI, mI, mL, hj])
  exact cs_put he hP hD hS1
theorem cp_X4_28 (X : CC p s m args c cc nL c0 RX4 D kA V A) {q : Nat} (hq : q < 338) (hS : CS D kA Z A s u H locs) {v : Int32} (hu : xmI u q 4 v = u1) (hd : decode cc pc = .ok (.putfield 28, 3)) (kk : ∀ H locs, CS D kA Z A s u1 H locs → W p l e R s m args below meth c H locs cells slots Q (F0 m (pc + 3) ls rest)) : W p l e R s m args below meth c H locs cells slots Q (F0 m pc ls (.int v :: .ref (Z (1000 + q)) :: rest)) := by
  obtain ⟨⟨hx, hb, hml, hown, hts⟩, hK, hE, hA⟩ := X
  have hG : ∀ w ∈ GW, w.before args s = true := fun w h => hts w (List.mem_cons_of_mem _ h)
  subst hu
  refine va_put (D := D) (ci := 4) (v := .int v) (ty := .int) (C := RX4) (T := TX4) (N := 15) hx hb hG gwl_X4 tyX4 tyX4_ok nmX4 hown hK hS.1 hS.2.1 hS.2.2 (90 + q) (cw_name hq) rfl 4 (by decide) (hG _ gw_238) (fun _ h9 => h9) rfl (by decide +kernel) rfl rfl (Nat.le_of_ble_eq_true rfl) hd (fun H1 locs1 hP hD hS1 => kk H1 locs1 ?_)
  have he := cw_setN (kA := kA) (Z := Z) (u := u) (w := xmI u q 4 v) (q := q) (x := (Z (1000 + q), .inr (4, (NF u q).set 4 (.int v)))) hq rfl rfl (by simp [NW, NF, xmI, mI, mL]) (fun j hj => by simp [NW, NF, xmI, mI, mL, hj])
  exact cs_put he hP hD hS1
theorem cp_X4_31 (X : CC p s m args c cc nL c0 RX4 D kA V A) {q : Nat} (hq : q < 338) (hS : CS D kA Z A s u H locs) {v : Int32} (hu : xmI u q 5 v = u1) (hd : decode cc pc = .ok (.putfield 31, 3)) (kk : ∀ H locs, CS D kA Z A s u1 H locs → W p l e R s m args below meth c H locs cells slots Q (F0 m (pc + 3) ls rest)) : W p l e R s m args below meth c H locs cells slots Q (F0 m pc ls (.int v :: .ref (Z (1000 + q)) :: rest)) := by
  obtain ⟨⟨hx, hb, hml, hown, hts⟩, hK, hE, hA⟩ := X
  have hG : ∀ w ∈ GW, w.before args s = true := fun w h => hts w (List.mem_cons_of_mem _ h)
  subst hu
  refine va_put (D := D) (ci := 4) (v := .int v) (ty := .int) (C := RX4) (T := TX4) (N := 15) hx hb hG gwl_X4 tyX4 tyX4_ok nmX4 hown hK hS.1 hS.2.1 hS.2.2 (90 + q) (cw_name hq) rfl 5 (by decide) (hG _ gw_242) (fun _ h9 => h9) rfl (by decide +kernel) rfl rfl (Nat.le_of_ble_eq_true rfl) hd (fun H1 locs1 hP hD hS1 => kk H1 locs1 ?_)
  have he := cw_setN (kA := kA) (Z := Z) (u := u) (w := xmI u q 5 v) (q := q) (x := (Z (1000 + q), .inr (4, (NF u q).set 5 (.int v)))) hq rfl rfl (by simp [NW, NF, xmI, mI, mL]) (fun j hj => by simp [NW, NF, xmI, mI, mL, hj])
  exact cs_put he hP hD hS1
theorem cp_X4_34 (X : CC p s m args c cc nL c0 RX4 D kA V A) {q : Nat} (hq : q < 338) (hS : CS D kA Z A s u H locs) {v : Int32} (hu : xmI u q 6 v = u1) (hd : decode cc pc = .ok (.putfield 34, 3)) (kk : ∀ H locs, CS D kA Z A s u1 H locs → W p l e R s m args below meth c H locs cells slots Q (F0 m (pc + 3) ls rest)) : W p l e R s m args below meth c H locs cells slots Q (F0 m pc ls (.int v :: .ref (Z (1000 + q)) :: rest)) := by
  obtain ⟨⟨hx, hb, hml, hown, hts⟩, hK, hE, hA⟩ := X
  have hG : ∀ w ∈ GW, w.before args s = true := fun w h => hts w (List.mem_cons_of_mem _ h)
  subst hu
  refine va_put (D := D) (ci := 4) (v := .int v) (ty := .int) (C := RX4) (T := TX4) (N := 15) hx hb hG gwl_X4 tyX4 tyX4_ok nmX4 hown hK hS.1 hS.2.1 hS.2.2 (90 + q) (cw_name hq) rfl 6 (by decide) (hG _ gw_247) (fun _ h9 => h9) rfl (by decide +kernel) rfl rfl (Nat.le_of_ble_eq_true rfl) hd (fun H1 locs1 hP hD hS1 => kk H1 locs1 ?_)
  have he := cw_setN (kA := kA) (Z := Z) (u := u) (w := xmI u q 6 v) (q := q) (x := (Z (1000 + q), .inr (4, (NF u q).set 6 (.int v)))) hq rfl rfl (by simp [NW, NF, xmI, mI, mL]) (fun j hj => by simp [NW, NF, xmI, mI, mL, hj])
  exact cs_put he hP hD hS1
theorem cp_X4_37 (X : CC p s m args c cc nL c0 RX4 D kA V A) {q : Nat} (hq : q < 338) (hS : CS D kA Z A s u H locs) {v : Int32} (hu : xmI u q 7 v = u1) (hd : decode cc pc = .ok (.putfield 37, 3)) (kk : ∀ H locs, CS D kA Z A s u1 H locs → W p l e R s m args below meth c H locs cells slots Q (F0 m (pc + 3) ls rest)) : W p l e R s m args below meth c H locs cells slots Q (F0 m pc ls (.int v :: .ref (Z (1000 + q)) :: rest)) := by
  obtain ⟨⟨hx, hb, hml, hown, hts⟩, hK, hE, hA⟩ := X
  have hG : ∀ w ∈ GW, w.before args s = true := fun w h => hts w (List.mem_cons_of_mem _ h)
  subst hu
  refine va_put (D := D) (ci := 4) (v := .int v) (ty := .int) (C := RX4) (T := TX4) (N := 15) hx hb hG gwl_X4 tyX4 tyX4_ok nmX4 hown hK hS.1 hS.2.1 hS.2.2 (90 + q) (cw_name hq) rfl 7 (by decide) (hG _ gw_250) (fun _ h9 => h9) rfl (by decide +kernel) rfl rfl (Nat.le_of_ble_eq_true rfl) hd (fun H1 locs1 hP hD hS1 => kk H1 locs1 ?_)
  have he := cw_setN (kA := kA) (Z := Z) (u := u) (w := xmI u q 7 v) (q := q) (x := (Z (1000 + q), .inr (4, (NF u q).set 7 (.int v)))) hq rfl rfl (by simp [NW, NF, xmI, mI, mL]) (fun j hj => by simp [NW, NF, xmI, mI, mL, hj])
  exact cs_put he hP hD hS1
theorem cp_X4_40 (X : CC p s m args c cc nL c0 RX4 D kA V A) {q : Nat} (hq : q < 338) (hS : CS D kA Z A s u H locs) {v : Int32} (hu : xmI u q 8 v = u1) (hn : v = 0 ∨ v = 1) (hd : decode cc pc = .ok (.putfield 40, 3)) (kk : ∀ H locs, CS D kA Z A s u1 H locs → W p l e R s m args below meth c H locs cells slots Q (F0 m (pc + 3) ls rest)) : W p l e R s m args below meth c H locs cells slots Q (F0 m pc ls (.int v :: .ref (Z (1000 + q)) :: rest)) := by
  obtain ⟨⟨hx, hb, hml, hown, hts⟩, hK, hE, hA⟩ := X
  have hG : ∀ w ∈ GW, w.before args s = true := fun w h => hts w (List.mem_cons_of_mem _ h)
  subst hu
  refine va_put (D := D) (ci := 4) (v := .int v) (ty := .boolean) (C := RX4) (T := TX4) (N := 15) hx hb hG gwl_X4 tyX4 tyX4_ok nmX4 hown hK hS.1 hS.2.1 hS.2.2 (90 + q) (cw_name hq) rfl 8 (by decide) (hG _ gw_255) (fun _ h9 => h9) rfl (by decide +kernel) (zr_n hn) (zr_f hn) (Nat.le_of_ble_eq_true rfl) hd (fun H1 locs1 hP hD hS1 => kk H1 locs1 ?_)
  have he := cw_setN (kA := kA) (Z := Z) (u := u) (w := xmI u q 8 v) (q := q) (x := (Z (1000 + q), .inr (4, (NF u q).set 8 (.int v)))) hq rfl rfl (by simp [NW, NF, xmI, mI, mL]) (fun j hj => by simp [NW, NF, xmI, mI, mL, hj])
  exact cs_put he hP hD hS1
theorem cp_X4_44 (X : CC p s m args c cc nL c0 RX4 D kA V A) {q : Nat} (hq : q < 338) (hS : CS D kA Z A s u H locs) {v : Int32} (hu : xmI u q 9 v = u1) (hd : decode cc pc = .ok (.putfield 44, 3)) (kk : ∀ H locs, CS D kA Z A s u1 H locs → W p l e R s m args below meth c H locs cells slots Q (F0 m (pc + 3) ls rest)) : W p l e R s m args below meth c H locs cells slots Q (F0 m pc ls (.int v :: .ref (Z (1000 + q)) :: rest)) := by
  obtain ⟨⟨hx, hb, hml, hown, hts⟩, hK, hE, hA⟩ := X
  have hG : ∀ w ∈ GW, w.before args s = true := fun w h => hts w (List.mem_cons_of_mem _ h)
  subst hu
  refine va_put (D := D) (ci := 4) (v := .int v) (ty := .int) (C := RX4) (T := TX4) (N := 15) hx hb hG gwl_X4 tyX4 tyX4_ok nmX4 hown hK hS.1 hS.2.1 hS.2.2 (90 + q) (cw_name hq) rfl 9 (by decide) (hG _ gw_259) (fun _ h9 => h9) rfl (by decide +kernel) rfl rfl (Nat.le_of_ble_eq_true rfl) hd (fun H1 locs1 hP hD hS1 => kk H1 locs1 ?_)
  have he := cw_setN (kA := kA) (Z := Z) (u := u) (w := xmI u q 9 v) (q := q) (x := (Z (1000 + q), .inr (4, (NF u q).set 9 (.int v)))) hq rfl rfl (by simp [NW, NF, xmI, mI, mL]) (fun j hj => by simp [NW, NF, xmI, mI, mL, hj])
  exact cs_put he hP hD hS1
theorem cp_X4_47 (X : CC p s m args c cc nL c0 RX4 D kA V A) {q : Nat} (hq : q < 338) (hS : CS D kA Z A s u H locs) {v : Int64} (hu : xmL u q 10 v = u1) (hd : decode cc pc = .ok (.putfield 47, 3)) (kk : ∀ H locs, CS D kA Z A s u1 H locs → W p l e R s m args below meth c H locs cells slots Q (F0 m (pc + 3) ls rest)) : W p l e R s m args below meth c H locs cells slots Q (F0 m pc ls (.long v :: .ref (Z (1000 + q)) :: rest)) := by
  obtain ⟨⟨hx, hb, hml, hown, hts⟩, hK, hE, hA⟩ := X
  have hG : ∀ w ∈ GW, w.before args s = true := fun w h => hts w (List.mem_cons_of_mem _ h)
  subst hu
  refine va_put (D := D) (ci := 4) (v := .long v) (ty := .long) (C := RX4) (T := TX4) (N := 15) hx hb hG gwl_X4 tyX4 tyX4_ok nmX4 hown hK hS.1 hS.2.1 hS.2.2 (90 + q) (cw_name hq) rfl 10 (by decide) (hG _ gw_264) (fun _ h9 => h9) rfl (by decide +kernel) rfl rfl (Nat.le_of_ble_eq_true rfl) hd (fun H1 locs1 hP hD hS1 => kk H1 locs1 ?_)
  have he := cw_setN (kA := kA) (Z := Z) (u := u) (w := xmL u q 10 v) (q := q) (x := (Z (1000 + q), .inr (4, (NF u q).set 10 (.long v)))) hq rfl rfl (by simp [NW, NF, xmL, mI, mL]) (fun j hj => by simp [NW, NF, xmL, mI, mL, hj])
  exact cs_put he hP hD hS1
theorem cp_X4_50 (X : CC p s m args c cc nL c0 RX4 D kA V A) {q : Nat} (hq : q < 338) (hS : CS D kA Z A s u H locs) {v : Int32} (hu : xmI u q 11 v = u1) (hd : decode cc pc = .ok (.putfield 50, 3)) (kk : ∀ H locs, CS D kA Z A s u1 H locs → W p l e R s m args below meth c H locs cells slots Q (F0 m (pc + 3) ls rest)) : W p l e R s m args below meth c H locs cells slots Q (F0 m pc ls (.int v :: .ref (Z (1000 + q)) :: rest)) := by
  obtain ⟨⟨hx, hb, hml, hown, hts⟩, hK, hE, hA⟩ := X
  have hG : ∀ w ∈ GW, w.before args s = true := fun w h => hts w (List.mem_cons_of_mem _ h)
  subst hu
  refine va_put (D := D) (ci := 4) (v := .int v) (ty := .int) (C := RX4) (T := TX4) (N := 15) hx hb hG gwl_X4 tyX4 tyX4_ok nmX4 hown hK hS.1 hS.2.1 hS.2.2 (90 + q) (cw_name hq) rfl 11 (by decide) (hG _ gw_269) (fun _ h9 => h9) rfl (by decide +kernel) rfl rfl (Nat.le_of_ble_eq_true rfl) hd (fun H1 locs1 hP hD hS1 => kk H1 locs1 ?_)
  have he := cw_setN (kA := kA) (Z := Z) (u := u) (w := xmI u q 11 v) (q := q) (x := (Z (1000 + q), .inr (4, (NF u q).set 11 (.int v)))) hq rfl rfl (by simp [NW, NF, xmI, mI, mL]) (fun j hj => by simp [NW, NF, xmI, mI, mL, hj])
  exact cs_put he hP hD hS1
theorem cp_X4_53 (X : CC p s m args c cc nL c0 RX4 D kA V A) {q : Nat} (hq : q < 338) (hS : CS D kA Z A s u H locs) {v : Int32} (hu : xmI u q 12 v = u1) (hd : decode cc pc = .ok (.putfield 53, 3)) (kk : ∀ H locs, CS D kA Z A s u1 H locs → W p l e R s m args below meth c H locs cells slots Q (F0 m (pc + 3) ls rest)) : W p l e R s m args below meth c H locs cells slots Q (F0 m pc ls (.int v :: .ref (Z (1000 + q)) :: rest)) := by
  obtain ⟨⟨hx, hb, hml, hown, hts⟩, hK, hE, hA⟩ := X
  have hG : ∀ w ∈ GW, w.before args s = true := fun w h => hts w (List.mem_cons_of_mem _ h)
  subst hu
  refine va_put (D := D) (ci := 4) (v := .int v) (ty := .int) (C := RX4) (T := TX4) (N := 15) hx hb hG gwl_X4 tyX4 tyX4_ok nmX4 hown hK hS.1 hS.2.1 hS.2.2 (90 + q) (cw_name hq) rfl 12 (by decide) (hG _ gw_273) (fun _ h9 => h9) rfl (by decide +kernel) rfl rfl (Nat.le_of_ble_eq_true rfl) hd (fun H1 locs1 hP hD hS1 => kk H1 locs1 ?_)
  have he := cw_setN (kA := kA) (Z := Z) (u := u) (w := xmI u q 12 v) (q := q) (x := (Z (1000 + q), .inr (4, (NF u q).set 12 (.int v)))) hq rfl rfl (by simp [NW, NF, xmI, mI, mL]) (fun j hj => by simp [NW, NF, xmI, mI, mL, hj])
  exact cs_put he hP hD hS1
theorem cp_X4_56 (X : CC p s m args c cc nL c0 RX4 D kA V A) {q : Nat} (hq : q < 338) (hS : CS D kA Z A s u H locs) {v : Int32} (hu : xmI u q 13 v = u1) (hd : decode cc pc = .ok (.putfield 56, 3)) (kk : ∀ H locs, CS D kA Z A s u1 H locs → W p l e R s m args below meth c H locs cells slots Q (F0 m (pc + 3) ls rest)) : W p l e R s m args below meth c H locs cells slots Q (F0 m pc ls (.int v :: .ref (Z (1000 + q)) :: rest)) := by
  obtain ⟨⟨hx, hb, hml, hown, hts⟩, hK, hE, hA⟩ := X
  have hG : ∀ w ∈ GW, w.before args s = true := fun w h => hts w (List.mem_cons_of_mem _ h)
  subst hu
  refine va_put (D := D) (ci := 4) (v := .int v) (ty := .int) (C := RX4) (T := TX4) (N := 15) hx hb hG gwl_X4 tyX4 tyX4_ok nmX4 hown hK hS.1 hS.2.1 hS.2.2 (90 + q) (cw_name hq) rfl 13 (by decide) (hG _ gw_277) (fun _ h9 => h9) rfl (by decide +kernel) rfl rfl (Nat.le_of_ble_eq_true rfl) hd (fun H1 locs1 hP hD hS1 => kk H1 locs1 ?_)
  have he := cw_setN (kA := kA) (Z := Z) (u := u) (w := xmI u q 13 v) (q := q) (x := (Z (1000 + q), .inr (4, (NF u q).set 13 (.int v)))) hq rfl rfl (by simp [NW, NF, xmI, mI, mL]) (fun j hj => by simp [NW, NF, xmI, mI, mL, hj])
  exact cs_put he hP hD hS1
theorem cp_X4_18 (X : CC p s m args c cc nL c0 RX4 D kA V A) {q : Nat} (hq : q < 338) (hS : CS D kA Z A s u H locs) {v : Int32} (hu : xmI u q 14 v = u1) (hd : decode cc pc = .ok (.putfield 18, 3)) (kk : ∀ H locs, CS D kA Z A s u1 H locs → W p l e R s m args below meth c H locs cells slots Q (F0 m (pc + 3) ls rest)) : W p l e R s m args below meth c H locs cells slots Q (F0 m pc ls (.int v :: .ref (Z (1000 + q)) :: rest)) := by
  obtain ⟨⟨hx, hb, hml, hown, hts⟩, hK, hE, hA⟩ := X
  have hG : ∀ w ∈ GW, w.before args s = true := fun w h => hts w (List.mem_cons_of_mem _ h)
  subst hu
  refine va_put (D := D) (ci := 4) (v := .int v) (ty := .int) (C := RX4) (T := TX4) (N := 15) hx hb hG gwl_X4 tyX4 tyX4_ok nmX4 hown hK hS.1 hS.2.1 hS.2.2 (90 + q) (cw_name hq) rfl 14 (by decide) (hG _ gw_280) (fun _ h9 => h9) rfl (by decide +kernel) rfl rfl (Nat.le_of_ble_eq_true rfl) hd (fun H1 locs1 hP hD hS1 => kk H1 locs1 ?_)
  have he := cw_setN (kA := kA) (Z := Z) (u := u) (w := xmI u q 14 v) (q := q) (x := (Z (1000 + q), .inr (4, (NF u q).set 14 (.int v)))) hq rfl rfl (by simp [NW, NF, xmI, mI, mL]) (fun j hj => by simp [NW, NF, xmI, mI, mL, hj])
  exact cs_put he hP hD hS1
theorem cg_X4_9 (X : CC p s m args c cc nL c0 RX4 D kA V A) {q : Nat} (hq : q < 338) (hS : CS D kA Z A s u H locs) (hd : decode cc pc = .ok (.getfield 9, 3)) (kk : W p l e R s m args below meth c H locs cells slots Q (F0 m (pc + 3) ls (.int (mI u q 2) :: rest))) : W p l e R s m args below meth c H locs cells slots Q (F0 m pc ls (.ref (Z (1000 + q)) :: rest)) := by
  obtain ⟨⟨hx, hb, hml, hown, hts⟩, hK, hE, hA⟩ := X
  have hG : ∀ w ∈ GW, w.before args s = true := fun w h => hts w (List.mem_cons_of_mem _ h)
  exact va_get (D := D) (ci := 4) (v := .int (mI u q 2)) (C := RX4) (T := TX4) (N := 15) hx hb hG gwl_X4 hown hK hS.1 (90 + q) (cw_name hq) rfl 2 (by decide) (hG _ gw_227) (fun _ h9 => h9) rfl hd kk
theorem cg_X4_34 (X : CC p s m args c cc nL c0 RX4 D kA V A) {q : Nat} (hq : q < 338) (hS : CS D kA Z A s u H locs) (hd : decode cc pc = .ok (.getfield 34, 3)) (kk : W p l e R s m args below meth c H locs cells slots Q (F0 m (pc + 3) ls (.int (mI u q 6) :: rest))) : W p l e R s m args below meth c H locs cells slots Q (F0 m pc ls (.ref (Z (1000 + q)) :: rest)) := by
  obtain ⟨⟨hx, hb, hml, hown, hts⟩, hK, hE, hA⟩ := X
  have hG : ∀ w ∈ GW, w.before args s = true := fun w h => hts w (List.mem_cons_of_mem _ h)
  exact va_get (D := D) (ci := 4) (v := .int (mI u q 6)) (C := RX4) (T := TX4) (N := 15) hx hb hG gwl_X4 hown hK hS.1 (90 + q) (cw_name hq) rfl 6 (by decide) (hG _ gw_247) (fun _ h9 => h9) rfl hd kk
theorem cp_X7_7 (X : CC p s m args c cc nL c0 RX7 D kA V A) {q : Nat} (hq : q < 16) (hS : CS D kA Z A s u H locs) {v : Int32} (hu : xtI u q 0 v = u1) (hd : decode cc pc = .ok (.putfield 7, 3)) (kk : ∀ H locs, CS D kA Z A s u1 H locs → W p l e R s m args below meth c H locs cells slots Q (F0 m (pc + 3) ls rest)) : W p l e R s m args below meth c H locs cells slots Q (F0 m pc ls (.int v :: .ref (Z (400 + q)) :: rest)) := by
  obtain ⟨⟨hx, hb, hml, hown, hts⟩, hK, hE, hA⟩ := X
  have hG : ∀ w ∈ GW, w.before args s = true := fun w h => hts w (List.mem_cons_of_mem _ h)
  subst hu
  refine va_put (D := D) (ci := 6) (v := .int v) (ty := .int) (C := RX7) (T := TX7) (N := 10) hx hb hG gwl_X7 tyX7 tyX7_ok nmX7 hown hK hS.1 hS.2.1 hS.2.2 (74 + q) (cw_task hq) rfl 0 (by decide) (hG _ gw_324) (fun _ h9 => h9) rfl (by decide +kernel) rfl rfl (Nat.le_of_ble_eq_true rfl) hd (fun H1 locs1 hP hD hS1 => kk H1 locs1 ?_)
  have he := cw_setT (kA := kA) (Z := Z) (u := u) (w := xtI u q 0 v) (q := q) (x := (Z (400 + q), .inr (6, (TF u q).set 0 (.int v)))) hq rfl rfl (by simp [TW, TF, xtI, tI]) (fun j hj => by simp [TW, TF, xtI, tI, hj])
  exact cs_put he hP hD hS1
theorem cp_X7_13 (X : CC p s m args c cc nL c0 RX7 D kA V A) {q : Nat} (hq : q < 16) (hS : CS D kA Z A s u H locs) {v : Int32} (hu : xtI u q 1 v = u1) (hd : decode cc pc = .ok (.putfield 13, 3)) (kk : ∀ H locs, CS D kA Z A s u1 H locs → W p l e R s m args below meth c H locs cells slots Q (F0 m (pc + 3) ls rest)) : W p l e R s m args below meth c H locs cells slots Q (F0 m pc ls (.int v :: .ref (Z (400 + q)) :: rest)) := by
  obtain ⟨⟨hx, hb, hml, hown, hts⟩, hK, hE, hA⟩ := X
  have hG : ∀ w ∈ GW, w.before args s = true := fun w h => hts w (List.mem_cons_of_mem _ h)
  subst hu
  refine va_put (D := D) (ci := 6) (v := .int v) (ty := .int) (C := RX7) (T := TX7) (N := 10) hx hb hG gwl_X7 tyX7 tyX7_ok nmX7 hown hK hS.1 hS.2.1 hS.2.2 (74 + q) (cw_task hq) rfl 1 (by decide) (hG _ gw_326) (fun _ h9 => h9) rfl (by decide +kernel) rfl rfl (Nat.le_of_ble_eq_true rfl) hd (fun H1 locs1 hP hD hS1 => kk H1 locs1 ?_)
  have he := cw_setT (kA := kA) (Z := Z) (u := u) (w := xtI u q 1 v) (q := q) (x := (Z (400 + q), .inr (6, (TF u q).set 1 (.int v)))) hq rfl rfl (by simp [TW, TF, xtI, tI]) (fun j hj => by simp [TW, TF, xtI, tI, hj])
  exact cs_put he hP hD hS1
theorem cp_X7_16 (X : CC p s m args c cc nL c0 RX7 D kA V A) {q : Nat} (hq : q < 16) (hS : CS D kA Z A s u H locs) {v : Int32} (hu : xtI u q 2 v = u1) (hd : decode cc pc = .ok (.putfield 16, 3)) (kk : ∀ H locs, CS D kA Z A s u1 H locs → W p l e R s m args below meth c H locs cells slots Q (F0 m (pc + 3) ls rest)) : W p l e R s m args below meth c H locs cells slots Q (F0 m pc ls (.int v :: .ref (Z (400 + q)) :: rest)) := by
  obtain ⟨⟨hx, hb, hml, hown, hts⟩, hK, hE, hA⟩ := X
  have hG : ∀ w ∈ GW, w.before args s = true := fun w h => hts w (List.mem_cons_of_mem _ h)
  subst hu
  refine va_put (D := D) (ci := 6) (v := .int v) (ty := .int) (C := RX7) (T := TX7) (N := 10) hx hb hG gwl_X7 tyX7 tyX7_ok nmX7 hown hK hS.1 hS.2.1 hS.2.2 (74 + q) (cw_task hq) rfl 2 (by decide) (hG _ gw_328) (fun _ h9 => h9) rfl (by decide +kernel) rfl rfl (Nat.le_of_ble_eq_true rfl) hd (fun H1 locs1 hP hD hS1 => kk H1 locs1 ?_)
  have he := cw_setT (kA := kA) (Z := Z) (u := u) (w := xtI u q 2 v) (q := q) (x := (Z (400 + q), .inr (6, (TF u q).set 2 (.int v)))) hq rfl rfl (by simp [TW, TF, xtI, tI]) (fun j hj => by simp [TW, TF, xtI, tI, hj])
  exact cs_put he hP hD hS1
theorem cp_X7_19 (X : CC p s m args c cc nL c0 RX7 D kA V A) {q : Nat} (hq : q < 16) (hS : CS D kA Z A s u H locs) {v : Int32} (hu : xtI u q 3 v = u1) (hn : v = 0 ∨ v = 1) (hd : decode cc pc = .ok (.putfield 19, 3)) (kk : ∀ H locs, CS D kA Z A s u1 H locs → W p l e R s m args below meth c H locs cells slots Q (F0 m (pc + 3) ls rest)) : W p l e R s m args below meth c H locs cells slots Q (F0 m pc ls (.int v :: .ref (Z (400 + q)) :: rest)) := by
  obtain ⟨⟨hx, hb, hml, hown, hts⟩, hK, hE, hA⟩ := X
  have hG : ∀ w ∈ GW, w.before args s = true := fun w h => hts w (List.mem_cons_of_mem _ h)
  subst hu
  refine va_put (D := D) (ci := 6) (v := .int v) (ty := .boolean) (C := RX7) (T := TX7) (N := 10) hx hb hG gwl_X7 tyX7 tyX7_ok nmX7 hown hK hS.1 hS.2.1 hS.2.2 (74 + q) (cw_task hq) rfl 3 (by decide) (hG _ gw_330) (fun _ h9 => h9) rfl (by decide +kernel) (zr_n hn) (zr_f hn) (Nat.le_of_ble_eq_true rfl) hd (fun H1 locs1 hP hD hS1 => kk H1 locs1 ?_)
  have he := cw_setT (kA := kA) (Z := Z) (u := u) (w := xtI u q 3 v) (q := q) (x := (Z (400 + q), .inr (6, (TF u q).set 3 (.int v)))) hq rfl rfl (by simp [TW, TF, xtI, tI]) (fun j hj => by simp [TW, TF, xtI, tI, hj])
  exact cs_put he hP hD hS1
theorem cp_X7_23 (X : CC p s m args c cc nL c0 RX7 D kA V A) {q : Nat} (hq : q < 16) (hS : CS D kA Z A s u H locs) {v : Int32} (hu : xtI u q 4 v = u1) (hd : decode cc pc = .ok (.putfield 23, 3)) (kk : ∀ H locs, CS D kA Z A s u1 H locs → W p l e R s m args below meth c H locs cells slots Q (F0 m (pc + 3) ls rest)) : W p l e R s m args below meth c H locs cells slots Q (F0 m pc ls (.int v :: .ref (Z (400 + q)) :: rest)) := by
  obtain ⟨⟨hx, hb, hml, hown, hts⟩, hK, hE, hA⟩ := X
  have hG : ∀ w ∈ GW, w.before args s = true := fun w h => hts w (List.mem_cons_of_mem _ h)
  subst hu
  refine va_put (D := D) (ci := 6) (v := .int v) (ty := .int) (C := RX7) (T := TX7) (N := 10) hx hb hG gwl_X7 tyX7 tyX7_ok nmX7 hown hK hS.1 hS.2.1 hS.2.2 (74 + q) (cw_task hq) rfl 4 (by decide) (hG _ gw_333) (fun _ h9 => h9) rfl (by decide +kernel) rfl rfl (Nat.le_of_ble_eq_true rfl) hd (fun H1 locs1 hP hD hS1 => kk H1 locs1 ?_)
  have he := cw_setT (kA := kA) (Z := Z) (u := u) (w := xtI u q 4 v) (q := q) (x := (Z (400 + q), .inr (6, (TF u q).set 4 (.int v)))) hq rfl rfl (by simp [TW, TF, xtI, tI]) (fun j hj => by simp [TW, TF, xtI, tI, hj])
  exact cs_put he hP hD hS1
theorem cp_X7_26 (X : CC p s m args c cc nL c0 RX7 D kA V A) {q : Nat} (hq : q < 16) (hS : CS D kA Z A s u H locs) {v : Int32} (hu : xtI u q 5 v = u1) (hd : decode cc pc = .ok (.putfield 26, 3)) (kk : ∀ H locs, CS D kA Z A s u1 H locs → W p l e R s m args below meth c H locs cells slots Q (F0 m (pc + 3) ls rest)) : W p l e R s m args below meth c H locs cells slots Q (F0 m pc ls (.int v :: .ref (Z (400 + q)) :: rest)) := by
  obtain ⟨⟨hx, hb, hml, hown, hts⟩, hK, hE, hA⟩ := X
  have hG : ∀ w ∈ GW, w.before args s = true := fun w h => hts w (List.mem_cons_of_mem _ h)
  subst hu
  refine va_put (D := D) (ci := 6) (v := .int v) (ty := .int) (C := RX7) (T := TX7) (N := 10) hx hb hG gwl_X7 tyX7 tyX7_ok nmX7 hown hK hS.1 hS.2.1 hS.2.2 (74 + q) (cw_task hq) rfl 5 (by decide) (hG _ gw_335) (fun _ h9 => h9) rfl (by decide +kernel) rfl rfl (Nat.le_of_ble_eq_true rfl) hd (fun H1 locs1 hP hD hS1 => kk H1 locs1 ?_)
  have he := cw_setT (kA := kA) (Z := Z) (u := u) (w := xtI u q 5 v) (q := q) (x := (Z (400 + q), .inr (6, (TF u q).set 5 (.int v)))) hq rfl rfl (by simp [TW, TF, xtI, tI]) (fun j hj => by simp [TW, TF, xtI, tI, hj])
  exact cs_put he hP hD hS1
theorem cp_X7_29 (X : CC p s m args c cc nL c0 RX7 D kA V A) {q : Nat} (hq : q < 16) (hS : CS D kA Z A s u H locs) {v : Int32} (hu : xtI u q 6 v = u1) (hd : decode cc pc = .ok (.putfield 29, 3)) (kk : ∀ H locs, CS D kA Z A s u1 H locs → W p l e R s m args below meth c H locs cells slots Q (F0 m (pc + 3) ls rest)) : W p l e R s m args below meth c H locs cells slots Q (F0 m pc ls (.int v :: .ref (Z (400 + q)) :: rest)) := by
  obtain ⟨⟨hx, hb, hml, hown, hts⟩, hK, hE, hA⟩ := X
  have hG : ∀ w ∈ GW, w.before args s = true := fun w h => hts w (List.mem_cons_of_mem _ h)
  subst hu
  refine va_put (D := D) (ci := 6) (v := .int v) (ty := .int) (C := RX7) (T := TX7) (N := 10) hx hb hG gwl_X7 tyX7 tyX7_ok nmX7 hown hK hS.1 hS.2.1 hS.2.2 (74 + q) (cw_task hq) rfl 6 (by decide) (hG _ gw_337) (fun _ h9 => h9) rfl (by decide +kernel) rfl rfl (Nat.le_of_ble_eq_true rfl) hd (fun H1 locs1 hP hD hS1 => kk H1 locs1 ?_)
  have he := cw_setT (kA := kA) (Z := Z) (u := u) (w := xtI u q 6 v) (q := q) (x := (Z (400 + q), .inr (6, (TF u q).set 6 (.int v)))) hq rfl rfl (by simp [TW, TF, xtI, tI]) (fun j hj => by simp [TW, TF, xtI, tI, hj])
  exact cs_put he hP hD hS1
theorem cp_X7_32 (X : CC p s m args c cc nL c0 RX7 D kA V A) {q : Nat} (hq : q < 16) (hS : CS D kA Z A s u H locs) {v : Int32} (hu : xtI u q 7 v = u1) (hd : decode cc pc = .ok (.putfield 32, 3)) (kk : ∀ H locs, CS D kA Z A s u1 H locs → W p l e R s m args below meth c H locs cells slots Q (F0 m (pc + 3) ls rest)) : W p l e R s m args below meth c H locs cells slots Q (F0 m pc ls (.int v :: .ref (Z (400 + q)) :: rest)) := by
  obtain ⟨⟨hx, hb, hml, hown, hts⟩, hK, hE, hA⟩ := X
  have hG : ∀ w ∈ GW, w.before args s = true := fun w h => hts w (List.mem_cons_of_mem _ h)
  subst hu
  refine va_put (D := D) (ci := 6) (v := .int v) (ty := .int) (C := RX7) (T := TX7) (N := 10) hx hb hG gwl_X7 tyX7 tyX7_ok nmX7 hown hK hS.1 hS.2.1 hS.2.2 (74 + q) (cw_task hq) rfl 7 (by decide) (hG _ gw_339) (fun _ h9 => h9) rfl (by decide +kernel) rfl rfl (Nat.le_of_ble_eq_true rfl) hd (fun H1 locs1 hP hD hS1 => kk H1 locs1 ?_)
  have he := cw_setT (kA := kA) (Z := Z) (u := u) (w := xtI u q 7 v) (q := q) (x := (Z (400 + q), .inr (6, (TF u q).set 7 (.int v)))) hq rfl rfl (by simp [TW, TF, xtI, tI]) (fun j hj => by simp [TW, TF, xtI, tI, hj])
  exact cs_put he hP hD hS1
theorem cp_X7_35 (X : CC p s m args c cc nL c0 RX7 D kA V A) {q : Nat} (hq : q < 16) (hS : CS D kA Z A s u H locs) {v : Int32} (hu : xtI u q 8 v = u1) (hd : decode cc pc = .ok (.putfield 35, 3)) (kk : ∀ H locs, CS D kA Z A s u1 H locs → W p l e R s m args below meth c H locs cells slots Q (F0 m (pc + 3) ls rest)) : W p l e R s m args below meth c H locs cells slots Q (F0 m pc ls (.int v :: .ref (Z (400 + q)) :: rest)) := by
  obtain ⟨⟨hx, hb, hml, hown, hts⟩, hK, hE, hA⟩ := X
  have hG : ∀ w ∈ GW, w.before args s = true := fun w h => hts w (List.mem_cons_of_mem _ h)
  subst hu
  refine va_put (D := D) (ci := 6) (v := .int v) (ty := .int) (C := RX7) (T := TX7) (N := 10) hx hb hG gwl_X7 tyX7 tyX7_ok nmX7 hown hK hS.1 hS.2.1 hS.2.2 (74 + q) (cw_task hq) rfl 8 (by decide) (hG _ gw_341) (fun _ h9 => h9) rfl (by decide +kernel) rfl rfl (Nat.le_of_ble_eq_true rfl) hd (fun H1 locs1 hP hD hS1 => kk H1 locs1 ?_)
  have he := cw_setT (kA := kA) (Z := Z) (u := u) (w := xtI u q 8 v) (q := q) (x := (Z (400 + q), .inr (6, (TF u q).set 8 (.int v)))) hq rfl rfl (by simp [TW, TF, xtI, tI]) (fun j hj => by simp [TW, TF, xtI, tI, hj])
  exact cs_put he hP hD hS1
theorem cp_X7_38 (X : CC p s m args c cc nL c0 RX7 D kA V A) {q : Nat} (hq : q < 16) (hS : CS D kA Z A s u H locs) {v : Int32} (hu : xtI u q 9 v = u1) (hd : decode cc pc = .ok (.putfield 38, 3)) (kk : ∀ H locs, CS D kA Z A s u1 H locs → W p l e R s m args below meth c H locs cells slots Q (F0 m (pc + 3) ls rest)) : W p l e R s m args below meth c H locs cells slots Q (F0 m pc ls (.int v :: .ref (Z (400 + q)) :: rest)) := by
  obtain ⟨⟨hx, hb, hml, hown, hts⟩, hK, hE, hA⟩ := X
  have hG : ∀ w ∈ GW, w.before args s = true := fun w h => hts w (List.mem_cons_of_mem _ h)
  subst hu
  refine va_put (D := D) (ci := 6) (v := .int v) (ty := .int) (C := RX7) (T := TX7) (N := 10) hx hb hG gwl_X7 tyX7 tyX7_ok nmX7 hown hK hS.1 hS.2.1 hS.2.2 (74 + q) (cw_task hq) rfl 9 (by decide) (hG _ gw_343) (fun _ h9 => h9) rfl (by decide +kernel) rfl rfl (Nat.le_of_ble_eq_true rfl) hd (fun H1 locs1 hP hD hS1 => kk H1 locs1 ?_)
  have he := cw_setT (kA := kA) (Z := Z) (u := u) (w := xtI u q 9 v) (q := q) (x := (Z (400 + q), .inr (6, (TF u q).set 9 (.int v)))) hq rfl rfl (by simp [TW, TF, xtI, tI]) (fun j hj => by simp [TW, TF, xtI, tI, hj])
  exact cs_put he hP hD hS1
theorem cp_X10_34 (X : CC p s m args c cc nL c0 RX10 D kA V A) (hS : CS D kA Z A s u H locs) {v : Int32} (hu : xI u 9 v = u1) (hd : decode cc pc = .ok (.putfield 34, 3)) (kk : ∀ H locs, CS D kA Z A s u1 H locs → W p l e R s m args below meth c H locs cells slots Q (F0 m (pc + 3) ls rest)) : W p l e R s m args below meth c H locs cells slots Q (F0 m pc ls (.int v :: .ref (Z 219) :: rest)) := by
  obtain ⟨⟨hx, hb, hml, hown, hts⟩, hK, hE, hA⟩ := X
  have hG : ∀ w ∈ GW, w.before args s = true := fun w h => hts w (List.mem_cons_of_mem _ h)
  subst hu
  refine va_put (D := D) (ci := 9) (v := .int v) (ty := .int) (C := RX10) (T := TX10) (N := 10) hx hb hG gwl_X10 tyX10 tyX10_ok nmX10 hown hK hS.1 hS.2.1 hS.2.2 19 (cw_lit rfl) rfl 3 (by decide) (hG _ gw_172) (fun _ h9 => h9) rfl (by decide +kernel) rfl rfl (Nat.le_of_ble_eq_true rfl) hd (fun H1 locs1 hP hD hS1 => kk H1 locs1 ?_)
  have he := cw_setL (kA := kA) (Z := Z) (u := u) (w := xI u 9 v) (k := 19) (x := (Z 219, .inr (9, ([.ref (Z 220), .ref (Z 221), .ref (Z 222), .int (cI u 9), .ref (Z 223), .ref (Z 224), .ref (Z 225), .ref (Z 226), .int (cI u 10), .int (cI u 11)] : List Value).set 3 (.int v)))) (by decide) rfl rfl rfl
  exact cs_put he hP hD hS1
theorem cp_X10_38 (X : CC p s m args c cc nL c0 RX10 D kA V A) (hS : CS D kA Z A s u H locs) {v : Int32} (hu : xI u 10 v = u1) (hd : decode cc pc = .ok (.putfield 38, 3)) (kk : ∀ H locs, CS D kA Z A s u1 H locs → W p l e R s m args below meth c H locs cells slots Q (F0 m (pc + 3) ls rest)) : W p l e R s m args below meth c H locs cells slots Q (F0 m pc ls (.int v :: .ref (Z 219) :: rest)) := by
  obtain ⟨⟨hx, hb, hml, hown, hts⟩, hK, hE, hA⟩ := X
  have hG : ∀ w ∈ GW, w.before args s = true := fun w h => hts w (List.mem_cons_of_mem _ h)
  subst hu
  refine va_put (D := D) (ci := 9) (v := .int v) (ty := .int) (C := RX10) (T := TX10) (N := 10) hx hb hG gwl_X10 tyX10 tyX10_ok nmX10 hown hK hS.1 hS.2.1 hS.2.2 19 (cw_lit rfl) rfl 8 (by decide) (hG _ gw_182) (fun _ h9 => h9) rfl (by decide +kernel) rfl rfl (Nat.le_of_ble_eq_true rfl) hd (fun H1 locs1 hP hD hS1 => kk H1 locs1 ?_)
  have he := cw_setL (kA := kA) (Z := Z) (u := u) (w := xI u 10 v) (k := 19) (x := (Z 219, .inr (9, ([.ref (Z 220), .ref (Z 221), .ref (Z 222), .int (cI u 9), .ref (Z 223), .ref (Z 224), .ref (Z 225), .ref (Z 226), .int (cI u 10), .int (cI u 11)] : List Value).set 8 (.int v)))) (by decide) rfl rfl rfl
  exact cs_put he hP hD hS1
theorem cp_X10_41 (X : CC p s m args c cc nL c0 RX10 D kA V A) (hS : CS D kA Z A s u H locs) {v : Int32} (hu : xI u 11 v = u1) (hd : decode cc pc = .ok (.putfield 41, 3)) (kk : ∀ H locs, CS D kA Z A s u1 H locs → W p l e R s m args below meth c H locs cells slots Q (F0 m (pc + 3) ls rest)) : W p l e R s m args below meth c H locs cells slots Q (F0 m pc ls (.int v :: .ref (Z 219) :: rest)) := by
  obtain ⟨⟨hx, hb, hml, hown, hts⟩, hK, hE, hA⟩ := X
  have hG : ∀ w ∈ GW, w.before args s = true := fun w h => hts w (List.mem_cons_of_mem _ h)
  subst hu
  refine va_put (D := D) (ci := 9) (v := .int v) (ty := .int) (C := RX10) (T := TX10) (N := 10) hx hb hG gwl_X10 tyX10 tyX10_ok nmX10 hown hK hS.1 hS.2.1 hS.2.2 19 (cw_lit rfl) rfl 9 (by decide) (hG _ gw_184) (fun _ h9 => h9) rfl (by decide +kernel) rfl rfl (Nat.le_of_ble_eq_true rfl) hd (fun H1 locs1 hP hD hS1 => kk H1 locs1 ?_)
  have he := cw_setL (kA := kA) (Z := Z) (u := u) (w := xI u 11 v) (k := 19) (x := (Z 219, .inr (9, ([.ref (Z 220), .ref (Z 221), .ref (Z 222), .int (cI u 9), .ref (Z 223), .ref (Z 224), .ref (Z 225), .ref (Z 226), .int (cI u 10), .int (cI u 11)] : List Value).set 9 (.int v)))) (by decide) rfl rfl rfl
  exact cs_put he hP hD hS1
theorem cg_X10_34 (X : CC p s m args c cc nL c0 RX10 D kA V A) (hS : CS D kA Z A s u H locs) (hd : decode cc pc = .ok (.getfield 34, 3)) (kk : W p l e R s m args below meth c H locs cells slots Q (F0 m (pc + 3) ls (.int (cI u 9) :: rest))) : W p l e R s m args below meth c H locs cells slots Q (F0 m pc ls (.ref (Z 219) :: rest)) := by
  obtain ⟨⟨hx, hb, hml, hown, hts⟩, hK, hE, hA⟩ := X
  have hG : ∀ w ∈ GW, w.before args s = true := fun w h => hts w (List.mem_cons_of_mem _ h)
  exact va_get (D := D) (ci := 9) (v := .int (cI u 9)) (C := RX10) (T := TX10) (N := 10) hx hb hG gwl_X10 hown hK hS.1 19 (cw_lit rfl) rfl 3 (by decide) (hG _ gw_172) (fun _ h9 => h9) rfl hd kk
theorem cg_X10_9 (X : CC p s m args c cc nL c0 RX10 D kA V A) (hS : CS D kA Z A s u H locs) (hd : decode cc pc = .ok (.getfield 9, 3)) (kk : W p l e R s m args below meth c H locs cells slots Q (F0 m (pc + 3) ls (.ref (Z 220) :: rest))) : W p l e R s m args below meth c H locs cells slots Q (F0 m pc ls (.ref (Z 219) :: rest)) := by
  obtain ⟨⟨hx, hb, hml, hown, hts⟩, hK, hE, hA⟩ := X
  have hG : ∀ w ∈ GW, w.before args s = true := fun w h => hts w (List.mem_cons_of_mem _ h)
  exact va_get (D := D) (ci := 9) (v := .ref (Z 220)) (C := RX10) (T := TX10) (N := 10) hx hb hG gwl_X10 hown hK hS.1 19 (cw_lit rfl) rfl 0 (by decide) (hG _ gw_167) (fun _ h9 => h9) rfl hd kk
theorem ca_s220 (X : CC p s m args c cc nL c0 own D kA V A) (hS : CS D kA Z A s u H locs) {i : Int32} {v : Int32} (hi : vp_in i 16) (hv : cA u 220 i.toNatClampNeg = v) (hd : decode cc pc = .ok (.iaload, 1)) (kk : W p l e R s m args below meth c H locs cells slots Q (F0 m (pc + 1) ls (.int v :: rest))) : W p l e R s m args below meth c H locs cells slots Q (F0 m pc ls (.int i :: .ref (Z 220) :: rest)) := by
  subst hv
  exact va_iald X.1.1 X.1.2.1 X.2.1 hS.1 20 0 (cw_lit rfl) rfl hi hd kk
theorem cg_X10_15 (X : CC p s m args c cc nL c0 RX10 D kA V A) (hS : CS D kA Z A s u H locs) (hd : decode cc pc = .ok (.getfield 15, 3)) (kk : W p l e R s m args below meth c H locs cells slots Q (F0 m (pc + 3) ls (.ref (Z 221) :: rest))) : W p l e R s m args below meth c H locs cells slots Q (F0 m pc ls (.ref (Z 219) :: rest)) := by
  obtain ⟨⟨hx, hb, hml, hown, hts⟩, hK, hE, hA⟩ := X
  have hG : ∀ w ∈ GW, w.before args s = true := fun w h => hts w (List.mem_cons_of_mem _ h)
  exact va_get (D := D) (ci := 9) (v := .ref (Z 221)) (C := RX10) (T := TX10) (N := 10) hx hb hG gwl_X10 hown hK hS.1 19 (cw_lit rfl) rfl 1 (by decide) (hG _ gw_169) (fun _ h9 => h9) rfl hd kk
theorem ca_s221 (X : CC p s m args c cc nL c0 own D kA V A) (hS : CS D kA Z A s u H locs) {i : Int32} {v : Int32} (hi : vp_in i 16) (hv : cA u 221 i.toNatClampNeg = v) (hd : decode cc pc = .ok (.iaload, 1)) (kk : W p l e R s m args below meth c H locs cells slots Q (F0 m (pc + 1) ls (.int v :: rest))) : W p l e R s m args below meth c H locs cells slots Q (F0 m pc ls (.int i :: .ref (Z 221) :: rest)) := by
  subst hv
  exact va_iald X.1.1 X.1.2.1 X.2.1 hS.1 21 0 (cw_lit rfl) rfl hi hd kk
theorem cs_s220 (X : CC p s m args c cc nL c0 own D kA V A) (hS : CS D kA Z A s u H locs) {i : Int32} {v : Int32} (hi : vp_in i 16) (hu : xA u 220 i.toNatClampNeg v = u1) (hd : decode cc pc = .ok (.iastore, 1)) (kk : ∀ H locs, CS D kA Z A s u1 H locs → W p l e R s m args below meth c H locs cells slots Q (F0 m (pc + 1) ls rest)) : W p l e R s m args below meth c H locs cells slots Q (F0 m pc ls (.int v :: .int i :: .ref (Z 220) :: rest)) := by
  subst hu
  refine va_iast X.1.1 X.1.2.1 X.2.1 hS.1 hS.2.1 hS.2.2 20 0 (cw_lit rfl) rfl hi hd (fun H1 locs1 hP hD hS1 => kk H1 locs1 ?_)
  have he := cw_setL (kA := kA) (Z := Z) (u := u) (w := xA u 220 i.toNatClampNeg v) (k := 20) (x := (Z 220, .inl (kA 0, 16, .inl (upd (cA u 220) i.toNatClampNeg v)))) (by decide) rfl rfl rfl
  exact cs_put he hP hD hS1
theorem cs_s221 (X : CC p s m args c cc nL c0 own D kA V A) (hS : CS D kA Z A s u H locs) {i : Int32} {v : Int32} (hi : vp_in i 16) (hu : xA u 221 i.toNatClampNeg v = u1) (hd : decode cc pc = .ok (.iastore, 1)) (kk : ∀ H locs, CS D kA Z A s u1 H locs → W p l e R s m args below meth c H locs cells slots Q (F0 m (pc + 1) ls rest)) : W p l e R s m args below meth c H locs cells slots Q (F0 m pc ls (.int v :: .int i :: .ref (Z 221) :: rest)) := by
  subst hu
  refine va_iast X.1.1 X.1.2.1 X.2.1 hS.1 hS.2.1 hS.2.2 21 0 (cw_lit rfl) rfl hi hd (fun H1 locs1 hP hD hS1 => kk H1 locs1 ?_)
  have he := cw_setL (kA := kA) (Z := Z) (u := u) (w := xA u 221 i.toNatClampNeg v) (k := 21) (x := (Z 221, .inl (kA 0, 16, .inl (upd (cA u 221) i.toNatClampNeg v)))) (by decide) rfl rfl rfl
  exact cs_put he hP hD hS1
theorem cg_X10_18 (X : CC p s m args c cc nL c0 RX10 D kA V A) (hS : CS D kA Z A s u H locs) (hd : decode cc pc = .ok (.getfield 18, 3)) (kk : W p l e R s m args below meth c H locs cells slots Q (F0 m (pc + 3) ls (.ref (Z 222) :: rest))) : W p l e R s m args below meth c H locs cells slots Q (F0 m pc ls (.ref (Z 219) :: rest)) := by
  obtain ⟨⟨hx, hb, hml, hown, hts⟩, hK, hE, hA⟩ := X
  have hG : ∀ w ∈ GW, w.before args s = true := fun w h => hts w (List.mem_cons_of_mem _ h)
  exact va_get (D := D) (ci := 9) (v := .ref (Z 222)) (C := RX10) (T := TX10) (N := 10) hx hb hG gwl_X10 hown hK hS.1 19 (cw_lit rfl) rfl 2 (by decide) (hG _ gw_171) (fun _ h9 => h9) rfl hd kk
theorem cs_s222 (X : CC p s m args c cc nL c0 own D kA V A) (hS : CS D kA Z A s u H locs) {i : Int32} {v : Int64} (hi : vp_in i 16) (hu : xB u 222 i.toNatClampNeg v = u1) (hd : decode cc pc = .ok (.lastore, 1)) (kk : ∀ H locs, CS D kA Z A s u1 H locs → W p l e R s m args below meth c H locs cells slots Q (F0 m (pc + 1) ls rest)) : W p l e R s m args below meth c H locs cells slots Q (F0 m pc ls (.long v :: .int i :: .ref (Z 222) :: rest)) := by
  subst hu
  refine va_last X.1.1 X.1.2.1 X.2.1 hS.1 hS.2.1 hS.2.2 22 1 (cw_lit rfl) rfl hi hd (fun H1 locs1 hP hD hS1 => kk H1 locs1 ?_)
  have he := cw_setL (kA := kA) (Z := Z) (u := u) (w := xB u 222 i.toNatClampNeg v) (k := 22) (x := (Z 222, .inl (kA 1, 16, .inr (.inl (vp_updL (cB u 222) i.toNatClampNeg v))))) (by decide) rfl rfl rfl
  exact cs_put he hP hD hS1
theorem ca_s222 (X : CC p s m args c cc nL c0 own D kA V A) (hS : CS D kA Z A s u H locs) {i : Int32} {v : Int64} (hi : vp_in i 16) (hv : cB u 222 i.toNatClampNeg = v) (hd : decode cc pc = .ok (.laload, 1)) (kk : W p l e R s m args below meth c H locs cells slots Q (F0 m (pc + 1) ls (.long v :: rest))) : W p l e R s m args below meth c H locs cells slots Q (F0 m pc ls (.int i :: .ref (Z 222) :: rest)) := by
  subst hv
  exact va_lald X.1.1 X.1.2.1 X.2.1 hS.1 22 1 (cw_lit rfl) rfl hi hd kk
theorem cg_X10_22 (X : CC p s m args c cc nL c0 RX10 D kA V A) (hS : CS D kA Z A s u H locs) (hd : decode cc pc = .ok (.getfield 22, 3)) (kk : W p l e R s m args below meth c H locs cells slots Q (F0 m (pc + 3) ls (.ref (Z 223) :: rest))) : W p l e R s m args below meth c H locs cells slots Q (F0 m pc ls (.ref (Z 219) :: rest)) := by
  obtain ⟨⟨hx, hb, hml, hown, hts⟩, hK, hE, hA⟩ := X
  have hG : ∀ w ∈ GW, w.before args s = true := fun w h => hts w (List.mem_cons_of_mem _ h)
  exact va_get (D := D) (ci := 9) (v := .ref (Z 223)) (C := RX10) (T := TX10) (N := 10) hx hb hG gwl_X10 hown hK hS.1 19 (cw_lit rfl) rfl 4 (by decide) (hG _ gw_174) (fun _ h9 => h9) rfl hd kk
theorem cg_X10_41 (X : CC p s m args c cc nL c0 RX10 D kA V A) (hS : CS D kA Z A s u H locs) (hd : decode cc pc = .ok (.getfield 41, 3)) (kk : W p l e R s m args below meth c H locs cells slots Q (F0 m (pc + 3) ls (.int (cI u 11) :: rest))) : W p l e R s m args below meth c H locs cells slots Q (F0 m pc ls (.ref (Z 219) :: rest)) := by
  obtain ⟨⟨hx, hb, hml, hown, hts⟩, hK, hE, hA⟩ := X
  have hG : ∀ w ∈ GW, w.before args s = true := fun w h => hts w (List.mem_cons_of_mem _ h)
  exact va_get (D := D) (ci := 9) (v := .int (cI u 11)) (C := RX10) (T := TX10) (N := 10) hx hb hG gwl_X10 hown hK hS.1 19 (cw_lit rfl) rfl 9 (by decide) (hG _ gw_184) (fun _ h9 => h9) rfl hd kk
theorem cs_s223 (X : CC p s m args c cc nL c0 own D kA V A) (hS : CS D kA Z A s u H locs) {i : Int32} {v : Int32} (hi : vp_in i 100) (hu : xA u 223 i.toNatClampNeg v = u1) (hd : decode cc pc = .ok (.iastore, 1)) (kk : ∀ H locs, CS D kA Z A s u1 H locs → W p l e R s m args below meth c H locs cells slots Q (F0 m (pc + 1) ls rest)) : W p l e R s m args below meth c H locs cells slots Q (F0 m pc ls (.int v :: .int i :: .ref (Z 223) :: rest)) := by
  subst hu
  refine va_iast X.1.1 X.1.2.1 X.2.1 hS.1 hS.2.1 hS.2.2 23 0 (cw_lit rfl) rfl hi hd (fun H1 locs1 hP hD hS1 => kk H1 locs1 ?_)
  have he := cw_setL (kA := kA) (Z := Z) (u := u) (w := xA u 223 i.toNatClampNeg v) (k := 23) (x := (Z 223, .inl (kA 0, 100, .inl (upd (cA u 223) i.toNatClampNeg v)))) (by decide) rfl rfl rfl
  exact cs_put he hP hD hS1
theorem cg_X10_25 (X : CC p s m args c cc nL c0 RX10 D kA V A) (hS : CS D kA Z A s u H locs) (hd : decode cc pc = .ok (.getfield 25, 3)) (kk : W p l e R s m args below meth c H locs cells slots Q (F0 m (pc + 3) ls (.ref (Z 224) :: rest))) : W p l e R s m args below meth c H locs cells slots Q (F0 m pc ls (.ref (Z 219) :: rest)) := by
  obtain ⟨⟨hx, hb, hml, hown, hts⟩, hK, hE, hA⟩ := X
  have hG : ∀ w ∈ GW, w.before args s = true := fun w h => hts w (List.mem_cons_of_mem _ h)
  exact va_get (D := D) (ci := 9) (v := .ref (Z 224)) (C := RX10) (T := TX10) (N := 10) hx hb hG gwl_X10 hown hK hS.1 19 (cw_lit rfl) rfl 5 (by decide) (hG _ gw_176) (fun _ h9 => h9) rfl hd kk
theorem cs_s224 (X : CC p s m args c cc nL c0 own D kA V A) (hS : CS D kA Z A s u H locs) {i : Int32} {v : Int32} (hi : vp_in i 100) (hu : xA u 224 i.toNatClampNeg v = u1) (hd : decode cc pc = .ok (.iastore, 1)) (kk : ∀ H locs, CS D kA Z A s u1 H locs → W p l e R s m args below meth c H locs cells slots Q (F0 m (pc + 1) ls rest)) : W p l e R s m args below meth c H locs cells slots Q (F0 m pc ls (.int v :: .int i :: .ref (Z 224) :: rest)) := by
  subst hu
  refine va_iast X.1.1 X.1.2.1 X.2.1 hS.1 hS.2.1 hS.2.2 24 0 (cw_lit rfl) rfl hi hd (fun H1 locs1 hP hD hS1 => kk H1 locs1 ?_)
  have he := cw_setL (kA := kA) (Z := Z) (u := u) (w := xA u 224 i.toNatClampNeg v) (k := 24) (x := (Z 224, .inl (kA 0, 100, .inl (upd (cA u 224) i.toNatClampNeg v)))) (by decide) rfl rfl rfl
  exact cs_put he hP hD hS1
theorem cg_X10_28 (X : CC p s m args c cc nL c0 RX10 D kA V A) (hS : CS D kA Z A s u H locs) (hd : decode cc pc = .ok (.getfield 28, 3)) (kk : W p l e R s m args below meth c H locs cells slots Q (F0 m (pc + 3) ls (.ref (Z 225) :: rest))) : W p l e R s m args below meth c H locs cells slots Q (F0 m pc ls (.ref (Z 219) :: rest)) := by
  obtain ⟨⟨hx, hb, hml, hown, hts⟩, hK, hE, hA⟩ := X
  have hG : ∀ w ∈ GW, w.before args s = true := fun w h => hts w (List.mem_cons_of_mem _ h)
  exact va_get (D := D) (ci := 9) (v := .ref (Z 225)) (C := RX10) (T := TX10) (N := 10) hx hb hG gwl_X10 hown hK hS.1 19 (cw_lit rfl) rfl 6 (by decide) (hG _ gw_178) (fun _ h9 => h9) rfl hd kk
theorem cs_s225 (X : CC p s m args c cc nL c0 own D kA V A) (hS : CS D kA Z A s u H locs) {i : Int32} {v : Int32} (hi : vp_in i 100) (hu : xA u 225 i.toNatClampNeg v = u1) (hd : decode cc pc = .ok (.iastore, 1)) (kk : ∀ H locs, CS D kA Z A s u1 H locs → W p l e R s m args below meth c H locs cells slots Q (F0 m (pc + 1) ls rest)) : W p l e R s m args below meth c H locs cells slots Q (F0 m pc ls (.int v :: .int i :: .ref (Z 225) :: rest)) := by
  subst hu
  refine va_iast X.1.1 X.1.2.1 X.2.1 hS.1 hS.2.1 hS.2.2 25 0 (cw_lit rfl) rfl hi hd (fun H1 locs1 hP hD hS1 => kk H1 locs1 ?_)
  have he := cw_setL (kA := kA) (Z := Z) (u := u) (w := xA u 225 i.toNatClampNeg v) (k := 25) (x := (Z 225, .inl (kA 0, 100, .inl (upd (cA u 225) i.toNatClampNeg v)))) (by decide) rfl rfl rfl
  exact cs_put he hP hD hS1
theorem cg_X10_31 (X : CC p s m args c cc nL c0 RX10 D kA V A) (hS : CS D kA Z A s u H locs) (hd : decode cc pc = .ok (.getfield 31, 3)) (kk : W p l e R s m args below meth c H locs cells slots Q (F0 m (pc + 3) ls (.ref (Z 226) :: rest))) : W p l e R s m args below meth c H locs cells slots Q (F0 m pc ls (.ref (Z 219) :: rest)) := by
  obtain ⟨⟨hx, hb, hml, hown, hts⟩, hK, hE, hA⟩ := X
  have hG : ∀ w ∈ GW, w.before args s = true := fun w h => hts w (List.mem_cons_of_mem _ h)
  exact va_get (D := D) (ci := 9) (v := .ref (Z 226)) (C := RX10) (T := TX10) (N := 10) hx hb hG gwl_X10 hown hK hS.1 19 (cw_lit rfl) rfl 7 (by decide) (hG _ gw_180) (fun _ h9 => h9) rfl hd kk
theorem cs_s226 (X : CC p s m args c cc nL c0 own D kA V A) (hS : CS D kA Z A s u H locs) {i : Int32} {v : Int64} (hi : vp_in i 100) (hu : xB u 226 i.toNatClampNeg v = u1) (hd : decode cc pc = .ok (.lastore, 1)) (kk : ∀ H locs, CS D kA Z A s u1 H locs → W p l e R s m args below meth c H locs cells slots Q (F0 m (pc + 1) ls rest)) : W p l e R s m args below meth c H locs cells slots Q (F0 m pc ls (.long v :: .int i :: .ref (Z 226) :: rest)) := by
  subst hu
  refine va_last X.1.1 X.1.2.1 X.2.1 hS.1 hS.2.1 hS.2.2 26 1 (cw_lit rfl) rfl hi hd (fun H1 locs1 hP hD hS1 => kk H1 locs1 ?_)
  have he := cw_setL (kA := kA) (Z := Z) (u := u) (w := xB u 226 i.toNatClampNeg v) (k := 26) (x := (Z 226, .inl (kA 1, 100, .inr (.inl (vp_updL (cB u 226) i.toNatClampNeg v))))) (by decide) rfl rfl rfl
  exact cs_put he hP hD hS1
theorem cg_X10_38 (X : CC p s m args c cc nL c0 RX10 D kA V A) (hS : CS D kA Z A s u H locs) (hd : decode cc pc = .ok (.getfield 38, 3)) (kk : W p l e R s m args below meth c H locs cells slots Q (F0 m (pc + 3) ls (.int (cI u 10) :: rest))) : W p l e R s m args below meth c H locs cells slots Q (F0 m pc ls (.ref (Z 219) :: rest)) := by
  obtain ⟨⟨hx, hb, hml, hown, hts⟩, hK, hE, hA⟩ := X
  have hG : ∀ w ∈ GW, w.before args s = true := fun w h => hts w (List.mem_cons_of_mem _ h)
  exact va_get (D := D) (ci := 9) (v := .int (cI u 10)) (C := RX10) (T := TX10) (N := 10) hx hb hG gwl_X10 hown hK hS.1 19 (cw_lit rfl) rfl 8 (by decide) (hG _ gw_182) (fun _ h9 => h9) rfl hd kk
theorem cg_X6_34 (X : CC p s m args c cc nL c0 RX6 D kA V A) {q : Nat} (hq : q < 2) (hS : CS D kA Z A s u H locs) (hd : decode cc pc = .ok (.getfield 34, 3)) (kk : W p l e R s m args below meth c H locs cells slots Q (F0 m (pc + 3) ls (.ref (Z (300 + 50 * q + 9)) :: rest))) : W p l e R s m args below meth c H locs cells slots Q (F0 m pc ls (.ref (Z (300 + 50 * q)) :: rest)) := by
  obtain ⟨⟨hx, hb, hml, hown, hts⟩, hK, hE, hA⟩ := X
  have hG : ∀ w ∈ GW, w.before args s = true := fun w h => hts w (List.mem_cons_of_mem _ h)
  rcases (show q = 0 ∨ q = 1 by omega) with rfl | rfl
  · exact va_get (D := D) (ci := 5) (v := .ref (Z (300 + 50 * 0 + 9))) (C := RX6) (T := TX6) (N := 16) hx hb hG gwl_X6 hown hK hS.1 40 (cw_lit rfl) rfl 4 (by decide) (hG _ gw_379) (fun _ h9 => h9) rfl hd kk
  · exact va_get (D := D) (ci := 5) (v := .ref (Z (300 + 50 * 1 + 9))) (C := RX6) (T := TX6) (N := 16) hx hb hG gwl_X6 hown hK hS.1 57 (cw_lit rfl) rfl 4 (by decide) (hG _ gw_379) (fun _ h9 => h9) rfl hd kk
theorem ca_p9 (X : CC p s m args c cc nL c0 own D kA V A) {q : Nat} (hq : q < 2) (hS : CS D kA Z A s u H locs) {i : Int32} {v : Int32} (hi : vp_in i 5) (hv : pA u q 9 i.toNatClampNeg = v) (hd : decode cc pc = .ok (.iaload, 1)) (kk : W p l e R s m args below meth c H locs cells slots Q (F0 m (pc + 1) ls (.int v :: rest))) : W p l e R s m args below meth c H locs cells slots Q (F0 m pc ls (.int i :: .ref (Z (300 + 50 * q + 9)) :: rest)) := by
  subst hv
  rcases (show q = 0 ∨ q = 1 by omega) with rfl | rfl
  · exact va_iald X.1.1 X.1.2.1 X.2.1 hS.1 49 0 (cw_lit rfl) rfl hi hd kk
  · exact va_iald X.1.1 X.1.2.1 X.2.1 hS.1 66 0 (cw_lit rfl) rfl hi hd kk
theorem cg_X6_25 (X : CC p s m args c cc nL c0 RX6 D kA V A) {q : Nat} (hq : q < 2) (hS : CS D kA Z A s u H locs) (hd : decode cc pc = .ok (.getfield 25, 3)) (kk : W p l e R s m args below meth c H locs cells slots Q (F0 m (pc + 3) ls (.ref (Z (1000 + (169 * q + 168))) :: rest))) : W p l e R s m args below meth c H locs cells slots Q (F0 m pc ls (.ref (Z (300 + 50 * q)) :: rest)) := by
  obtain ⟨⟨hx, hb, hml, hown, hts⟩, hK, hE, hA⟩ := X
  have hG : ∀ w ∈ GW, w.before args s = true := fun w h => hts w (List.mem_cons_of_mem _ h)
  rcases (show q = 0 ∨ q = 1 by omega) with rfl | rfl
  · exact va_get (D := D) (ci := 5) (v := .ref (Z (1000 + (169 * 0 + 168)))) (C := RX6) (T := TX6) (N := 16) hx hb hG gwl_X6 hown hK hS.1 40 (cw_lit rfl) rfl 2 (by decide) (hG _ gw_377) (fun _ h9 => h9) rfl hd kk
  · exact va_get (D := D) (ci := 5) (v := .ref (Z (1000 + (169 * 1 + 168)))) (C := RX6) (T := TX6) (N := 16) hx hb hG gwl_X6 hown hK hS.1 57 (cw_lit rfl) rfl 2 (by decide) (hG _ gw_377) (fun _ h9 => h9) rfl hd kk
theorem cg_X6_92 (X : CC p s m args c cc nL c0 RX6 D kA V A) {q : Nat} (hq : q < 2) (hS : CS D kA Z A s u H locs) (hd : decode cc pc = .ok (.getfield 92, 3)) (kk : W p l e R s m args below meth c H locs cells slots Q (F0 m (pc + 3) ls (.int (pI u q 12) :: rest))) : W p l e R s m args below meth c H locs cells slots Q (F0 m pc ls (.ref (Z (300 + 50 * q)) :: rest)) := by
  obtain ⟨⟨hx, hb, hml, hown, hts⟩, hK, hE, hA⟩ := X
  have hG : ∀ w ∈ GW, w.before args s = true := fun w h => hts w (List.mem_cons_of_mem _ h)
  rcases (show q = 0 ∨ q = 1 by omega) with rfl | rfl
  · exact va_get (D := D) (ci := 5) (v := .int (pI u 0 12)) (C := RX6) (T := TX6) (N := 16) hx hb hG gwl_X6 hown hK hS.1 40 (cw_lit rfl) rfl 12 (by decide) (hG _ gw_393) (fun _ h9 => h9) rfl hd kk
  · exact va_get (D := D) (ci := 5) (v := .int (pI u 1 12)) (C := RX6) (T := TX6) (N := 16) hx hb hG gwl_X6 hown hK hS.1 57 (cw_lit rfl) rfl 12 (by decide) (hG _ gw_393) (fun _ h9 => h9) rfl hd kk
theorem cg_X6_11 (X : CC p s m args c cc nL c0 RX6 D kA V A) {q : Nat} (hq : q < 2) (hS : CS D kA Z A s u H locs) (hd : decode cc pc = .ok (.getfield 11, 3)) (kk : W p l e R s m args below meth c H locs cells slots Q (F0 m (pc + 3) ls (.ref (Z (300 + 50 * q + 1)) :: rest))) : W p l e R s m args below meth c H locs cells slots Q (F0 m pc ls (.ref (Z (300 + 50 * q)) :: rest)) := by
  obtain ⟨⟨hx, hb, hml, hown, hts⟩, hK, hE, hA⟩ := X
  have hG : ∀ w ∈ GW, w.before args s = true := fun w h => hts w (List.mem_cons_of_mem _ h)
  rcases (show q = 0 ∨ q = 1 by omega) with rfl | rfl
  · exact va_get (D := D) (ci := 5) (v := .ref (Z (300 + 50 * 0 + 1))) (C := RX6) (T := TX6) (N := 16) hx hb hG gwl_X6 hown hK hS.1 40 (cw_lit rfl) rfl 0 (by decide) (hG _ gw_375) (fun _ h9 => h9) rfl hd kk
  · exact va_get (D := D) (ci := 5) (v := .ref (Z (300 + 50 * 1 + 1))) (C := RX6) (T := TX6) (N := 16) hx hb hG gwl_X6 hown hK hS.1 57 (cw_lit rfl) rfl 0 (by decide) (hG _ gw_375) (fun _ h9 => h9) rfl hd kk
theorem cg_X6_31 (X : CC p s m args c cc nL c0 RX6 D kA V A) {q : Nat} (hq : q < 2) (hS : CS D kA Z A s u H locs) (hd : decode cc pc = .ok (.getfield 31, 3)) (kk : W p l e R s m args below meth c H locs cells slots Q (F0 m (pc + 3) ls (.ref (Z (300 + 50 * q + 3)) :: rest))) : W p l e R s m args below meth c H locs cells slots Q (F0 m pc ls (.ref (Z (300 + 50 * q)) :: rest)) := by
  obtain ⟨⟨hx, hb, hml, hown, hts⟩, hK, hE, hA⟩ := X
  have hG : ∀ w ∈ GW, w.before args s = true := fun w h => hts w (List.mem_cons_of_mem _ h)
  rcases (show q = 0 ∨ q = 1 by omega) with rfl | rfl
  · exact va_get (D := D) (ci := 5) (v := .ref (Z (300 + 50 * 0 + 3))) (C := RX6) (T := TX6) (N := 16) hx hb hG gwl_X6 hown hK hS.1 40 (cw_lit rfl) rfl 3 (by decide) (hG _ gw_378) (fun _ h9 => h9) rfl hd kk
  · exact va_get (D := D) (ci := 5) (v := .ref (Z (300 + 50 * 1 + 3))) (C := RX6) (T := TX6) (N := 16) hx hb hG gwl_X6 hown hK hS.1 57 (cw_lit rfl) rfl 3 (by decide) (hG _ gw_378) (fun _ h9 => h9) rfl hd kk
theorem ca_o (X : CC p s m args c cc nL c0 own D kA V A) {q z : Nat} (hq : q < 2) (hz : z < 5) (hS : CS D kA Z A s u H locs) {i : Int32} {v : Int32} (hi : vp_in i 160) (hv : pA u q (4 + z) i.toNatClampNeg = v) (hd : decode cc pc = .ok (.iaload, 1)) (kk : W p l e R s m args below meth c H locs cells slots Q (F0 m (pc + 1) ls (.int v :: rest))) : W p l e R s m args below meth c H locs cells slots Q (F0 m pc ls (.int i :: .ref (Z (300 + 50 * q + (4 + z))) :: rest)) := by
  subst hv
  rcases (show (q = 0 ∧ z = 0) ∨ (q = 0 ∧ z = 1) ∨ (q = 0 ∧ z = 2) ∨ (q = 0 ∧ z = 3) ∨ (q = 0 ∧ z = 4) ∨ (q = 1 ∧ z = 0) ∨ (q = 1 ∧ z = 1) ∨ (q = 1 ∧ z = 2) ∨ (q = 1 ∧ z = 3) ∨ (q = 1 ∧ z = 4) by omega) with ⟨rfl, rfl⟩ | ⟨rfl, rfl⟩ | ⟨rfl, rfl⟩ | ⟨rfl, rfl⟩ | ⟨rfl, rfl⟩ | ⟨rfl, rfl⟩ | ⟨rfl, rfl⟩ | ⟨rfl, rfl⟩ | ⟨rfl, rfl⟩ | ⟨rfl, rfl⟩
  · exact va_iald X.1.1 X.1.2.1 X.2.1 hS.1 44 0 (cw_lit rfl) rfl hi hd kk
  · exact va_iald X.1.1 X.1.2.1 X.2.1 hS.1 45 0 (cw_lit rfl) rfl hi hd kk
  · exact va_iald X.1.1 X.1.2.1 X.2.1 hS.1 46 0 (cw_lit rfl) rfl hi hd kk
  · exact va_iald X.1.1 X.1.2.1 X.2.1 hS.1 47 0 (cw_lit rfl) rfl hi hd kk
  · exact va_iald X.1.1 X.1.2.1 X.2.1 hS.1 48 0 (cw_lit rfl) rfl hi hd kk
  · exact va_iald X.1.1 X.1.2.1 X.2.1 hS.1 61 0 (cw_lit rfl) rfl hi hd kk
  · exact va_iald X.1.1 X.1.2.1 X.2.1 hS.1 62 0 (cw_lit rfl) rfl hi hd kk
  · exact va_iald X.1.1 X.1.2.1 X.2.1 hS.1 63 0 (cw_lit rfl) rfl hi hd kk
  · exact va_iald X.1.1 X.1.2.1 X.2.1 hS.1 64 0 (cw_lit rfl) rfl hi hd kk
  · exact va_iald X.1.1 X.1.2.1 X.2.1 hS.1 65 0 (cw_lit rfl) rfl hi hd kk
theorem cg_X6_115 (X : CC p s m args c cc nL c0 RX6 D kA V A) {q : Nat} (hq : q < 338) (hS : CS D kA Z A s u H locs) (hd : decode cc pc = .ok (.getfield 115, 3)) (kk : W p l e R s m args below meth c H locs cells slots Q (F0 m (pc + 3) ls (.int (mI u q 12) :: rest))) : W p l e R s m args below meth c H locs cells slots Q (F0 m pc ls (.ref (Z (1000 + q)) :: rest)) := by
  obtain ⟨⟨hx, hb, hml, hown, hts⟩, hK, hE, hA⟩ := X
  have hG : ∀ w ∈ GW, w.before args s = true := fun w h => hts w (List.mem_cons_of_mem _ h)
  exact va_getN (D := D) (ci := 4) (v := .int (mI u q 12)) (C := RX4) (T := TX4) (N := 15) hx hb hG gwl_X4 hown hK hS.1 (90 + q) (cw_name hq) rfl 12 (by decide) (va_Nw.use rfl (hE.1 _ nw_274)) (fun _ h9 => h9) rfl hd kk
theorem cg_X6_118 (X : CC p s m args c cc nL c0 RX6 D kA V A) {q : Nat} (hq : q < 338) (hS : CS D kA Z A s u H locs) (hd : decode cc pc = .ok (.getfield 118, 3)) (kk : W p l e R s m args below meth c H locs cells slots Q (F0 m (pc + 3) ls (.int (mI u q 3) :: rest))) : W p l e R s m args below meth c H locs cells slots Q (F0 m pc ls (.ref (Z (1000 + q)) :: rest)) := by
  obtain ⟨⟨hx, hb, hml, hown, hts⟩, hK, hE, hA⟩ := X
  have hG : ∀ w ∈ GW, w.before args s = true := fun w h => hts w (List.mem_cons_of_mem _ h)
  exact va_getN (D := D) (ci := 4) (v := .int (mI u q 3)) (C := RX4) (T := TX4) (N := 15) hx hb hG gwl_X4 hown hK hS.1 (90 + q) (cw_name hq) rfl 3 (by decide) (va_Nw.use rfl (hE.1 _ nw_234)) (fun _ h9 => h9) rfl hd kk
theorem cg_X6_121 (X : CC p s m args c cc nL c0 RX6 D kA V A) {q : Nat} (hq : q < 338) (hS : CS D kA Z A s u H locs) (hd : decode cc pc = .ok (.getfield 121, 3)) (kk : W p l e R s m args below meth c H locs cells slots Q (F0 m (pc + 3) ls (.long (mL u q 0) :: rest))) : W p l e R s m args below meth c H locs cells slots Q (F0 m pc ls (.ref (Z (1000 + q)) :: rest)) := by
  obtain ⟨⟨hx, hb, hml, hown, hts⟩, hK, hE, hA⟩ := X
  have hG : ∀ w ∈ GW, w.before args s = true := fun w h => hts w (List.mem_cons_of_mem _ h)
  exact va_getN (D := D) (ci := 4) (v := .long (mL u q 0)) (C := RX4) (T := TX4) (N := 15) hx hb hG gwl_X4 hown hK hS.1 (90 + q) (cw_name hq) rfl 0 (by decide) (va_Nw.use rfl (hE.1 _ nw_223)) (fun _ h9 => h9) rfl hd kk
theorem cg_X6_125 (X : CC p s m args c cc nL c0 RX6 D kA V A) {q : Nat} (hq : q < 338) (hS : CS D kA Z A s u H locs) (hd : decode cc pc = .ok (.getfield 125, 3)) (kk : W p l e R s m args below meth c H locs cells slots Q (F0 m (pc + 3) ls (.int (mI u q 1) :: rest))) : W p l e R s m args below meth c H locs cells slots Q (F0 m pc ls (.ref (Z (1000 + q)) :: rest)) := by
  obtain ⟨⟨hx, hb, hml, hown, hts⟩, hK, hE, hA⟩ := X
  have hG : ∀ w ∈ GW, w.before args s = true := fun w h => hts w (List.mem_cons_of_mem _ h)
  exact va_getN (D := D) (ci := 4) (v := .int (mI u q 1)) (C := RX4) (T := TX4) (N := 15) hx hb hG gwl_X4 hown hK hS.1 (90 + q) (cw_name hq) rfl 1 (by decide) (va_Nw.use rfl (hE.1 _ nw_226)) (fun _ h9 => h9) rfl hd kk
theorem cg_X6_21 (X : CC p s m args c cc nL c0 RX6 D kA V A) {q : Nat} (hq : q < 2) (hS : CS D kA Z A s u H locs) (hd : decode cc pc = .ok (.getfield 21, 3)) (kk : W p l e R s m args below meth c H locs cells slots Q (F0 m (pc + 3) ls (.ref (Z (300 + 50 * q + 2)) :: rest))) : W p l e R s m args below meth c H locs cells slots Q (F0 m pc ls (.ref (Z (300 + 50 * q)) :: rest)) := by
  obtain ⟨⟨hx, hb, hml, hown, hts⟩, hK, hE, hA⟩ := X
  have hG : ∀ w ∈ GW, w.before args s = true := fun w h => hts w (List.mem_cons_of_mem _ h)
  rcases (show q = 0 ∨ q = 1 by omega) with rfl | rfl
  · exact va_get (D := D) (ci := 5) (v := .ref (Z (300 + 50 * 0 + 2))) (C := RX6) (T := TX6) (N := 16) hx hb hG gwl_X6 hown hK hS.1 40 (cw_lit rfl) rfl 1 (by decide) (hG _ gw_376) (fun _ h9 => h9) rfl hd kk
  · exact va_get (D := D) (ci := 5) (v := .ref (Z (300 + 50 * 1 + 2))) (C := RX6) (T := TX6) (N := 16) hx hb hG gwl_X6 hown hK hS.1 57 (cw_lit rfl) rfl 1 (by decide) (hG _ gw_376) (fun _ h9 => h9) rfl hd kk
theorem cg_X6_128 (X : CC p s m args c cc nL c0 RX6 D kA V A) {q : Nat} (hq : q < 338) (hS : CS D kA Z A s u H locs) (hd : decode cc pc = .ok (.getfield 128, 3)) (kk : W p l e R s m args below meth c H locs cells slots Q (F0 m (pc + 3) ls (.int (mI u q 2) :: rest))) : W p l e R s m args below meth c H locs cells slots Q (F0 m pc ls (.ref (Z (1000 + q)) :: rest)) := by
  obtain ⟨⟨hx, hb, hml, hown, hts⟩, hK, hE, hA⟩ := X
  have hG : ∀ w ∈ GW, w.before args s = true := fun w h => hts w (List.mem_cons_of_mem _ h)
  exact va_getN (D := D) (ci := 4) (v := .int (mI u q 2)) (C := RX4) (T := TX4) (N := 15) hx hb hG gwl_X4 hown hK hS.1 (90 + q) (cw_name hq) rfl 2 (by decide) (va_Nw.use rfl (hE.1 _ nw_231)) (fun _ h9 => h9) rfl hd kk
theorem cp_X6_92 (X : CC p s m args c cc nL c0 RX6 D kA V A) {q : Nat} (hq : q < 2) (hS : CS D kA Z A s u H locs) {v : Int32} (hu : xpI u q 12 v = u1) (hd : decode cc pc = .ok (.putfield 92, 3)) (kk : ∀ H locs, CS D kA Z A s u1 H locs → W p l e R s m args below meth c H locs cells slots Q (F0 m (pc + 3) ls rest)) : W p l e R s m args below meth c H locs cells slots Q (F0 m pc ls (.int v :: .ref (Z (300 + 50 * q)) :: rest)) := by
  obtain ⟨⟨hx, hb, hml, hown, hts⟩, hK, hE, hA⟩ := X
  have hG : ∀ w ∈ GW, w.before args s = true := fun w h => hts w (List.mem_cons_of_mem _ h)
  subst hu
  rcases (show q = 0 ∨ q = 1 by omega) with rfl | rfl
  · refine va_put (D := D) (ci := 5) (v := .int v) (ty := .int) (C := RX6) (T := TX6) (N := 16) hx hb hG gwl_X6 tyX6 tyX6_ok nmX6 hown hK hS.1 hS.2.1 hS.2.2 40 (cw_lit rfl) rfl 12 (by decide) (hG _ gw_393) (fun _ h9 => h9) rfl (by decide +kernel) rfl rfl (Nat.le_of_ble_eq_true rfl) hd (fun H1 locs1 hP hD hS1 => kk H1 locs1 ?_)
    have he := cw_setL (kA := kA) (Z := Z) (u := u) (w := xpI u 0 12 v) (k := 40) (x := (Z (300 + 50 * 0), .inr (5, ([.ref (Z (300 + 50 * 0 + 1)), .ref (Z (300 + 50 * 0 + 2)), .ref (Z (1000 + (169 * 0 + 168))), .ref (Z (300 + 50 * 0 + 3)), .ref (Z (300 + 50 * 0 + 9)), .ref (Z (300 + 50 * 0 + 10)), .ref (Z (300 + 50 * 0 + 11)), .ref (Z (300 + 50 * 0 + 12)), .ref (Z (300 + 50 * 0 + 13)), .ref (Z (300 + 50 * 0 + 14)), .ref (Z (300 + 50 * 0 + 15)), .ref (Z (300 + 50 * 0 + 16)), .int (pI u 0 12), .int (pI u 0 13), .int (pI u 0 14), .int (pI u 0 15)] : List Value).set 12 (.int v)))) (by decide) rfl rfl rfl
    exact cs_put he hP hD hS1
  · refine va_put (D := D) (ci := 5) (v := .int v) (ty := .int) (C := RX6) (T := TX6) (N := 16) hx hb hG gwl_X6 tyX6 tyX6_ok nmX6 hown hK hS.1 hS.2.1 hS.2.2 57 (cw_lit rfl) rfl 12 (by decide) (hG _ gw_393) (fun _ h9 => h9) rfl (by decide +kernel) rfl rfl (Nat.le_of_ble_eq_true rfl) hd (fun H1 locs1 hP hD hS1 => kk H1 locs1 ?_)
    have he := cw_setL (kA := kA) (Z := Z) (u := u) (w := xpI u 1 12 v) (k := 57) (x := (Z (300 + 50 * 1), .inr (5, ([.ref (Z (300 + 50 * 1 + 1)), .ref (Z (300 + 50 * 1 + 2)), .ref (Z (1000 + (169 * 1 + 168))), .ref (Z (300 + 50 * 1 + 3)), .ref (Z (300 + 50 * 1 + 9)), .ref (Z (300 + 50 * 1 + 10)), .ref (Z (300 + 50 * 1 + 11)), .ref (Z (300 + 50 * 1 + 12)), .ref (Z (300 + 50 * 1 + 13)), .ref (Z (300 + 50 * 1 + 14)), .ref (Z (300 + 50 * 1 + 15)), .ref (Z (300 + 50 * 1 + 16)), .int (pI u 1 12), .int (pI u 1 13), .int (pI u 1 14), .int (pI u 1 15)] : List Value).set 12 (.int v)))) (by decide) rfl rfl rfl
    exact cs_put he hP hD hS1
theorem cp_X6_118 (X : CC p s m args c cc nL c0 RX6 D kA V A) {q : Nat} (hq : q < 338) (hS : CS D kA Z A s u H locs) {v : Int32} (hu : xmI u q 3 v = u1) (hd : decode cc pc = .ok (.putfield 118, 3)) (kk : ∀ H locs, CS D kA Z A s u1 H locs → W p l e R s m args below meth c H locs cells slots Q (F0 m (pc + 3) ls rest)) : W p l e R s m args below meth c H locs cells slots Q (F0 m pc ls (.int v :: .ref (Z (1000 + q)) :: rest)) := by
  obtain ⟨⟨hx, hb, hml, hown, hts⟩, hK, hE, hA⟩ := X
  have hG : ∀ w ∈ GW, w.before args s = true := fun w h => hts w (List.mem_cons_of_mem _ h)
  subst hu
  refine va_putN (D := D) (ci := 4) (v := .int v) (ty := .int) (C := RX4) (T := TX4) (N := 15) hx hb hG gwl_X4 tyX4 tyX4_ok nmX4 hown hK hS.1 hS.2.1 hS.2.2 (90 + q) (cw_name hq) rfl 3 (by decide) (va_Nw.use rfl (hE.1 _ nw_234)) (fun _ h9 => h9) rfl (by decide +kernel) rfl rfl (Nat.le_of_ble_eq_true rfl) hd (fun H1 locs1 hP hD hS1 => kk H1 locs1 ?_)
  have he := cw_setN (kA := kA) (Z := Z) (u := u) (w := xmI u q 3 v) (q := q) (x := (Z (1000 + q), .inr (4, (NF u q).set 3 (.int v)))) hq rfl rfl (by simp [NW, NF, xmI, mI, mL]) (fun j hj => by simp [NW, NF, xmI, mI, mL, hj])
  exact cs_put he hP hD hS1
theorem cp_X6_79 (X : CC p s m args c cc nL c0 RX6 D kA V A) {q : Nat} (hq : q < 338) (hS : CS D kA Z A s u H locs) {v : Int32} (hu : xmI u q 4 v = u1) (hd : decode cc pc = .ok (.putfield 79, 3)) (kk : ∀ H locs, CS D kA Z A s u1 H locs → W p l e R s m args below meth c H locs cells slots Q (F0 m (pc + 3) ls rest)) : W p l e R s m args below meth c H locs cells slots Q (F0 m pc ls (.int v :: .ref (Z (1000 + q)) :: rest)) := by
  obtain ⟨⟨hx, hb, hml, hown, hts⟩, hK, hE, hA⟩ := X
  have hG : ∀ w ∈ GW, w.before args s = true := fun w h => hts w (List.mem_cons_of_mem _ h)
  subst hu
  refine va_putN (D := D) (ci := 4) (v := .int v) (ty := .int) (C := RX4) (T := TX4) (N := 15) hx hb hG gwl_X4 tyX4 tyX4_ok nmX4 hown hK hS.1 hS.2.1 hS.2.2 (90 + q) (cw_name hq) rfl 4 (by decide) (va_Nw.use rfl (hE.1 _ nw_237)) (fun _ h9 => h9) rfl (by decide +kernel) rfl rfl (Nat.le_of_ble_eq_true rfl) hd (fun H1 locs1 hP hD hS1 => kk H1 locs1 ?_)
  have he := cw_setN (kA := kA) (Z := Z) (u := u) (w := xmI u q 4 v) (q := q) (x := (Z (1000 + q), .inr (4, (NF u q).set 4 (.int v)))) hq rfl rfl (by simp [NW, NF, xmI, mI, mL]) (fun j hj => by simp [NW, NF, xmI, mI, mL, hj])
  exact cs_put he hP hD hS1
theorem cg_X6_79 (X : CC p s m args c cc nL c0 RX6 D kA V A) {q : Nat} (hq : q < 338) (hS : CS D kA Z A s u H locs) (hd : decode cc pc = .ok (.getfield 79, 3)) (kk : W p l e R s m args below meth c H locs cells slots Q (F0 m (pc + 3) ls (.int (mI u q 4) :: rest))) : W p l e R s m args below meth c H locs cells slots Q (F0 m pc ls (.ref (Z (1000 + q)) :: rest)) := by
  obtain ⟨⟨hx, hb, hml, hown, hts⟩, hK, hE, hA⟩ := X
  have hG : ∀ w ∈ GW, w.before args s = true := fun w h => hts w (List.mem_cons_of_mem _ h)
  exact va_getN (D := D) (ci := 4) (v := .int (mI u q 4)) (C := RX4) (T := TX4) (N := 15) hx hb hG gwl_X4 hown hK hS.1 (90 + q) (cw_name hq) rfl 4 (by decide) (va_Nw.use rfl (hE.1 _ nw_237)) (fun _ h9 => h9) rfl hd kk
theorem cs_o (X : CC p s m args c cc nL c0 own D kA V A) {q z : Nat} (hq : q < 2) (hz : z < 5) (hS : CS D kA Z A s u H locs) {i : Int32} {v : Int32} (hi : vp_in i 160) (hu : xpA u q (4 + z) i.toNatClampNeg v = u1) (hd : decode cc pc = .ok (.iastore, 1)) (kk : ∀ H locs, CS D kA Z A s u1 H locs → W p l e R s m args below meth c H locs cells slots Q (F0 m (pc + 1) ls rest)) : W p l e R s m args below meth c H locs cells slots Q (F0 m pc ls (.int v :: .int i :: .ref (Z (300 + 50 * q + (4 + z))) :: rest)) := by
  subst hu
  rcases (show (q = 0 ∧ z = 0) ∨ (q = 0 ∧ z = 1) ∨ (q = 0 ∧ z = 2) ∨ (q = 0 ∧ z = 3) ∨ (q = 0 ∧ z = 4) ∨ (q = 1 ∧ z = 0) ∨ (q = 1 ∧ z = 1) ∨ (q = 1 ∧ z = 2) ∨ (q = 1 ∧ z = 3) ∨ (q = 1 ∧ z = 4) by omega) with ⟨rfl, rfl⟩ | ⟨rfl, rfl⟩ | ⟨rfl, rfl⟩ | ⟨rfl, rfl⟩ | ⟨rfl, rfl⟩ | ⟨rfl, rfl⟩ | ⟨rfl, rfl⟩ | ⟨rfl, rfl⟩ | ⟨rfl, rfl⟩ | ⟨rfl, rfl⟩
  · refine va_iast X.1.1 X.1.2.1 X.2.1 hS.1 hS.2.1 hS.2.2 44 0 (cw_lit rfl) rfl hi hd (fun H1 locs1 hP hD hS1 => kk H1 locs1 ?_)
    have he := cw_setL (kA := kA) (Z := Z) (u := u) (w := xpA u 0 (4 + 0) i.toNatClampNeg v) (k := 44) (x := (Z (300 + 50 * 0 + (4 + 0)), .inl (kA 0, 160, .inl (upd (pA u 0 (4 + 0)) i.toNatClampNeg v)))) (by decide) rfl rfl rfl
    exact cs_put he hP hD hS1
  · refine va_iast X.1.1 X.1.2.1 X.2.1 hS.1 hS.2.1 hS.2.2 45 0 (cw_lit rfl) rfl hi hd (fun H1 locs1 hP hD hS1 => kk H1 locs1 ?_)
    have he := cw_setL (kA := kA) (Z := Z) (u := u) (w := xpA u 0 (4 + 1) i.toNatClampNeg v) (k := 45) (x := (Z (300 + 50 * 0 + (4 + 1)), .inl (kA 0, 160, .inl (upd (pA u 0 (4 + 1)) i.toNatClampNeg v)))) (by decide) rfl rfl rfl
    exact cs_put he hP hD hS1
  · refine va_iast X.1.1 X.1.2.1 X.2.1 hS.1 hS.2.1 hS.2.2 46 0 (cw_lit rfl) rfl hi hd (fun H1 locs1 hP hD hS1 => kk H1 locs1 ?_)
    have he := cw_setL (kA := kA) (Z := Z) (u := u) (w := xpA u 0 (4 + 2) i.toNatClampNeg v) (k := 46) (x := (Z (300 + 50 * 0 + (4 + 2)), .inl (kA 0, 160, .inl (upd (pA u 0 (4 + 2)) i.toNatClampNeg v)))) (by decide) rfl rfl rfl
    exact cs_put he hP hD hS1
  · refine va_iast X.1.1 X.1.2.1 X.2.1 hS.1 hS.2.1 hS.2.2 47 0 (cw_lit rfl) rfl hi hd (fun H1 locs1 hP hD hS1 => kk H1 locs1 ?_)
    have he := cw_setL (kA := kA) (Z := Z) (u := u) (w := xpA u 0 (4 + 3) i.toNatClampNeg v) (k := 47) (x := (Z (300 + 50 * 0 + (4 + 3)), .inl (kA 0, 160, .inl (upd (pA u 0 (4 + 3)) i.toNatClampNeg v)))) (by decide) rfl rfl rfl
    exact cs_put he hP hD hS1
  · refine va_iast X.1.1 X.1.2.1 X.2.1 hS.1 hS.2.1 hS.2.2 48 0 (cw_lit rfl) rfl hi hd (fun H1 locs1 hP hD hS1 => kk H1 locs1 ?_)
    have he := cw_setL (kA := kA) (Z := Z) (u := u) (w := xpA u 0 (4 + 4) i.toNatClampNeg v) (k := 48) (x := (Z (300 + 50 * 0 + (4 + 4)), .inl (kA 0, 160, .inl (upd (pA u 0 (4 + 4)) i.toNatClampNeg v)))) (by decide) rfl rfl rfl
    exact cs_put he hP hD hS1
  · refine va_iast X.1.1 X.1.2.1 X.2.1 hS.1 hS.2.1 hS.2.2 61 0 (cw_lit rfl) rfl hi hd (fun H1 locs1 hP hD hS1 => kk H1 locs1 ?_)
    have he := cw_setL (kA := kA) (Z := Z) (u := u) (w := xpA u 1 (4 + 0) i.toNatClampNeg v) (k := 61) (x := (Z (300 + 50 * 1 + (4 + 0)), .inl (kA 0, 160, .inl (upd (pA u 1 (4 + 0)) i.toNatClampNeg v)))) (by decide) rfl rfl rfl
    exact cs_put he hP hD hS1
  · refine va_iast X.1.1 X.1.2.1 X.2.1 hS.1 hS.2.1 hS.2.2 62 0 (cw_lit rfl) rfl hi hd (fun H1 locs1 hP hD hS1 => kk H1 locs1 ?_)
    have he := cw_setL (kA := kA) (Z := Z) (u := u) (w := xpA u 1 (4 + 1) i.toNatClampNeg v) (k := 62) (x := (Z (300 + 50 * 1 + (4 + 1)), .inl (kA 0, 160, .inl (upd (pA u 1 (4 + 1)) i.toNatClampNeg v)))) (by decide) rfl rfl rfl
    exact cs_put he hP hD hS1
  · refine va_iast X.1.1 X.1.2.1 X.2.1 hS.1 hS.2.1 hS.2.2 63 0 (cw_lit rfl) rfl hi hd (fun H1 locs1 hP hD hS1 => kk H1 locs1 ?_)
    have he := cw_setL (kA := kA) (Z := Z) (u := u) (w := xpA u 1 (4 + 2) i.toNatClampNeg v) (k := 63) (x := (Z (300 + 50 * 1 + (4 + 2)), .inl (kA 0, 160, .inl (upd (pA u 1 (4 + 2)) i.toNatClampNeg v)))) (by decide) rfl rfl rfl
    exact cs_put he hP hD hS1
  · refine va_iast X.1.1 X.1.2.1 X.2.1 hS.1 hS.2.1 hS.2.2 64 0 (cw_lit rfl) rfl hi hd (fun H1 locs1 hP hD hS1 => kk H1 locs1 ?_)
    have he := cw_setL (kA := kA) (Z := Z) (u := u) (w := xpA u 1 (4 + 3) i.toNatClampNeg v) (k := 64) (x := (Z (300 + 50 * 1 + (4 + 3)), .inl (kA 0, 160, .inl (upd (pA u 1 (4 + 3)) i.toNatClampNeg v)))) (by decide) rfl rfl rfl
    exact cs_put he hP hD hS1
  · refine va_iast X.1.1 X.1.2.1 X.2.1 hS.1 hS.2.1 hS.2.2 65 0 (cw_lit rfl) rfl hi hd (fun H1 locs1 hP hD hS1 => kk H1 locs1 ?_)
    have he := cw_setL (kA := kA) (Z := Z) (u := u) (w := xpA u 1 (4 + 4) i.toNatClampNeg v) (k := 65) (x := (Z (300 + 50 * 1 + (4 + 4)), .inl (kA 0, 160, .inl (upd (pA u 1 (4 + 4)) i.toNatClampNeg v)))) (by decide) rfl rfl rfl
    exact cs_put he hP hD hS1
theorem cs_p9 (X : CC p s m args c cc nL c0 own D kA V A) {q : Nat} (hq : q < 2) (hS : CS D kA Z A s u H locs) {i : Int32} {v : Int32} (hi : vp_in i 5) (hu : xpA u q 9 i.toNatClampNeg v = u1) (hd : decode cc pc = .ok (.iastore, 1)) (kk : ∀ H locs, CS D kA Z A s u1 H locs → W p l e R s m args below meth c H locs cells slots Q (F0 m (pc + 1) ls rest)) : W p l e R s m args below meth c H locs cells slots Q (F0 m pc ls (.int v :: .int i :: .ref (Z (300 + 50 * q + 9)) :: rest)) := by
  subst hu
  rcases (show q = 0 ∨ q = 1 by omega) with rfl | rfl
  · refine va_iast X.1.1 X.1.2.1 X.2.1 hS.1 hS.2.1 hS.2.2 49 0 (cw_lit rfl) rfl hi hd (fun H1 locs1 hP hD hS1 => kk H1 locs1 ?_)
    have he := cw_setL (kA := kA) (Z := Z) (u := u) (w := xpA u 0 9 i.toNatClampNeg v) (k := 49) (x := (Z (300 + 50 * 0 + 9), .inl (kA 0, 5, .inl (upd (pA u 0 9) i.toNatClampNeg v)))) (by decide) rfl rfl rfl
    exact cs_put he hP hD hS1
  · refine va_iast X.1.1 X.1.2.1 X.2.1 hS.1 hS.2.1 hS.2.2 66 0 (cw_lit rfl) rfl hi hd (fun H1 locs1 hP hD hS1 => kk H1 locs1 ?_)
    have he := cw_setL (kA := kA) (Z := Z) (u := u) (w := xpA u 1 9 i.toNatClampNeg v) (k := 66) (x := (Z (300 + 50 * 1 + 9), .inl (kA 0, 5, .inl (upd (pA u 1 9) i.toNatClampNeg v)))) (by decide) rfl rfl rfl
    exact cs_put he hP hD hS1
theorem cg_X6_39 (X : CC p s m args c cc nL c0 RX6 D kA V A) {q : Nat} (hq : q < 2) (hS : CS D kA Z A s u H locs) (hd : decode cc pc = .ok (.getfield 39, 3)) (kk : W p l e R s m args below meth c H locs cells slots Q (F0 m (pc + 3) ls (.ref (Z (300 + 50 * q + 10)) :: rest))) : W p l e R s m args below meth c H locs cells slots Q (F0 m pc ls (.ref (Z (300 + 50 * q)) :: rest)) := by
  obtain ⟨⟨hx, hb, hml, hown, hts⟩, hK, hE, hA⟩ := X
  have hG : ∀ w ∈ GW, w.before args s = true := fun w h => hts w (List.mem_cons_of_mem _ h)
  rcases (show q = 0 ∨ q = 1 by omega) with rfl | rfl
  · exact va_get (D := D) (ci := 5) (v := .ref (Z (300 + 50 * 0 + 10))) (C := RX6) (T := TX6) (N := 16) hx hb hG gwl_X6 hown hK hS.1 40 (cw_lit rfl) rfl 5 (by decide) (hG _ gw_380) (fun _ h9 => h9) rfl hd kk
  · exact va_get (D := D) (ci := 5) (v := .ref (Z (300 + 50 * 1 + 10))) (C := RX6) (T := TX6) (N := 16) hx hb hG gwl_X6 hown hK hS.1 57 (cw_lit rfl) rfl 5 (by decide) (hG _ gw_380) (fun _ h9 => h9) rfl hd kk
theorem cg_X6_134 (X : CC p s m args c cc nL c0 RX6 D kA V A) {q : Nat} (hq : q < 16) (hS : CS D kA Z A s u H locs) (hd : decode cc pc = .ok (.getfield 134, 3)) (kk : W p l e R s m args below meth c H locs cells slots Q (F0 m (pc + 3) ls (.int (tI u q 3) :: rest))) : W p l e R s m args below meth c H locs cells slots Q (F0 m pc ls (.ref (Z (400 + q)) :: rest)) := by
  obtain ⟨⟨hx, hb, hml, hown, hts⟩, hK, hE, hA⟩ := X
  have hG : ∀ w ∈ GW, w.before args s = true := fun w h => hts w (List.mem_cons_of_mem _ h)
  exact va_getN (D := D) (ci := 6) (v := .int (tI u q 3)) (C := RX7) (T := TX7) (N := 10) hx hb hG gwl_X7 hown hK hS.1 (74 + q) (cw_task hq) rfl 3 (by decide) (va_Nw.use rfl (hE.1 _ nw_332)) (fun _ h9 => h9) rfl hd kk
theorem cg_X6_95 (X : CC p s m args c cc nL c0 RX6 D kA V A) {q : Nat} (hq : q < 2) (hS : CS D kA Z A s u H locs) (hd : decode cc pc = .ok (.getfield 95, 3)) (kk : W p l e R s m args below meth c H locs cells slots Q (F0 m (pc + 3) ls (.int (pI u q 13) :: rest))) : W p l e R s m args below meth c H locs cells slots Q (F0 m pc ls (.ref (Z (300 + 50 * q)) :: rest)) := by
  obtain ⟨⟨hx, hb, hml, hown, hts⟩, hK, hE, hA⟩ := X
  have hG : ∀ w ∈ GW, w.before args s = true := fun w h => hts w (List.mem_cons_of_mem _ h)
  rcases (show q = 0 ∨ q = 1 by omega) with rfl | rfl
  · exact va_get (D := D) (ci := 5) (v := .int (pI u 0 13)) (C := RX6) (T := TX6) (N := 16) hx hb hG gwl_X6 hown hK hS.1 40 (cw_lit rfl) rfl 13 (by decide) (hG _ gw_394) (fun _ h9 => h9) rfl hd kk
  · exact va_get (D := D) (ci := 5) (v := .int (pI u 1 13)) (C := RX6) (T := TX6) (N := 16) hx hb hG gwl_X6 hown hK hS.1 57 (cw_lit rfl) rfl 13 (by decide) (hG _ gw_394) (fun _ h9 => h9) rfl hd kk
theorem cg_X6_43 (X : CC p s m args c cc nL c0 RX6 D kA V A) {q : Nat} (hq : q < 2) (hS : CS D kA Z A s u H locs) (hd : decode cc pc = .ok (.getfield 43, 3)) (kk : W p l e R s m args below meth c H locs cells slots Q (F0 m (pc + 3) ls (.ref (Z (300 + 50 * q + 11)) :: rest))) : W p l e R s m args below meth c H locs cells slots Q (F0 m pc ls (.ref (Z (300 + 50 * q)) :: rest)) := by
  obtain ⟨⟨hx, hb, hml, hown, hts⟩, hK, hE, hA⟩ := X
  have hG : ∀ w ∈ GW, w.before args s = true := fun w h => hts w (List.mem_cons_of_mem _ h)
  rcases (show q = 0 ∨ q = 1 by omega) with rfl | rfl
  · exact va_get (D := D) (ci := 5) (v := .ref (Z (300 + 50 * 0 + 11))) (C := RX6) (T := TX6) (N := 16) hx hb hG gwl_X6 hown hK hS.1 40 (cw_lit rfl) rfl 6 (by decide) (hG _ gw_383) (fun _ h9 => h9) rfl hd kk
  · exact va_get (D := D) (ci := 5) (v := .ref (Z (300 + 50 * 1 + 11))) (C := RX6) (T := TX6) (N := 16) hx hb hG gwl_X6 hown hK hS.1 57 (cw_lit rfl) rfl 6 (by decide) (hG _ gw_383) (fun _ h9 => h9) rfl hd kk
theorem cs_p11 (X : CC p s m args c cc nL c0 own D kA V A) {q : Nat} (hq : q < 2) (hS : CS D kA Z A s u H locs) {i : Int32} {v : Int32} (hi : vp_in i 3200) (hu : xpA u q 11 i.toNatClampNeg v = u1) (hd : decode cc pc = .ok (.iastore, 1)) (kk : ∀ H locs, CS D kA Z A s u1 H locs → W p l e R s m args below meth c H locs cells slots Q (F0 m (pc + 1) ls rest)) : W p l e R s m args below meth c H locs cells slots Q (F0 m pc ls (.int v :: .int i :: .ref (Z (300 + 50 * q + 11)) :: rest)) := by
  subst hu
  rcases (show q = 0 ∨ q = 1 by omega) with rfl | rfl
  · refine va_iast X.1.1 X.1.2.1 X.2.1 hS.1 hS.2.1 hS.2.2 51 0 (cw_lit rfl) rfl hi hd (fun H1 locs1 hP hD hS1 => kk H1 locs1 ?_)
    have he := cw_setL (kA := kA) (Z := Z) (u := u) (w := xpA u 0 11 i.toNatClampNeg v) (k := 51) (x := (Z (300 + 50 * 0 + 11), .inl (kA 0, 3200, .inl (upd (pA u 0 11) i.toNatClampNeg v)))) (by decide) rfl rfl rfl
    exact cs_put he hP hD hS1
  · refine va_iast X.1.1 X.1.2.1 X.2.1 hS.1 hS.2.1 hS.2.2 68 0 (cw_lit rfl) rfl hi hd (fun H1 locs1 hP hD hS1 => kk H1 locs1 ?_)
    have he := cw_setL (kA := kA) (Z := Z) (u := u) (w := xpA u 1 11 i.toNatClampNeg v) (k := 68) (x := (Z (300 + 50 * 1 + 11), .inl (kA 0, 3200, .inl (upd (pA u 1 11) i.toNatClampNeg v)))) (by decide) rfl rfl rfl
    exact cs_put he hP hD hS1
theorem cg_X6_46 (X : CC p s m args c cc nL c0 RX6 D kA V A) {q : Nat} (hq : q < 2) (hS : CS D kA Z A s u H locs) (hd : decode cc pc = .ok (.getfield 46, 3)) (kk : W p l e R s m args below meth c H locs cells slots Q (F0 m (pc + 3) ls (.ref (Z (300 + 50 * q + 12)) :: rest))) : W p l e R s m args below meth c H locs cells slots Q (F0 m pc ls (.ref (Z (300 + 50 * q)) :: rest)) := by
  obtain ⟨⟨hx, hb, hml, hown, hts⟩, hK, hE, hA⟩ := X
  have hG : ∀ w ∈ GW, w.before args s = true := fun w h => hts w (List.mem_cons_of_mem _ h)
  rcases (show q = 0 ∨ q = 1 by omega) with rfl | rfl
  · exact va_get (D := D) (ci := 5) (v := .ref (Z (300 + 50 * 0 + 12))) (C := RX6) (T := TX6) (N := 16) hx hb hG gwl_X6 hown hK hS.1 40 (cw_lit rfl) rfl 7 (by decide) (hG _ gw_385) (fun _ h9 => h9) rfl hd kk
  · exact va_get (D := D) (ci := 5) (v := .ref (Z (300 + 50 * 1 + 12))) (C := RX6) (T := TX6) (N := 16) hx hb hG gwl_X6 hown hK hS.1 57 (cw_lit rfl) rfl 7 (by decide) (hG _ gw_385) (fun _ h9 => h9) rfl hd kk
theorem cs_p12 (X : CC p s m args c cc nL c0 own D kA V A) {q : Nat} (hq : q < 2) (hS : CS D kA Z A s u H locs) {i : Int32} {v : Int32} (hi : vp_in i 3200) (hu : xpA u q 12 i.toNatClampNeg v = u1) (hd : decode cc pc = .ok (.iastore, 1)) (kk : ∀ H locs, CS D kA Z A s u1 H locs → W p l e R s m args below meth c H locs cells slots Q (F0 m (pc + 1) ls rest)) : W p l e R s m args below meth c H locs cells slots Q (F0 m pc ls (.int v :: .int i :: .ref (Z (300 + 50 * q + 12)) :: rest)) := by
  subst hu
  rcases (show q = 0 ∨ q = 1 by omega) with rfl | rfl
  · refine va_iast X.1.1 X.1.2.1 X.2.1 hS.1 hS.2.1 hS.2.2 52 0 (cw_lit rfl) rfl hi hd (fun H1 locs1 hP hD hS1 => kk H1 locs1 ?_)
    have he := cw_setL (kA := kA) (Z := Z) (u := u) (w := xpA u 0 12 i.toNatClampNeg v) (k := 52) (x := (Z (300 + 50 * 0 + 12), .inl (kA 0, 3200, .inl (upd (pA u 0 12) i.toNatClampNeg v)))) (by decide) rfl rfl rfl
    exact cs_put he hP hD hS1
  · refine va_iast X.1.1 X.1.2.1 X.2.1 hS.1 hS.2.1 hS.2.2 69 0 (cw_lit rfl) rfl hi hd (fun H1 locs1 hP hD hS1 => kk H1 locs1 ?_)
    have he := cw_setL (kA := kA) (Z := Z) (u := u) (w := xpA u 1 12 i.toNatClampNeg v) (k := 69) (x := (Z (300 + 50 * 1 + 12), .inl (kA 0, 3200, .inl (upd (pA u 1 12) i.toNatClampNeg v)))) (by decide) rfl rfl rfl
    exact cs_put he hP hD hS1
theorem cg_X6_49 (X : CC p s m args c cc nL c0 RX6 D kA V A) {q : Nat} (hq : q < 2) (hS : CS D kA Z A s u H locs) (hd : decode cc pc = .ok (.getfield 49, 3)) (kk : W p l e R s m args below meth c H locs cells slots Q (F0 m (pc + 3) ls (.ref (Z (300 + 50 * q + 13)) :: rest))) : W p l e R s m args below meth c H locs cells slots Q (F0 m pc ls (.ref (Z (300 + 50 * q)) :: rest)) := by
  obtain ⟨⟨hx, hb, hml, hown, hts⟩, hK, hE, hA⟩ := X
  have hG : ∀ w ∈ GW, w.before args s = true := fun w h => hts w (List.mem_cons_of_mem _ h)
  rcases (show q = 0 ∨ q = 1 by omega) with rfl | rfl
  · exact va_get (D := D) (ci := 5) (v := .ref (Z (300 + 50 * 0 + 13))) (C := RX6) (T := TX6) (N := 16) hx hb hG gwl_X6 hown hK hS.1 40 (cw_lit rfl) rfl 8 (by decide) (hG _ gw_387) (fun _ h9 => h9) rfl hd kk
  · exact va_get (D := D) (ci := 5) (v := .ref (Z (300 + 50 * 1 + 13))) (C := RX6) (T := TX6) (N := 16) hx hb hG gwl_X6 hown hK hS.1 57 (cw_lit rfl) rfl 8 (by decide) (hG _ gw_387) (fun _ h9 => h9) rfl hd kk
theorem cs_p13 (X : CC p s m args c cc nL c0 own D kA V A) {q : Nat} (hq : q < 2) (hS : CS D kA Z A s u H locs) {i : Int32} {v : Int32} (hi : vp_in i 3200) (hu : xpA u q 13 i.toNatClampNeg v = u1) (hd : decode cc pc = .ok (.iastore, 1)) (kk : ∀ H locs, CS D kA Z A s u1 H locs → W p l e R s m args below meth c H locs cells slots Q (F0 m (pc + 1) ls rest)) : W p l e R s m args below meth c H locs cells slots Q (F0 m pc ls (.int v :: .int i :: .ref (Z (300 + 50 * q + 13)) :: rest)) := by
  subst hu
  rcases (show q = 0 ∨ q = 1 by omega) with rfl | rfl
  · refine va_iast X.1.1 X.1.2.1 X.2.1 hS.1 hS.2.1 hS.2.2 53 0 (cw_lit rfl) rfl hi hd (fun H1 locs1 hP hD hS1 => kk H1 locs1 ?_)
    have he := cw_setL (kA := kA) (Z := Z) (u := u) (w := xpA u 0 13 i.toNatClampNeg v) (k := 53) (x := (Z (300 + 50 * 0 + 13), .inl (kA 0, 3200, .inl (upd (pA u 0 13) i.toNatClampNeg v)))) (by decide) rfl rfl rfl
    exact cs_put he hP hD hS1
  · refine va_iast X.1.1 X.1.2.1 X.2.1 hS.1 hS.2.1 hS.2.2 70 0 (cw_lit rfl) rfl hi hd (fun H1 locs1 hP hD hS1 => kk H1 locs1 ?_)
    have he := cw_setL (kA := kA) (Z := Z) (u := u) (w := xpA u 1 13 i.toNatClampNeg v) (k := 70) (x := (Z (300 + 50 * 1 + 13), .inl (kA 0, 3200, .inl (upd (pA u 1 13) i.toNatClampNeg v)))) (by decide) rfl rfl rfl
    exact cs_put he hP hD hS1
theorem cg_X6_52 (X : CC p s m args c cc nL c0 RX6 D kA V A) {q : Nat} (hq : q < 2) (hS : CS D kA Z A s u H locs) (hd : decode cc pc = .ok (.getfield 52, 3)) (kk : W p l e R s m args below meth c H locs cells slots Q (F0 m (pc + 3) ls (.ref (Z (300 + 50 * q + 14)) :: rest))) : W p l e R s m args below meth c H locs cells slots Q (F0 m pc ls (.ref (Z (300 + 50 * q)) :: rest)) := by
  obtain ⟨⟨hx, hb, hml, hown, hts⟩, hK, hE, hA⟩ := X
  have hG : ∀ w ∈ GW, w.before args s = true := fun w h => hts w (List.mem_cons_of_mem _ h)
  rcases (show q = 0 ∨ q = 1 by omega) with rfl | rfl
  · exact va_get (D := D) (ci := 5) (v := .ref (Z (300 + 50 * 0 + 14))) (C := RX6) (T := TX6) (N := 16) hx hb hG gwl_X6 hown hK hS.1 40 (cw_lit rfl) rfl 9 (by decide) (hG _ gw_389) (fun _ h9 => h9) rfl hd kk
  · exact va_get (D := D) (ci := 5) (v := .ref (Z (300 + 50 * 1 + 14))) (C := RX6) (T := TX6) (N := 16) hx hb hG gwl_X6 hown hK hS.1 57 (cw_lit rfl) rfl 9 (by decide) (hG _ gw_389) (fun _ h9 => h9) rfl hd kk
theorem cs_p14 (X : CC p s m args c cc nL c0 own D kA V A) {q : Nat} (hq : q < 2) (hS : CS D kA Z A s u H locs) {i : Int32} {v : Int32} (hi : vp_in i 3200) (hu : xpA u q 14 i.toNatClampNeg v = u1) (hd : decode cc pc = .ok (.iastore, 1)) (kk : ∀ H locs, CS D kA Z A s u1 H locs → W p l e R s m args below meth c H locs cells slots Q (F0 m (pc + 1) ls rest)) : W p l e R s m args below meth c H locs cells slots Q (F0 m pc ls (.int v :: .int i :: .ref (Z (300 + 50 * q + 14)) :: rest)) := by
  subst hu
  rcases (show q = 0 ∨ q = 1 by omega) with rfl | rfl
  · refine va_iast X.1.1 X.1.2.1 X.2.1 hS.1 hS.2.1 hS.2.2 54 0 (cw_lit rfl) rfl hi hd (fun H1 locs1 hP hD hS1 => kk H1 locs1 ?_)
    have he := cw_setL (kA := kA) (Z := Z) (u := u) (w := xpA u 0 14 i.toNatClampNeg v) (k := 54) (x := (Z (300 + 50 * 0 + 14), .inl (kA 0, 3200, .inl (upd (pA u 0 14) i.toNatClampNeg v)))) (by decide) rfl rfl rfl
    exact cs_put he hP hD hS1
  · refine va_iast X.1.1 X.1.2.1 X.2.1 hS.1 hS.2.1 hS.2.2 71 0 (cw_lit rfl) rfl hi hd (fun H1 locs1 hP hD hS1 => kk H1 locs1 ?_)
    have he := cw_setL (kA := kA) (Z := Z) (u := u) (w := xpA u 1 14 i.toNatClampNeg v) (k := 71) (x := (Z (300 + 50 * 1 + 14), .inl (kA 0, 3200, .inl (upd (pA u 1 14) i.toNatClampNeg v)))) (by decide) rfl rfl rfl
    exact cs_put he hP hD hS1
theorem cp_X6_95 (X : CC p s m args c cc nL c0 RX6 D kA V A) {q : Nat} (hq : q < 2) (hS : CS D kA Z A s u H locs) {v : Int32} (hu : xpI u q 13 v = u1) (hd : decode cc pc = .ok (.putfield 95, 3)) (kk : ∀ H locs, CS D kA Z A s u1 H locs → W p l e R s m args below meth c H locs cells slots Q (F0 m (pc + 3) ls rest)) : W p l e R s m args below meth c H locs cells slots Q (F0 m pc ls (.int v :: .ref (Z (300 + 50 * q)) :: rest)) := by
  obtain ⟨⟨hx, hb, hml, hown, hts⟩, hK, hE, hA⟩ := X
  have hG : ∀ w ∈ GW, w.before args s = true := fun w h => hts w (List.mem_cons_of_mem _ h)
  subst hu
  rcases (show q = 0 ∨ q = 1 by omega) with rfl | rfl
  · refine va_put (D := D) (ci := 5) (v := .int v) (ty := .int) (C := RX6) (T := TX6) (N := 16) hx hb hG gwl_X6 tyX6 tyX6_ok nmX6 hown hK hS.1 hS.2.1 hS.2.2 40 (cw_lit rfl) rfl 13 (by decide) (hG _ gw_394) (fun _ h9 => h9) rfl (by decide +kernel) rfl rfl (Nat.le_of_ble_eq_true rfl) hd (fun H1 locs1 hP hD hS1 => kk H1 locs1 ?_)
    have he := cw_setL (kA := kA) (Z := Z) (u := u) (w := xpI u 0 13 v) (k := 40) (x := (Z (300 + 50 * 0), .inr (5, ([.ref (Z (300 + 50 * 0 + 1)), .ref (Z (300 + 50 * 0 + 2)), .ref (Z (1000 + (169 * 0 + 168))), .ref (Z (300 + 50 * 0 + 3)), .ref (Z (300 + 50 * 0 + 9)), .ref (Z (300 + 50 * 0 + 10)), .ref (Z (300 + 50 * 0 + 11)), .ref (Z (300 + 50 * 0 + 12)), .ref (Z (300 + 50 * 0 + 13)), .ref (Z (300 + 50 * 0 + 14)), .ref (Z (300 + 50 * 0 + 15)), .ref (Z (300 + 50 * 0 + 16)), .int (pI u 0 12), .int (pI u 0 13), .int (pI u 0 14), .int (pI u 0 15)] : List Value).set 13 (.int v)))) (by decide) rfl rfl rfl
    exact cs_put he hP hD hS1
  · refine va_put (D := D) (ci := 5) (v := .int v) (ty := .int) (C := RX6) (T := TX6) (N := 16) hx hb hG gwl_X6 tyX6 tyX6_ok nmX6 hown hK hS.1 hS.2.1 hS.2.2 57 (cw_lit rfl) rfl 13 (by decide) (hG _ gw_394) (fun _ h9 => h9) rfl (by decide +kernel) rfl rfl (Nat.le_of_ble_eq_true rfl) hd (fun H1 locs1 hP hD hS1 => kk H1 locs1 ?_)
    have he := cw_setL (kA := kA) (Z := Z) (u := u) (w := xpI u 1 13 v) (k := 57) (x := (Z (300 + 50 * 1), .inr (5, ([.ref (Z (300 + 50 * 1 + 1)), .ref (Z (300 + 50 * 1 + 2)), .ref (Z (1000 + (169 * 1 + 168))), .ref (Z (300 + 50 * 1 + 3)), .ref (Z (300 + 50 * 1 + 9)), .ref (Z (300 + 50 * 1 + 10)), .ref (Z (300 + 50 * 1 + 11)), .ref (Z (300 + 50 * 1 + 12)), .ref (Z (300 + 50 * 1 + 13)), .ref (Z (300 + 50 * 1 + 14)), .ref (Z (300 + 50 * 1 + 15)), .ref (Z (300 + 50 * 1 + 16)), .int (pI u 1 12), .int (pI u 1 13), .int (pI u 1 14), .int (pI u 1 15)] : List Value).set 13 (.int v)))) (by decide) rfl rfl rfl
    exact cs_put he hP hD hS1
theorem ca_p12 (X : CC p s m args c cc nL c0 own D kA V A) {q : Nat} (hq : q < 2) (hS : CS D kA Z A s u H locs) {i : Int32} {v : Int32} (hi : vp_in i 3200) (hv : pA u q 12 i.toNatClampNeg = v) (hd : decode cc pc = .ok (.iaload, 1)) (kk : W p l e R s m args below meth c H locs cells slots Q (F0 m (pc + 1) ls (.int v :: rest))) : W p l e R s m args below meth c H locs cells slots Q (F0 m pc ls (.int i :: .ref (Z (300 + 50 * q + 12)) :: rest)) := by
  subst hv
  rcases (show q = 0 ∨ q = 1 by omega) with rfl | rfl
  · exact va_iald X.1.1 X.1.2.1 X.2.1 hS.1 52 0 (cw_lit rfl) rfl hi hd kk
  · exact va_iald X.1.1 X.1.2.1 X.2.1 hS.1 69 0 (cw_lit rfl) rfl hi hd kk
theorem cg_X6_98 (X : CC p s m args c cc nL c0 RX6 D kA V A) {q : Nat} (hq : q < 2) (hS : CS D kA Z A s u H locs) (hd : decode cc pc = .ok (.getfield 98, 3)) (kk : W p l e R s m args below meth c H locs cells slots Q (F0 m (pc + 3) ls (.int (pI u q 14) :: rest))) : W p l e R s m args below meth c H locs cells slots Q (F0 m pc ls (.ref (Z (300 + 50 * q)) :: rest)) := by
  obtain ⟨⟨hx, hb, hml, hown, hts⟩, hK, hE, hA⟩ := X
  have hG : ∀ w ∈ GW, w.before args s = true := fun w h => hts w (List.mem_cons_of_mem _ h)
  rcases (show q = 0 ∨ q = 1 by omega) with rfl | rfl
  · exact va_get (D := D) (ci := 5) (v := .int (pI u 0 14)) (C := RX6) (T := TX6) (N := 16) hx hb hG gwl_X6 hown hK hS.1 40 (cw_lit rfl) rfl 14 (by decide) (hG _ gw_397) (fun _ h9 => h9) rfl hd kk
  · exact va_get (D := D) (ci := 5) (v := .int (pI u 1 14)) (C := RX6) (T := TX6) (N := 16) hx hb hG gwl_X6 hown hK hS.1 57 (cw_lit rfl) rfl 14 (by decide) (hG _ gw_397) (fun _ h9 => h9) rfl hd kk
theorem cg_X6_55 (X : CC p s m args c cc nL c0 RX6 D kA V A) {q : Nat} (hq : q < 2) (hS : CS D kA Z A s u H locs) (hd : decode cc pc = .ok (.getfield 55, 3)) (kk : W p l e R s m args below meth c H locs cells slots Q (F0 m (pc + 3) ls (.ref (Z (300 + 50 * q + 15)) :: rest))) : W p l e R s m args below meth c H locs cells slots Q (F0 m pc ls (.ref (Z (300 + 50 * q)) :: rest)) := by
  obtain ⟨⟨hx, hb, hml, hown, hts⟩, hK, hE, hA⟩ := X
  have hG : ∀ w ∈ GW, w.before args s = true := fun w h => hts w (List.mem_cons_of_mem _ h)
  rcases (show q = 0 ∨ q = 1 by omega) with rfl | rfl
  · exact va_get (D := D) (ci := 5) (v := .ref (Z (300 + 50 * 0 + 15))) (C := RX6) (T := TX6) (N := 16) hx hb hG gwl_X6 hown hK hS.1 40 (cw_lit rfl) rfl 10 (by decide) (hG _ gw_391) (fun _ h9 => h9) rfl hd kk
  · exact va_get (D := D) (ci := 5) (v := .ref (Z (300 + 50 * 1 + 15))) (C := RX6) (T := TX6) (N := 16) hx hb hG gwl_X6 hown hK hS.1 57 (cw_lit rfl) rfl 10 (by decide) (hG _ gw_391) (fun _ h9 => h9) rfl hd kk
theorem cs_p15 (X : CC p s m args c cc nL c0 own D kA V A) {q : Nat} (hq : q < 2) (hS : CS D kA Z A s u H locs) {i : Int32} {v : Int64} (hi : vp_in i 750) (hu : xpB u q 15 i.toNatClampNeg v = u1) (hd : decode cc pc = .ok (.lastore, 1)) (kk : ∀ H locs, CS D kA Z A s u1 H locs → W p l e R s m args below meth c H locs cells slots Q (F0 m (pc + 1) ls rest)) : W p l e R s m args below meth c H locs cells slots Q (F0 m pc ls (.long v :: .int i :: .ref (Z (300 + 50 * q + 15)) :: rest)) := by
  subst hu
  rcases (show q = 0 ∨ q = 1 by omega) with rfl | rfl
  · refine va_last X.1.1 X.1.2.1 X.2.1 hS.1 hS.2.1 hS.2.2 55 1 (cw_lit rfl) rfl hi hd (fun H1 locs1 hP hD hS1 => kk H1 locs1 ?_)
    have he := cw_setL (kA := kA) (Z := Z) (u := u) (w := xpB u 0 15 i.toNatClampNeg v) (k := 55) (x := (Z (300 + 50 * 0 + 15), .inl (kA 1, 750, .inr (.inl (vp_updL (pB u 0 15) i.toNatClampNeg v))))) (by decide) rfl rfl rfl
    exact cs_put he hP hD hS1
  · refine va_last X.1.1 X.1.2.1 X.2.1 hS.1 hS.2.1 hS.2.2 72 1 (cw_lit rfl) rfl hi hd (fun H1 locs1 hP hD hS1 => kk H1 locs1 ?_)
    have he := cw_setL (kA := kA) (Z := Z) (u := u) (w := xpB u 1 15 i.toNatClampNeg v) (k := 72) (x := (Z (300 + 50 * 1 + 15), .inl (kA 1, 750, .inr (.inl (vp_updL (pB u 1 15) i.toNatClampNeg v))))) (by decide) rfl rfl rfl
    exact cs_put he hP hD hS1
theorem cg_X6_59 (X : CC p s m args c cc nL c0 RX6 D kA V A) {q : Nat} (hq : q < 2) (hS : CS D kA Z A s u H locs) (hd : decode cc pc = .ok (.getfield 59, 3)) (kk : W p l e R s m args below meth c H locs cells slots Q (F0 m (pc + 3) ls (.ref (Z (300 + 50 * q + 16)) :: rest))) : W p l e R s m args below meth c H locs cells slots Q (F0 m pc ls (.ref (Z (300 + 50 * q)) :: rest)) := by
  obtain ⟨⟨hx, hb, hml, hown, hts⟩, hK, hE, hA⟩ := X
  have hG : ∀ w ∈ GW, w.before args s = true := fun w h => hts w (List.mem_cons_of_mem _ h)
  rcases (show q = 0 ∨ q = 1 by omega) with rfl | rfl
  · exact va_get (D := D) (ci := 5) (v := .ref (Z (300 + 50 * 0 + 16))) (C := RX6) (T := TX6) (N := 16) hx hb hG gwl_X6 hown hK hS.1 40 (cw_lit rfl) rfl 11 (by decide) (hG _ gw_392) (fun _ h9 => h9) rfl hd kk
  · exact va_get (D := D) (ci := 5) (v := .ref (Z (300 + 50 * 1 + 16))) (C := RX6) (T := TX6) (N := 16) hx hb hG gwl_X6 hown hK hS.1 57 (cw_lit rfl) rfl 11 (by decide) (hG _ gw_392) (fun _ h9 => h9) rfl hd kk
theorem cs_p16 (X : CC p s m args c cc nL c0 own D kA V A) {q : Nat} (hq : q < 2) (hS : CS D kA Z A s u H locs) {i : Int32} {v : Int64} (hi : vp_in i 750) (hu : xpB u q 16 i.toNatClampNeg v = u1) (hd : decode cc pc = .ok (.lastore, 1)) (kk : ∀ H locs, CS D kA Z A s u1 H locs → W p l e R s m args below meth c H locs cells slots Q (F0 m (pc + 1) ls rest)) : W p l e R s m args below meth c H locs cells slots Q (F0 m pc ls (.long v :: .int i :: .ref (Z (300 + 50 * q + 16)) :: rest)) := by
  subst hu
  rcases (show q = 0 ∨ q = 1 by omega) with rfl | rfl
  · refine va_last X.1.1 X.1.2.1 X.2.1 hS.1 hS.2.1 hS.2.2 56 1 (cw_lit rfl) rfl hi hd (fun H1 locs1 hP hD hS1 => kk H1 locs1 ?_)
    have he := cw_setL (kA := kA) (Z := Z) (u := u) (w := xpB u 0 16 i.toNatClampNeg v) (k := 56) (x := (Z (300 + 50 * 0 + 16), .inl (kA 1, 750, .inr (.inl (vp_updL (pB u 0 16) i.toNatClampNeg v))))) (by decide) rfl rfl rfl
    exact cs_put he hP hD hS1
  · refine va_last X.1.1 X.1.2.1 X.2.1 hS.1 hS.2.1 hS.2.2 73 1 (cw_lit rfl) rfl hi hd (fun H1 locs1 hP hD hS1 => kk H1 locs1 ?_)
    have he := cw_setL (kA := kA) (Z := Z) (u := u) (w := xpB u 1 16 i.toNatClampNeg v) (k := 73) (x := (Z (300 + 50 * 1 + 16), .inl (kA 1, 750, .inr (.inl (vp_updL (pB u 1 16) i.toNatClampNeg v))))) (by decide) rfl rfl rfl
    exact cs_put he hP hD hS1
theorem cp_X6_98 (X : CC p s m args c cc nL c0 RX6 D kA V A) {q : Nat} (hq : q < 2) (hS : CS D kA Z A s u H locs) {v : Int32} (hu : xpI u q 14 v = u1) (hd : decode cc pc = .ok (.putfield 98, 3)) (kk : ∀ H locs, CS D kA Z A s u1 H locs → W p l e R s m args below meth c H locs cells slots Q (F0 m (pc + 3) ls rest)) : W p l e R s m args below meth c H locs cells slots Q (F0 m pc ls (.int v :: .ref (Z (300 + 50 * q)) :: rest)) := by
  obtain ⟨⟨hx, hb, hml, hown, hts⟩, hK, hE, hA⟩ := X
  have hG : ∀ w ∈ GW, w.before args s = true := fun w h => hts w (List.mem_cons_of_mem _ h)
  subst hu
  rcases (show q = 0 ∨ q = 1 by omega) with rfl | rfl
  · refine va_put (D := D) (ci := 5) (v := .int v) (ty := .int) (C := RX6) (T := TX6) (N := 16) hx hb hG gwl_X6 tyX6 tyX6_ok nmX6 hown hK hS.1 hS.2.1 hS.2.2 40 (cw_lit rfl) rfl 14 (by decide) (hG _ gw_397) (fun _ h9 => h9) rfl (by decide +kernel) rfl rfl (Nat.le_of_ble_eq_true rfl) hd (fun H1 locs1 hP hD hS1 => kk H1 locs1 ?_)
    have he := cw_setL (kA := kA) (Z := Z) (u := u) (w := xpI u 0 14 v) (k := 40) (x := (Z (300 + 50 * 0), .inr (5, ([.ref (Z (300 + 50 * 0 + 1)), .ref (Z (300 + 50 * 0 + 2)), .ref (Z (1000 + (169 * 0 + 168))), .ref (Z (300 + 50 * 0 + 3)), .ref (Z (300 + 50 * 0 + 9)), .ref (Z (300 + 50 * 0 + 10)), .ref (Z (300 + 50 * 0 + 11)), .ref (Z (300 + 50 * 0 + 12)), .ref (Z (300 + 50 * 0 + 13)), .ref (Z (300 + 50 * 0 + 14)), .ref (Z (300 + 50 * 0 + 15)), .ref (Z (300 + 50 * 0 + 16)), .int (pI u 0 12), .int (pI u 0 13), .int (pI u 0 14), .int (pI u 0 15)] : List Value).set 14 (.int v)))) (by decide) rfl rfl rfl
    exact cs_put he hP hD hS1
  · refine va_put (D := D) (ci := 5) (v := .int v) (ty := .int) (C := RX6) (T := TX6) (N := 16) hx hb hG gwl_X6 tyX6 tyX6_ok nmX6 hown hK hS.1 hS.2.1 hS.2.2 57 (cw_lit rfl) rfl 14 (by decide) (hG _ gw_397) (fun _ h9 => h9) rfl (by decide +kernel) rfl rfl (Nat.le_of_ble_eq_true rfl) hd (fun H1 locs1 hP hD hS1 => kk H1 locs1 ?_)
    have he := cw_setL (kA := kA) (Z := Z) (u := u) (w := xpI u 1 14 v) (k := 57) (x := (Z (300 + 50 * 1), .inr (5, ([.ref (Z (300 + 50 * 1 + 1)), .ref (Z (300 + 50 * 1 + 2)), .ref (Z (1000 + (169 * 1 + 168))), .ref (Z (300 + 50 * 1 + 3)), .ref (Z (300 + 50 * 1 + 9)), .ref (Z (300 + 50 * 1 + 10)), .ref (Z (300 + 50 * 1 + 11)), .ref (Z (300 + 50 * 1 + 12)), .ref (Z (300 + 50 * 1 + 13)), .ref (Z (300 + 50 * 1 + 14)), .ref (Z (300 + 50 * 1 + 15)), .ref (Z (300 + 50 * 1 + 16)), .int (pI u 1 12), .int (pI u 1 13), .int (pI u 1 14), .int (pI u 1 15)] : List Value).set 14 (.int v)))) (by decide) rfl rfl rfl
    exact cs_put he hP hD hS1
theorem ca_p15 (X : CC p s m args c cc nL c0 own D kA V A) {q : Nat} (hq : q < 2) (hS : CS D kA Z A s u H locs) {i : Int32} {v : Int64} (hi : vp_in i 750) (hv : pB u q 15 i.toNatClampNeg = v) (hd : decode cc pc = .ok (.laload, 1)) (kk : W p l e R s m args below meth c H locs cells slots Q (F0 m (pc + 1) ls (.long v :: rest))) : W p l e R s m args below meth c H locs cells slots Q (F0 m pc ls (.int i :: .ref (Z (300 + 50 * q + 15)) :: rest)) := by
  subst hv
  rcases (show q = 0 ∨ q = 1 by omega) with rfl | rfl
  · exact va_lald X.1.1 X.1.2.1 X.2.1 hS.1 55 1 (cw_lit rfl) rfl hi hd kk
  · exact va_lald X.1.1 X.1.2.1 X.2.1 hS.1 72 1 (cw_lit rfl) rfl hi hd kk
theorem ca_p16 (X : CC p s m args c cc nL c0 own D kA V A) {q : Nat} (hq : q < 2) (hS : CS D kA Z A s u H locs) {i : Int32} {v : Int64} (hi : vp_in i 750) (hv : pB u q 16 i.toNatClampNeg = v) (hd : decode cc pc = .ok (.laload, 1)) (kk : W p l e R s m args below meth c H locs cells slots Q (F0 m (pc + 1) ls (.long v :: rest))) : W p l e R s m args below meth c H locs cells slots Q (F0 m pc ls (.int i :: .ref (Z (300 + 50 * q + 16)) :: rest)) := by
  subst hv
  rcases (show q = 0 ∨ q = 1 by omega) with rfl | rfl
  · exact va_lald X.1.1 X.1.2.1 X.2.1 hS.1 56 1 (cw_lit rfl) rfl hi hd kk
  · exact va_lald X.1.1 X.1.2.1 X.2.1 hS.1 73 1 (cw_lit rfl) rfl hi hd kk
end C32leafR
section C32leaf
variable {p : Program} {l : Launch} {e : Env} {R : Room} {s : State} {m : MethodId} {args : Array Value} {below : List Frame} {meth : Method} {c : Code} {H : Heap} {locs : List Loc} {Q : State → Prop} {cells slots : Nat}
variable {ls : Array Slot} {D : va_G} {kA : Nat → ClassId} {V Z : Nat → Nat} {A : Nat → Prop} {N d : Nat} {w : CSt}
def B_X4_become_0 (N : Nat) (l0 : Nat) (l1 : Int32) (l2 : Int64) (l4 : Int32) (u : CSt) : Option (Int32 × CSt) := pc (xmL u l0 0 l2) fun u_1 => pc (xmI u_1 l0 1 l4) fun u_2 => pc (xmI u_2 l0 2 l1) fun u_3 => pc (xmI u_3 l0 4 0) fun u_4 => pc (xmI u_4 l0 5 3) fun u_5 => pc (xmI u_5 l0 6 0) fun u_6 => pc (xmI u_6 l0 7 0) fun u_7 => pc (xmI u_7 l0 8 0) fun u_8 => pc (xmI u_8 l0 9 0) fun u_9 => pc (xmL u_9 l0 10 0) fun u_10 => pc (xmI u_10 l0 11 0) fun u_11 => pc (xmI u_11 l0 12 0) fun u_12 => pc (xmI u_12 l0 13 0) fun u_13 => pc (xmI u_13 l0 14 (-1)) fun u_14 => some (0, u_14)
set_option maxHeartbeats 4000000 in
theorem b_X4_become_0 {r : Int32} (X : CC p s m args c cX4_become 5 (Cond.code yX4_become cX4_become 5 none) RX4 D kA V A) (hE : CEv p l e R s m args below meth c cX4_become D kA Z A Q w) (hF : 0 ≤ R.frames) (hL : 0 ≤ R.locals) {l0 : Nat} {l1 : Int32} {l2 : Int64} {l4 : Int32} {u : CSt}  (h : B_X4_become_0 N l0 l1 l2 l4 u = some (r, w)) (h_l0 : l0 < 338) (hS : CS D kA Z A s u H locs) (hl : lv_has ls 5 [(0, .ref (Z (1000 + l0))), (1, .int l1), (2, .long l2), (4, .int l4)]) : W p l e R s m args below meth c H locs 0 0 Q (F0 m 0 ls []) := by
  obtain ⟨⟨hx, hb, hml, hown, hts⟩, hK, hEV, hA⟩ := id X
  have hG : ∀ w ∈ GW, w.before args s = true := fun w h => hts w (List.mem_cons_of_mem _ h)
  unfold B_X4_become_0 at h
  refine lv_aload_n hx hb dX4_become_0 rfl (lv_at hl 0 rfl) ?_
  refine lv_lload_n hx hb dX4_become_1 rfl (lv_at hl 2 rfl) ?_
  obtain ⟨u_1, e_u_1, h⟩ := pc_of h
  refine cp_X4_21 X h_l0 hS e_u_1 dX4_become_2 (fun H locs hS => ?_)
  refine lv_aload_n hx hb dX4_become_5 rfl (lv_at hl 0 rfl) ?_
  refine lv_iload hx hb dX4_become_6 (lv_at hl 3 rfl) ?_
  obtain ⟨u_2, e_u_2, h⟩ := pc_of h
  refine cp_X4_25 X h_l0 hS e_u_2 dX4_become_8 (fun H locs hS => ?_)
  refine lv_aload_n hx hb dX4_become_11 rfl (lv_at hl 0 rfl) ?_
  refine lv_iload_n hx hb dX4_become_12 rfl (lv_at hl 1 rfl) ?_
  obtain ⟨u_3, e_u_3, h⟩ := pc_of h
  refine cp_X4_9 X h_l0 hS e_u_3 dX4_become_13 (fun H locs hS => ?_)
  refine lv_aload_n hx hb dX4_become_16 rfl (lv_at hl 0 rfl) ?_
  refine lv_iconst (v := 0) hx hb dX4_become_17 (by decide) ?_
  obtain ⟨u_4, e_u_4, h⟩ := pc_of h
  refine cp_X4_28 X h_l0 hS e_u_4 dX4_become_18 (fun H locs hS => ?_)
  refine lv_aload_n hx hb dX4_become_21 rfl (lv_at hl 0 rfl) ?_
  refine lv_iconst (v := 3) hx hb dX4_become_22 (by decide) ?_
  obtain ⟨u_5, e_u_5, h⟩ := pc_of h
  refine cp_X4_31 X h_l0 hS e_u_5 dX4_become_23 (fun H locs hS => ?_)
  refine lv_aload_n hx hb dX4_become_26 rfl (lv_at hl 0 rfl) ?_
  refine lv_iconst (v := 0) hx hb dX4_become_27 (by decide) ?_
  obtain ⟨u_6, e_u_6, h⟩ := pc_of h
  refine cp_X4_34 X h_l0 hS e_u_6 dX4_become_28 (fun H locs hS => ?_)
  refine lv_aload_n hx hb dX4_become_31 rfl (lv_at hl 0 rfl) ?_
  refine lv_iconst (v := 0) hx hb dX4_become_32 (by decide) ?_
  obtain ⟨u_7, e_u_7, h⟩ := pc_of h
  refine cp_X4_37 X h_l0 hS e_u_7 dX4_become_33 (fun H locs hS => ?_)
  refine lv_aload_n hx hb dX4_become_36 rfl (lv_at hl 0 rfl) ?_
  refine lv_iconst (v := 0) hx hb dX4_become_37 (by decide) ?_
  obtain ⟨u_8, e_u_8, h⟩ := pc_of h
  refine cp_X4_40 X h_l0 hS e_u_8 (Or.inl rfl) dX4_become_38 (fun H locs hS => ?_)
  refine lv_aload_n hx hb dX4_become_41 rfl (lv_at hl 0 rfl) ?_
  refine lv_iconst (v := 0) hx hb dX4_become_42 (by decide) ?_
  obtain ⟨u_9, e_u_9, h⟩ := pc_of h
  refine cp_X4_44 X h_l0 hS e_u_9 dX4_become_43 (fun H locs hS => ?_)
  refine lv_aload_n hx hb dX4_become_46 rfl (lv_at hl 0 rfl) ?_
  refine lv_lconst (v := 0) hx hb dX4_become_47 (by decide) ?_
  obtain ⟨u_10, e_u_10, h⟩ := pc_of h
  refine cp_X4_47 X h_l0 hS e_u_10 dX4_become_48 (fun H locs hS => ?_)
  refine lv_aload_n hx hb dX4_become_51 rfl (lv_at hl 0 rfl) ?_
  refine lv_iconst (v := 0) hx hb dX4_become_52 (by decide) ?_
  obtain ⟨u_11, e_u_11, h⟩ := pc_of h
  refine cp_X4_50 X h_l0 hS e_u_11 dX4_become_53 (fun H locs hS => ?_)
  refine lv_aload_n hx hb dX4_become_56 rfl (lv_at hl 0 rfl) ?_
  refine lv_iconst (v := 0) hx hb dX4_become_57 (by decide) ?_
  obtain ⟨u_12, e_u_12, h⟩ := pc_of h
  refine cp_X4_53 X h_l0 hS e_u_12 dX4_become_58 (fun H locs hS => ?_)
  refine lv_aload_n hx hb dX4_become_61 rfl (lv_at hl 0 rfl) ?_
  refine lv_iconst (v := 0) hx hb dX4_become_62 (by decide) ?_
  obtain ⟨u_13, e_u_13, h⟩ := pc_of h
  refine cp_X4_56 X h_l0 hS e_u_13 dX4_become_63 (fun H locs hS => ?_)
  refine lv_aload_n hx hb dX4_become_66 rfl (lv_at hl 0 rfl) ?_
  refine lv_iconst (v := (-1)) hx hb dX4_become_67 (by decide) ?_
  obtain ⟨u_14, e_u_14, h⟩ := pc_of h
  refine cp_X4_18 X h_l0 hS e_u_14 dX4_become_68 (fun H locs hS => ?_)
  obtain ⟨-, rfl⟩ := so9 h
  exact hE _ _ _ _ hS dX4_become_71
def F_X4_become (N : Nat) (l0 : Nat) (l1 : Int32) (l2 : Int64) (l4 : Int32) (u : CSt) : Option (Int32 × CSt) := B_X4_become_0 N l0 l1 l2 l4 u
set_option maxHeartbeats 4000000 in
theorem k_X4_become (l : Launch) (D : va_G) (kA : Nat → ClassId) (V Z : Nat → Nat) (N : Nat) (l0 : Nat) (l1 : Int32) (l2 : Int64) (l4 : Int32) (h_l0 : l0 < 338) (u : CSt) (sz : Nat) {r : Int32} {w : CSt} (h : F_X4_become N l0 l1 l2 l4 u = some (r, w)) : Met l yX4_become (Cond.code yX4_become cX4_become 5 none :: GW) { frames := 0, cells := 0, slots := 0, locals := 0 } (cPc D kA V Z [.ref (Z (1000 + l0)), .int l1, .long l2, .int l4] u sz) (cQv D kA Z u sz w) 0 0 (va_A (CW kA Z u) sz) := by
  refine Met.ofW (cc := cX4_become) (maxL := 5) (ret := none) (by decide) rfl ?_
  intro p e s m args below meth c s₁ Bd hml hv
  obtain ⟨rfl, hsz, hP, hK, hD0, hE⟩ := hv
  have hts := atoms_spec (ws := Cond.code yX4_become cX4_become 5 none :: GW) Bd.pre
  have hl := lv_entry ([.ref (Z (1000 + l0)), .int l1, .long l2, .int l4]) (n := 5) (Nat.le_of_ble_eq_true rfl)
  rw [lg_entry_eq]
  generalize (lg_sl ([.ref (Z (1000 + l0)), .int l1, .long l2, .int l4]) ++ List.replicate (5 - (lg_sl ([.ref (Z (1000 + l0)), .int l1, .long l2, .int l4])).length) Slot.unset).toArray = ls at hl ⊢
  have hl : lv_has ls 5 [(0, .ref (Z (1000 + l0))), (1, .int l1), (2, .long l2), (4, .int l4)] := hl
  subst hsz
  have X : CC p s m ([.ref (Z (1000 + l0)), .int l1, .long l2, .int l4]).toArray c cX4_become 5 (Cond.code yX4_become cX4_become 5 none) RX4 D kA V (va_A (CW kA Z u) s.heap.size) := ⟨⟨Bd.exec, Bd.bytes, hml, findClass_of_methodNamed Bd.named, hts⟩, hK, hE, fun q h => Or.inr h⟩
  refine b_X4_become_0 X (cend_v X Bd.returns Bd.notSynchronized) (Nat.le_refl _) (Nat.le_refl _) h h_l0 ⟨hP, hD0.self, va_S.rf⟩ (lv_sub hl [0, 1, 2, 3] rfl)
theorem kc_X4_become_RX6 {cc : ByteArray} {pc nL : Nat} {c0 : Cond} {rest : List Value} {l0 : Nat} {l1 : Int32} {l2 : Int64} {l4 : Int32} {u w1 : CSt} {r : Int32} (X : CC p s m args c cc nL c0 RX6 D kA V A) (h_l0 : l0 < 338) (hS : CS D kA Z A s u H locs) (h : F_X4_become N l0 l1 l2 l4 u = some (r, w1)) (hF : 0 + 1 ≤ R.frames) (hL : 8 + (5 + 11) + 0 ≤ R.locals) (hl : ls.size = nL) (hc : (rest.map fun v => v.category).sum ≤ 8) (hdg : decode cc pc = .ok (.invokevirtual 75, 3)) (kk : ∀ H locs, CS D kA Z A s w1 H locs → W p l e R s m args below meth c H locs 0 0 Q (F0 m (pc + 3) ls (rest))) : W p l e R s m args below meth c H locs 0 0 Q (F0 m pc ls (.int l4 :: .long l2 :: .int l1 :: .ref (Z (1000 + l0)) :: rest)) :=
  ccall_v (n := 3) X hS (k_X4_become l D kA V Z N l0 l1 l2 l4 h_l0 u H.size h) (gw_V gw_369 gw_370 gw_371 gw_11 gw_372) (by decide +kernel) (va_recv X.2.1 hS.1 (ci := 4) (q0 := 90 + l0) rfl (cw_name h_l0)) hF hL rfl hl hc rfl hdg kk
def B_X4_isLocal_17 (N : Nat) (u : CSt) : Option (Int32 × CSt) := some (1, u)
set_option maxHeartbeats 4000000 in
theorem b_X4_isLocal_17 {r : Int32} (X : CC p s m args c cX4_isLocal 1 (Cond.code yX4_isLocal cX4_isLocal 1 (some .boolean)) RX4 D kA V A) (hE : CEz p l e R s m args below meth c cX4_isLocal D kA Z A Q r w) (hF : 0 ≤ R.frames) (hL : 0 ≤ R.locals) {u : CSt}  (h : B_X4_isLocal_17 N u = some (r, w))  (hS : CS D kA Z A s u H locs) (hl : lv_has ls 1 []) : W p l e R s m args below meth c H locs 0 0 Q (F0 m 17 ls []) := by
  obtain ⟨⟨hx, hb, hml, hown, hts⟩, hK, hEV, hA⟩ := id X
  have hG : ∀ w ∈ GW, w.before args s = true := fun w h => hts w (List.mem_cons_of_mem _ h)
  unfold B_X4_isLocal_17 at h
  refine lv_iconst (v := 1) hx hb dX4_isLocal_17 (by decide) ?_
  refine lv_goto (tgt := 22) hx hb dX4_isLocal_18 (by decide) ?_
  obtain ⟨rfl, rfl⟩ := so9 h
  exact hE _ _ _ _ hS (Or.inr rfl) dX4_isLocal_22
def B_X4_isLocal_0 (N : Nat) (l0 : Nat) (u : CSt) : Option (Int32 × CSt) := if (mI u l0 2) = (5 : Int32) then (B_X4_isLocal_17 N u) else (if (mI u l0 2) = (6 : Int32) then (B_X4_isLocal_17 N u) else (some (0, u)))
set_option maxHeartbeats 4000000 in
theorem b_X4_isLocal_0 {r : Int32} (X : CC p s m args c cX4_isLocal 1 (Cond.code yX4_isLocal cX4_isLocal 1 (some .boolean)) RX4 D kA V A) (hE : CEz p l e R s m args below meth c cX4_isLocal D kA Z A Q r w) (hF : 0 ≤ R.frames) (hL : 0 ≤ R.locals) {l0 : Nat} {u : CSt}  (h : B_X4_isLocal_0 N l0 u = some (r, w)) (h_l0 : l0 < 338) (hS : CS D kA Z A s u H locs) (hl : lv_has ls 1 [(0, .ref (Z (1000 + l0)))]) : W p l e R s m args below meth c H locs 0 0 Q (F0 m 0 ls []) := by
  obtain ⟨⟨hx, hb, hml, hown, hts⟩, hK, hEV, hA⟩ := id X
  have hG : ∀ w ∈ GW, w.before args s = true := fun w h => hts w (List.mem_cons_of_mem _ h)
  unfold B_X4_isLocal_0 at h
  refine lv_aload_n hx hb dX4_isLocal_0 rfl (lv_at hl 0 rfl) ?_
  refine cg_X4_9 X h_l0 hS dX4_isLocal_1 ?_
  refine lv_iconst (v := 5) hx hb dX4_isLocal_4 (by decide) ?_
  refine lv_icmp_eq (tgt := 17) hx hb dX4_isLocal_5 (by decide) (fun c_1 => ?_) (fun c_1 => ?_)
  · have h := ip (c_1) h
    exact b_X4_isLocal_17 X hE  hF hL  h  hS (lv_sub hl [] rfl)
  · have h := im (c_1) h
    refine lv_aload_n hx hb dX4_isLocal_8 rfl (lv_at hl 0 rfl) ?_
    refine cg_X4_9 X h_l0 hS dX4_isLocal_9 ?_
    refine lv_bipush (v := 6) hx hb dX4_isLocal_12 (by decide) ?_
    refine lv_icmp_ne (tgt := 21) hx hb dX4_isLocal_14 (by decide) (fun c_2 => ?_) (fun c_2 => ?_)
    · have h := im (c_2) h
      refine lv_iconst (v := 0) hx hb dX4_isLocal_21 (by decide) ?_
      obtain ⟨rfl, rfl⟩ := so9 h
      exact hE _ _ _ _ hS (Or.inl rfl) dX4_isLocal_22
    · have h := ip (c_2) h
      exact b_X4_isLocal_17 X hE  hF hL  h  hS (lv_sub hl [] rfl)
def F_X4_isLocal (N : Nat) (l0 : Nat) (u : CSt) : Option (Int32 × CSt) := B_X4_isLocal_0 N l0 u
set_option maxHeartbeats 4000000 in
theorem k_X4_isLocal (l : Launch) (D : va_G) (kA : Nat → ClassId) (V Z : Nat → Nat) (N : Nat) (l0 : Nat) (h_l0 : l0 < 338) (u : CSt) (sz : Nat) {r : Int32} {w : CSt} (h : F_X4_isLocal N l0 u = some (r, w)) : Met l yX4_isLocal (Cond.code yX4_isLocal cX4_isLocal 1 (some .boolean) :: GW) { frames := 0, cells := 0, slots := 0, locals := 0 } (cPc D kA V Z [.ref (Z (1000 + l0))] u sz) (cQi D kA Z u sz r w) 0 0 (va_A (CW kA Z u) sz) := by
  refine Met.ofW (cc := cX4_isLocal) (maxL := 1) (ret := (some .boolean)) (by decide) rfl ?_
  intro p e s m args below meth c s₁ Bd hml hv
  obtain ⟨rfl, hsz, hP, hK, hD0, hE⟩ := hv
  have hts := atoms_spec (ws := Cond.code yX4_isLocal cX4_isLocal 1 (some .boolean) :: GW) Bd.pre
  have hl := lv_entry ([.ref (Z (1000 + l0))]) (n := 1) (Nat.le_of_ble_eq_true rfl)
  rw [lg_entry_eq]
  generalize (lg_sl ([.ref (Z (1000 + l0))]) ++ List.replicate (1 - (lg_sl ([.ref (Z (1000 + l0))])).length) Slot.unset).toArray = ls at hl ⊢
  have hl : lv_has ls 1 [(0, .ref (Z (1000 + l0)))] := hl
  subst hsz
  have X : CC p s m ([.ref (Z (1000 + l0))]).toArray c cX4_isLocal 1 (Cond.code yX4_isLocal cX4_isLocal 1 (some .boolean)) RX4 D kA V (va_A (CW kA Z u) s.heap.size) := ⟨⟨Bd.exec, Bd.bytes, hml, findClass_of_methodNamed Bd.named, hts⟩, hK, hE, fun q h => Or.inr h⟩
  refine b_X4_isLocal_0 X (cend_z X Bd.returns Bd.notSynchronized) (Nat.le_refl _) (Nat.le_refl _) h h_l0 ⟨hP, hD0.self, va_S.rf⟩ (lv_sub hl [0] rfl)
theorem kc_X4_isLocal_RX4 {cc : ByteArray} {pc nL : Nat} {c0 : Cond} {rest : List Value} {l0 : Nat} {u w1 : CSt} {r : Int32} (X : CC p s m args c cc nL c0 RX4 D kA V A) (h_l0 : l0 < 338) (hS : CS D kA Z A s u H locs) (h : F_X4_isLocal N l0 u = some (r, w1)) (hF : 0 + 1 ≤ R.frames) (hL : 8 + (1 + 11) + 0 ≤ R.locals) (hl : ls.size = nL) (hc : (rest.map fun v => v.category).sum ≤ 8) (hdg : decode cc pc = .ok (.invokevirtual 59, 3)) (kk : ∀ H locs, CS D kA Z A s w1 H locs → W p l e R s m args below meth c H locs 0 0 Q (F0 m (pc + 3) ls (.int r :: rest))) : W p l e R s m args below meth c H locs 0 0 Q (F0 m pc ls (.ref (Z (1000 + l0)) :: rest)) :=
  ccall_i (n := 0) X hS (k_X4_isLocal l D kA V Z N l0 h_l0 u H.size h) (gw_V gw_1224 gw_1225 gw_1226 gw_11 gw_1227) (by decide +kernel) (va_recv X.2.1 hS.1 (ci := 4) (q0 := 90 + l0) rfl (cw_name h_l0)) hF hL rfl hl hc rfl hdg kk
theorem kc_X4_isLocal_RX8 {cc : ByteArray} {pc nL : Nat} {c0 : Cond} {rest : List Value} {l0 : Nat} {u w1 : CSt} {r : Int32} (X : CC p s m args c cc nL c0 RX8 D kA V A) (h_l0 : l0 < 338) (hS : CS D kA Z A s u H locs) (h : F_X4_isLocal N l0 u = some (r, w1)) (hF : 0 + 1 ≤ R.frames) (hL : 8 + (1 + 11) + 0 ≤ R.locals) (hl : ls.size = nL) (hc : (rest.map fun v => v.category).sum ≤ 8) (hdg : decode cc pc = .ok (.invokevirtual 259, 3)) (kk : ∀ H locs, CS D kA Z A s w1 H locs → W p l e R s m args below meth c H locs 0 0 Q (F0 m (pc + 3) ls (.int r :: rest))) : W p l e R s m args below meth c H locs 0 0 Q (F0 m pc ls (.ref (Z (1000 + l0)) :: rest)) :=
  ccall_i (n := 0) X hS (k_X4_isLocal l D kA V Z N l0 h_l0 u H.size h) (gw_V gw_1236 gw_1225 gw_1226 gw_11 gw_1227) (by decide +kernel) (va_recv X.2.1 hS.1 (ci := 4) (q0 := 90 + l0) rfl (cw_name h_l0)) hF hL rfl hl hc rfl hdg kk
def B_X4_hasNumbers_14 (N : Nat) (u : CSt) : Option (Int32 × CSt) := some (1, u)
set_option maxHeartbeats 4000000 in
theorem b_X4_hasNumbers_14 {r : Int32} (X : CC p s m args c cX4_hasNumbers 1 (Cond.code yX4_hasNumbers cX4_hasNumbers 1 (some .boolean)) RX4 D kA V A) (hE : CEz p l e R s m args below meth c cX4_hasNumbers D kA Z A Q r w) (hF : 1 ≤ R.frames) (hL : 20 ≤ R.locals) {u : CSt}  (h : B_X4_hasNumbers_14 N u = some (r, w))  (hS : CS D kA Z A s u H locs) (hl : lv_has ls 1 []) : W p l e R s m args below meth c H locs 0 0 Q (F0 m 14 ls []) := by
  obtain ⟨⟨hx, hb, hml, hown, hts⟩, hK, hEV, hA⟩ := id X
  have hG : ∀ w ∈ GW, w.before args s = true := fun w h => hts w (List.mem_cons_of_mem _ h)
  unfold B_X4_hasNumbers_14 at h
  refine lv_iconst (v := 1) hx hb dX4_hasNumbers_14 (by decide) ?_
  refine lv_goto (tgt := 19) hx hb dX4_hasNumbers_15 (by decide) ?_
  obtain ⟨rfl, rfl⟩ := so9 h
  exact hE _ _ _ _ hS (Or.inr rfl) dX4_hasNumbers_19
def B_X4_hasNumbers_0 (N : Nat) (l0 : Nat) (u : CSt) : Option (Int32 × CSt) := if (mI u l0 2) = (0 : Int32) then (B_X4_hasNumbers_14 N u) else (bc (F_X4_isLocal N l0 u) fun r_3 u_2 => if r_3 = (0 : Int32) then (some (0, u_2)) else (B_X4_hasNumbers_14 N u_2))
set_option maxHeartbeats 4000000 in
theorem b_X4_hasNumbers_0 {r : Int32} (X : CC p s m args c cX4_hasNumbers 1 (Cond.code yX4_hasNumbers cX4_hasNumbers 1 (some .boolean)) RX4 D kA V A) (hE : CEz p l e R s m args below meth c cX4_hasNumbers D kA Z A Q r w) (hF : 1 ≤ R.frames) (hL : 20 ≤ R.locals) {l0 : Nat} {u : CSt}  (h : B_X4_hasNumbers_0 N l0 u = some (r, w)) (h_l0 : l0 < 338) (hS : CS D kA Z A s u H locs) (hl : lv_has ls 1 [(0, .ref (Z (1000 + l0)))]) : W p l e R s m args below meth c H locs 0 0 Q (F0 m 0 ls []) := by
  obtain ⟨⟨hx, hb, hml, hown, hts⟩, hK, hEV, hA⟩ := id X
  have hG : ∀ w ∈ GW, w.before args s = true := fun w h => hts w (List.mem_cons_of_mem _ h)
  unfold B_X4_hasNumbers_0 at h
  refine lv_aload_n hx hb dX4_hasNumbers_0 rfl (lv_at hl 0 rfl) ?_
  refine cg_X4_9 X h_l0 hS dX4_hasNumbers_1 ?_
  refine lv_if_eq (tgt := 14) hx hb dX4_hasNumbers_4 (by decide) (fun c_1 => ?_) (fun c_1 => ?_)
  · have h := ip (c_1) h
    exact b_X4_hasNumbers_14 X hE  hF hL  h  hS (lv_sub hl [] rfl)
  · have h := im (c_1) h
    refine lv_aload_n hx hb dX4_hasNumbers_7 rfl (lv_at hl 0 rfl) ?_
    obtain ⟨r_3, u_2, h_u_2, h⟩ := bc_of h
    refine kc_X4_isLocal_RX4 X h_l0 hS h_u_2 (Nat.le_trans (Nat.le_of_ble_eq_true rfl) hF) (Nat.le_trans (Nat.le_of_ble_eq_true rfl) hL) hl.1 (Nat.le_of_ble_eq_true rfl) dX4_hasNumbers_8 (fun H locs hS => ?_)
    refine lv_if_eq (tgt := 18) hx hb dX4_hasNumbers_11 (by decide) (fun c_4 => ?_) (fun c_4 => ?_)
    · have h := ip (c_4) h
      refine lv_iconst (v := 0) hx hb dX4_hasNumbers_18 (by decide) ?_
      obtain ⟨rfl, rfl⟩ := so9 h
      exact hE _ _ _ _ hS (Or.inl rfl) dX4_hasNumbers_19
    · have h := im (c_4) h
      exact b_X4_hasNumbers_14 X hE  hF hL  h  hS (lv_sub hl [] rfl)
def F_X4_hasNumbers (N : Nat) (l0 : Nat) (u : CSt) : Option (Int32 × CSt) := B_X4_hasNumbers_0 N l0 u
set_option maxHeartbeats 4000000 in
theorem k_X4_hasNumbers (l : Launch) (D : va_G) (kA : Nat → ClassId) (V Z : Nat → Nat) (N : Nat) (l0 : Nat) (h_l0 : l0 < 338) (u : CSt) (sz : Nat) {r : Int32} {w : CSt} (h : F_X4_hasNumbers N l0 u = some (r, w)) : Met l yX4_hasNumbers (Cond.code yX4_hasNumbers cX4_hasNumbers 1 (some .boolean) :: GW) { frames := 1, cells := 0, slots := 0, locals := 20 } (cPc D kA V Z [.ref (Z (1000 + l0))] u sz) (cQi D kA Z u sz r w) 0 0 (va_A (CW kA Z u) sz) := by
  refine Met.ofW (cc := cX4_hasNumbers) (maxL := 1) (ret := (some .boolean)) (by decide) rfl ?_
  intro p e s m args below meth c s₁ Bd hml hv
  obtain ⟨rfl, hsz, hP, hK, hD0, hE⟩ := hv
  have hts := atoms_spec (ws := Cond.code yX4_hasNumbers cX4_hasNumbers 1 (some .boolean) :: GW) Bd.pre
  have hl := lv_entry ([.ref (Z (1000 + l0))]) (n := 1) (Nat.le_of_ble_eq_true rfl)
  rw [lg_entry_eq]
  generalize (lg_sl ([.ref (Z (1000 + l0))]) ++ List.replicate (1 - (lg_sl ([.ref (Z (1000 + l0))])).length) Slot.unset).toArray = ls at hl ⊢
  have hl : lv_has ls 1 [(0, .ref (Z (1000 + l0)))] := hl
  subst hsz
  have X : CC p s m ([.ref (Z (1000 + l0))]).toArray c cX4_hasNumbers 1 (Cond.code yX4_hasNumbers cX4_hasNumbers 1 (some .boolean)) RX4 D kA V (va_A (CW kA Z u) s.heap.size) := ⟨⟨Bd.exec, Bd.bytes, hml, findClass_of_methodNamed Bd.named, hts⟩, hK, hE, fun q h => Or.inr h⟩
  refine b_X4_hasNumbers_0 X (cend_z X Bd.returns Bd.notSynchronized) (Nat.le_refl _) (Nat.le_refl _) h h_l0 ⟨hP, hD0.self, va_S.rf⟩ (lv_sub hl [0] rfl)
theorem kc_X4_hasNumbers_RX8 {cc : ByteArray} {pc nL : Nat} {c0 : Cond} {rest : List Value} {l0 : Nat} {u w1 : CSt} {r : Int32} (X : CC p s m args c cc nL c0 RX8 D kA V A) (h_l0 : l0 < 338) (hS : CS D kA Z A s u H locs) (h : F_X4_hasNumbers N l0 u = some (r, w1)) (hF : 1 + 1 ≤ R.frames) (hL : 8 + (1 + 11) + 20 ≤ R.locals) (hl : ls.size = nL) (hc : (rest.map fun v => v.category).sum ≤ 8) (hdg : decode cc pc = .ok (.invokevirtual 72, 3)) (kk : ∀ H locs, CS D kA Z A s w1 H locs → W p l e R s m args below meth c H locs 0 0 Q (F0 m (pc + 3) ls (.int r :: rest))) : W p l e R s m args below meth c H locs 0 0 Q (F0 m pc ls (.ref (Z (1000 + l0)) :: rest)) :=
  ccall_i (n := 0) X hS (k_X4_hasNumbers l D kA V Z N l0 h_l0 u H.size h) (gw_V gw_1220 gw_1221 gw_1222 gw_11 gw_1223) (by decide +kernel) (va_recv X.2.1 hS.1 (ci := 4) (q0 := 90 + l0) rfl (cw_name h_l0)) hF hL rfl hl hc rfl hdg kk
theorem kc_X4_hasNumbers_RX3 {cc : ByteArray} {pc nL : Nat} {c0 : Cond} {rest : List Value} {l0 : Nat} {u w1 : CSt} {r : Int32} (X : CC p s m args c cc nL c0 RX3 D kA V A) (h_l0 : l0 < 338) (hS : CS D kA Z A s u H locs) (h : F_X4_hasNumbers N l0 u = some (r, w1)) (hF : 1 + 1 ≤ R.frames) (hL : 8 + (1 + 11) + 20 ≤ R.locals) (hl : ls.size = nL) (hc : (rest.map fun v => v.category).sum ≤ 8) (hdg : decode cc pc = .ok (.invokevirtual 344, 3)) (kk : ∀ H locs, CS D kA Z A s w1 H locs → W p l e R s m args below meth c H locs 0 0 Q (F0 m (pc + 3) ls (.int r :: rest))) : W p l e R s m args below meth c H locs 0 0 Q (F0 m pc ls (.ref (Z (1000 + l0)) :: rest)) :=
  ccall_i (n := 0) X hS (k_X4_hasNumbers l D kA V Z N l0 h_l0 u H.size h) (gw_V gw_1294 gw_1221 gw_1222 gw_11 gw_1223) (by decide +kernel) (va_recv X.2.1 hS.1 (ci := 4) (q0 := 90 + l0) rfl (cw_name h_l0)) hF hL rfl hl hc rfl hdg kk
def B_X4_isPlaced_23 (N : Nat) (u : CSt) : Option (Int32 × CSt) := some (1, u)
set_option maxHeartbeats 4000000 in
theorem b_X4_isPlaced_23 {r : Int32} (X : CC p s m args c cX4_isPlaced 1 (Cond.code yX4_isPlaced cX4_isPlaced 1 (some .boolean)) RX4 D kA V A) (hE : CEz p l e R s m args below meth c cX4_isPlaced D kA Z A Q r w) (hF : 0 ≤ R.frames) (hL : 0 ≤ R.locals) {u : CSt}  (h : B_X4_isPlaced_23 N u = some (r, w))  (hS : CS D kA Z A s u H locs) (hl : lv_has ls 1 []) : W p l e R s m args below meth c H locs 0 0 Q (F0 m 23 ls []) := by
  obtain ⟨⟨hx, hb, hml, hown, hts⟩, hK, hEV, hA⟩ := id X
  have hG : ∀ w ∈ GW, w.before args s = true := fun w h => hts w (List.mem_cons_of_mem _ h)
  unfold B_X4_isPlaced_23 at h
  refine lv_iconst (v := 1) hx hb dX4_isPlaced_23 (by decide) ?_
  refine lv_goto (tgt := 28) hx hb dX4_isPlaced_24 (by decide) ?_
  obtain ⟨rfl, rfl⟩ := so9 h
  exact hE _ _ _ _ hS (Or.inr rfl) dX4_isPlaced_28
def B_X4_isPlaced_0 (N : Nat) (l0 : Nat) (u : CSt) : Option (Int32 × CSt) := if (mI u l0 2) = (0 : Int32) then (if (mI u l0 6) = (2 : Int32) then (B_X4_isPlaced_23 N u) else (if (mI u l0 6) = (3 : Int32) then (B_X4_isPlaced_23 N u) else (some (0, u)))) else (some (0, u))
set_option maxHeartbeats 4000000 in
theorem b_X4_isPlaced_0 {r : Int32} (X : CC p s m args c cX4_isPlaced 1 (Cond.code yX4_isPlaced cX4_isPlaced 1 (some .boolean)) RX4 D kA V A) (hE : CEz p l e R s m args below meth c cX4_isPlaced D kA Z A Q r w) (hF : 0 ≤ R.frames) (hL : 0 ≤ R.locals) {l0 : Nat} {u : CSt}  (h : B_X4_isPlaced_0 N l0 u = some (r, w)) (h_l0 : l0 < 338) (hS : CS D kA Z A s u H locs) (hl : lv_has ls 1 [(0, .ref (Z (1000 + l0)))]) : W p l e R s m args below meth c H locs 0 0 Q (F0 m 0 ls []) := by
  obtain ⟨⟨hx, hb, hml, hown, hts⟩, hK, hEV, hA⟩ := id X
  have hG : ∀ w ∈ GW, w.before args s = true := fun w h => hts w (List.mem_cons_of_mem _ h)
  unfold B_X4_isPlaced_0 at h
  refine lv_aload_n hx hb dX4_isPlaced_0 rfl (lv_at hl 0 rfl) ?_
  refine cg_X4_9 X h_l0 hS dX4_isPlaced_1 ?_
  refine lv_if_ne (tgt := 27) hx hb dX4_isPlaced_4 (by decide) (fun c_1 => ?_) (fun c_1 => ?_)
  · have h := im (c_1) h
    refine lv_iconst (v := 0) hx hb dX4_isPlaced_27 (by decide) ?_
    obtain ⟨rfl, rfl⟩ := so9 h
    exact hE _ _ _ _ hS (Or.inl rfl) dX4_isPlaced_28
  · have h := ip (c_1) h
    refine lv_aload_n hx hb dX4_isPlaced_7 rfl (lv_at hl 0 rfl) ?_
    refine cg_X4_34 X h_l0 hS dX4_isPlaced_8 ?_
    refine lv_iconst (v := 2) hx hb dX4_isPlaced_11 (by decide) ?_
    refine lv_icmp_eq (tgt := 23) hx hb dX4_isPlaced_12 (by decide) (fun c_2 => ?_) (fun c_2 => ?_)
    · have h := ip (c_2) h
      exact b_X4_isPlaced_23 X hE  hF hL  h  hS (lv_sub hl [] rfl)
    · have h := im (c_2) h
      refine lv_aload_n hx hb dX4_isPlaced_15 rfl (lv_at hl 0 rfl) ?_
      refine cg_X4_34 X h_l0 hS dX4_isPlaced_16 ?_
      refine lv_iconst (v := 3) hx hb dX4_isPlaced_19 (by decide) ?_
      refine lv_icmp_ne (tgt := 27) hx hb dX4_isPlaced_20 (by decide) (fun c_3 => ?_) (fun c_3 => ?_)
      · have h := im (c_3) h
        refine lv_iconst (v := 0) hx hb dX4_isPlaced_27 (by decide) ?_
        obtain ⟨rfl, rfl⟩ := so9 h
        exact hE _ _ _ _ hS (Or.inl rfl) dX4_isPlaced_28
      · have h := ip (c_3) h
        exact b_X4_isPlaced_23 X hE  hF hL  h  hS (lv_sub hl [] rfl)
def F_X4_isPlaced (N : Nat) (l0 : Nat) (u : CSt) : Option (Int32 × CSt) := B_X4_isPlaced_0 N l0 u
set_option maxHeartbeats 4000000 in
theorem k_X4_isPlaced (l : Launch) (D : va_G) (kA : Nat → ClassId) (V Z : Nat → Nat) (N : Nat) (l0 : Nat) (h_l0 : l0 < 338) (u : CSt) (sz : Nat) {r : Int32} {w : CSt} (h : F_X4_isPlaced N l0 u = some (r, w)) : Met l yX4_isPlaced (Cond.code yX4_isPlaced cX4_isPlaced 1 (some .boolean) :: GW) { frames := 0, cells := 0, slots := 0, locals := 0 } (cPc D kA V Z [.ref (Z (1000 + l0))] u sz) (cQi D kA Z u sz r w) 0 0 (va_A (CW kA Z u) sz) := by
  refine Met.ofW (cc := cX4_isPlaced) (maxL := 1) (ret := (some .boolean)) (by decide) rfl ?_
  intro p e s m args below meth c s₁ Bd hml hv
  obtain ⟨rfl, hsz, hP, hK, hD0, hE⟩ := hv
  have hts := atoms_spec (ws := Cond.code yX4_isPlaced cX4_isPlaced 1 (some .boolean) :: GW) Bd.pre
  have hl := lv_entry ([.ref (Z (1000 + l0))]) (n := 1) (Nat.le_of_ble_eq_true rfl)
  rw [lg_entry_eq]
  generalize (lg_sl ([.ref (Z (1000 + l0))]) ++ List.replicate (1 - (lg_sl ([.ref (Z (1000 + l0))])).length) Slot.unset).toArray = ls at hl ⊢
  have hl : lv_has ls 1 [(0, .ref (Z (1000 + l0)))] := hl
  subst hsz
  have X : CC p s m ([.ref (Z (1000 + l0))]).toArray c cX4_isPlaced 1 (Cond.code yX4_isPlaced cX4_isPlaced 1 (some .boolean)) RX4 D kA V (va_A (CW kA Z u) s.heap.size) := ⟨⟨Bd.exec, Bd.bytes, hml, findClass_of_methodNamed Bd.named, hts⟩, hK, hE, fun q h => Or.inr h⟩
  refine b_X4_isPlaced_0 X (cend_z X Bd.returns Bd.notSynchronized) (Nat.le_refl _) (Nat.le_refl _) h h_l0 ⟨hP, hD0.self, va_S.rf⟩ (lv_sub hl [0] rfl)
theorem kc_X4_isPlaced_RX8 {cc : ByteArray} {pc nL : Nat} {c0 : Cond} {rest : List Value} {l0 : Nat} {u w1 : CSt} {r : Int32} (X : CC p s m args c cc nL c0 RX8 D kA V A) (h_l0 : l0 < 338) (hS : CS D kA Z A s u H locs) (h : F_X4_isPlaced N l0 u = some (r, w1)) (hF : 0 + 1 ≤ R.frames) (hL : 8 + (1 + 11) + 0 ≤ R.locals) (hl : ls.size = nL) (hc : (rest.map fun v => v.category).sum ≤ 8) (hdg : decode cc pc = .ok (.invokevirtual 269, 3)) (kk : ∀ H locs, CS D kA Z A s w1 H locs → W p l e R s m args below meth c H locs 0 0 Q (F0 m (pc + 3) ls (.int r :: rest))) : W p l e R s m args below meth c H locs 0 0 Q (F0 m pc ls (.ref (Z (1000 + l0)) :: rest)) :=
  ccall_i (n := 0) X hS (k_X4_isPlaced l D kA V Z N l0 h_l0 u H.size h) (gw_V gw_1241 gw_1242 gw_1243 gw_11 gw_1244) (by decide +kernel) (va_recv X.2.1 hS.1 (ci := 4) (q0 := 90 + l0) rfl (cw_name h_l0)) hF hL rfl hl hc rfl hdg kk
theorem kc_X4_isPlaced_RX2 {cc : ByteArray} {pc nL : Nat} {c0 : Cond} {rest : List Value} {l0 : Nat} {u w1 : CSt} {r : Int32} (X : CC p s m args c cc nL c0 RX2 D kA V A) (h_l0 : l0 < 338) (hS : CS D kA Z A s u H locs) (h : F_X4_isPlaced N l0 u = some (r, w1)) (hF : 0 + 1 ≤ R.frames) (hL : 8 + (1 + 11) + 0 ≤ R.locals) (hl : ls.size = nL) (hc : (rest.map fun v => v.category).sum ≤ 8) (hdg : decode cc pc = .ok (.invokevirtual 40, 3)) (kk : ∀ H locs, CS D kA Z A s w1 H locs → W p l e R s m args below meth c H locs 0 0 Q (F0 m (pc + 3) ls (.int r :: rest))) : W p l e R s m args below meth c H locs 0 0 Q (F0 m pc ls (.ref (Z (1000 + l0)) :: rest)) :=
  ccall_i (n := 0) X hS (k_X4_isPlaced l D kA V Z N l0 h_l0 u H.size h) (gw_V gw_1395 gw_1242 gw_1243 gw_11 gw_1244) (by decide +kernel) (va_recv X.2.1 hS.1 (ci := 4) (q0 := 90 + l0) rfl (cw_name h_l0)) hF hL rfl hl hc rfl hdg kk
theorem kc_X4_isPlaced_RX11 {cc : ByteArray} {pc nL : Nat} {c0 : Cond} {rest : List Value} {l0 : Nat} {u w1 : CSt} {r : Int32} (X : CC p s m args c cc nL c0 RX11 D kA V A) (h_l0 : l0 < 338) (hS : CS D kA Z A s u H locs) (h : F_X4_isPlaced N l0 u = some (r, w1)) (hF : 0 + 1 ≤ R.frames) (hL : 8 + (1 + 11) + 0 ≤ R.locals) (hl : ls.size = nL) (hc : (rest.map fun v => v.category).sum ≤ 8) (hdg : decode cc pc = .ok (.invokevirtual 233, 3)) (kk : ∀ H locs, CS D kA Z A s w1 H locs → W p l e R s m args below meth c H locs 0 0 Q (F0 m (pc + 3) ls (.int r :: rest))) : W p l e R s m args below meth c H locs 0 0 Q (F0 m pc ls (.ref (Z (1000 + l0)) :: rest)) :=
  ccall_i (n := 0) X hS (k_X4_isPlaced l D kA V Z N l0 h_l0 u H.size h) (gw_V gw_1756 gw_1242 gw_1243 gw_11 gw_1244) (by decide +kernel) (va_recv X.2.1 hS.1 (ci := 4) (q0 := 90 + l0) rfl (cw_name h_l0)) hF hL rfl hl hc rfl hdg kk
def B_X4_isInput_0 (N : Nat) (l0 : Nat) (u : CSt) : Option (Int32 × CSt) := if (mI u l0 2) = (0 : Int32) then (if (mI u l0 6) = (2 : Int32) then (some (1, u)) else (some (0, u))) else (some (0, u))
set_option maxHeartbeats 4000000 in
theorem b_X4_isInput_0 {r : Int32} (X : CC p s m args c cX4_isInput 1 (Cond.code yX4_isInput cX4_isInput 1 (some .boolean)) RX4 D kA V A) (hE : CEz p l e R s m args below meth c cX4_isInput D kA Z A Q r w) (hF : 0 ≤ R.frames) (hL : 0 ≤ R.locals) {l0 : Nat} {u : CSt}  (h : B_X4_isInput_0 N l0 u = some (r, w)) (h_l0 : l0 < 338) (hS : CS D kA Z A s u H locs) (hl : lv_has ls 1 [(0, .ref (Z (1000 + l0)))]) : W p l e R s m args below meth c H locs 0 0 Q (F0 m 0 ls []) := by
  obtain ⟨⟨hx, hb, hml, hown, hts⟩, hK, hEV, hA⟩ := id X
  have hG : ∀ w ∈ GW, w.before args s = true := fun w h => hts w (List.mem_cons_of_mem _ h)
  unfold B_X4_isInput_0 at h
  refine lv_aload_n hx hb dX4_isInput_0 rfl (lv_at hl 0 rfl) ?_
  refine cg_X4_9 X h_l0 hS dX4_isInput_1 ?_
  refine lv_if_ne (tgt := 19) hx hb dX4_isInput_4 (by decide) (fun c_1 => ?_) (fun c_1 => ?_)
  · have h := im (c_1) h
    refine lv_iconst (v := 0) hx hb dX4_isInput_19 (by decide) ?_
    obtain ⟨rfl, rfl⟩ := so9 h
    exact hE _ _ _ _ hS (Or.inl rfl) dX4_isInput_20
  · have h := ip (c_1) h
    refine lv_aload_n hx hb dX4_isInput_7 rfl (lv_at hl 0 rfl) ?_
    refine cg_X4_34 X h_l0 hS dX4_isInput_8 ?_
    refine lv_iconst (v := 2) hx hb dX4_isInput_11 (by decide) ?_
    refine lv_icmp_ne (tgt := 19) hx hb dX4_isInput_12 (by decide) (fun c_2 => ?_) (fun c_2 => ?_)
    · have h := im (c_2) h
      refine lv_iconst (v := 0) hx hb dX4_isInput_19 (by decide) ?_
      obtain ⟨rfl, rfl⟩ := so9 h
      exact hE _ _ _ _ hS (Or.inl rfl) dX4_isInput_20
    · have h := ip (c_2) h
      refine lv_iconst (v := 1) hx hb dX4_isInput_15 (by decide) ?_
      refine lv_goto (tgt := 20) hx hb dX4_isInput_16 (by decide) ?_
      obtain ⟨rfl, rfl⟩ := so9 h
      exact hE _ _ _ _ hS (Or.inr rfl) dX4_isInput_20
def F_X4_isInput (N : Nat) (l0 : Nat) (u : CSt) : Option (Int32 × CSt) := B_X4_isInput_0 N l0 u
set_option maxHeartbeats 4000000 in
theorem k_X4_isInput (l : Launch) (D : va_G) (kA : Nat → ClassId) (V Z : Nat → Nat) (N : Nat) (l0 : Nat) (h_l0 : l0 < 338) (u : CSt) (sz : Nat) {r : Int32} {w : CSt} (h : F_X4_isInput N l0 u = some (r, w)) : Met l yX4_isInput (Cond.code yX4_isInput cX4_isInput 1 (some .boolean) :: GW) { frames := 0, cells := 0, slots := 0, locals := 0 } (cPc D kA V Z [.ref (Z (1000 + l0))] u sz) (cQi D kA Z u sz r w) 0 0 (va_A (CW kA Z u) sz) := by
  refine Met.ofW (cc := cX4_isInput) (maxL := 1) (ret := (some .boolean)) (by decide) rfl ?_
  intro p e s m args below meth c s₁ Bd hml hv
  obtain ⟨rfl, hsz, hP, hK, hD0, hE⟩ := hv
  have hts := atoms_spec (ws := Cond.code yX4_isInput cX4_isInput 1 (some .boolean) :: GW) Bd.pre
  have hl := lv_entry ([.ref (Z (1000 + l0))]) (n := 1) (Nat.le_of_ble_eq_true rfl)
  rw [lg_entry_eq]
  generalize (lg_sl ([.ref (Z (1000 + l0))]) ++ List.replicate (1 - (lg_sl ([.ref (Z (1000 + l0))])).length) Slot.unset).toArray = ls at hl ⊢
  have hl : lv_has ls 1 [(0, .ref (Z (1000 + l0)))] := hl
  subst hsz
  have X : CC p s m ([.ref (Z (1000 + l0))]).toArray c cX4_isInput 1 (Cond.code yX4_isInput cX4_isInput 1 (some .boolean)) RX4 D kA V (va_A (CW kA Z u) s.heap.size) := ⟨⟨Bd.exec, Bd.bytes, hml, findClass_of_methodNamed Bd.named, hts⟩, hK, hE, fun q h => Or.inr h⟩
  refine b_X4_isInput_0 X (cend_z X Bd.returns Bd.notSynchronized) (Nat.le_refl _) (Nat.le_refl _) h h_l0 ⟨hP, hD0.self, va_S.rf⟩ (lv_sub hl [0] rfl)
theorem kc_X4_isInput_RX8 {cc : ByteArray} {pc nL : Nat} {c0 : Cond} {rest : List Value} {l0 : Nat} {u w1 : CSt} {r : Int32} (X : CC p s m args c cc nL c0 RX8 D kA V A) (h_l0 : l0 < 338) (hS : CS D kA Z A s u H locs) (h : F_X4_isInput N l0 u = some (r, w1)) (hF : 0 + 1 ≤ R.frames) (hL : 8 + (1 + 11) + 0 ≤ R.locals) (hl : ls.size = nL) (hc : (rest.map fun v => v.category).sum ≤ 8) (hdg : decode cc pc = .ok (.invokevirtual 91, 3)) (kk : ∀ H locs, CS D kA Z A s w1 H locs → W p l e R s m args below meth c H locs 0 0 Q (F0 m (pc + 3) ls (.int r :: rest))) : W p l e R s m args below meth c H locs 0 0 Q (F0 m pc ls (.ref (Z (1000 + l0)) :: rest)) :=
  ccall_i (n := 0) X hS (k_X4_isInput l D kA V Z N l0 h_l0 u H.size h) (gw_V gw_1228 gw_1229 gw_1230 gw_11 gw_1231) (by decide +kernel) (va_recv X.2.1 hS.1 (ci := 4) (q0 := 90 + l0) rfl (cw_name h_l0)) hF hL rfl hl hc rfl hdg kk
theorem kc_X4_isInput_RX3 {cc : ByteArray} {pc nL : Nat} {c0 : Cond} {rest : List Value} {l0 : Nat} {u w1 : CSt} {r : Int32} (X : CC p s m args c cc nL c0 RX3 D kA V A) (h_l0 : l0 < 338) (hS : CS D kA Z A s u H locs) (h : F_X4_isInput N l0 u = some (r, w1)) (hF : 0 + 1 ≤ R.frames) (hL : 8 + (1 + 11) + 0 ≤ R.locals) (hl : ls.size = nL) (hc : (rest.map fun v => v.category).sum ≤ 8) (hdg : decode cc pc = .ok (.invokevirtual 347, 3)) (kk : ∀ H locs, CS D kA Z A s w1 H locs → W p l e R s m args below meth c H locs 0 0 Q (F0 m (pc + 3) ls (.int r :: rest))) : W p l e R s m args below meth c H locs 0 0 Q (F0 m pc ls (.ref (Z (1000 + l0)) :: rest)) :=
  ccall_i (n := 0) X hS (k_X4_isInput l D kA V Z N l0 h_l0 u H.size h) (gw_V gw_1295 gw_1229 gw_1230 gw_11 gw_1231) (by decide +kernel) (va_recv X.2.1 hS.1 (ci := 4) (q0 := 90 + l0) rfl (cw_name h_l0)) hF hL rfl hl hc rfl hdg kk
theorem kc_X4_isInput_RX2 {cc : ByteArray} {pc nL : Nat} {c0 : Cond} {rest : List Value} {l0 : Nat} {u w1 : CSt} {r : Int32} (X : CC p s m args c cc nL c0 RX2 D kA V A) (h_l0 : l0 < 338) (hS : CS D kA Z A s u H locs) (h : F_X4_isInput N l0 u = some (r, w1)) (hF : 0 + 1 ≤ R.frames) (hL : 8 + (1 + 11) + 0 ≤ R.locals) (hl : ls.size = nL) (hc : (rest.map fun v => v.category).sum ≤ 8) (hdg : decode cc pc = .ok (.invokevirtual 46, 3)) (kk : ∀ H locs, CS D kA Z A s w1 H locs → W p l e R s m args below meth c H locs 0 0 Q (F0 m (pc + 3) ls (.int r :: rest))) : W p l e R s m args below meth c H locs 0 0 Q (F0 m pc ls (.ref (Z (1000 + l0)) :: rest)) :=
  ccall_i (n := 0) X hS (k_X4_isInput l D kA V Z N l0 h_l0 u H.size h) (gw_V gw_1446 gw_1229 gw_1230 gw_11 gw_1231) (by decide +kernel) (va_recv X.2.1 hS.1 (ci := 4) (q0 := 90 + l0) rfl (cw_name h_l0)) hF hL rfl hl hc rfl hdg kk
def B_X7_become_0 (N : Nat) (l0 : Nat) (l1 : Int32) (l2 : Int32) (l3 : Int32) (u : CSt) : Option (Int32 × CSt) := pc (xtI u l0 0 l1) fun u_1 => pc (xtI u_1 l0 1 l2) fun u_2 => pc (xtI u_2 l0 2 l3) fun u_3 => pc (xtI u_3 l0 3 0) fun u_4 => pc (xtI u_4 l0 4 0) fun u_5 => pc (xtI u_5 l0 5 0) fun u_6 => pc (xtI u_6 l0 6 0) fun u_7 => pc (xtI u_7 l0 7 0) fun u_8 => pc (xtI u_8 l0 8 0) fun u_9 => pc (xtI u_9 l0 9 0) fun u_10 => some (0, u_10)
set_option maxHeartbeats 4000000 in
theorem b_X7_become_0 {r : Int32} (X : CC p s m args c cX7_become 4 (Cond.code yX7_become cX7_become 4 none) RX7 D kA V A) (hE : CEv p l e R s m args below meth c cX7_become D kA Z A Q w) (hF : 0 ≤ R.frames) (hL : 0 ≤ R.locals) {l0 : Nat} {l1 : Int32} {l2 : Int32} {l3 : Int32} {u : CSt}  (h : B_X7_become_0 N l0 l1 l2 l3 u = some (r, w)) (h_l0 : l0 < 16) (hS : CS D kA Z A s u H locs) (hl : lv_has ls 4 [(0, .ref (Z (400 + l0))), (1, .int l1), (2, .int l2), (3, .int l3)]) : W p l e R s m args below meth c H locs 0 0 Q (F0 m 0 ls []) := by
  obtain ⟨⟨hx, hb, hml, hown, hts⟩, hK, hEV, hA⟩ := id X
  have hG : ∀ w ∈ GW, w.before args s = true := fun w h => hts w (List.mem_cons_of_mem _ h)
  unfold B_X7_become_0 at h
  refine lv_aload_n hx hb dX7_become_0 rfl (lv_at hl 0 rfl) ?_
  refine lv_iload_n hx hb dX7_become_1 rfl (lv_at hl 1 rfl) ?_
  obtain ⟨u_1, e_u_1, h⟩ := pc_of h
  refine cp_X7_7 X h_l0 hS e_u_1 dX7_become_2 (fun H locs hS => ?_)
  refine lv_aload_n hx hb dX7_become_5 rfl (lv_at hl 0 rfl) ?_
  refine lv_iload_n hx hb dX7_become_6 rfl (lv_at hl 2 rfl) ?_
  obtain ⟨u_2, e_u_2, h⟩ := pc_of h
  refine cp_X7_13 X h_l0 hS e_u_2 dX7_become_7 (fun H locs hS => ?_)
  refine lv_aload_n hx hb dX7_become_10 rfl (lv_at hl 0 rfl) ?_
  refine lv_iload_n hx hb dX7_become_11 rfl (lv_at hl 3 rfl) ?_
  obtain ⟨u_3, e_u_3, h⟩ := pc_of h
  refine cp_X7_16 X h_l0 hS e_u_3 dX7_become_12 (fun H locs hS => ?_)
  refine lv_aload_n hx hb dX7_become_15 rfl (lv_at hl 0 rfl) ?_
  refine lv_iconst (v := 0) hx hb dX7_become_16 (by decide) ?_
  obtain ⟨u_4, e_u_4, h⟩ := pc_of h
  refine cp_X7_19 X h_l0 hS e_u_4 (Or.inl rfl) dX7_become_17 (fun H locs hS => ?_)
  refine lv_aload_n hx hb dX7_become_20 rfl (lv_at hl 0 rfl) ?_
  refine lv_iconst (v := 0) hx hb dX7_become_21 (by decide) ?_
  obtain ⟨u_5, e_u_5, h⟩ := pc_of h
  refine cp_X7_23 X h_l0 hS e_u_5 dX7_become_22 (fun H locs hS => ?_)
  refine lv_aload_n hx hb dX7_become_25 rfl (lv_at hl 0 rfl) ?_
  refine lv_iconst (v := 0) hx hb dX7_become_26 (by decide) ?_
  obtain ⟨u_6, e_u_6, h⟩ := pc_of h
  refine cp_X7_26 X h_l0 hS e_u_6 dX7_become_27 (fun H locs hS => ?_)
  refine lv_aload_n hx hb dX7_become_30 rfl (lv_at hl 0 rfl) ?_
  refine lv_iconst (v := 0) hx hb dX7_become_31 (by decide) ?_
  obtain ⟨u_7, e_u_7, h⟩ := pc_of h
  refine cp_X7_29 X h_l0 hS e_u_7 dX7_become_32 (fun H locs hS => ?_)
  refine lv_aload_n hx hb dX7_become_35 rfl (lv_at hl 0 rfl) ?_
  refine lv_iconst (v := 0) hx hb dX7_become_36 (by decide) ?_
  obtain ⟨u_8, e_u_8, h⟩ := pc_of h
  refine cp_X7_32 X h_l0 hS e_u_8 dX7_become_37 (fun H locs hS => ?_)
  refine lv_aload_n hx hb dX7_become_40 rfl (lv_at hl 0 rfl) ?_
  refine lv_iconst (v := 0) hx hb dX7_become_41 (by decide) ?_
  obtain ⟨u_9, e_u_9, h⟩ := pc_of h
  refine cp_X7_35 X h_l0 hS e_u_9 dX7_become_42 (fun H locs hS => ?_)
  refine lv_aload_n hx hb dX7_become_45 rfl (lv_at hl 0 rfl) ?_
  refine lv_iconst (v := 0) hx hb dX7_become_46 (by decide) ?_
  obtain ⟨u_10, e_u_10, h⟩ := pc_of h
  refine cp_X7_38 X h_l0 hS e_u_10 dX7_become_47 (fun H locs hS => ?_)
  obtain ⟨-, rfl⟩ := so9 h
  exact hE _ _ _ _ hS dX7_become_50
def F_X7_become (N : Nat) (l0 : Nat) (l1 : Int32) (l2 : Int32) (l3 : Int32) (u : CSt) : Option (Int32 × CSt) := B_X7_become_0 N l0 l1 l2 l3 u
set_option maxHeartbeats 4000000 in
theorem k_X7_become (l : Launch) (D : va_G) (kA : Nat → ClassId) (V Z : Nat → Nat) (N : Nat) (l0 : Nat) (l1 : Int32) (l2 : Int32) (l3 : Int32) (h_l0 : l0 < 16) (u : CSt) (sz : Nat) {r : Int32} {w : CSt} (h : F_X7_become N l0 l1 l2 l3 u = some (r, w)) : Met l yX7_become (Cond.code yX7_become cX7_become 4 none :: GW) { frames := 0, cells := 0, slots := 0, locals := 0 } (cPc D kA V Z [.ref (Z (400 + l0)), .int l1, .int l2, .int l3] u sz) (cQv D kA Z u sz w) 0 0 (va_A (CW kA Z u) sz) := by
  refine Met.ofW (cc := cX7_become) (maxL := 4) (ret := none) (by decide) rfl ?_
  intro p e s m args below meth c s₁ Bd hml hv
  obtain ⟨rfl, hsz, hP, hK, hD0, hE⟩ := hv
  have hts := atoms_spec (ws := Cond.code yX7_become cX7_become 4 none :: GW) Bd.pre
  have hl := lv_entry ([.ref (Z (400 + l0)), .int l1, .int l2, .int l3]) (n := 4) (Nat.le_of_ble_eq_true rfl)
  rw [lg_entry_eq]
  generalize (lg_sl ([.ref (Z (400 + l0)), .int l1, .int l2, .int l3]) ++ List.replicate (4 - (lg_sl ([.ref (Z (400 + l0)), .int l1, .int l2, .int l3])).length) Slot.unset).toArray = ls at hl ⊢
  have hl : lv_has ls 4 [(0, .ref (Z (400 + l0))), (1, .int l1), (2, .int l2), (3, .int l3)] := hl
  subst hsz
  have X : CC p s m ([.ref (Z (400 + l0)), .int l1, .int l2, .int l3]).toArray c cX7_become 4 (Cond.code yX7_become cX7_become 4 none) RX7 D kA V (va_A (CW kA Z u) s.heap.size) := ⟨⟨Bd.exec, Bd.bytes, hml, findClass_of_methodNamed Bd.named, hts⟩, hK, hE, fun q h => Or.inr h⟩
  refine b_X7_become_0 X (cend_v X Bd.returns Bd.notSynchronized) (Nat.le_refl _) (Nat.le_refl _) h h_l0 ⟨hP, hD0.self, va_S.rf⟩ (lv_sub hl [0, 1, 2, 3] rfl)
theorem kc_X7_become_RX3 {cc : ByteArray} {pc nL : Nat} {c0 : Cond} {rest : List Value} {l0 : Nat} {l1 : Int32} {l2 : Int32} {l3 : Int32} {u w1 : CSt} {r : Int32} (X : CC p s m args c cc nL c0 RX3 D kA V A) (h_l0 : l0 < 16) (hS : CS D kA Z A s u H locs) (h : F_X7_become N l0 l1 l2 l3 u = some (r, w1)) (hF : 0 + 1 ≤ R.frames) (hL : 8 + (4 + 11) + 0 ≤ R.locals) (hl : ls.size = nL) (hc : (rest.map fun v => v.category).sum ≤ 8) (hdg : decode cc pc = .ok (.invokevirtual 252, 3)) (kk : ∀ H locs, CS D kA Z A s w1 H locs → W p l e R s m args below meth c H locs 0 0 Q (F0 m (pc + 3) ls (rest))) : W p l e R s m args below meth c H locs 0 0 Q (F0 m pc ls (.int l3 :: .int l2 :: .int l1 :: .ref (Z (400 + l0)) :: rest)) :=
  ccall_v (n := 3) X hS (k_X7_become l D kA V Z N l0 l1 l2 l3 h_l0 u H.size h) (gw_V gw_1368 gw_1369 gw_1370 gw_12 gw_1371) (by decide +kernel) (va_recv X.2.1 hS.1 (ci := 6) (q0 := 74 + l0) rfl (cw_task h_l0)) hF hL rfl hl hc rfl hdg kk
def B_X10_forget_0 (N : Nat) (u : CSt) : Option (Int32 × CSt) := pc (xI u 9 0) fun u_1 => pc (xI u_1 10 0) fun u_2 => pc (xI u_2 11 0) fun u_3 => some (0, u_3)
set_option maxHeartbeats 4000000 in
theorem b_X10_forget_0 {r : Int32} (X : CC p s m args c cX10_forget 1 (Cond.code yX10_forget cX10_forget 1 none) RX10 D kA V A) (hE : CEv p l e R s m args below meth c cX10_forget D kA Z A Q w) (hF : 0 ≤ R.frames) (hL : 0 ≤ R.locals) {u : CSt}  (h : B_X10_forget_0 N u = some (r, w))  (hS : CS D kA Z A s u H locs) (hl : lv_has ls 1 [(0, .ref (Z 219))]) : W p l e R s m args below meth c H locs 0 0 Q (F0 m 0 ls []) := by
  obtain ⟨⟨hx, hb, hml, hown, hts⟩, hK, hEV, hA⟩ := id X
  have hG : ∀ w ∈ GW, w.before args s = true := fun w h => hts w (List.mem_cons_of_mem _ h)
  unfold B_X10_forget_0 at h
  refine lv_aload_n hx hb dX10_forget_0 rfl (lv_at hl 0 rfl) ?_
  refine lv_iconst (v := 0) hx hb dX10_forget_1 (by decide) ?_
  obtain ⟨u_1, e_u_1, h⟩ := pc_of h
  refine cp_X10_34 X hS e_u_1 dX10_forget_2 (fun H locs hS => ?_)
  refine lv_aload_n hx hb dX10_forget_5 rfl (lv_at hl 0 rfl) ?_
  refine lv_iconst (v := 0) hx hb dX10_forget_6 (by decide) ?_
  obtain ⟨u_2, e_u_2, h⟩ := pc_of h
  refine cp_X10_38 X hS e_u_2 dX10_forget_7 (fun H locs hS => ?_)
  refine lv_aload_n hx hb dX10_forget_10 rfl (lv_at hl 0 rfl) ?_
  refine lv_iconst (v := 0) hx hb dX10_forget_11 (by decide) ?_
  obtain ⟨u_3, e_u_3, h⟩ := pc_of h
  refine cp_X10_41 X hS e_u_3 dX10_forget_12 (fun H locs hS => ?_)
  obtain ⟨-, rfl⟩ := so9 h
  exact hE _ _ _ _ hS dX10_forget_15
def F_X10_forget (N : Nat) (u : CSt) : Option (Int32 × CSt) := B_X10_forget_0 N u
set_option maxHeartbeats 4000000 in
theorem k_X10_forget (l : Launch) (D : va_G) (kA : Nat → ClassId) (V Z : Nat → Nat) (N : Nat) (u : CSt) (sz : Nat) {r : Int32} {w : CSt} (h : F_X10_forget N u = some (r, w)) : Met l yX10_forget (Cond.code yX10_forget cX10_forget 1 none :: GW) { frames := 0, cells := 0, slots := 0, locals := 0 } (cPc D kA V Z [.ref (Z 219)] u sz) (cQv D kA Z u sz w) 0 0 (va_A (CW kA Z u) sz) := by
  refine Met.ofW (cc := cX10_forget) (maxL := 1) (ret := none) (by decide) rfl ?_
  intro p e s m args below meth c s₁ Bd hml hv
  obtain ⟨rfl, hsz, hP, hK, hD0, hE⟩ := hv
  have hts := atoms_spec (ws := Cond.code yX10_forget cX10_forget 1 none :: GW) Bd.pre
  have hl := lv_entry ([.ref (Z 219)]) (n := 1) (Nat.le_of_ble_eq_true rfl)
  rw [lg_entry_eq]
  generalize (lg_sl ([.ref (Z 219)]) ++ List.replicate (1 - (lg_sl ([.ref (Z 219)])).length) Slot.unset).toArray = ls at hl ⊢
  have hl : lv_has ls 1 [(0, .ref (Z 219))] := hl
  subst hsz
  have X : CC p s m ([.ref (Z 219)]).toArray c cX10_forget 1 (Cond.code yX10_forget cX10_forget 1 none) RX10 D kA V (va_A (CW kA Z u) s.heap.size) := ⟨⟨Bd.exec, Bd.bytes, hml, findClass_of_methodNamed Bd.named, hts⟩, hK, hE, fun q h => Or.inr h⟩
  refine b_X10_forget_0 X (cend_v X Bd.returns Bd.notSynchronized) (Nat.le_refl _) (Nat.le_refl _) h  ⟨hP, hD0.self, va_S.rf⟩ (lv_sub hl [0] rfl)
theorem kc_X10_forget_RX11 {cc : ByteArray} {pc nL : Nat} {c0 : Cond} {rest : List Value} {u w1 : CSt} {r : Int32} (X : CC p s m args c cc nL c0 RX11 D kA V A)  (hS : CS D kA Z A s u H locs) (h : F_X10_forget N u = some (r, w1)) (hF : 0 + 1 ≤ R.frames) (hL : 8 + (1 + 11) + 0 ≤ R.locals) (hl : ls.size = nL) (hc : (rest.map fun v => v.category).sum ≤ 8) (hdg : decode cc pc = .ok (.invokevirtual 363, 3)) (kk : ∀ H locs, CS D kA Z A s w1 H locs → W p l e R s m args below meth c H locs 0 0 Q (F0 m (pc + 3) ls (rest))) : W p l e R s m args below meth c H locs 0 0 Q (F0 m pc ls (.ref (Z 219) :: rest)) :=
  ccall_v (n := 0) X hS (k_X10_forget l D kA V Z N   u H.size h) (gw_V gw_1416 gw_1417 gw_1418 gw_9 gw_1419) (by decide +kernel) (va_recv X.2.1 hS.1 (ci := 9) (q0 := 19) rfl (cw_lit rfl)) hF hL rfl hl hc rfl hdg kk
def B_X10_indexOf_32 (N : Nat) (R_2 : Int32 × Int32 × Int32 × CSt → Option (Int32 × CSt)) (l1 : Int32) (l2 : Int32) (l3 : Int32) (u : CSt) : Option (Int32 × CSt) := R_2 (l1, l2, (l3 + 1), u)
set_option maxHeartbeats 4000000 in
theorem b_X10_indexOf_32 {r : Int32} (X : CC p s m args c cX10_indexOf 4 (Cond.code yX10_indexOf cX10_indexOf 4 (some .int)) RX10 D kA V A) (hE : CEi p l e R s m args below meth c cX10_indexOf D kA Z A Q r w) (hF : 0 ≤ R.frames) (hL : 0 ≤ R.locals) {R_2 : Int32 × Int32 × Int32 × CSt → Option (Int32 × CSt)} {l1 : Int32} {l2 : Int32} {l3 : Int32} {u : CSt} (hR_2 : ∀ (l1 : Int32) (l2 : Int32) (l3 : Int32) (u : CSt), R_2 (l1, l2, l3, u) = some (r, w) → ∀ (H : Heap) (locs : List Loc) (ls : Array Slot), CS D kA Z A s u H locs → lv_has ls 4 [(0, .ref (Z 219)), (1, .int l1), (2, .int l2), (3, .int l3)] → W p l e R s m args below meth c H locs 0 0 Q (F0 m 2 ls [])) (h : B_X10_indexOf_32 N R_2 l1 l2 l3 u = some (r, w))  (hS : CS D kA Z A s u H locs) (hl : lv_has ls 4 [(0, .ref (Z 219)), (1, .int l1), (2, .int l2), (3, .int l3)]) : W p l e R s m args below meth c H locs 0 0 Q (F0 m 32 ls []) := by
  obtain ⟨⟨hx, hb, hml, hown, hts⟩, hK, hEV, hA⟩ := id X
  have hG : ∀ w ∈ GW, w.before args s = true := fun w h => hts w (List.mem_cons_of_mem _ h)
  unfold B_X10_indexOf_32 at h
  refine lv_iinc (v := l3 + 1) (lv' := [(3, .int (l3 + 1)), (0, .ref (Z 219)), (1, .int l1), (2, .int l2)]) hx hb dX10_indexOf_32 hl (k := 3) rfl rfl (by decide) rfl (fun ls hl => ?_)
  refine lv_goto (tgt := 2) hx hb dX10_indexOf_35 (by decide) ?_
  exact hR_2 _ _ _ _  h _ _ _ hS (lv_sub hl [1, 2, 3, 0] rfl)
def B_X10_indexOf_2 (N : Nat) (R_2 : Int32 × Int32 × Int32 × CSt → Option (Int32 × CSt)) (l1 : Int32) (l2 : Int32) (l3 : Int32) (u : CSt) : Option (Int32 × CSt) := if (cI u 9) ≤ l3 then (some ((-1), u)) else (rd (cA u 220) 16 l3 fun v_3 => if v_3 = l1 then (rd (cA u 221) 16 l3 fun v_6 => if v_6 = l2 then (some (l3, u)) else (B_X10_indexOf_32 N R_2 l1 l2 l3 u)) else (B_X10_indexOf_32 N R_2 l1 l2 l3 u))
set_option maxHeartbeats 4000000 in
theorem b_X10_indexOf_2 {r : Int32} (X : CC p s m args c cX10_indexOf 4 (Cond.code yX10_indexOf cX10_indexOf 4 (some .int)) RX10 D kA V A) (hE : CEi p l e R s m args below meth c cX10_indexOf D kA Z A Q r w) (hF : 0 ≤ R.frames) (hL : 0 ≤ R.locals) {R_2 : Int32 × Int32 × Int32 × CSt → Option (Int32 × CSt)} {l1 : Int32} {l2 : Int32} {l3 : Int32} {u : CSt} (hR_2 : ∀ (l1 : Int32) (l2 : Int32) (l3 : Int32) (u : CSt), R_2 (l1, l2, l3, u) = some (r, w) → ∀ (H : Heap) (locs : List Loc) (ls : Array Slot), CS D kA Z A s u H locs → lv_has ls 4 [(0, .ref (Z 219)), (1, .int l1), (2, .int l2), (3, .int l3)] → W p l e R s m args below meth c H locs 0 0 Q (F0 m 2 ls [])) (h : B_X10_indexOf_2 N R_2 l1 l2 l3 u = some (r, w))  (hS : CS D kA Z A s u H locs) (hl : lv_has ls 4 [(0, .ref (Z 219)), (1, .int l1), (2, .int l2), (3, .int l3)]) : W p l e R s m args below meth c H locs 0 0 Q (F0 m 2 ls []) := by
  obtain ⟨⟨hx, hb, hml, hown, hts⟩, hK, hEV, hA⟩ := id X
  have hG : ∀ w ∈ GW, w.before args s = true := fun w h => hts w (List.mem_cons_of_mem _ h)
  unfold B_X10_indexOf_2 at h
  refine lv_iload_n hx hb dX10_indexOf_2 rfl (lv_at hl 3 rfl) ?_
  refine lv_aload_n hx hb dX10_indexOf_3 rfl (lv_at hl 0 rfl) ?_
  refine cg_X10_34 X hS dX10_indexOf_4 ?_
  refine lv_icmp_ge (tgt := 38) hx hb dX10_indexOf_7 (by decide) (fun c_1 => ?_) (fun c_1 => ?_)
  · have h := ip (c_1) h
    refine lv_iconst (v := (-1)) hx hb dX10_indexOf_38 (by decide) ?_
    obtain ⟨rfl, rfl⟩ := so9 h
    exact hE _ _ _ _ hS dX10_indexOf_39
  · have h := im (c_1) h
    refine lv_aload_n hx hb dX10_indexOf_10 rfl (lv_at hl 0 rfl) ?_
    refine cg_X10_9 X hS dX10_indexOf_11 ?_
    refine lv_iload_n hx hb dX10_indexOf_14 rfl (lv_at hl 3 rfl) ?_
    obtain ⟨v_3, e_v_3, i_2, h⟩ := rd_of h
    refine ca_s220 X hS i_2 e_v_3 dX10_indexOf_15 ?_
    refine lv_iload_n hx hb dX10_indexOf_16 rfl (lv_at hl 1 rfl) ?_
    refine lv_icmp_ne (tgt := 32) hx hb dX10_indexOf_17 (by decide) (fun c_4 => ?_) (fun c_4 => ?_)
    · have h := im (c_4) h
      exact b_X10_indexOf_32 X hE  hF hL hR_2 h  hS (lv_sub hl [0, 1, 2, 3] rfl)
    · have h := ip (c_4) h
      refine lv_aload_n hx hb dX10_indexOf_20 rfl (lv_at hl 0 rfl) ?_
      refine cg_X10_15 X hS dX10_indexOf_21 ?_
      refine lv_iload_n hx hb dX10_indexOf_24 rfl (lv_at hl 3 rfl) ?_
      obtain ⟨v_6, e_v_6, i_5, h⟩ := rd_of h
      refine ca_s221 X hS i_5 e_v_6 dX10_indexOf_25 ?_
      refine lv_iload_n hx hb dX10_indexOf_26 rfl (lv_at hl 2 rfl) ?_
      refine lv_icmp_ne (tgt := 32) hx hb dX10_indexOf_27 (by decide) (fun c_7 => ?_) (fun c_7 => ?_)
      · have h := im (c_7) h
        exact b_X10_indexOf_32 X hE  hF hL hR_2 h  hS (lv_sub hl [0, 1, 2, 3] rfl)
      · have h := ip (c_7) h
        refine lv_iload_n hx hb dX10_indexOf_30 rfl (lv_at hl 3 rfl) ?_
        obtain ⟨rfl, rfl⟩ := so9 h
        exact hE _ _ _ _ hS dX10_indexOf_31
def LP_X10_indexOf_2 (N : Nat) : Nat → Int32 × Int32 × Int32 × CSt → Option (Int32 × CSt) := lp (fun R a => B_X10_indexOf_2 N R a.1 a.2.1 a.2.2.1 a.2.2.2)
theorem bl_X10_indexOf_2 {r : Int32} (X : CC p s m args c cX10_indexOf 4 (Cond.code yX10_indexOf cX10_indexOf 4 (some .int)) RX10 D kA V A) (hE : CEi p l e R s m args below meth c cX10_indexOf D kA Z A Q r w) (hF : 0 ≤ R.frames) (hL : 0 ≤ R.locals)  : ∀ (n : Nat) (l1 : Int32) (l2 : Int32) (l3 : Int32) (u : CSt), LP_X10_indexOf_2 N n (l1, l2, l3, u) = some (r, w) → ∀ (H : Heap) (locs : List Loc) (ls : Array Slot), CS D kA Z A s u H locs → lv_has ls 4 [(0, .ref (Z 219)), (1, .int l1), (2, .int l2), (3, .int l3)] → W p l e R s m args below meth c H locs 0 0 Q (F0 m 2 ls []) := by
  intro n
  induction n with
  | zero => intro l1 l2 l3 u h; exact nomatch h
  | succ n ih => intro l1 l2 l3 u h H locs ls hS hl; exact b_X10_indexOf_2 (N := N) (R_2 := LP_X10_indexOf_2 N n) X hE  hF hL  ih h  hS hl
def B_X10_indexOf_0 (N : Nat) (l1 : Int32) (l2 : Int32) (u : CSt) : Option (Int32 × CSt) := LP_X10_indexOf_2 N N (l1, l2, 0, u)
set_option maxHeartbeats 4000000 in
theorem b_X10_indexOf_0 {r : Int32} (X : CC p s m args c cX10_indexOf 4 (Cond.code yX10_indexOf cX10_indexOf 4 (some .int)) RX10 D kA V A) (hE : CEi p l e R s m args below meth c cX10_indexOf D kA Z A Q r w) (hF : 0 ≤ R.frames) (hL : 0 ≤ R.locals) {l1 : Int32} {l2 : Int32} {u : CSt}  (h : B_X10_indexOf_0 N l1 l2 u = some (r, w))  (hS : CS D kA Z A s u H locs) (hl : lv_has ls 4 [(0, .ref (Z 219)), (1, .int l1), (2, .int l2)]) : W p l e R s m args below meth c H locs 0 0 Q (F0 m 0 ls []) := by
  obtain ⟨⟨hx, hb, hml, hown, hts⟩, hK, hEV, hA⟩ := id X
  have hG : ∀ w ∈ GW, w.before args s = true := fun w h => hts w (List.mem_cons_of_mem _ h)
  unfold B_X10_indexOf_0 at h
  refine lv_iconst (v := 0) hx hb dX10_indexOf_0 (by decide) ?_
  refine lv_istore_n (lv' := [(3, .int 0), (0, .ref (Z 219)), (1, .int l1), (2, .int l2)]) hx hb dX10_indexOf_1 rfl hl (by decide) rfl (fun ls hl => ?_)
  exact bl_X10_indexOf_2 X hE  hF hL  _ _ _ _ _  h _ _ _ hS (lv_sub hl [1, 2, 3, 0] rfl)
def F_X10_indexOf (N : Nat) (l1 : Int32) (l2 : Int32) (u : CSt) : Option (Int32 × CSt) := B_X10_indexOf_0 N l1 l2 u
set_option maxHeartbeats 4000000 in
theorem k_X10_indexOf (l : Launch) (D : va_G) (kA : Nat → ClassId) (V Z : Nat → Nat) (N : Nat) (l1 : Int32) (l2 : Int32) (u : CSt) (sz : Nat) {r : Int32} {w : CSt} (h : F_X10_indexOf N l1 l2 u = some (r, w)) : Met l yX10_indexOf (Cond.code yX10_indexOf cX10_indexOf 4 (some .int) :: GW) { frames := 0, cells := 0, slots := 0, locals := 0 } (cPc D kA V Z [.ref (Z 219), .int l1, .int l2] u sz) (cQi D kA Z u sz r w) 0 0 (va_A (CW kA Z u) sz) := by
  refine Met.ofW (cc := cX10_indexOf) (maxL := 4) (ret := (some .int)) (by decide) rfl ?_
  intro p e s m args below meth c s₁ Bd hml hv
  obtain ⟨rfl, hsz, hP, hK, hD0, hE⟩ := hv
  have hts := atoms_spec (ws := Cond.code yX10_indexOf cX10_indexOf 4 (some .int) :: GW) Bd.pre
  have hl := lv_entry ([.ref (Z 219), .int l1, .int l2]) (n := 4) (Nat.le_of_ble_eq_true rfl)
  rw [lg_entry_eq]
  generalize (lg_sl ([.ref (Z 219), .int l1, .int l2]) ++ List.replicate (4 - (lg_sl ([.ref (Z 219), .int l1, .int l2])).length) Slot.unset).toArray = ls at hl ⊢
  have hl : lv_has ls 4 [(0, .ref (Z 219)), (1, .int l1), (2, .int l2)] := hl
  subst hsz
  have X : CC p s m ([.ref (Z 219), .int l1, .int l2]).toArray c cX10_indexOf 4 (Cond.code yX10_indexOf cX10_indexOf 4 (some .int)) RX10 D kA V (va_A (CW kA Z u) s.heap.size) := ⟨⟨Bd.exec, Bd.bytes, hml, findClass_of_methodNamed Bd.named, hts⟩, hK, hE, fun q h => Or.inr h⟩
  refine b_X10_indexOf_0 X (cend_i X Bd.returns Bd.notSynchronized) (Nat.le_refl _) (Nat.le_refl _) h  ⟨hP, hD0.self, va_S.rf⟩ (lv_sub hl [0, 1, 2] rfl)
theorem kc_X10_indexOf_RX11 {cc : ByteArray} {pc nL : Nat} {c0 : Cond} {rest : List Value} {l1 : Int32} {l2 : Int32} {u w1 : CSt} {r : Int32} (X : CC p s m args c cc nL c0 RX11 D kA V A)  (hS : CS D kA Z A s u H locs) (h : F_X10_indexOf N l1 l2 u = some (r, w1)) (hF : 0 + 1 ≤ R.frames) (hL : 8 + (4 + 11) + 0 ≤ R.locals) (hl : ls.size = nL) (hc : (rest.map fun v => v.category).sum ≤ 8) (hdg : decode cc pc = .ok (.invokevirtual 282, 3)) (kk : ∀ H locs, CS D kA Z A s w1 H locs → W p l e R s m args below meth c H locs 0 0 Q (F0 m (pc + 3) ls (.int r :: rest))) : W p l e R s m args below meth c H locs 0 0 Q (F0 m pc ls (.int l2 :: .int l1 :: .ref (Z 219) :: rest)) :=
  ccall_i (n := 2) X hS (k_X10_indexOf l D kA V Z N l1 l2  u H.size h) (gw_V gw_1791 gw_1792 gw_1793 gw_9 gw_1794) (by decide +kernel) (va_recv X.2.1 hS.1 (ci := 9) (q0 := 19) rfl (cw_lit rfl)) hF hL rfl hl hc rfl hdg kk
def B_X10_begin_0 (N : Nat) (l1 : Int32) (l2 : Int32) (l3 : Int64) (u : CSt) : Option (Int32 × CSt) := if (16 : Int32) ≤ (cI u 9) then (some (0, u)) else (wc 16 (cI u 9) (xA u 220 (cI u 9).toNatClampNeg l1) fun u_3 => wc 16 (cI u_3 9) (xA u_3 221 (cI u_3 9).toNatClampNeg l2) fun u_5 => wc 16 (cI u_5 9) (xB u_5 222 (cI u_5 9).toNatClampNeg l3) fun u_7 => pc (xI u_7 9 ((cI u_7 9) + 1)) fun u_8 => some (0, u_8))
set_option maxHeartbeats 4000000 in
theorem b_X10_begin_0 {r : Int32} (X : CC p s m args c cX10_begin 5 (Cond.code yX10_begin cX10_begin 5 none) RX10 D kA V A) (hE : CEv p l e R s m args below meth c cX10_begin D kA Z A Q w) (hF : 0 ≤ R.frames) (hL : 0 ≤ R.locals) {l1 : Int32} {l2 : Int32} {l3 : Int64} {u : CSt}  (h : B_X10_begin_0 N l1 l2 l3 u = some (r, w))  (hS : CS D kA Z A s u H locs) (hl : lv_has ls 5 [(0, .ref (Z 219)), (1, .int l1), (2, .int l2), (3, .long l3)]) : W p l e R s m args below meth c H locs 0 0 Q (F0 m 0 ls []) := by
  obtain ⟨⟨hx, hb, hml, hown, hts⟩, hK, hEV, hA⟩ := id X
  have hG : ∀ w ∈ GW, w.before args s = true := fun w h => hts w (List.mem_cons_of_mem _ h)
  unfold B_X10_begin_0 at h
  refine lv_aload_n hx hb dX10_begin_0 rfl (lv_at hl 0 rfl) ?_
  refine cg_X10_34 X hS dX10_begin_1 ?_
  refine lv_bipush (v := 16) hx hb dX10_begin_4 (by decide) ?_
  refine lv_icmp_ge (tgt := 49) hx hb dX10_begin_6 (by decide) (fun c_1 => ?_) (fun c_1 => ?_)
  · have h := ip (c_1) h
    obtain ⟨-, rfl⟩ := so9 h
    exact hE _ _ _ _ hS dX10_begin_49
  · have h := im (c_1) h
    refine lv_aload_n hx hb dX10_begin_9 rfl (lv_at hl 0 rfl) ?_
    refine cg_X10_9 X hS dX10_begin_10 ?_
    refine lv_aload_n hx hb dX10_begin_13 rfl (lv_at hl 0 rfl) ?_
    refine cg_X10_34 X hS dX10_begin_14 ?_
    refine lv_iload_n hx hb dX10_begin_17 rfl (lv_at hl 1 rfl) ?_
    obtain ⟨u_3, e_u_3, i_2, h⟩ := wc_of h
    refine cs_s220 X hS i_2 e_u_3 dX10_begin_18 (fun H locs hS => ?_)
    refine lv_aload_n hx hb dX10_begin_19 rfl (lv_at hl 0 rfl) ?_
    refine cg_X10_15 X hS dX10_begin_20 ?_
    refine lv_aload_n hx hb dX10_begin_23 rfl (lv_at hl 0 rfl) ?_
    refine cg_X10_34 X hS dX10_begin_24 ?_
    refine lv_iload_n hx hb dX10_begin_27 rfl (lv_at hl 2 rfl) ?_
    obtain ⟨u_5, e_u_5, i_4, h⟩ := wc_of h
    refine cs_s221 X hS i_4 e_u_5 dX10_begin_28 (fun H locs hS => ?_)
    refine lv_aload_n hx hb dX10_begin_29 rfl (lv_at hl 0 rfl) ?_
    refine cg_X10_18 X hS dX10_begin_30 ?_
    refine lv_aload_n hx hb dX10_begin_33 rfl (lv_at hl 0 rfl) ?_
    refine cg_X10_34 X hS dX10_begin_34 ?_
    refine lv_lload_n hx hb dX10_begin_37 rfl (lv_at hl 3 rfl) ?_
    obtain ⟨u_7, e_u_7, i_6, h⟩ := wc_of h
    refine cs_s222 X hS i_6 e_u_7 dX10_begin_38 (fun H locs hS => ?_)
    refine lv_aload_n hx hb dX10_begin_39 rfl (lv_at hl 0 rfl) ?_
    refine lv_dup hx hb dX10_begin_40 rfl ?_
    refine cg_X10_34 X hS dX10_begin_41 ?_
    refine lv_iconst (v := 1) hx hb dX10_begin_44 (by decide) ?_
    refine lv_iadd hx hb dX10_begin_45 ?_
    obtain ⟨u_8, e_u_8, h⟩ := pc_of h
    refine cp_X10_34 X hS e_u_8 dX10_begin_46 (fun H locs hS => ?_)
    obtain ⟨-, rfl⟩ := so9 h
    exact hE _ _ _ _ hS dX10_begin_49
def F_X10_begin (N : Nat) (l1 : Int32) (l2 : Int32) (l3 : Int64) (u : CSt) : Option (Int32 × CSt) := B_X10_begin_0 N l1 l2 l3 u
set_option maxHeartbeats 4000000 in
theorem k_X10_begin (l : Launch) (D : va_G) (kA : Nat → ClassId) (V Z : Nat → Nat) (N : Nat) (l1 : Int32) (l2 : Int32) (l3 : Int64) (u : CSt) (sz : Nat) {r : Int32} {w : CSt} (h : F_X10_begin N l1 l2 l3 u = some (r, w)) : Met l yX10_begin (Cond.code yX10_begin cX10_begin 5 none :: GW) { frames := 0, cells := 0, slots := 0, locals := 0 } (cPc D kA V Z [.ref (Z 219), .int l1, .int l2, .long l3] u sz) (cQv D kA Z u sz w) 0 0 (va_A (CW kA Z u) sz) := by
  refine Met.ofW (cc := cX10_begin) (maxL := 5) (ret := none) (by decide) rfl ?_
  intro p e s m args below meth c s₁ Bd hml hv
  obtain ⟨rfl, hsz, hP, hK, hD0, hE⟩ := hv
  have hts := atoms_spec (ws := Cond.code yX10_begin cX10_begin 5 none :: GW) Bd.pre
  have hl := lv_entry ([.ref (Z 219), .int l1, .int l2, .long l3]) (n := 5) (Nat.le_of_ble_eq_true rfl)
  rw [lg_entry_eq]
  generalize (lg_sl ([.ref (Z 219), .int l1, .int l2, .long l3]) ++ List.replicate (5 - (lg_sl ([.ref (Z 219), .int l1, .int l2, .long l3])).length) Slot.unset).toArray = ls at hl ⊢
  have hl : lv_has ls 5 [(0, .ref (Z 219)), (1, .int l1), (2, .int l2), (3, .long l3)] := hl
  subst hsz
  have X : CC p s m ([.ref (Z 219), .int l1, .int l2, .long l3]).toArray c cX10_begin 5 (Cond.code yX10_begin cX10_begin 5 none) RX10 D kA V (va_A (CW kA Z u) s.heap.size) := ⟨⟨Bd.exec, Bd.bytes, hml, findClass_of_methodNamed Bd.named, hts⟩, hK, hE, fun q h => Or.inr h⟩
  refine b_X10_begin_0 X (cend_v X Bd.returns Bd.notSynchronized) (Nat.le_refl _) (Nat.le_refl _) h  ⟨hP, hD0.self, va_S.rf⟩ (lv_sub hl [0, 1, 2, 3] rfl)
theorem kc_X10_begin_RX11 {cc : ByteArray} {pc nL : Nat} {c0 : Cond} {rest : List Value} {l1 : Int32} {l2 : Int32} {l3 : Int64} {u w1 : CSt} {r : Int32} (X : CC p s m args c cc nL c0 RX11 D kA V A)  (hS : CS D kA Z A s u H locs) (h : F_X10_begin N l1 l2 l3 u = some (r, w1)) (hF : 0 + 1 ≤ R.frames) (hL : 8 + (5 + 11) + 0 ≤ R.locals) (hl : ls.size = nL) (hc : (rest.map fun v => v.category).sum ≤ 8) (hdg : decode cc pc = .ok (.invokevirtual 291, 3)) (kk : ∀ H locs, CS D kA Z A s w1 H locs → W p l e R s m args below meth c H locs 0 0 Q (F0 m (pc + 3) ls (rest))) : W p l e R s m args below meth c H locs 0 0 Q (F0 m pc ls (.long l3 :: .int l2 :: .int l1 :: .ref (Z 219) :: rest)) :=
  ccall_v (n := 3) X hS (k_X10_begin l D kA V Z N l1 l2 l3  u H.size h) (gw_V gw_1797 gw_1798 gw_1799 gw_9 gw_1800) (by decide +kernel) (va_recv X.2.1 hS.1 (ci := 9) (q0 := 19) rfl (cw_lit rfl)) hF hL rfl hl hc rfl hdg kk
def B_X10_leave_64 (N : Nat) (u : CSt) : Option (Int32 × CSt) := pc (xI u 9 ((cI u 9) - 1)) fun u_1 => some (0, u_1)
set_option maxHeartbeats 4000000 in
theorem b_X10_leave_64 {r : Int32} (X : CC p s m args c cX10_leave 3 (Cond.code yX10_leave cX10_leave 3 none) RX10 D kA V A) (hE : CEv p l e R s m args below meth c cX10_leave D kA Z A Q w) (hF : 0 ≤ R.frames) (hL : 0 ≤ R.locals) {u : CSt}  (h : B_X10_leave_64 N u = some (r, w))  (hS : CS D kA Z A s u H locs) (hl : lv_has ls 3 [(0, .ref (Z 219))]) : W p l e R s m args below meth c H locs 0 0 Q (F0 m 64 ls []) := by
  obtain ⟨⟨hx, hb, hml, hown, hts⟩, hK, hEV, hA⟩ := id X
  have hG : ∀ w ∈ GW, w.before args s = true := fun w h => hts w (List.mem_cons_of_mem _ h)
  unfold B_X10_leave_64 at h
  refine lv_aload_n hx hb dX10_leave_64 rfl (lv_at hl 0 rfl) ?_
  refine lv_dup hx hb dX10_leave_65 rfl ?_
  refine cg_X10_34 X hS dX10_leave_66 ?_
  refine lv_iconst (v := 1) hx hb dX10_leave_69 (by decide) ?_
  refine lv_isub hx hb dX10_leave_70 ?_
  obtain ⟨u_1, e_u_1, h⟩ := pc_of h
  refine cp_X10_34 X hS e_u_1 dX10_leave_71 (fun H locs hS => ?_)
  obtain ⟨-, rfl⟩ := so9 h
  exact hE _ _ _ _ hS dX10_leave_74
def B_X10_leave_2 (N : Nat) (R_2 : Int32 × CSt → Option (Int32 × CSt)) (l2 : Int32) (u : CSt) : Option (Int32 × CSt) := if l2 < (0 : Int32) then (B_X10_leave_64 N u) else (if (cI u 9) ≤ (l2 + 1) then (B_X10_leave_64 N u) else (rd (cA u 220) 16 (l2 + 1) fun v_5 => wc 16 l2 (xA u 220 l2.toNatClampNeg v_5) fun u_7 => rd (cA u_7 221) 16 (l2 + 1) fun v_9 => wc 16 l2 (xA u_7 221 l2.toNatClampNeg v_9) fun u_11 => rd (cB u_11 222) 16 (l2 + 1) fun v_13 => wc 16 l2 (xB u_11 222 l2.toNatClampNeg v_13) fun u_15 => R_2 ((l2 + 1), u_15)))
set_option maxHeartbeats 4000000 in
theorem b_X10_leave_2 {r : Int32} (X : CC p s m args c cX10_leave 3 (Cond.code yX10_leave cX10_leave 3 none) RX10 D kA V A) (hE : CEv p l e R s m args below meth c cX10_leave D kA Z A Q w) (hF : 0 ≤ R.frames) (hL : 0 ≤ R.locals) {R_2 : Int32 × CSt → Option (Int32 × CSt)} {l2 : Int32} {u : CSt} (hR_2 : ∀ (l2 : Int32) (u : CSt), R_2 (l2, u) = some (r, w) → ∀ (H : Heap) (locs : List Loc) (ls : Array Slot), CS D kA Z A s u H locs → lv_has ls 3 [(0, .ref (Z 219)), (2, .int l2)] → W p l e R s m args below meth c H locs 0 0 Q (F0 m 2 ls [])) (h : B_X10_leave_2 N R_2 l2 u = some (r, w))  (hS : CS D kA Z A s u H locs) (hl : lv_has ls 3 [(0, .ref (Z 219)), (2, .int l2)]) : W p l e R s m args below meth c H locs 0 0 Q (F0 m 2 ls []) := by
  obtain ⟨⟨hx, hb, hml, hown, hts⟩, hK, hEV, hA⟩ := id X
  have hG : ∀ w ∈ GW, w.before args s = true := fun w h => hts w (List.mem_cons_of_mem _ h)
  unfold B_X10_leave_2 at h
  refine lv_iload_n hx hb dX10_leave_2 rfl (lv_at hl 1 rfl) ?_
  refine lv_if_lt (tgt := 64) hx hb dX10_leave_3 (by decide) (fun c_2 => ?_) (fun c_2 => ?_)
  · have h := ip (c_2) h
    exact b_X10_leave_64 X hE  hF hL  h  hS (lv_sub hl [0] rfl)
  · have h := im (c_2) h
    refine lv_iload_n hx hb dX10_leave_6 rfl (lv_at hl 1 rfl) ?_
    refine lv_iconst (v := 1) hx hb dX10_leave_7 (by decide) ?_
    refine lv_iadd hx hb dX10_leave_8 ?_
    refine lv_aload_n hx hb dX10_leave_9 rfl (lv_at hl 0 rfl) ?_
    refine cg_X10_34 X hS dX10_leave_10 ?_
    refine lv_icmp_ge (tgt := 64) hx hb dX10_leave_13 (by decide) (fun c_3 => ?_) (fun c_3 => ?_)
    · have h := ip (c_3) h
      exact b_X10_leave_64 X hE  hF hL  h  hS (lv_sub hl [0] rfl)
    · have h := im (c_3) h
      refine lv_aload_n hx hb dX10_leave_16 rfl (lv_at hl 0 rfl) ?_
      refine cg_X10_9 X hS dX10_leave_17 ?_
      refine lv_iload_n hx hb dX10_leave_20 rfl (lv_at hl 1 rfl) ?_
      refine lv_aload_n hx hb dX10_leave_21 rfl (lv_at hl 0 rfl) ?_
      refine cg_X10_9 X hS dX10_leave_22 ?_
      refine lv_iload_n hx hb dX10_leave_25 rfl (lv_at hl 1 rfl) ?_
      refine lv_iconst (v := 1) hx hb dX10_leave_26 (by decide) ?_
      refine lv_iadd hx hb dX10_leave_27 ?_
      obtain ⟨v_5, e_v_5, i_4, h⟩ := rd_of h
      refine ca_s220 X hS i_4 e_v_5 dX10_leave_28 ?_
      obtain ⟨u_7, e_u_7, i_6, h⟩ := wc_of h
      refine cs_s220 X hS i_6 e_u_7 dX10_leave_29 (fun H locs hS => ?_)
      refine lv_aload_n hx hb dX10_leave_30 rfl (lv_at hl 0 rfl) ?_
      refine cg_X10_15 X hS dX10_leave_31 ?_
      refine lv_iload_n hx hb dX10_leave_34 rfl (lv_at hl 1 rfl) ?_
      refine lv_aload_n hx hb dX10_leave_35 rfl (lv_at hl 0 rfl) ?_
      refine cg_X10_15 X hS dX10_leave_36 ?_
      refine lv_iload_n hx hb dX10_leave_39 rfl (lv_at hl 1 rfl) ?_
      refine lv_iconst (v := 1) hx hb dX10_leave_40 (by decide) ?_
      refine lv_iadd hx hb dX10_leave_41 ?_
      obtain ⟨v_9, e_v_9, i_8, h⟩ := rd_of h
      refine ca_s221 X hS i_8 e_v_9 dX10_leave_42 ?_
      obtain ⟨u_11, e_u_11, i_10, h⟩ := wc_of h
      refine cs_s221 X hS i_10 e_u_11 dX10_leave_43 (fun H locs hS => ?_)
      refine lv_aload_n hx hb dX10_leave_44 rfl (lv_at hl 0 rfl) ?_
      refine cg_X10_18 X hS dX10_leave_45 ?_
      refine lv_iload_n hx hb dX10_leave_48 rfl (lv_at hl 1 rfl) ?_
      refine lv_aload_n hx hb dX10_leave_49 rfl (lv_at hl 0 rfl) ?_
      refine cg_X10_18 X hS dX10_leave_50 ?_
      refine lv_iload_n hx hb dX10_leave_53 rfl (lv_at hl 1 rfl) ?_
      refine lv_iconst (v := 1) hx hb dX10_leave_54 (by decide) ?_
      refine lv_iadd hx hb dX10_leave_55 ?_
      obtain ⟨v_13, e_v_13, i_12, h⟩ := rd_of h
      refine ca_s222 X hS i_12 e_v_13 dX10_leave_56 ?_
      obtain ⟨u_15, e_u_15, i_14, h⟩ := wc_of h
      refine cs_s222 X hS i_14 e_u_15 dX10_leave_57 (fun H locs hS => ?_)
      refine lv_iinc (v := l2 + 1) (lv' := [(2, .int (l2 + 1)), (0, .ref (Z 219))]) hx hb dX10_leave_58 hl (k := 1) rfl rfl (by decide) rfl (fun ls hl => ?_)
      refine lv_goto (tgt := 2) hx hb dX10_leave_61 (by decide) ?_
      exact hR_2 _ _  h _ _ _ hS (lv_sub hl [1, 0] rfl)
def LP_X10_leave_2 (N : Nat) : Nat → Int32 × CSt → Option (Int32 × CSt) := lp (fun R a => B_X10_leave_2 N R a.1 a.2)
theorem bl_X10_leave_2 {r : Int32} (X : CC p s m args c cX10_leave 3 (Cond.code yX10_leave cX10_leave 3 none) RX10 D kA V A) (hE : CEv p l e R s m args below meth c cX10_leave D kA Z A Q w) (hF : 0 ≤ R.frames) (hL : 0 ≤ R.locals)  : ∀ (n : Nat) (l2 : Int32) (u : CSt), LP_X10_leave_2 N n (l2, u) = some (r, w) → ∀ (H : Heap) (locs : List Loc) (ls : Array Slot), CS D kA Z A s u H locs → lv_has ls 3 [(0, .ref (Z 219)), (2, .int l2)] → W p l e R s m args below meth c H locs 0 0 Q (F0 m 2 ls []) := by
  intro n
  induction n with
  | zero => intro l2 u h; exact nomatch h
  | succ n ih => intro l2 u h H locs ls hS hl; exact b_X10_leave_2 (N := N) (R_2 := LP_X10_leave_2 N n) X hE  hF hL  ih h  hS hl
def B_X10_leave_0 (N : Nat) (l1 : Int32) (u : CSt) : Option (Int32 × CSt) := LP_X10_leave_2 N N (l1, u)
set_option maxHeartbeats 4000000 in
theorem b_X10_leave_0 {r : Int32} (X : CC p s m args c cX10_leave 3 (Cond.code yX10_leave cX10_leave 3 none) RX10 D kA V A) (hE : CEv p l e R s m args below meth c cX10_leave D kA Z A Q w) (hF : 0 ≤ R.frames) (hL : 0 ≤ R.locals) {l1 : Int32} {u : CSt}  (h : B_X10_leave_0 N l1 u = some (r, w))  (hS : CS D kA Z A s u H locs) (hl : lv_has ls 3 [(0, .ref (Z 219)), (1, .int l1)]) : W p l e R s m args below meth c H locs 0 0 Q (F0 m 0 ls []) := by
  obtain ⟨⟨hx, hb, hml, hown, hts⟩, hK, hEV, hA⟩ := id X
  have hG : ∀ w ∈ GW, w.before args s = true := fun w h => hts w (List.mem_cons_of_mem _ h)
  unfold B_X10_leave_0 at h
  refine lv_iload_n hx hb dX10_leave_0 rfl (lv_at hl 1 rfl) ?_
  refine lv_istore_n (lv' := [(2, .int l1), (0, .ref (Z 219)), (1, .int l1)]) hx hb dX10_leave_1 rfl hl (by decide) rfl (fun ls hl => ?_)
  exact bl_X10_leave_2 X hE  hF hL  _ _ _  h _ _ _ hS (lv_sub hl [1, 0] rfl)
def F_X10_leave (N : Nat) (l1 : Int32) (u : CSt) : Option (Int32 × CSt) := B_X10_leave_0 N l1 u
set_option maxHeartbeats 4000000 in
theorem k_X10_leave (l : Launch) (D : va_G) (kA : Nat → ClassId) (V Z : Nat → Nat) (N : Nat) (l1 : Int32) (u : CSt) (sz : Nat) {r : Int32} {w : CSt} (h : F_X10_leave N l1 u = some (r, w)) : Met l yX10_leave (Cond.code yX10_leave cX10_leave 3 none :: GW) { frames := 0, cells := 0, slots := 0, locals := 0 } (cPc D kA V Z [.ref (Z 219), .int l1] u sz) (cQv D kA Z u sz w) 0 0 (va_A (CW kA Z u) sz) := by
  refine Met.ofW (cc := cX10_leave) (maxL := 3) (ret := none) (by decide) rfl ?_
  intro p e s m args below meth c s₁ Bd hml hv
  obtain ⟨rfl, hsz, hP, hK, hD0, hE⟩ := hv
  have hts := atoms_spec (ws := Cond.code yX10_leave cX10_leave 3 none :: GW) Bd.pre
  have hl := lv_entry ([.ref (Z 219), .int l1]) (n := 3) (Nat.le_of_ble_eq_true rfl)
  rw [lg_entry_eq]
  generalize (lg_sl ([.ref (Z 219), .int l1]) ++ List.replicate (3 - (lg_sl ([.ref (Z 219), .int l1])).length) Slot.unset).toArray = ls at hl ⊢
  have hl : lv_has ls 3 [(0, .ref (Z 219)), (1, .int l1)] := hl
  subst hsz
  have X : CC p s m ([.ref (Z 219), .int l1]).toArray c cX10_leave 3 (Cond.code yX10_leave cX10_leave 3 none) RX10 D kA V (va_A (CW kA Z u) s.heap.size) := ⟨⟨Bd.exec, Bd.bytes, hml, findClass_of_methodNamed Bd.named, hts⟩, hK, hE, fun q h => Or.inr h⟩
  refine b_X10_leave_0 X (cend_v X Bd.returns Bd.notSynchronized) (Nat.le_refl _) (Nat.le_refl _) h  ⟨hP, hD0.self, va_S.rf⟩ (lv_sub hl [0, 1] rfl)
theorem kc_X10_leave_RX11 {cc : ByteArray} {pc nL : Nat} {c0 : Cond} {rest : List Value} {l1 : Int32} {u w1 : CSt} {r : Int32} (X : CC p s m args c cc nL c0 RX11 D kA V A)  (hS : CS D kA Z A s u H locs) (h : F_X10_leave N l1 u = some (r, w1)) (hF : 0 + 1 ≤ R.frames) (hL : 8 + (3 + 11) + 0 ≤ R.locals) (hl : ls.size = nL) (hc : (rest.map fun v => v.category).sum ≤ 8) (hdg : decode cc pc = .ok (.invokevirtual 294, 3)) (kk : ∀ H locs, CS D kA Z A s w1 H locs → W p l e R s m args below meth c H locs 0 0 Q (F0 m (pc + 3) ls (rest))) : W p l e R s m args below meth c H locs 0 0 Q (F0 m pc ls (.int l1 :: .ref (Z 219) :: rest)) :=
  ccall_v (n := 1) X hS (k_X10_leave l D kA V Z N l1  u H.size h) (gw_V gw_1801 gw_1802 gw_1803 gw_9 gw_1804) (by decide +kernel) (va_recv X.2.1 hS.1 (ci := 9) (q0 := 19) rfl (cw_lit rfl)) hF hL rfl hl hc rfl hdg kk
def B_X10_see_0 (N : Nat) (l1 : Int32) (l2 : Int32) (l3 : Int64) (u : CSt) : Option (Int32 × CSt) := rd (cB u 222) 16 l1 fun v_2 => if v_2 = l3 then (some (0, u)) else (wc 16 l1 (xB u 222 l1.toNatClampNeg l3) fun u_5 => wc 100 (cI u_5 11) (xA u_5 223 (cI u_5 11).toNatClampNeg l2) fun u_7 => rd (cA u_7 220) 16 l1 fun v_9 => wc 100 (cI u_7 11) (xA u_7 224 (cI u_7 11).toNatClampNeg v_9) fun u_11 => rd (cA u_11 221) 16 l1 fun v_13 => wc 100 (cI u_11 11) (xA u_11 225 (cI u_11 11).toNatClampNeg v_13) fun u_15 => wc 100 (cI u_15 11) (xB u_15 226 (cI u_15 11).toNatClampNeg l3) fun u_17 => pc (xI u_17 11 (((cI u_17 11) + 1) - ((cI u_17 11) + 1) / 100 * 100)) fun u_18 => if (100 : Int32) ≤ (cI u_18 10) then (pc (xI u_18 10 100) fun u_20 => some (0, u_20)) else (pc (xI u_18 10 ((cI u_18 10) + 1)) fun u_21 => some (0, u_21)))
set_option maxHeartbeats 4000000 in
theorem b_X10_see_0 {r : Int32} (X : CC p s m args c cX10_see 5 (Cond.code yX10_see cX10_see 5 none) RX10 D kA V A) (hE : CEv p l e R s m args below meth c cX10_see D kA Z A Q w) (hF : 0 ≤ R.frames) (hL : 0 ≤ R.locals) {l1 : Int32} {l2 : Int32} {l3 : Int64} {u : CSt}  (h : B_X10_see_0 N l1 l2 l3 u = some (r, w))  (hS : CS D kA Z A s u H locs) (hl : lv_has ls 5 [(0, .ref (Z 219)), (1, .int l1), (2, .int l2), (3, .long l3)]) : W p l e R s m args below meth c H locs 0 0 Q (F0 m 0 ls []) := by
  obtain ⟨⟨hx, hb, hml, hown, hts⟩, hK, hEV, hA⟩ := id X
  have hG : ∀ w ∈ GW, w.before args s = true := fun w h => hts w (List.mem_cons_of_mem _ h)
  unfold B_X10_see_0 at h
  refine lv_aload_n hx hb dX10_see_0 rfl (lv_at hl 0 rfl) ?_
  refine cg_X10_18 X hS dX10_see_1 ?_
  refine lv_iload_n hx hb dX10_see_4 rfl (lv_at hl 1 rfl) ?_
  obtain ⟨v_2, e_v_2, i_1, h⟩ := rd_of h
  refine ca_s222 X hS i_1 e_v_2 dX10_see_5 ?_
  refine lv_lload_n hx hb dX10_see_6 rfl (lv_at hl 3 rfl) ?_
  refine W.lcmp hx hb dX10_see_7 ?_
  refine lv_if_ne (tgt := 12) hx hb dX10_see_8 (by decide) (fun c_3 => ?_) (fun c_3 => ?_)
  · have h := im (mt (lg_cmp_eq _ _).mpr c_3) h
    refine lv_aload_n hx hb dX10_see_12 rfl (lv_at hl 0 rfl) ?_
    refine cg_X10_18 X hS dX10_see_13 ?_
    refine lv_iload_n hx hb dX10_see_16 rfl (lv_at hl 1 rfl) ?_
    refine lv_lload_n hx hb dX10_see_17 rfl (lv_at hl 3 rfl) ?_
    obtain ⟨u_5, e_u_5, i_4, h⟩ := wc_of h
    refine cs_s222 X hS i_4 e_u_5 dX10_see_18 (fun H locs hS => ?_)
    refine lv_aload_n hx hb dX10_see_19 rfl (lv_at hl 0 rfl) ?_
    refine cg_X10_22 X hS dX10_see_20 ?_
    refine lv_aload_n hx hb dX10_see_23 rfl (lv_at hl 0 rfl) ?_
    refine cg_X10_41 X hS dX10_see_24 ?_
    refine lv_iload_n hx hb dX10_see_27 rfl (lv_at hl 2 rfl) ?_
    obtain ⟨u_7, e_u_7, i_6, h⟩ := wc_of h
    refine cs_s223 X hS i_6 e_u_7 dX10_see_28 (fun H locs hS => ?_)
    refine lv_aload_n hx hb dX10_see_29 rfl (lv_at hl 0 rfl) ?_
    refine cg_X10_25 X hS dX10_see_30 ?_
    refine lv_aload_n hx hb dX10_see_33 rfl (lv_at hl 0 rfl) ?_
    refine cg_X10_41 X hS dX10_see_34 ?_
    refine lv_aload_n hx hb dX10_see_37 rfl (lv_at hl 0 rfl) ?_
    refine cg_X10_9 X hS dX10_see_38 ?_
    refine lv_iload_n hx hb dX10_see_41 rfl (lv_at hl 1 rfl) ?_
    obtain ⟨v_9, e_v_9, i_8, h⟩ := rd_of h
    refine ca_s220 X hS i_8 e_v_9 dX10_see_42 ?_
    obtain ⟨u_11, e_u_11, i_10, h⟩ := wc_of h
    refine cs_s224 X hS i_10 e_u_11 dX10_see_43 (fun H locs hS => ?_)
    refine lv_aload_n hx hb dX10_see_44 rfl (lv_at hl 0 rfl) ?_
    refine cg_X10_28 X hS dX10_see_45 ?_
    refine lv_aload_n hx hb dX10_see_48 rfl (lv_at hl 0 rfl) ?_
    refine cg_X10_41 X hS dX10_see_49 ?_
    refine lv_aload_n hx hb dX10_see_52 rfl (lv_at hl 0 rfl) ?_
    refine cg_X10_15 X hS dX10_see_53 ?_
    refine lv_iload_n hx hb dX10_see_56 rfl (lv_at hl 1 rfl) ?_
    obtain ⟨v_13, e_v_13, i_12, h⟩ := rd_of h
    refine ca_s221 X hS i_12 e_v_13 dX10_see_57 ?_
    obtain ⟨u_15, e_u_15, i_14, h⟩ := wc_of h
    refine cs_s225 X hS i_14 e_u_15 dX10_see_58 (fun H locs hS => ?_)
    refine lv_aload_n hx hb dX10_see_59 rfl (lv_at hl 0 rfl) ?_
    refine cg_X10_31 X hS dX10_see_60 ?_
    refine lv_aload_n hx hb dX10_see_63 rfl (lv_at hl 0 rfl) ?_
    refine cg_X10_41 X hS dX10_see_64 ?_
    refine lv_lload_n hx hb dX10_see_67 rfl (lv_at hl 3 rfl) ?_
    obtain ⟨u_17, e_u_17, i_16, h⟩ := wc_of h
    refine cs_s226 X hS i_16 e_u_17 dX10_see_68 (fun H locs hS => ?_)
    refine lv_aload_n hx hb dX10_see_69 rfl (lv_at hl 0 rfl) ?_
    refine lv_aload_n hx hb dX10_see_70 rfl (lv_at hl 0 rfl) ?_
    refine cg_X10_41 X hS dX10_see_71 ?_
    refine lv_iconst (v := 1) hx hb dX10_see_74 (by decide) ?_
    refine lv_iadd hx hb dX10_see_75 ?_
    refine lv_bipush (v := 100) hx hb dX10_see_76 (by decide) ?_
    refine lv_irem hx hb dX10_see_78 (by decide) ?_
    obtain ⟨u_18, e_u_18, h⟩ := pc_of h
    refine cp_X10_41 X hS e_u_18 dX10_see_79 (fun H locs hS => ?_)
    refine lv_aload_n hx hb dX10_see_82 rfl (lv_at hl 0 rfl) ?_
    refine lv_aload_n hx hb dX10_see_83 rfl (lv_at hl 0 rfl) ?_
    refine cg_X10_38 X hS dX10_see_84 ?_
    refine lv_bipush (v := 100) hx hb dX10_see_87 (by decide) ?_
    refine lv_icmp_ge (tgt := 101) hx hb dX10_see_89 (by decide) (fun c_19 => ?_) (fun c_19 => ?_)
    · have h := ip (c_19) h
      refine lv_bipush (v := 100) hx hb dX10_see_101 (by decide) ?_
      obtain ⟨u_20, e_u_20, h⟩ := pc_of h
      refine cp_X10_38 X hS e_u_20 dX10_see_103 (fun H locs hS => ?_)
      obtain ⟨-, rfl⟩ := so9 h
      exact hE _ _ _ _ hS dX10_see_106
    · have h := im (c_19) h
      refine lv_aload_n hx hb dX10_see_92 rfl (lv_at hl 0 rfl) ?_
      refine cg_X10_38 X hS dX10_see_93 ?_
      refine lv_iconst (v := 1) hx hb dX10_see_96 (by decide) ?_
      refine lv_iadd hx hb dX10_see_97 ?_
      refine lv_goto (tgt := 103) hx hb dX10_see_98 (by decide) ?_
      obtain ⟨u_21, e_u_21, h⟩ := pc_of h
      refine cp_X10_38 X hS e_u_21 dX10_see_103 (fun H locs hS => ?_)
      obtain ⟨-, rfl⟩ := so9 h
      exact hE _ _ _ _ hS dX10_see_106
  · have h := ip ((lg_cmp_eq _ _).mp c_3) h
    obtain ⟨-, rfl⟩ := so9 h
    exact hE _ _ _ _ hS dX10_see_11
def F_X10_see (N : Nat) (l1 : Int32) (l2 : Int32) (l3 : Int64) (u : CSt) : Option (Int32 × CSt) := B_X10_see_0 N l1 l2 l3 u
set_option maxHeartbeats 4000000 in
theorem k_X10_see (l : Launch) (D : va_G) (kA : Nat → ClassId) (V Z : Nat → Nat) (N : Nat) (l1 : Int32) (l2 : Int32) (l3 : Int64) (u : CSt) (sz : Nat) {r : Int32} {w : CSt} (h : F_X10_see N l1 l2 l3 u = some (r, w)) : Met l yX10_see (Cond.code yX10_see cX10_see 5 none :: GW) { frames := 0, cells := 0, slots := 0, locals := 0 } (cPc D kA V Z [.ref (Z 219), .int l1, .int l2, .long l3] u sz) (cQv D kA Z u sz w) 0 0 (va_A (CW kA Z u) sz) := by
  refine Met.ofW (cc := cX10_see) (maxL := 5) (ret := none) (by decide) rfl ?_
  intro p e s m args below meth c s₁ Bd hml hv
  obtain ⟨rfl, hsz, hP, hK, hD0, hE⟩ := hv
  have hts := atoms_spec (ws := Cond.code yX10_see cX10_see 5 none :: GW) Bd.pre
  have hl := lv_entry ([.ref (Z 219), .int l1, .int l2, .long l3]) (n := 5) (Nat.le_of_ble_eq_true rfl)
  rw [lg_entry_eq]
  generalize (lg_sl ([.ref (Z 219), .int l1, .int l2, .long l3]) ++ List.replicate (5 - (lg_sl ([.ref (Z 219), .int l1, .int l2, .long l3])).length) Slot.unset).toArray = ls at hl ⊢
  have hl : lv_has ls 5 [(0, .ref (Z 219)), (1, .int l1), (2, .int l2), (3, .long l3)] := hl
  subst hsz
  have X : CC p s m ([.ref (Z 219), .int l1, .int l2, .long l3]).toArray c cX10_see 5 (Cond.code yX10_see cX10_see 5 none) RX10 D kA V (va_A (CW kA Z u) s.heap.size) := ⟨⟨Bd.exec, Bd.bytes, hml, findClass_of_methodNamed Bd.named, hts⟩, hK, hE, fun q h => Or.inr h⟩
  refine b_X10_see_0 X (cend_v X Bd.returns Bd.notSynchronized) (Nat.le_refl _) (Nat.le_refl _) h  ⟨hP, hD0.self, va_S.rf⟩ (lv_sub hl [0, 1, 2, 3] rfl)
theorem kc_X10_see_RX11 {cc : ByteArray} {pc nL : Nat} {c0 : Cond} {rest : List Value} {l1 : Int32} {l2 : Int32} {l3 : Int64} {u w1 : CSt} {r : Int32} (X : CC p s m args c cc nL c0 RX11 D kA V A)  (hS : CS D kA Z A s u H locs) (h : F_X10_see N l1 l2 l3 u = some (r, w1)) (hF : 0 + 1 ≤ R.frames) (hL : 8 + (5 + 11) + 0 ≤ R.locals) (hl : ls.size = nL) (hc : (rest.map fun v => v.category).sum ≤ 8) (hdg : decode cc pc = .ok (.invokevirtual 392, 3)) (kk : ∀ H locs, CS D kA Z A s w1 H locs → W p l e R s m args below meth c H locs 0 0 Q (F0 m (pc + 3) ls (rest))) : W p l e R s m args below meth c H locs 0 0 Q (F0 m pc ls (.long l3 :: .int l2 :: .int l1 :: .ref (Z 219) :: rest)) :=
  ccall_v (n := 3) X hS (k_X10_see l D kA V Z N l1 l2 l3  u H.size h) (gw_V gw_1624 gw_1625 gw_1626 gw_9 gw_1627) (by decide +kernel) (va_recv X.2.1 hS.1 (ci := 9) (q0 := 19) rfl (cw_lit rfl)) hF hL rfl hl hc rfl hdg kk
def B_X6_ofSort_0 (N : Nat) (l0 : Nat) (l1 : Int32) (u : CSt) : Option (Int32 × CSt) := rd (pA u l0 9) 5 l1 fun v_2 => some (v_2, u)
set_option maxHeartbeats 4000000 in
theorem b_X6_ofSort_0 {r : Int32} (X : CC p s m args c cX6_ofSort 2 (Cond.code yX6_ofSort cX6_ofSort 2 (some .int)) RX6 D kA V A) (hE : CEi p l e R s m args below meth c cX6_ofSort D kA Z A Q r w) (hF : 0 ≤ R.frames) (hL : 0 ≤ R.locals) {l0 : Nat} {l1 : Int32} {u : CSt}  (h : B_X6_ofSort_0 N l0 l1 u = some (r, w)) (h_l0 : l0 < 2) (hS : CS D kA Z A s u H locs) (hl : lv_has ls 2 [(0, .ref (Z (300 + 50 * l0))), (1, .int l1)]) : W p l e R s m args below meth c H locs 0 0 Q (F0 m 0 ls []) := by
  obtain ⟨⟨hx, hb, hml, hown, hts⟩, hK, hEV, hA⟩ := id X
  have hG : ∀ w ∈ GW, w.before args s = true := fun w h => hts w (List.mem_cons_of_mem _ h)
  unfold B_X6_ofSort_0 at h
  refine lv_aload_n hx hb dX6_ofSort_0 rfl (lv_at hl 0 rfl) ?_
  refine cg_X6_34 X h_l0 hS dX6_ofSort_1 ?_
  refine lv_iload_n hx hb dX6_ofSort_4 rfl (lv_at hl 1 rfl) ?_
  obtain ⟨v_2, e_v_2, i_1, h⟩ := rd_of h
  refine ca_p9 X h_l0 hS i_1 e_v_2 dX6_ofSort_5 ?_
  obtain ⟨rfl, rfl⟩ := so9 h
  exact hE _ _ _ _ hS dX6_ofSort_6
def F_X6_ofSort (N : Nat) (l0 : Nat) (l1 : Int32) (u : CSt) : Option (Int32 × CSt) := B_X6_ofSort_0 N l0 l1 u
set_option maxHeartbeats 4000000 in
theorem k_X6_ofSort (l : Launch) (D : va_G) (kA : Nat → ClassId) (V Z : Nat → Nat) (N : Nat) (l0 : Nat) (l1 : Int32) (h_l0 : l0 < 2) (u : CSt) (sz : Nat) {r : Int32} {w : CSt} (h : F_X6_ofSort N l0 l1 u = some (r, w)) : Met l yX6_ofSort (Cond.code yX6_ofSort cX6_ofSort 2 (some .int) :: GW) { frames := 0, cells := 0, slots := 0, locals := 0 } (cPc D kA V Z [.ref (Z (300 + 50 * l0)), .int l1] u sz) (cQi D kA Z u sz r w) 0 0 (va_A (CW kA Z u) sz) := by
  refine Met.ofW (cc := cX6_ofSort) (maxL := 2) (ret := (some .int)) (by decide) rfl ?_
  intro p e s m args below meth c s₁ Bd hml hv
  obtain ⟨rfl, hsz, hP, hK, hD0, hE⟩ := hv
  have hts := atoms_spec (ws := Cond.code yX6_ofSort cX6_ofSort 2 (some .int) :: GW) Bd.pre
  have hl := lv_entry ([.ref (Z (300 + 50 * l0)), .int l1]) (n := 2) (Nat.le_of_ble_eq_true rfl)
  rw [lg_entry_eq]
  generalize (lg_sl ([.ref (Z (300 + 50 * l0)), .int l1]) ++ List.replicate (2 - (lg_sl ([.ref (Z (300 + 50 * l0)), .int l1])).length) Slot.unset).toArray = ls at hl ⊢
  have hl : lv_has ls 2 [(0, .ref (Z (300 + 50 * l0))), (1, .int l1)] := hl
  subst hsz
  have X : CC p s m ([.ref (Z (300 + 50 * l0)), .int l1]).toArray c cX6_ofSort 2 (Cond.code yX6_ofSort cX6_ofSort 2 (some .int)) RX6 D kA V (va_A (CW kA Z u) s.heap.size) := ⟨⟨Bd.exec, Bd.bytes, hml, findClass_of_methodNamed Bd.named, hts⟩, hK, hE, fun q h => Or.inr h⟩
  refine b_X6_ofSort_0 X (cend_i X Bd.returns Bd.notSynchronized) (Nat.le_refl _) (Nat.le_refl _) h h_l0 ⟨hP, hD0.self, va_S.rf⟩ (lv_sub hl [0, 1] rfl)
theorem kc_X6_ofSort_RX2 {cc : ByteArray} {pc nL : Nat} {c0 : Cond} {rest : List Value} {l0 : Nat} {l1 : Int32} {u w1 : CSt} {r : Int32} (X : CC p s m args c cc nL c0 RX2 D kA V A) (h_l0 : l0 < 2) (hS : CS D kA Z A s u H locs) (h : F_X6_ofSort N l0 l1 u = some (r, w1)) (hF : 0 + 1 ≤ R.frames) (hL : 8 + (2 + 11) + 0 ≤ R.locals) (hl : ls.size = nL) (hc : (rest.map fun v => v.category).sum ≤ 8) (hdg : decode cc pc = .ok (.invokevirtual 82, 3)) (kk : ∀ H locs, CS D kA Z A s w1 H locs → W p l e R s m args below meth c H locs 0 0 Q (F0 m (pc + 3) ls (.int r :: rest))) : W p l e R s m args below meth c H locs 0 0 Q (F0 m pc ls (.int l1 :: .ref (Z (300 + 50 * l0)) :: rest)) :=
  ccall_i (n := 1) X hS (k_X6_ofSort l D kA V Z N l0 l1 h_l0 u H.size h) (gw_V gw_1383 gw_1384 gw_1385 gw_10 gw_1386) (by decide +kernel) (cp_recv X.2.1 h_l0 hS) hF hL rfl hl hc rfl hdg kk
theorem kc_X6_ofSort_RX11 {cc : ByteArray} {pc nL : Nat} {c0 : Cond} {rest : List Value} {l0 : Nat} {l1 : Int32} {u w1 : CSt} {r : Int32} (X : CC p s m args c cc nL c0 RX11 D kA V A) (h_l0 : l0 < 2) (hS : CS D kA Z A s u H locs) (h : F_X6_ofSort N l0 l1 u = some (r, w1)) (hF : 0 + 1 ≤ R.frames) (hL : 8 + (2 + 11) + 0 ≤ R.locals) (hl : ls.size = nL) (hc : (rest.map fun v => v.category).sum ≤ 8) (hdg : decode cc pc = .ok (.invokevirtual 117, 3)) (kk : ∀ H locs, CS D kA Z A s w1 H locs → W p l e R s m args below meth c H locs 0 0 Q (F0 m (pc + 3) ls (.int r :: rest))) : W p l e R s m args below meth c H locs 0 0 Q (F0 m pc ls (.int l1 :: .ref (Z (300 + 50 * l0)) :: rest)) :=
  ccall_i (n := 1) X hS (k_X6_ofSort l D kA V Z N l0 l1 h_l0 u H.size h) (gw_V gw_1433 gw_1384 gw_1385 gw_10 gw_1386) (by decide +kernel) (cp_recv X.2.1 h_l0 hS) hF hL rfl hl hc rfl hdg kk
def B_X6_has_0 (N : Nat) (l0 : Nat) (l1 : Int32) (l2 : Int32) (u : CSt) : Option (Int32 × CSt) := if l2 < (0 : Int32) then (some (0, u)) else (rd (pA u l0 9) 5 l1 fun v_3 => if v_3 ≤ l2 then (some (0, u)) else (some (1, u)))
set_option maxHeartbeats 4000000 in
theorem b_X6_has_0 {r : Int32} (X : CC p s m args c cX6_has 3 (Cond.code yX6_has cX6_has 3 (some .boolean)) RX6 D kA V A) (hE : CEz p l e R s m args below meth c cX6_has D kA Z A Q r w) (hF : 0 ≤ R.frames) (hL : 0 ≤ R.locals) {l0 : Nat} {l1 : Int32} {l2 : Int32} {u : CSt}  (h : B_X6_has_0 N l0 l1 l2 u = some (r, w)) (h_l0 : l0 < 2) (hS : CS D kA Z A s u H locs) (hl : lv_has ls 3 [(0, .ref (Z (300 + 50 * l0))), (1, .int l1), (2, .int l2)]) : W p l e R s m args below meth c H locs 0 0 Q (F0 m 0 ls []) := by
  obtain ⟨⟨hx, hb, hml, hown, hts⟩, hK, hEV, hA⟩ := id X
  have hG : ∀ w ∈ GW, w.before args s = true := fun w h => hts w (List.mem_cons_of_mem _ h)
  unfold B_X6_has_0 at h
  refine lv_iload_n hx hb dX6_has_0 rfl (lv_at hl 2 rfl) ?_
  refine lv_if_lt (tgt := 18) hx hb dX6_has_1 (by decide) (fun c_1 => ?_) (fun c_1 => ?_)
  · have h := ip (c_1) h
    refine lv_iconst (v := 0) hx hb dX6_has_18 (by decide) ?_
    obtain ⟨rfl, rfl⟩ := so9 h
    exact hE _ _ _ _ hS (Or.inl rfl) dX6_has_19
  · have h := im (c_1) h
    refine lv_iload_n hx hb dX6_has_4 rfl (lv_at hl 2 rfl) ?_
    refine lv_aload_n hx hb dX6_has_5 rfl (lv_at hl 0 rfl) ?_
    refine cg_X6_34 X h_l0 hS dX6_has_6 ?_
    refine lv_iload_n hx hb dX6_has_9 rfl (lv_at hl 1 rfl) ?_
    obtain ⟨v_3, e_v_3, i_2, h⟩ := rd_of h
    refine ca_p9 X h_l0 hS i_2 e_v_3 dX6_has_10 ?_
    refine lv_icmp_ge (tgt := 18) hx hb dX6_has_11 (by decide) (fun c_4 => ?_) (fun c_4 => ?_)
    · have h := ip (c_4) h
      refine lv_iconst (v := 0) hx hb dX6_has_18 (by decide) ?_
      obtain ⟨rfl, rfl⟩ := so9 h
      exact hE _ _ _ _ hS (Or.inl rfl) dX6_has_19
    · have h := im (c_4) h
      refine lv_iconst (v := 1) hx hb dX6_has_14 (by decide) ?_
      refine lv_goto (tgt := 19) hx hb dX6_has_15 (by decide) ?_
      obtain ⟨rfl, rfl⟩ := so9 h
      exact hE _ _ _ _ hS (Or.inr rfl) dX6_has_19
def F_X6_has (N : Nat) (l0 : Nat) (l1 : Int32) (l2 : Int32) (u : CSt) : Option (Int32 × CSt) := B_X6_has_0 N l0 l1 l2 u
set_option maxHeartbeats 4000000 in
theorem k_X6_has (l : Launch) (D : va_G) (kA : Nat → ClassId) (V Z : Nat → Nat) (N : Nat) (l0 : Nat) (l1 : Int32) (l2 : Int32) (h_l0 : l0 < 2) (u : CSt) (sz : Nat) {r : Int32} {w : CSt} (h : F_X6_has N l0 l1 l2 u = some (r, w)) : Met l yX6_has (Cond.code yX6_has cX6_has 3 (some .boolean) :: GW) { frames := 0, cells := 0, slots := 0, locals := 0 } (cPc D kA V Z [.ref (Z (300 + 50 * l0)), .int l1, .int l2] u sz) (cQi D kA Z u sz r w) 0 0 (va_A (CW kA Z u) sz) := by
  refine Met.ofW (cc := cX6_has) (maxL := 3) (ret := (some .boolean)) (by decide) rfl ?_
  intro p e s m args below meth c s₁ Bd hml hv
  obtain ⟨rfl, hsz, hP, hK, hD0, hE⟩ := hv
  have hts := atoms_spec (ws := Cond.code yX6_has cX6_has 3 (some .boolean) :: GW) Bd.pre
  have hl := lv_entry ([.ref (Z (300 + 50 * l0)), .int l1, .int l2]) (n := 3) (Nat.le_of_ble_eq_true rfl)
  rw [lg_entry_eq]
  generalize (lg_sl ([.ref (Z (300 + 50 * l0)), .int l1, .int l2]) ++ List.replicate (3 - (lg_sl ([.ref (Z (300 + 50 * l0)), .int l1, .int l2])).length) Slot.unset).toArray = ls at hl ⊢
  have hl : lv_has ls 3 [(0, .ref (Z (300 + 50 * l0))), (1, .int l1), (2, .int l2)] := hl
  subst hsz
  have X : CC p s m ([.ref (Z (300 + 50 * l0)), .int l1, .int l2]).toArray c cX6_has 3 (Cond.code yX6_has cX6_has 3 (some .boolean)) RX6 D kA V (va_A (CW kA Z u) s.heap.size) := ⟨⟨Bd.exec, Bd.bytes, hml, findClass_of_methodNamed Bd.named, hts⟩, hK, hE, fun q h => Or.inr h⟩
  refine b_X6_has_0 X (cend_z X Bd.returns Bd.notSynchronized) (Nat.le_refl _) (Nat.le_refl _) h h_l0 ⟨hP, hD0.self, va_S.rf⟩ (lv_sub hl [0, 1, 2] rfl)
theorem kc_X6_has_RX6 {cc : ByteArray} {pc nL : Nat} {c0 : Cond} {rest : List Value} {l0 : Nat} {l1 : Int32} {l2 : Int32} {u w1 : CSt} {r : Int32} (X : CC p s m args c cc nL c0 RX6 D kA V A) (h_l0 : l0 < 2) (hS : CS D kA Z A s u H locs) (h : F_X6_has N l0 l1 l2 u = some (r, w1)) (hF : 0 + 1 ≤ R.frames) (hL : 8 + (3 + 11) + 0 ≤ R.locals) (hl : ls.size = nL) (hc : (rest.map fun v => v.category).sum ≤ 8) (hdg : decode cc pc = .ok (.invokevirtual 107, 3)) (kk : ∀ H locs, CS D kA Z A s w1 H locs → W p l e R s m args below meth c H locs 0 0 Q (F0 m (pc + 3) ls (.int r :: rest))) : W p l e R s m args below meth c H locs 0 0 Q (F0 m pc ls (.int l2 :: .int l1 :: .ref (Z (300 + 50 * l0)) :: rest)) :=
  ccall_i (n := 2) X hS (k_X6_has l D kA V Z N l0 l1 l2 h_l0 u H.size h) (gw_V gw_1391 gw_1392 gw_1393 gw_10 gw_1394) (by decide +kernel) (cp_recv X.2.1 h_l0 hS) hF hL rfl hl hc rfl hdg kk
theorem kc_X6_has_RX11 {cc : ByteArray} {pc nL : Nat} {c0 : Cond} {rest : List Value} {l0 : Nat} {l1 : Int32} {l2 : Int32} {u w1 : CSt} {r : Int32} (X : CC p s m args c cc nL c0 RX11 D kA V A) (h_l0 : l0 < 2) (hS : CS D kA Z A s u H locs) (h : F_X6_has N l0 l1 l2 u = some (r, w1)) (hF : 0 + 1 ≤ R.frames) (hL : 8 + (3 + 11) + 0 ≤ R.locals) (hl : ls.size = nL) (hc : (rest.map fun v => v.category).sum ≤ 8) (hdg : decode cc pc = .ok (.invokevirtual 176, 3)) (kk : ∀ H locs, CS D kA Z A s w1 H locs → W p l e R s m args below meth c H locs 0 0 Q (F0 m (pc + 3) ls (.int r :: rest))) : W p l e R s m args below meth c H locs 0 0 Q (F0 m pc ls (.int l2 :: .int l1 :: .ref (Z (300 + 50 * l0)) :: rest)) :=
  ccall_i (n := 2) X hS (k_X6_has l D kA V Z N l0 l1 l2 h_l0 u H.size h) (gw_V gw_1683 gw_1392 gw_1393 gw_10 gw_1394) (by decide +kernel) (cp_recv X.2.1 h_l0 hS) hF hL rfl hl hc rfl hdg kk
def B_X6_name_0 (N : Nat) (l0 : Nat) (l1 : Int32) (u : CSt) : Option (Nat × CSt) := if l1 < (0 : Int32) then (some (169 * l0 + 168, u)) else (if (pI u l0 12) ≤ l1 then (some (169 * l0 + 168, u)) else (ix 160 l1 <| some (169 * l0 + l1.toNatClampNeg, u)))
set_option maxHeartbeats 4000000 in
theorem b_X6_name_0 {r : Nat} (X : CC p s m args c cX6_name 2 (Cond.code yX6_name cX6_name 2 (some (.object "SoftController$Name"))) RX6 D kA V A) (hE : CEr p l e R s m args below meth c cX6_name D kA Z A Q r w) (hF : 0 ≤ R.frames) (hL : 0 ≤ R.locals) {l0 : Nat} {l1 : Int32} {u : CSt}  (h : B_X6_name_0 N l0 l1 u = some (r, w)) (h_l0 : l0 < 2) (hS : CS D kA Z A s u H locs) (hl : lv_has ls 2 [(0, .ref (Z (300 + 50 * l0))), (1, .int l1)]) : W p l e R s m args below meth c H locs 0 0 Q (F0 m 0 ls []) := by
  obtain ⟨⟨hx, hb, hml, hown, hts⟩, hK, hEV, hA⟩ := id X
  have hG : ∀ w ∈ GW, w.before args s = true := fun w h => hts w (List.mem_cons_of_mem _ h)
  unfold B_X6_name_0 at h
  refine lv_iload_n hx hb dX6_name_0 rfl (lv_at hl 1 rfl) ?_
  refine lv_if_lt (tgt := 21) hx hb dX6_name_1 (by decide) (fun c_1 => ?_) (fun c_1 => ?_)
  · have h := ip (c_1) h
    refine lv_aload_n hx hb dX6_name_21 rfl (lv_at hl 0 rfl) ?_
    refine cg_X6_25 X h_l0 hS dX6_name_22 ?_
    obtain ⟨rfl, rfl⟩ := so9 h
    exact hE _ _ _ _ hS dX6_name_25
  · have h := im (c_1) h
    refine lv_iload_n hx hb dX6_name_4 rfl (lv_at hl 1 rfl) ?_
    refine lv_aload_n hx hb dX6_name_5 rfl (lv_at hl 0 rfl) ?_
    refine cg_X6_92 X h_l0 hS dX6_name_6 ?_
    refine lv_icmp_ge (tgt := 21) hx hb dX6_name_9 (by decide) (fun c_2 => ?_) (fun c_2 => ?_)
    · have h := ip (c_2) h
      refine lv_aload_n hx hb dX6_name_21 rfl (lv_at hl 0 rfl) ?_
      refine cg_X6_25 X h_l0 hS dX6_name_22 ?_
      obtain ⟨rfl, rfl⟩ := so9 h
      exact hE _ _ _ _ hS dX6_name_25
    · have h := im (c_2) h
      refine lv_aload_n hx hb dX6_name_12 rfl (lv_at hl 0 rfl) ?_
      refine cg_X6_11 X h_l0 hS dX6_name_13 ?_
      refine lv_iload_n hx hb dX6_name_16 rfl (lv_at hl 1 rfl) ?_
      obtain ⟨i_3, h⟩ := ix_of h
      refine cq_1 X h_l0 hS i_3 dX6_name_17 ?_
      refine lv_goto (tgt := 25) hx hb dX6_name_18 (by decide) ?_
      obtain ⟨rfl, rfl⟩ := so9 h
      exact hE _ _ _ _ hS dX6_name_25
def F_X6_name (N : Nat) (l0 : Nat) (l1 : Int32) (u : CSt) : Option (Nat × CSt) := B_X6_name_0 N l0 l1 u
set_option maxHeartbeats 4000000 in
theorem k_X6_name (l : Launch) (D : va_G) (kA : Nat → ClassId) (V Z : Nat → Nat) (N : Nat) (l0 : Nat) (l1 : Int32) (h_l0 : l0 < 2) (u : CSt) (sz : Nat) {r : Nat} {w : CSt} (h : F_X6_name N l0 l1 u = some (r, w)) : Met l yX6_name (Cond.code yX6_name cX6_name 2 (some (.object "SoftController$Name")) :: GW) { frames := 0, cells := 0, slots := 0, locals := 0 } (cPc D kA V Z [.ref (Z (300 + 50 * l0)), .int l1] u sz) (cQr D kA Z u sz r w) 0 0 (va_A (CW kA Z u) sz) := by
  refine Met.ofW (cc := cX6_name) (maxL := 2) (ret := (some (.object "SoftController$Name"))) (by decide) rfl ?_
  intro p e s m args below meth c s₁ Bd hml hv
  obtain ⟨rfl, hsz, hP, hK, hD0, hE⟩ := hv
  have hts := atoms_spec (ws := Cond.code yX6_name cX6_name 2 (some (.object "SoftController$Name")) :: GW) Bd.pre
  have hl := lv_entry ([.ref (Z (300 + 50 * l0)), .int l1]) (n := 2) (Nat.le_of_ble_eq_true rfl)
  rw [lg_entry_eq]
  generalize (lg_sl ([.ref (Z (300 + 50 * l0)), .int l1]) ++ List.replicate (2 - (lg_sl ([.ref (Z (300 + 50 * l0)), .int l1])).length) Slot.unset).toArray = ls at hl ⊢
  have hl : lv_has ls 2 [(0, .ref (Z (300 + 50 * l0))), (1, .int l1)] := hl
  subst hsz
  have X : CC p s m ([.ref (Z (300 + 50 * l0)), .int l1]).toArray c cX6_name 2 (Cond.code yX6_name cX6_name 2 (some (.object "SoftController$Name"))) RX6 D kA V (va_A (CW kA Z u) s.heap.size) := ⟨⟨Bd.exec, Bd.bytes, hml, findClass_of_methodNamed Bd.named, hts⟩, hK, hE, fun q h => Or.inr h⟩
  refine b_X6_name_0 X (cend_r X Bd.returns Bd.notSynchronized) (Nat.le_refl _) (Nat.le_refl _) h h_l0 ⟨hP, hD0.self, va_S.rf⟩ (lv_sub hl [0, 1] rfl)
theorem kc_X6_name_RX3 {cc : ByteArray} {pc nL : Nat} {c0 : Cond} {rest : List Value} {l0 : Nat} {l1 : Int32} {u w1 : CSt} {r : Nat} (X : CC p s m args c cc nL c0 RX3 D kA V A) (h_l0 : l0 < 2) (hS : CS D kA Z A s u H locs) (h : F_X6_name N l0 l1 u = some (r, w1)) (hF : 0 + 1 ≤ R.frames) (hL : 8 + (2 + 11) + 0 ≤ R.locals) (hl : ls.size = nL) (hc : (rest.map fun v => v.category).sum ≤ 8) (hdg : decode cc pc = .ok (.invokevirtual 113, 3)) (kk : ∀ H locs, CS D kA Z A s w1 H locs → W p l e R s m args below meth c H locs 0 0 Q (F0 m (pc + 3) ls (.ref (Z (1000 + r)) :: rest))) : W p l e R s m args below meth c H locs 0 0 Q (F0 m pc ls (.int l1 :: .ref (Z (300 + 50 * l0)) :: rest)) :=
  ccall_r (n := 1) X hS (k_X6_name l D kA V Z N l0 l1 h_l0 u H.size h) (gw_V gw_1033 gw_1034 gw_1035 gw_10 gw_1036) (by decide +kernel) (cp_recv X.2.1 h_l0 hS) hF hL rfl hl hc rfl hdg kk
theorem kc_X6_name_RX6 {cc : ByteArray} {pc nL : Nat} {c0 : Cond} {rest : List Value} {l0 : Nat} {l1 : Int32} {u w1 : CSt} {r : Nat} (X : CC p s m args c cc nL c0 RX6 D kA V A) (h_l0 : l0 < 2) (hS : CS D kA Z A s u H locs) (h : F_X6_name N l0 l1 u = some (r, w1)) (hF : 0 + 1 ≤ R.frames) (hL : 8 + (2 + 11) + 0 ≤ R.locals) (hl : ls.size = nL) (hc : (rest.map fun v => v.category).sum ≤ 8) (hdg : decode cc pc = .ok (.invokevirtual 111, 3)) (kk : ∀ H locs, CS D kA Z A s w1 H locs → W p l e R s m args below meth c H locs 0 0 Q (F0 m (pc + 3) ls (.ref (Z (1000 + r)) :: rest))) : W p l e R s m args below meth c H locs 0 0 Q (F0 m pc ls (.int l1 :: .ref (Z (300 + 50 * l0)) :: rest)) :=
  ccall_r (n := 1) X hS (k_X6_name l D kA V Z N l0 l1 h_l0 u H.size h) (gw_V gw_1046 gw_1034 gw_1035 gw_10 gw_1036) (by decide +kernel) (cp_recv X.2.1 h_l0 hS) hF hL rfl hl hc rfl hdg kk
theorem kc_X6_name_RX8 {cc : ByteArray} {pc nL : Nat} {c0 : Cond} {rest : List Value} {l0 : Nat} {l1 : Int32} {u w1 : CSt} {r : Nat} (X : CC p s m args c cc nL c0 RX8 D kA V A) (h_l0 : l0 < 2) (hS : CS D kA Z A s u H locs) (h : F_X6_name N l0 l1 u = some (r, w1)) (hF : 0 + 1 ≤ R.frames) (hL : 8 + (2 + 11) + 0 ≤ R.locals) (hl : ls.size = nL) (hc : (rest.map fun v => v.category).sum ≤ 8) (hdg : decode cc pc = .ok (.invokevirtual 51, 3)) (kk : ∀ H locs, CS D kA Z A s w1 H locs → W p l e R s m args below meth c H locs 0 0 Q (F0 m (pc + 3) ls (.ref (Z (1000 + r)) :: rest))) : W p l e R s m args below meth c H locs 0 0 Q (F0 m pc ls (.int l1 :: .ref (Z (300 + 50 * l0)) :: rest)) :=
  ccall_r (n := 1) X hS (k_X6_name l D kA V Z N l0 l1 h_l0 u H.size h) (gw_V gw_1180 gw_1034 gw_1035 gw_10 gw_1036) (by decide +kernel) (cp_recv X.2.1 h_l0 hS) hF hL rfl hl hc rfl hdg kk
theorem kc_X6_name_RX2 {cc : ByteArray} {pc nL : Nat} {c0 : Cond} {rest : List Value} {l0 : Nat} {l1 : Int32} {u w1 : CSt} {r : Nat} (X : CC p s m args c cc nL c0 RX2 D kA V A) (h_l0 : l0 < 2) (hS : CS D kA Z A s u H locs) (h : F_X6_name N l0 l1 u = some (r, w1)) (hF : 0 + 1 ≤ R.frames) (hL : 8 + (2 + 11) + 0 ≤ R.locals) (hl : ls.size = nL) (hc : (rest.map fun v => v.category).sum ≤ 8) (hdg : decode cc pc = .ok (.invokevirtual 126, 3)) (kk : ∀ H locs, CS D kA Z A s w1 H locs → W p l e R s m args below meth c H locs 0 0 Q (F0 m (pc + 3) ls (.ref (Z (1000 + r)) :: rest))) : W p l e R s m args below meth c H locs 0 0 Q (F0 m pc ls (.int l1 :: .ref (Z (300 + 50 * l0)) :: rest)) :=
  ccall_r (n := 1) X hS (k_X6_name l D kA V Z N l0 l1 h_l0 u H.size h) (gw_V gw_1414 gw_1034 gw_1035 gw_10 gw_1036) (by decide +kernel) (cp_recv X.2.1 h_l0 hS) hF hL rfl hl hc rfl hdg kk
theorem kc_X6_name_RX11 {cc : ByteArray} {pc nL : Nat} {c0 : Cond} {rest : List Value} {l0 : Nat} {l1 : Int32} {u w1 : CSt} {r : Nat} (X : CC p s m args c cc nL c0 RX11 D kA V A) (h_l0 : l0 < 2) (hS : CS D kA Z A s u H locs) (h : F_X6_name N l0 l1 u = some (r, w1)) (hF : 0 + 1 ≤ R.frames) (hL : 8 + (2 + 11) + 0 ≤ R.locals) (hl : ls.size = nL) (hc : (rest.map fun v => v.category).sum ≤ 8) (hdg : decode cc pc = .ok (.invokevirtual 244, 3)) (kk : ∀ H locs, CS D kA Z A s w1 H locs → W p l e R s m args below meth c H locs 0 0 Q (F0 m (pc + 3) ls (.ref (Z (1000 + r)) :: rest))) : W p l e R s m args below meth c H locs 0 0 Q (F0 m pc ls (.int l1 :: .ref (Z (300 + 50 * l0)) :: rest)) :=
  ccall_r (n := 1) X hS (k_X6_name l D kA V Z N l0 l1 h_l0 u H.size h) (gw_V gw_1457 gw_1034 gw_1035 gw_10 gw_1036) (by decide +kernel) (cp_recv X.2.1 h_l0 hS) hF hL rfl hl hc rfl hdg kk
def B_X6_nth_0 (N : Nat) (l0 : Nat) (l1 : Int32) (l2 : Int32) (u : CSt) : Option (Nat × CSt) := bc (F_X6_has N l0 l1 l2 u) fun r_2 u_1 => if r_2 = (0 : Int32) then (some (169 * l0 + 168, u_1)) else (ix 5 l1 <| rd (pA u_1 l0 (4 + l1.toNatClampNeg)) 160 l2 fun v_6 => bc (F_X6_name N l0 v_6 u_1) fun r_8 u_7 => ok (r_8 < 338) inferInstance <| some (r_8, u_7))
set_option maxHeartbeats 4000000 in
theorem b_X6_nth_0 {r : Nat} (X : CC p s m args c cX6_nth 3 (Cond.code yX6_nth cX6_nth 3 (some (.object "SoftController$Name"))) RX6 D kA V A) (hE : CEr p l e R s m args below meth c cX6_nth D kA Z A Q r w) (hF : 1 ≤ R.frames) (hL : 22 ≤ R.locals) {l0 : Nat} {l1 : Int32} {l2 : Int32} {u : CSt}  (h : B_X6_nth_0 N l0 l1 l2 u = some (r, w)) (h_l0 : l0 < 2) (hS : CS D kA Z A s u H locs) (hl : lv_has ls 3 [(0, .ref (Z (300 + 50 * l0))), (1, .int l1), (2, .int l2)]) : W p l e R s m args below meth c H locs 0 0 Q (F0 m 0 ls []) := by
  obtain ⟨⟨hx, hb, hml, hown, hts⟩, hK, hEV, hA⟩ := id X
  have hG : ∀ w ∈ GW, w.before args s = true := fun w h => hts w (List.mem_cons_of_mem _ h)
  unfold B_X6_nth_0 at h
  refine lv_aload_n hx hb dX6_nth_0 rfl (lv_at hl 0 rfl) ?_
  refine lv_iload_n hx hb dX6_nth_1 rfl (lv_at hl 1 rfl) ?_
  refine lv_iload_n hx hb dX6_nth_2 rfl (lv_at hl 2 rfl) ?_
  obtain ⟨r_2, u_1, h_u_1, h⟩ := bc_of h
  refine kc_X6_has_RX6 X h_l0 hS h_u_1 (Nat.le_trans (Nat.le_of_ble_eq_true rfl) hF) (Nat.le_trans (Nat.le_of_ble_eq_true rfl) hL) hl.1 (Nat.le_of_ble_eq_true rfl) dX6_nth_3 (fun H locs hS => ?_)
  refine lv_if_eq (tgt := 24) hx hb dX6_nth_6 (by decide) (fun c_3 => ?_) (fun c_3 => ?_)
  · have h := ip (c_3) h
    refine lv_aload_n hx hb dX6_nth_24 rfl (lv_at hl 0 rfl) ?_
    refine cg_X6_25 X h_l0 hS dX6_nth_25 ?_
    obtain ⟨rfl, rfl⟩ := so9 h
    exact hE _ _ _ _ hS dX6_nth_28
  · have h := im (c_3) h
    refine lv_aload_n hx hb dX6_nth_9 rfl (lv_at hl 0 rfl) ?_
    refine lv_aload_n hx hb dX6_nth_10 rfl (lv_at hl 0 rfl) ?_
    refine cg_X6_31 X h_l0 hS dX6_nth_11 ?_
    refine lv_iload_n hx hb dX6_nth_14 rfl (lv_at hl 1 rfl) ?_
    obtain ⟨i_4, h⟩ := ix_of h
    refine cq_3 X h_l0 hS i_4 dX6_nth_15 ?_
    refine lv_iload_n hx hb dX6_nth_16 rfl (lv_at hl 2 rfl) ?_
    obtain ⟨v_6, e_v_6, i_5, h⟩ := rd_of h
    refine ca_o X h_l0 (vpin_lt i_4) hS i_5 e_v_6 dX6_nth_17 ?_
    obtain ⟨r_8, u_7, h_u_7, h⟩ := bc_of h
    refine kc_X6_name_RX6 X h_l0 hS h_u_7 (Nat.le_trans (Nat.le_of_ble_eq_true rfl) hF) (Nat.le_trans (Nat.le_of_ble_eq_true rfl) hL) hl.1 (Nat.le_of_ble_eq_true rfl) dX6_nth_18 (fun H locs hS => ?_)
    obtain ⟨z_9, h⟩ := ok_of h
    refine lv_goto (tgt := 28) hx hb dX6_nth_21 (by decide) ?_
    obtain ⟨rfl, rfl⟩ := so9 h
    exact hE _ _ _ _ hS dX6_nth_28
def F_X6_nth (N : Nat) (l0 : Nat) (l1 : Int32) (l2 : Int32) (u : CSt) : Option (Nat × CSt) := B_X6_nth_0 N l0 l1 l2 u
set_option maxHeartbeats 4000000 in
theorem k_X6_nth (l : Launch) (D : va_G) (kA : Nat → ClassId) (V Z : Nat → Nat) (N : Nat) (l0 : Nat) (l1 : Int32) (l2 : Int32) (h_l0 : l0 < 2) (u : CSt) (sz : Nat) {r : Nat} {w : CSt} (h : F_X6_nth N l0 l1 l2 u = some (r, w)) : Met l yX6_nth (Cond.code yX6_nth cX6_nth 3 (some (.object "SoftController$Name")) :: GW) { frames := 1, cells := 0, slots := 0, locals := 22 } (cPc D kA V Z [.ref (Z (300 + 50 * l0)), .int l1, .int l2] u sz) (cQr D kA Z u sz r w) 0 0 (va_A (CW kA Z u) sz) := by
  refine Met.ofW (cc := cX6_nth) (maxL := 3) (ret := (some (.object "SoftController$Name"))) (by decide) rfl ?_
  intro p e s m args below meth c s₁ Bd hml hv
  obtain ⟨rfl, hsz, hP, hK, hD0, hE⟩ := hv
  have hts := atoms_spec (ws := Cond.code yX6_nth cX6_nth 3 (some (.object "SoftController$Name")) :: GW) Bd.pre
  have hl := lv_entry ([.ref (Z (300 + 50 * l0)), .int l1, .int l2]) (n := 3) (Nat.le_of_ble_eq_true rfl)
  rw [lg_entry_eq]
  generalize (lg_sl ([.ref (Z (300 + 50 * l0)), .int l1, .int l2]) ++ List.replicate (3 - (lg_sl ([.ref (Z (300 + 50 * l0)), .int l1, .int l2])).length) Slot.unset).toArray = ls at hl ⊢
  have hl : lv_has ls 3 [(0, .ref (Z (300 + 50 * l0))), (1, .int l1), (2, .int l2)] := hl
  subst hsz
  have X : CC p s m ([.ref (Z (300 + 50 * l0)), .int l1, .int l2]).toArray c cX6_nth 3 (Cond.code yX6_nth cX6_nth 3 (some (.object "SoftController$Name"))) RX6 D kA V (va_A (CW kA Z u) s.heap.size) := ⟨⟨Bd.exec, Bd.bytes, hml, findClass_of_methodNamed Bd.named, hts⟩, hK, hE, fun q h => Or.inr h⟩
  refine b_X6_nth_0 X (cend_r X Bd.returns Bd.notSynchronized) (Nat.le_refl _) (Nat.le_refl _) h h_l0 ⟨hP, hD0.self, va_S.rf⟩ (lv_sub hl [0, 1, 2] rfl)
theorem kc_X6_nth_RX2 {cc : ByteArray} {pc nL : Nat} {c0 : Cond} {rest : List Value} {l0 : Nat} {l1 : Int32} {l2 : Int32} {u w1 : CSt} {r : Nat} (X : CC p s m args c cc nL c0 RX2 D kA V A) (h_l0 : l0 < 2) (hS : CS D kA Z A s u H locs) (h : F_X6_nth N l0 l1 l2 u = some (r, w1)) (hF : 1 + 1 ≤ R.frames) (hL : 8 + (3 + 11) + 22 ≤ R.locals) (hl : ls.size = nL) (hc : (rest.map fun v => v.category).sum ≤ 8) (hdg : decode cc pc = .ok (.invokevirtual 88, 3)) (kk : ∀ H locs, CS D kA Z A s w1 H locs → W p l e R s m args below meth c H locs 0 0 Q (F0 m (pc + 3) ls (.ref (Z (1000 + r)) :: rest))) : W p l e R s m args below meth c H locs 0 0 Q (F0 m pc ls (.int l2 :: .int l1 :: .ref (Z (300 + 50 * l0)) :: rest)) :=
  ccall_r (n := 2) X hS (k_X6_nth l D kA V Z N l0 l1 l2 h_l0 u H.size h) (gw_V gw_1387 gw_1388 gw_1389 gw_10 gw_1390) (by decide +kernel) (cp_recv X.2.1 h_l0 hS) hF hL rfl hl hc rfl hdg kk
theorem kc_X6_nth_RX11 {cc : ByteArray} {pc nL : Nat} {c0 : Cond} {rest : List Value} {l0 : Nat} {l1 : Int32} {l2 : Int32} {u w1 : CSt} {r : Nat} (X : CC p s m args c cc nL c0 RX11 D kA V A) (h_l0 : l0 < 2) (hS : CS D kA Z A s u H locs) (h : F_X6_nth N l0 l1 l2 u = some (r, w1)) (hF : 1 + 1 ≤ R.frames) (hL : 8 + (3 + 11) + 22 ≤ R.locals) (hl : ls.size = nL) (hc : (rest.map fun v => v.category).sum ≤ 8) (hdg : decode cc pc = .ok (.invokevirtual 121, 3)) (kk : ∀ H locs, CS D kA Z A s w1 H locs → W p l e R s m args below meth c H locs 0 0 Q (F0 m (pc + 3) ls (.ref (Z (1000 + r)) :: rest))) : W p l e R s m args below meth c H locs 0 0 Q (F0 m pc ls (.int l2 :: .int l1 :: .ref (Z (300 + 50 * l0)) :: rest)) :=
  ccall_r (n := 2) X hS (k_X6_nth l D kA V Z N l0 l1 l2 h_l0 u H.size h) (gw_V gw_1434 gw_1388 gw_1389 gw_10 gw_1390) (by decide +kernel) (cp_recv X.2.1 h_l0 hS) hF hL rfl hl hc rfl hdg kk
def B_X6_local_0 (N : Nat) (l0 : Nat) (l1 : Nat) (l2 : Int32) (u : CSt) : Option (Nat × CSt) := if l2 < (0 : Int32) then (some (169 * l0 + 168, u)) else (if (mI u l1 12) ≤ l2 then (some (169 * l0 + 168, u)) else (bc (F_X6_name N l0 (((mI u l1 3) + 1) + l2) u) fun r_4 u_3 => ok (r_4 < 338) inferInstance <| some (r_4, u_3)))
set_option maxHeartbeats 4000000 in
theorem b_X6_local_0 {r : Nat} (X : CC p s m args c cX6_local 3 (Cond.code yX6_local cX6_local 3 (some (.object "SoftController$Name"))) RX6 D kA V A) (hE : CEr p l e R s m args below meth c cX6_local D kA Z A Q r w) (hF : 1 ≤ R.frames) (hL : 21 ≤ R.locals) {l0 : Nat} {l1 : Nat} {l2 : Int32} {u : CSt}  (h : B_X6_local_0 N l0 l1 l2 u = some (r, w)) (h_l0 : l0 < 2) (h_l1 : l1 < 338) (hS : CS D kA Z A s u H locs) (hl : lv_has ls 3 [(0, .ref (Z (300 + 50 * l0))), (1, .ref (Z (1000 + l1))), (2, .int l2)]) : W p l e R s m args below meth c H locs 0 0 Q (F0 m 0 ls []) := by
  obtain ⟨⟨hx, hb, hml, hown, hts⟩, hK, hEV, hA⟩ := id X
  have hG : ∀ w ∈ GW, w.before args s = true := fun w h => hts w (List.mem_cons_of_mem _ h)
  unfold B_X6_local_0 at h
  refine lv_iload_n hx hb dX6_local_0 rfl (lv_at hl 2 rfl) ?_
  refine lv_if_lt (tgt := 27) hx hb dX6_local_1 (by decide) (fun c_1 => ?_) (fun c_1 => ?_)
  · have h := ip (c_1) h
    refine lv_aload_n hx hb dX6_local_27 rfl (lv_at hl 0 rfl) ?_
    refine cg_X6_25 X h_l0 hS dX6_local_28 ?_
    obtain ⟨rfl, rfl⟩ := so9 h
    exact hE _ _ _ _ hS dX6_local_31
  · have h := im (c_1) h
    refine lv_iload_n hx hb dX6_local_4 rfl (lv_at hl 2 rfl) ?_
    refine lv_aload_n hx hb dX6_local_5 rfl (lv_at hl 1 rfl) ?_
    refine cg_X6_115 X h_l1 hS dX6_local_6 ?_
    refine lv_icmp_ge (tgt := 27) hx hb dX6_local_9 (by decide) (fun c_2 => ?_) (fun c_2 => ?_)
    · have h := ip (c_2) h
      refine lv_aload_n hx hb dX6_local_27 rfl (lv_at hl 0 rfl) ?_
      refine cg_X6_25 X h_l0 hS dX6_local_28 ?_
      obtain ⟨rfl, rfl⟩ := so9 h
      exact hE _ _ _ _ hS dX6_local_31
    · have h := im (c_2) h
      refine lv_aload_n hx hb dX6_local_12 rfl (lv_at hl 0 rfl) ?_
      refine lv_aload_n hx hb dX6_local_13 rfl (lv_at hl 1 rfl) ?_
      refine cg_X6_118 X h_l1 hS dX6_local_14 ?_
      refine lv_iconst (v := 1) hx hb dX6_local_17 (by decide) ?_
      refine lv_iadd hx hb dX6_local_18 ?_
      refine lv_iload_n hx hb dX6_local_19 rfl (lv_at hl 2 rfl) ?_
      refine lv_iadd hx hb dX6_local_20 ?_
      obtain ⟨r_4, u_3, h_u_3, h⟩ := bc_of h
      refine kc_X6_name_RX6 X h_l0 hS h_u_3 (Nat.le_trans (Nat.le_of_ble_eq_true rfl) hF) (Nat.le_trans (Nat.le_of_ble_eq_true rfl) hL) hl.1 (Nat.le_of_ble_eq_true rfl) dX6_local_21 (fun H locs hS => ?_)
      obtain ⟨z_5, h⟩ := ok_of h
      refine lv_goto (tgt := 31) hx hb dX6_local_24 (by decide) ?_
      obtain ⟨rfl, rfl⟩ := so9 h
      exact hE _ _ _ _ hS dX6_local_31
def F_X6_local (N : Nat) (l0 : Nat) (l1 : Nat) (l2 : Int32) (u : CSt) : Option (Nat × CSt) := B_X6_local_0 N l0 l1 l2 u
set_option maxHeartbeats 4000000 in
theorem k_X6_local (l : Launch) (D : va_G) (kA : Nat → ClassId) (V Z : Nat → Nat) (N : Nat) (l0 : Nat) (l1 : Nat) (l2 : Int32) (h_l0 : l0 < 2) (h_l1 : l1 < 338) (u : CSt) (sz : Nat) {r : Nat} {w : CSt} (h : F_X6_local N l0 l1 l2 u = some (r, w)) : Met l yX6_local (Cond.code yX6_local cX6_local 3 (some (.object "SoftController$Name")) :: GW) { frames := 1, cells := 0, slots := 0, locals := 21 } (cPc D kA V Z [.ref (Z (300 + 50 * l0)), .ref (Z (1000 + l1)), .int l2] u sz) (cQr D kA Z u sz r w) 0 0 (va_A (CW kA Z u) sz) := by
  refine Met.ofW (cc := cX6_local) (maxL := 3) (ret := (some (.object "SoftController$Name"))) (by decide) rfl ?_
  intro p e s m args below meth c s₁ Bd hml hv
  obtain ⟨rfl, hsz, hP, hK, hD0, hE⟩ := hv
  have hts := atoms_spec (ws := Cond.code yX6_local cX6_local 3 (some (.object "SoftController$Name")) :: GW) Bd.pre
  have hl := lv_entry ([.ref (Z (300 + 50 * l0)), .ref (Z (1000 + l1)), .int l2]) (n := 3) (Nat.le_of_ble_eq_true rfl)
  rw [lg_entry_eq]
  generalize (lg_sl ([.ref (Z (300 + 50 * l0)), .ref (Z (1000 + l1)), .int l2]) ++ List.replicate (3 - (lg_sl ([.ref (Z (300 + 50 * l0)), .ref (Z (1000 + l1)), .int l2])).length) Slot.unset).toArray = ls at hl ⊢
  have hl : lv_has ls 3 [(0, .ref (Z (300 + 50 * l0))), (1, .ref (Z (1000 + l1))), (2, .int l2)] := hl
  subst hsz
  have X : CC p s m ([.ref (Z (300 + 50 * l0)), .ref (Z (1000 + l1)), .int l2]).toArray c cX6_local 3 (Cond.code yX6_local cX6_local 3 (some (.object "SoftController$Name"))) RX6 D kA V (va_A (CW kA Z u) s.heap.size) := ⟨⟨Bd.exec, Bd.bytes, hml, findClass_of_methodNamed Bd.named, hts⟩, hK, hE, fun q h => Or.inr h⟩
  refine b_X6_local_0 X (cend_r X Bd.returns Bd.notSynchronized) (Nat.le_refl _) (Nat.le_refl _) h h_l0 h_l1 ⟨hP, hD0.self, va_S.rf⟩ (lv_sub hl [0, 1, 2] rfl)
theorem kc_X6_local_RX8 {cc : ByteArray} {pc nL : Nat} {c0 : Cond} {rest : List Value} {l0 : Nat} {l1 : Nat} {l2 : Int32} {u w1 : CSt} {r : Nat} (X : CC p s m args c cc nL c0 RX8 D kA V A) (h_l0 : l0 < 2) (h_l1 : l1 < 338) (hS : CS D kA Z A s u H locs) (h : F_X6_local N l0 l1 l2 u = some (r, w1)) (hF : 1 + 1 ≤ R.frames) (hL : 8 + (3 + 11) + 21 ≤ R.locals) (hl : ls.size = nL) (hc : (rest.map fun v => v.category).sum ≤ 8) (hdg : decode cc pc = .ok (.invokevirtual 252, 3)) (kk : ∀ H locs, CS D kA Z A s w1 H locs → W p l e R s m args below meth c H locs 0 0 Q (F0 m (pc + 3) ls (.ref (Z (1000 + r)) :: rest))) : W p l e R s m args below meth c H locs 0 0 Q (F0 m pc ls (.int l2 :: .ref (Z (1000 + l1)) :: .ref (Z (300 + 50 * l0)) :: rest)) :=
  ccall_r (n := 2) X hS (k_X6_local l D kA V Z N l0 l1 l2 h_l0 h_l1 u H.size h) (gw_V gw_1192 gw_1193 gw_1194 gw_10 gw_1195) (by decide +kernel) (cp_recv X.2.1 h_l0 hS) hF hL rfl hl hc rfl hdg kk
theorem kc_X6_local_RX3 {cc : ByteArray} {pc nL : Nat} {c0 : Cond} {rest : List Value} {l0 : Nat} {l1 : Nat} {l2 : Int32} {u w1 : CSt} {r : Nat} (X : CC p s m args c cc nL c0 RX3 D kA V A) (h_l0 : l0 < 2) (h_l1 : l1 < 338) (hS : CS D kA Z A s u H locs) (h : F_X6_local N l0 l1 l2 u = some (r, w1)) (hF : 1 + 1 ≤ R.frames) (hL : 8 + (3 + 11) + 21 ≤ R.locals) (hl : ls.size = nL) (hc : (rest.map fun v => v.category).sum ≤ 8) (hdg : decode cc pc = .ok (.invokevirtual 220, 3)) (kk : ∀ H locs, CS D kA Z A s w1 H locs → W p l e R s m args below meth c H locs 0 0 Q (F0 m (pc + 3) ls (.ref (Z (1000 + r)) :: rest))) : W p l e R s m args below meth c H locs 0 0 Q (F0 m pc ls (.int l2 :: .ref (Z (1000 + l1)) :: .ref (Z (300 + 50 * l0)) :: rest)) :=
  ccall_r (n := 2) X hS (k_X6_local l D kA V Z N l0 l1 l2 h_l0 h_l1 u H.size h) (gw_V gw_1362 gw_1193 gw_1194 gw_10 gw_1195) (by decide +kernel) (cp_recv X.2.1 h_l0 hS) hF hL rfl hl hc rfl hdg kk
theorem kc_X6_local_RX2 {cc : ByteArray} {pc nL : Nat} {c0 : Cond} {rest : List Value} {l0 : Nat} {l1 : Nat} {l2 : Int32} {u w1 : CSt} {r : Nat} (X : CC p s m args c cc nL c0 RX2 D kA V A) (h_l0 : l0 < 2) (h_l1 : l1 < 338) (hS : CS D kA Z A s u H locs) (h : F_X6_local N l0 l1 l2 u = some (r, w1)) (hF : 1 + 1 ≤ R.frames) (hL : 8 + (3 + 11) + 21 ≤ R.locals) (hl : ls.size = nL) (hc : (rest.map fun v => v.category).sum ≤ 8) (hdg : decode cc pc = .ok (.invokevirtual 133, 3)) (kk : ∀ H locs, CS D kA Z A s w1 H locs → W p l e R s m args below meth c H locs 0 0 Q (F0 m (pc + 3) ls (.ref (Z (1000 + r)) :: rest))) : W p l e R s m args below meth c H locs 0 0 Q (F0 m pc ls (.int l2 :: .ref (Z (1000 + l1)) :: .ref (Z (300 + 50 * l0)) :: rest)) :=
  ccall_r (n := 2) X hS (k_X6_local l D kA V Z N l0 l1 l2 h_l0 h_l1 u H.size h) (gw_V gw_1415 gw_1193 gw_1194 gw_10 gw_1195) (by decide +kernel) (cp_recv X.2.1 h_l0 hS) hF hL rfl hl hc rfl hdg kk
theorem kc_X6_local_RX11 {cc : ByteArray} {pc nL : Nat} {c0 : Cond} {rest : List Value} {l0 : Nat} {l1 : Nat} {l2 : Int32} {u w1 : CSt} {r : Nat} (X : CC p s m args c cc nL c0 RX11 D kA V A) (h_l0 : l0 < 2) (h_l1 : l1 < 338) (hS : CS D kA Z A s u H locs) (h : F_X6_local N l0 l1 l2 u = some (r, w1)) (hF : 1 + 1 ≤ R.frames) (hL : 8 + (3 + 11) + 21 ≤ R.locals) (hl : ls.size = nL) (hc : (rest.map fun v => v.category).sum ≤ 8) (hdg : decode cc pc = .ok (.invokevirtual 248, 3)) (kk : ∀ H locs, CS D kA Z A s w1 H locs → W p l e R s m args below meth c H locs 0 0 Q (F0 m (pc + 3) ls (.ref (Z (1000 + r)) :: rest))) : W p l e R s m args below meth c H locs 0 0 Q (F0 m pc ls (.int l2 :: .ref (Z (1000 + l1)) :: .ref (Z (300 + 50 * l0)) :: rest)) :=
  ccall_r (n := 2) X hS (k_X6_local l D kA V Z N l0 l1 l2 h_l0 h_l1 u H.size h) (gw_V gw_1766 gw_1193 gw_1194 gw_10 gw_1195) (by decide +kernel) (cp_recv X.2.1 h_l0 hS) hF hL rfl hl hc rfl hdg kk
def B_X6_localCalled_71 (N : Nat) (R_12 : Nat × Nat × Int64 × Int32 × Int32 × Int32 × CSt → Option (Nat × CSt)) (l0 : Nat) (l1 : Nat) (l2 : Int64) (l4 : Int32) (l5 : Int32) (l6 : Int32) (u : CSt) : Option (Nat × CSt) := R_12 (l0, l1, l2, l4, l5, (l6 + 1), u)
set_option maxHeartbeats 4000000 in
theorem b_X6_localCalled_71 {r : Nat} (X : CC p s m args c cX6_localCalled 7 (Cond.code yX6_localCalled cX6_localCalled 7 (some (.object "SoftController$Name"))) RX6 D kA V A) (hE : CEr p l e R s m args below meth c cX6_localCalled D kA Z A Q r w) (hF : 0 ≤ R.frames) (hL : 0 ≤ R.locals) {R_12 : Nat × Nat × Int64 × Int32 × Int32 × Int32 × CSt → Option (Nat × CSt)} {l0 : Nat} {l1 : Nat} {l2 : Int64} {l4 : Int32} {l5 : Int32} {l6 : Int32} {u : CSt} (hR_12 : ∀ (l0 : Nat) (l1 : Nat) (l2 : Int64) (l4 : Int32) (l5 : Int32) (l6 : Int32) (u : CSt), l0 < 2 → l1 < 338 → R_12 (l0, l1, l2, l4, l5, l6, u) = some (r, w) → ∀ (H : Heap) (locs : List Loc) (ls : Array Slot), CS D kA Z A s u H locs → lv_has ls 7 [(0, .ref (Z (300 + 50 * l0))), (1, .ref (Z (1000 + l1))), (2, .long l2), (4, .int l4), (5, .int l5), (6, .int l6)] → W p l e R s m args below meth c H locs 0 0 Q (F0 m 12 ls [])) (h : B_X6_localCalled_71 N R_12 l0 l1 l2 l4 l5 l6 u = some (r, w)) (h_l0 : l0 < 2) (h_l1 : l1 < 338) (hS : CS D kA Z A s u H locs) (hl : lv_has ls 7 [(0, .ref (Z (300 + 50 * l0))), (1, .ref (Z (1000 + l1))), (2, .long l2), (4, .int l4), (5, .int l5), (6, .int l6)]) : W p l e R s m args below meth c H locs 0 0 Q (F0 m 71 ls []) := by
  obtain ⟨⟨hx, hb, hml, hown, hts⟩, hK, hEV, hA⟩ := id X
  have hG : ∀ w ∈ GW, w.before args s = true := fun w h => hts w (List.mem_cons_of_mem _ h)
  unfold B_X6_localCalled_71 at h
  refine lv_iinc (v := l6 + 1) (lv' := [(6, .int (l6 + 1)), (0, .ref (Z (300 + 50 * l0))), (1, .ref (Z (1000 + l1))), (2, .long l2), (4, .int l4), (5, .int l5)]) hx hb dX6_localCalled_71 hl (k := 5) rfl rfl (by decide) rfl (fun ls hl => ?_)
  refine lv_goto (tgt := 12) hx hb dX6_localCalled_74 (by decide) ?_
  exact hR_12 _ _ _ _ _ _ _ h_l0 h_l1 h _ _ _ hS (lv_sub hl [1, 2, 3, 4, 5, 0] rfl)
def B_X6_localCalled_12 (N : Nat) (R_12 : Nat × Nat × Int64 × Int32 × Int32 × Int32 × CSt → Option (Nat × CSt)) (l0 : Nat) (l1 : Nat) (l2 : Int64) (l4 : Int32) (l5 : Int32) (l6 : Int32) (u : CSt) : Option (Nat × CSt) := if (l5 + (mI u l1 12)) ≤ l6 then (some (169 * l0 + 168, u)) else (if (pI u l0 12) ≤ l6 then (some (169 * l0 + 168, u)) else (ix 160 l6 <| if (mL u (169 * l0 + l6.toNatClampNeg) 0) = l2 then (ix 160 l6 <| if (mI u (169 * l0 + l6.toNatClampNeg) 1) = l4 then (ix 160 l6 <| some (169 * l0 + l6.toNatClampNeg, u)) else (B_X6_localCalled_71 N R_12 l0 l1 l2 l4 l5 l6 u)) else (B_X6_localCalled_71 N R_12 l0 l1 l2 l4 l5 l6 u)))
set_option maxHeartbeats 4000000 in
theorem b_X6_localCalled_12 {r : Nat} (X : CC p s m args c cX6_localCalled 7 (Cond.code yX6_localCalled cX6_localCalled 7 (some (.object "SoftController$Name"))) RX6 D kA V A) (hE : CEr p l e R s m args below meth c cX6_localCalled D kA Z A Q r w) (hF : 0 ≤ R.frames) (hL : 0 ≤ R.locals) {R_12 : Nat × Nat × Int64 × Int32 × Int32 × Int32 × CSt → Option (Nat × CSt)} {l0 : Nat} {l1 : Nat} {l2 : Int64} {l4 : Int32} {l5 : Int32} {l6 : Int32} {u : CSt} (hR_12 : ∀ (l0 : Nat) (l1 : Nat) (l2 : Int64) (l4 : Int32) (l5 : Int32) (l6 : Int32) (u : CSt), l0 < 2 → l1 < 338 → R_12 (l0, l1, l2, l4, l5, l6, u) = some (r, w) → ∀ (H : Heap) (locs : List Loc) (ls : Array Slot), CS D kA Z A s u H locs → lv_has ls 7 [(0, .ref (Z (300 + 50 * l0))), (1, .ref (Z (1000 + l1))), (2, .long l2), (4, .int l4), (5, .int l5), (6, .int l6)] → W p l e R s m args below meth c H locs 0 0 Q (F0 m 12 ls [])) (h : B_X6_localCalled_12 N R_12 l0 l1 l2 l4 l5 l6 u = some (r, w)) (h_l0 : l0 < 2) (h_l1 : l1 < 338) (hS : CS D kA Z A s u H locs) (hl : lv_has ls 7 [(0, .ref (Z (300 + 50 * l0))), (1, .ref (Z (1000 + l1))), (2, .long l2), (4, .int l4), (5, .int l5), (6, .int l6)]) : W p l e R s m args below meth c H locs 0 0 Q (F0 m 12 ls []) := by
  obtain ⟨⟨hx, hb, hml, hown, hts⟩, hK, hEV, hA⟩ := id X
  have hG : ∀ w ∈ GW, w.before args s = true := fun w h => hts w (List.mem_cons_of_mem _ h)
  unfold B_X6_localCalled_12 at h
  refine lv_iload hx hb dX6_localCalled_12 (lv_at hl 5 rfl) ?_
  refine lv_iload hx hb dX6_localCalled_14 (lv_at hl 4 rfl) ?_
  refine lv_aload_n hx hb dX6_localCalled_16 rfl (lv_at hl 1 rfl) ?_
  refine cg_X6_115 X h_l1 hS dX6_localCalled_17 ?_
  refine lv_iadd hx hb dX6_localCalled_20 ?_
  refine lv_icmp_ge (tgt := 77) hx hb dX6_localCalled_21 (by decide) (fun c_1 => ?_) (fun c_1 => ?_)
  · have h := ip (c_1) h
    refine lv_aload_n hx hb dX6_localCalled_77 rfl (lv_at hl 0 rfl) ?_
    refine cg_X6_25 X h_l0 hS dX6_localCalled_78 ?_
    obtain ⟨rfl, rfl⟩ := so9 h
    exact hE _ _ _ _ hS dX6_localCalled_81
  · have h := im (c_1) h
    refine lv_iload hx hb dX6_localCalled_24 (lv_at hl 5 rfl) ?_
    refine lv_aload_n hx hb dX6_localCalled_26 rfl (lv_at hl 0 rfl) ?_
    refine cg_X6_92 X h_l0 hS dX6_localCalled_27 ?_
    refine lv_icmp_ge (tgt := 77) hx hb dX6_localCalled_30 (by decide) (fun c_2 => ?_) (fun c_2 => ?_)
    · have h := ip (c_2) h
      refine lv_aload_n hx hb dX6_localCalled_77 rfl (lv_at hl 0 rfl) ?_
      refine cg_X6_25 X h_l0 hS dX6_localCalled_78 ?_
      obtain ⟨rfl, rfl⟩ := so9 h
      exact hE _ _ _ _ hS dX6_localCalled_81
    · have h := im (c_2) h
      refine lv_aload_n hx hb dX6_localCalled_33 rfl (lv_at hl 0 rfl) ?_
      refine cg_X6_11 X h_l0 hS dX6_localCalled_34 ?_
      refine lv_iload hx hb dX6_localCalled_37 (lv_at hl 5 rfl) ?_
      obtain ⟨i_3, h⟩ := ix_of h
      refine cq_1 X h_l0 hS i_3 dX6_localCalled_39 ?_
      refine cg_X6_121 X (bn_1 h_l0 i_3) hS dX6_localCalled_40 ?_
      refine lv_lload_n hx hb dX6_localCalled_43 rfl (lv_at hl 2 rfl) ?_
      refine W.lcmp hx hb dX6_localCalled_44 ?_
      refine lv_if_ne (tgt := 71) hx hb dX6_localCalled_45 (by decide) (fun c_4 => ?_) (fun c_4 => ?_)
      · have h := im (mt (lg_cmp_eq _ _).mpr c_4) h
        exact b_X6_localCalled_71 X hE  hF hL hR_12 h h_l0 h_l1 hS (lv_sub hl [0, 1, 2, 3, 4, 5] rfl)
      · have h := ip ((lg_cmp_eq _ _).mp c_4) h
        refine lv_aload_n hx hb dX6_localCalled_48 rfl (lv_at hl 0 rfl) ?_
        refine cg_X6_11 X h_l0 hS dX6_localCalled_49 ?_
        refine lv_iload hx hb dX6_localCalled_52 (lv_at hl 5 rfl) ?_
        obtain ⟨i_5, h⟩ := ix_of h
        refine cq_1 X h_l0 hS i_5 dX6_localCalled_54 ?_
        refine cg_X6_125 X (bn_1 h_l0 i_5) hS dX6_localCalled_55 ?_
        refine lv_iload hx hb dX6_localCalled_58 (lv_at hl 3 rfl) ?_
        refine lv_icmp_ne (tgt := 71) hx hb dX6_localCalled_60 (by decide) (fun c_6 => ?_) (fun c_6 => ?_)
        · have h := im (c_6) h
          exact b_X6_localCalled_71 X hE  hF hL hR_12 h h_l0 h_l1 hS (lv_sub hl [0, 1, 2, 3, 4, 5] rfl)
        · have h := ip (c_6) h
          refine lv_aload_n hx hb dX6_localCalled_63 rfl (lv_at hl 0 rfl) ?_
          refine cg_X6_11 X h_l0 hS dX6_localCalled_64 ?_
          refine lv_iload hx hb dX6_localCalled_67 (lv_at hl 5 rfl) ?_
          obtain ⟨i_7, h⟩ := ix_of h
          refine cq_1 X h_l0 hS i_7 dX6_localCalled_69 ?_
          obtain ⟨rfl, rfl⟩ := so9 h
          exact hE _ _ _ _ hS dX6_localCalled_70
def LP_X6_localCalled_12 (N : Nat) : Nat → Nat × Nat × Int64 × Int32 × Int32 × Int32 × CSt → Option (Nat × CSt) := lp (fun R a => B_X6_localCalled_12 N R a.1 a.2.1 a.2.2.1 a.2.2.2.1 a.2.2.2.2.1 a.2.2.2.2.2.1 a.2.2.2.2.2.2)
theorem bl_X6_localCalled_12 {r : Nat} (X : CC p s m args c cX6_localCalled 7 (Cond.code yX6_localCalled cX6_localCalled 7 (some (.object "SoftController$Name"))) RX6 D kA V A) (hE : CEr p l e R s m args below meth c cX6_localCalled D kA Z A Q r w) (hF : 0 ≤ R.frames) (hL : 0 ≤ R.locals)  : ∀ (n : Nat) (l0 : Nat) (l1 : Nat) (l2 : Int64) (l4 : Int32) (l5 : Int32) (l6 : Int32) (u : CSt), l0 < 2 → l1 < 338 → LP_X6_localCalled_12 N n (l0, l1, l2, l4, l5, l6, u) = some (r, w) → ∀ (H : Heap) (locs : List Loc) (ls : Array Slot), CS D kA Z A s u H locs → lv_has ls 7 [(0, .ref (Z (300 + 50 * l0))), (1, .ref (Z (1000 + l1))), (2, .long l2), (4, .int l4), (5, .int l5), (6, .int l6)] → W p l e R s m args below meth c H locs 0 0 Q (F0 m 12 ls []) := by
  intro n
  induction n with
  | zero => intro l0 l1 l2 l4 l5 l6 u h_l0 h_l1 h; exact nomatch h
  | succ n ih => intro l0 l1 l2 l4 l5 l6 u h_l0 h_l1 h H locs ls hS hl; exact b_X6_localCalled_12 (N := N) (R_12 := LP_X6_localCalled_12 N n) X hE  hF hL  ih h h_l0 h_l1 hS hl
def B_X6_localCalled_0 (N : Nat) (l0 : Nat) (l1 : Nat) (l2 : Int64) (l4 : Int32) (u : CSt) : Option (Nat × CSt) := LP_X6_localCalled_12 N N (l0, l1, l2, l4, ((mI u l1 3) + 1), ((mI u l1 3) + 1), u)
set_option maxHeartbeats 4000000 in
theorem b_X6_localCalled_0 {r : Nat} (X : CC p s m args c cX6_localCalled 7 (Cond.code yX6_localCalled cX6_localCalled 7 (some (.object "SoftController$Name"))) RX6 D kA V A) (hE : CEr p l e R s m args below meth c cX6_localCalled D kA Z A Q r w) (hF : 0 ≤ R.frames) (hL : 0 ≤ R.locals) {l0 : Nat} {l1 : Nat} {l2 : Int64} {l4 : Int32} {u : CSt}  (h : B_X6_localCalled_0 N l0 l1 l2 l4 u = some (r, w)) (h_l0 : l0 < 2) (h_l1 : l1 < 338) (hS : CS D kA Z A s u H locs) (hl : lv_has ls 7 [(0, .ref (Z (300 + 50 * l0))), (1, .ref (Z (1000 + l1))), (2, .long l2), (4, .int l4)]) : W p l e R s m args below meth c H locs 0 0 Q (F0 m 0 ls []) := by
  obtain ⟨⟨hx, hb, hml, hown, hts⟩, hK, hEV, hA⟩ := id X
  have hG : ∀ w ∈ GW, w.before args s = true := fun w h => hts w (List.mem_cons_of_mem _ h)
  unfold B_X6_localCalled_0 at h
  refine lv_aload_n hx hb dX6_localCalled_0 rfl (lv_at hl 1 rfl) ?_
  refine cg_X6_118 X h_l1 hS dX6_localCalled_1 ?_
  refine lv_iconst (v := 1) hx hb dX6_localCalled_4 (by decide) ?_
  refine lv_iadd hx hb dX6_localCalled_5 ?_
  refine lv_istore (lv' := [(5, .int ((mI u l1 3) + 1)), (0, .ref (Z (300 + 50 * l0))), (1, .ref (Z (1000 + l1))), (2, .long l2), (4, .int l4)]) hx hb dX6_localCalled_6 hl (by decide) rfl (fun ls hl => ?_)
  refine lv_iload hx hb dX6_localCalled_8 (lv_at hl 0 rfl) ?_
  refine lv_istore (lv' := [(6, .int ((mI u l1 3) + 1)), (5, .int ((mI u l1 3) + 1)), (0, .ref (Z (300 + 50 * l0))), (1, .ref (Z (1000 + l1))), (2, .long l2), (4, .int l4)]) hx hb dX6_localCalled_10 hl (by decide) rfl (fun ls hl => ?_)
  exact bl_X6_localCalled_12 X hE  hF hL  _ _ _ _ _ _ _ _ h_l0 h_l1 h _ _ _ hS (lv_sub hl [2, 3, 4, 5, 1, 0] rfl)
def F_X6_localCalled (N : Nat) (l0 : Nat) (l1 : Nat) (l2 : Int64) (l4 : Int32) (u : CSt) : Option (Nat × CSt) := B_X6_localCalled_0 N l0 l1 l2 l4 u
set_option maxHeartbeats 4000000 in
theorem k_X6_localCalled (l : Launch) (D : va_G) (kA : Nat → ClassId) (V Z : Nat → Nat) (N : Nat) (l0 : Nat) (l1 : Nat) (l2 : Int64) (l4 : Int32) (h_l0 : l0 < 2) (h_l1 : l1 < 338) (u : CSt) (sz : Nat) {r : Nat} {w : CSt} (h : F_X6_localCalled N l0 l1 l2 l4 u = some (r, w)) : Met l yX6_localCalled (Cond.code yX6_localCalled cX6_localCalled 7 (some (.object "SoftController$Name")) :: GW) { frames := 0, cells := 0, slots := 0, locals := 0 } (cPc D kA V Z [.ref (Z (300 + 50 * l0)), .ref (Z (1000 + l1)), .long l2, .int l4] u sz) (cQr D kA Z u sz r w) 0 0 (va_A (CW kA Z u) sz) := by
  refine Met.ofW (cc := cX6_localCalled) (maxL := 7) (ret := (some (.object "SoftController$Name"))) (by decide) rfl ?_
  intro p e s m args below meth c s₁ Bd hml hv
  obtain ⟨rfl, hsz, hP, hK, hD0, hE⟩ := hv
  have hts := atoms_spec (ws := Cond.code yX6_localCalled cX6_localCalled 7 (some (.object "SoftController$Name")) :: GW) Bd.pre
  have hl := lv_entry ([.ref (Z (300 + 50 * l0)), .ref (Z (1000 + l1)), .long l2, .int l4]) (n := 7) (Nat.le_of_ble_eq_true rfl)
  rw [lg_entry_eq]
  generalize (lg_sl ([.ref (Z (300 + 50 * l0)), .ref (Z (1000 + l1)), .long l2, .int l4]) ++ List.replicate (7 - (lg_sl ([.ref (Z (300 + 50 * l0)), .ref (Z (1000 + l1)), .long l2, .int l4])).length) Slot.unset).toArray = ls at hl ⊢
  have hl : lv_has ls 7 [(0, .ref (Z (300 + 50 * l0))), (1, .ref (Z (1000 + l1))), (2, .long l2), (4, .int l4)] := hl
  subst hsz
  have X : CC p s m ([.ref (Z (300 + 50 * l0)), .ref (Z (1000 + l1)), .long l2, .int l4]).toArray c cX6_localCalled 7 (Cond.code yX6_localCalled cX6_localCalled 7 (some (.object "SoftController$Name"))) RX6 D kA V (va_A (CW kA Z u) s.heap.size) := ⟨⟨Bd.exec, Bd.bytes, hml, findClass_of_methodNamed Bd.named, hts⟩, hK, hE, fun q h => Or.inr h⟩
  refine b_X6_localCalled_0 X (cend_r X Bd.returns Bd.notSynchronized) (Nat.le_refl _) (Nat.le_refl _) h h_l0 h_l1 ⟨hP, hD0.self, va_S.rf⟩ (lv_sub hl [0, 1, 2, 3] rfl)
theorem kc_X6_localCalled_RX3 {cc : ByteArray} {pc nL : Nat} {c0 : Cond} {rest : List Value} {l0 : Nat} {l1 : Nat} {l2 : Int64} {l4 : Int32} {u w1 : CSt} {r : Nat} (X : CC p s m args c cc nL c0 RX3 D kA V A) (h_l0 : l0 < 2) (h_l1 : l1 < 338) (hS : CS D kA Z A s u H locs) (h : F_X6_localCalled N l0 l1 l2 l4 u = some (r, w1)) (hF : 0 + 1 ≤ R.frames) (hL : 8 + (7 + 11) + 0 ≤ R.locals) (hl : ls.size = nL) (hc : (rest.map fun v => v.category).sum ≤ 8) (hdg : decode cc pc = .ok (.invokevirtual 117, 3)) (kk : ∀ H locs, CS D kA Z A s w1 H locs → W p l e R s m args below meth c H locs 0 0 Q (F0 m (pc + 3) ls (.ref (Z (1000 + r)) :: rest))) : W p l e R s m args below meth c H locs 0 0 Q (F0 m pc ls (.int l4 :: .long l2 :: .ref (Z (1000 + l1)) :: .ref (Z (300 + 50 * l0)) :: rest)) :=
  ccall_r (n := 3) X hS (k_X6_localCalled l D kA V Z N l0 l1 l2 l4 h_l0 h_l1 u H.size h) (gw_V gw_1037 gw_1038 gw_1039 gw_10 gw_1040) (by decide +kernel) (cp_recv X.2.1 h_l0 hS) hF hL rfl hl hc rfl hdg kk
theorem kc_X6_localCalled_RX8 {cc : ByteArray} {pc nL : Nat} {c0 : Cond} {rest : List Value} {l0 : Nat} {l1 : Nat} {l2 : Int64} {l4 : Int32} {u w1 : CSt} {r : Nat} (X : CC p s m args c cc nL c0 RX8 D kA V A) (h_l0 : l0 < 2) (h_l1 : l1 < 338) (hS : CS D kA Z A s u H locs) (h : F_X6_localCalled N l0 l1 l2 l4 u = some (r, w1)) (hF : 0 + 1 ≤ R.frames) (hL : 8 + (7 + 11) + 0 ≤ R.locals) (hl : ls.size = nL) (hc : (rest.map fun v => v.category).sum ≤ 8) (hdg : decode cc pc = .ok (.invokevirtual 55, 3)) (kk : ∀ H locs, CS D kA Z A s w1 H locs → W p l e R s m args below meth c H locs 0 0 Q (F0 m (pc + 3) ls (.ref (Z (1000 + r)) :: rest))) : W p l e R s m args below meth c H locs 0 0 Q (F0 m pc ls (.int l4 :: .long l2 :: .ref (Z (1000 + l1)) :: .ref (Z (300 + 50 * l0)) :: rest)) :=
  ccall_r (n := 3) X hS (k_X6_localCalled l D kA V Z N l0 l1 l2 l4 h_l0 h_l1 u H.size h) (gw_V gw_1181 gw_1038 gw_1039 gw_10 gw_1040) (by decide +kernel) (cp_recv X.2.1 h_l0 hS) hF hL rfl hl hc rfl hdg kk
def B_X6_ofText_52 (N : Nat) (R_3 : Nat × Int64 × Int32 × Int32 × CSt → Option (Nat × CSt)) (l0 : Nat) (l1 : Int64) (l3 : Int32) (l4 : Int32) (u : CSt) : Option (Nat × CSt) := R_3 (l0, l1, l3, (l4 + 1), u)
set_option maxHeartbeats 4000000 in
theorem b_X6_ofText_52 {r : Nat} (X : CC p s m args c cX6_ofText 6 (Cond.code yX6_ofText cX6_ofText 6 (some (.object "SoftController$Name"))) RX6 D kA V A) (hE : CEr p l e R s m args below meth c cX6_ofText D kA Z A Q r w) (hF : 0 ≤ R.frames) (hL : 0 ≤ R.locals) {R_3 : Nat × Int64 × Int32 × Int32 × CSt → Option (Nat × CSt)} {l0 : Nat} {l1 : Int64} {l3 : Int32} {l4 : Int32} {u : CSt} (hR_3 : ∀ (l0 : Nat) (l1 : Int64) (l3 : Int32) (l4 : Int32) (u : CSt), l0 < 2 → R_3 (l0, l1, l3, l4, u) = some (r, w) → ∀ (H : Heap) (locs : List Loc) (ls : Array Slot), CS D kA Z A s u H locs → lv_has ls 6 [(0, .ref (Z (300 + 50 * l0))), (1, .long l1), (3, .int l3), (4, .int l4)] → W p l e R s m args below meth c H locs 0 0 Q (F0 m 3 ls [])) (h : B_X6_ofText_52 N R_3 l0 l1 l3 l4 u = some (r, w)) (h_l0 : l0 < 2) (hS : CS D kA Z A s u H locs) (hl : lv_has ls 6 [(0, .ref (Z (300 + 50 * l0))), (1, .long l1), (3, .int l3), (4, .int l4)]) : W p l e R s m args below meth c H locs 0 0 Q (F0 m 52 ls []) := by
  obtain ⟨⟨hx, hb, hml, hown, hts⟩, hK, hEV, hA⟩ := id X
  have hG : ∀ w ∈ GW, w.before args s = true := fun w h => hts w (List.mem_cons_of_mem _ h)
  unfold B_X6_ofText_52 at h
  refine lv_iinc (v := l4 + 1) (lv' := [(4, .int (l4 + 1)), (0, .ref (Z (300 + 50 * l0))), (1, .long l1), (3, .int l3)]) hx hb dX6_ofText_52 hl (k := 3) rfl rfl (by decide) rfl (fun ls hl => ?_)
  refine lv_goto (tgt := 3) hx hb dX6_ofText_55 (by decide) ?_
  exact hR_3 _ _ _ _ _ h_l0 h _ _ _ hS (lv_sub hl [1, 2, 3, 0] rfl)
def B_X6_ofText_61 (N : Nat) (R_61 : Nat × Int64 × Int32 × Int32 × CSt → Option (Nat × CSt)) (l0 : Nat) (l1 : Int64) (l3 : Int32) (l4 : Int32) (u : CSt) : Option (Nat × CSt) := if (8 : Int32) ≤ l4 then (some (169 * l0 + 168, u)) else (if l3 = (0 : Int32) then (ix 8 l4 <| if (mL u (169 * l0 + (160 + l4.toNatClampNeg)) 0) = l1 then (ix 8 l4 <| some (169 * l0 + (160 + l4.toNatClampNeg), u)) else (R_61 (l0, l1, l3, (l4 + 1), u))) else (some (169 * l0 + 168, u)))
set_option maxHeartbeats 4000000 in
theorem b_X6_ofText_61 {r : Nat} (X : CC p s m args c cX6_ofText 6 (Cond.code yX6_ofText cX6_ofText 6 (some (.object "SoftController$Name"))) RX6 D kA V A) (hE : CEr p l e R s m args below meth c cX6_ofText D kA Z A Q r w) (hF : 0 ≤ R.frames) (hL : 0 ≤ R.locals) {R_61 : Nat × Int64 × Int32 × Int32 × CSt → Option (Nat × CSt)} {l0 : Nat} {l1 : Int64} {l3 : Int32} {l4 : Int32} {u : CSt} (hR_61 : ∀ (l0 : Nat) (l1 : Int64) (l3 : Int32) (l4 : Int32) (u : CSt), l0 < 2 → R_61 (l0, l1, l3, l4, u) = some (r, w) → ∀ (H : Heap) (locs : List Loc) (ls : Array Slot), CS D kA Z A s u H locs → lv_has ls 6 [(0, .ref (Z (300 + 50 * l0))), (1, .long l1), (3, .int l3), (4, .int l4)] → W p l e R s m args below meth c H locs 0 0 Q (F0 m 61 ls [])) (h : B_X6_ofText_61 N R_61 l0 l1 l3 l4 u = some (r, w)) (h_l0 : l0 < 2) (hS : CS D kA Z A s u H locs) (hl : lv_has ls 6 [(0, .ref (Z (300 + 50 * l0))), (1, .long l1), (3, .int l3), (4, .int l4)]) : W p l e R s m args below meth c H locs 0 0 Q (F0 m 61 ls []) := by
  obtain ⟨⟨hx, hb, hml, hown, hts⟩, hK, hEV, hA⟩ := id X
  have hG : ∀ w ∈ GW, w.before args s = true := fun w h => hts w (List.mem_cons_of_mem _ h)
  unfold B_X6_ofText_61 at h
  refine lv_iload hx hb dX6_ofText_61 (lv_at hl 3 rfl) ?_
  refine lv_aload_n hx hb dX6_ofText_63 rfl (lv_at hl 0 rfl) ?_
  refine cg_X6_21 X h_l0 hS dX6_ofText_64 ?_
  refine cl_2 X h_l0 hS dX6_ofText_67 ?_
  refine lv_icmp_ge (tgt := 104) hx hb dX6_ofText_68 (by decide) (fun c_1 => ?_) (fun c_1 => ?_)
  · have h := ip (c_1) h
    refine lv_aload_n hx hb dX6_ofText_104 rfl (lv_at hl 0 rfl) ?_
    refine cg_X6_25 X h_l0 hS dX6_ofText_105 ?_
    obtain ⟨rfl, rfl⟩ := so9 h
    exact hE _ _ _ _ hS dX6_ofText_108
  · have h := im (c_1) h
    refine lv_iload_n hx hb dX6_ofText_71 rfl (lv_at hl 2 rfl) ?_
    refine lv_if_ne (tgt := 104) hx hb dX6_ofText_72 (by decide) (fun c_2 => ?_) (fun c_2 => ?_)
    · have h := im (c_2) h
      refine lv_aload_n hx hb dX6_ofText_104 rfl (lv_at hl 0 rfl) ?_
      refine cg_X6_25 X h_l0 hS dX6_ofText_105 ?_
      obtain ⟨rfl, rfl⟩ := so9 h
      exact hE _ _ _ _ hS dX6_ofText_108
    · have h := ip (c_2) h
      refine lv_aload_n hx hb dX6_ofText_75 rfl (lv_at hl 0 rfl) ?_
      refine cg_X6_21 X h_l0 hS dX6_ofText_76 ?_
      refine lv_iload hx hb dX6_ofText_79 (lv_at hl 3 rfl) ?_
      obtain ⟨i_3, h⟩ := ix_of h
      refine cq_2 X h_l0 hS i_3 dX6_ofText_81 ?_
      refine cg_X6_121 X (bn_2 h_l0 i_3) hS dX6_ofText_82 ?_
      refine lv_lload_n hx hb dX6_ofText_85 rfl (lv_at hl 1 rfl) ?_
      refine W.lcmp hx hb dX6_ofText_86 ?_
      refine lv_if_ne (tgt := 98) hx hb dX6_ofText_87 (by decide) (fun c_4 => ?_) (fun c_4 => ?_)
      · have h := im (mt (lg_cmp_eq _ _).mpr c_4) h
        refine lv_iinc (v := l4 + 1) (lv' := [(4, .int (l4 + 1)), (0, .ref (Z (300 + 50 * l0))), (1, .long l1), (3, .int l3)]) hx hb dX6_ofText_98 hl (k := 3) rfl rfl (by decide) rfl (fun ls hl => ?_)
        refine lv_goto (tgt := 61) hx hb dX6_ofText_101 (by decide) ?_
        exact hR_61 _ _ _ _ _ h_l0 h _ _ _ hS (lv_sub hl [1, 2, 3, 0] rfl)
      · have h := ip ((lg_cmp_eq _ _).mp c_4) h
        refine lv_aload_n hx hb dX6_ofText_90 rfl (lv_at hl 0 rfl) ?_
        refine cg_X6_21 X h_l0 hS dX6_ofText_91 ?_
        refine lv_iload hx hb dX6_ofText_94 (lv_at hl 3 rfl) ?_
        obtain ⟨i_5, h⟩ := ix_of h
        refine cq_2 X h_l0 hS i_5 dX6_ofText_96 ?_
        obtain ⟨rfl, rfl⟩ := so9 h
        exact hE _ _ _ _ hS dX6_ofText_97
def LP_X6_ofText_61 (N : Nat) : Nat → Nat × Int64 × Int32 × Int32 × CSt → Option (Nat × CSt) := lp (fun R a => B_X6_ofText_61 N R a.1 a.2.1 a.2.2.1 a.2.2.2.1 a.2.2.2.2)
theorem bl_X6_ofText_61 {r : Nat} (X : CC p s m args c cX6_ofText 6 (Cond.code yX6_ofText cX6_ofText 6 (some (.object "SoftController$Name"))) RX6 D kA V A) (hE : CEr p l e R s m args below meth c cX6_ofText D kA Z A Q r w) (hF : 0 ≤ R.frames) (hL : 0 ≤ R.locals)  : ∀ (n : Nat) (l0 : Nat) (l1 : Int64) (l3 : Int32) (l4 : Int32) (u : CSt), l0 < 2 → LP_X6_ofText_61 N n (l0, l1, l3, l4, u) = some (r, w) → ∀ (H : Heap) (locs : List Loc) (ls : Array Slot), CS D kA Z A s u H locs → lv_has ls 6 [(0, .ref (Z (300 + 50 * l0))), (1, .long l1), (3, .int l3), (4, .int l4)] → W p l e R s m args below meth c H locs 0 0 Q (F0 m 61 ls []) := by
  intro n
  induction n with
  | zero => intro l0 l1 l3 l4 u h_l0 h; exact nomatch h
  | succ n ih => intro l0 l1 l3 l4 u h_l0 h H locs ls hS hl; exact b_X6_ofText_61 (N := N) (R_61 := LP_X6_ofText_61 N n) X hE  hF hL  ih h h_l0 hS hl
def B_X6_ofText_3 (N : Nat) (R_3 : Nat × Int64 × Int32 × Int32 × CSt → Option (Nat × CSt)) (l0 : Nat) (l1 : Int64) (l3 : Int32) (l4 : Int32) (u : CSt) : Option (Nat × CSt) := if (pI u l0 12) ≤ l4 then (LP_X6_ofText_61 N N (l0, l1, l3, 0, u)) else (ix 160 l4 <| if (mL u (169 * l0 + l4.toNatClampNeg) 0) = l1 then (if (mI u (169 * l0 + l4.toNatClampNeg) 1) = l3 then (if (4 : Int32) < (mI u (169 * l0 + l4.toNatClampNeg) 2) then (B_X6_ofText_52 N R_3 l0 l1 l3 l4 u) else (some (169 * l0 + l4.toNatClampNeg, u))) else (B_X6_ofText_52 N R_3 l0 l1 l3 l4 u)) else (B_X6_ofText_52 N R_3 l0 l1 l3 l4 u))
set_option maxHeartbeats 4000000 in
theorem b_X6_ofText_3 {r : Nat} (X : CC p s m args c cX6_ofText 6 (Cond.code yX6_ofText cX6_ofText 6 (some (.object "SoftController$Name"))) RX6 D kA V A) (hE : CEr p l e R s m args below meth c cX6_ofText D kA Z A Q r w) (hF : 0 ≤ R.frames) (hL : 0 ≤ R.locals) {R_3 : Nat × Int64 × Int32 × Int32 × CSt → Option (Nat × CSt)} {l0 : Nat} {l1 : Int64} {l3 : Int32} {l4 : Int32} {u : CSt} (hR_3 : ∀ (l0 : Nat) (l1 : Int64) (l3 : Int32) (l4 : Int32) (u : CSt), l0 < 2 → R_3 (l0, l1, l3, l4, u) = some (r, w) → ∀ (H : Heap) (locs : List Loc) (ls : Array Slot), CS D kA Z A s u H locs → lv_has ls 6 [(0, .ref (Z (300 + 50 * l0))), (1, .long l1), (3, .int l3), (4, .int l4)] → W p l e R s m args below meth c H locs 0 0 Q (F0 m 3 ls [])) (h : B_X6_ofText_3 N R_3 l0 l1 l3 l4 u = some (r, w)) (h_l0 : l0 < 2) (hS : CS D kA Z A s u H locs) (hl : lv_has ls 6 [(0, .ref (Z (300 + 50 * l0))), (1, .long l1), (3, .int l3), (4, .int l4)]) : W p l e R s m args below meth c H locs 0 0 Q (F0 m 3 ls []) := by
  obtain ⟨⟨hx, hb, hml, hown, hts⟩, hK, hEV, hA⟩ := id X
  have hG : ∀ w ∈ GW, w.before args s = true := fun w h => hts w (List.mem_cons_of_mem _ h)
  unfold B_X6_ofText_3 at h
  refine lv_iload hx hb dX6_ofText_3 (lv_at hl 3 rfl) ?_
  refine lv_aload_n hx hb dX6_ofText_5 rfl (lv_at hl 0 rfl) ?_
  refine cg_X6_92 X h_l0 hS dX6_ofText_6 ?_
  refine lv_icmp_ge (tgt := 58) hx hb dX6_ofText_9 (by decide) (fun c_6 => ?_) (fun c_6 => ?_)
  · have h := ip (c_6) h
    refine lv_iconst (v := 0) hx hb dX6_ofText_58 (by decide) ?_
    refine lv_istore (lv' := [(4, .int 0), (0, .ref (Z (300 + 50 * l0))), (1, .long l1), (3, .int l3)]) hx hb dX6_ofText_59 hl (by decide) rfl (fun ls hl => ?_)
    exact bl_X6_ofText_61 X hE  hF hL  _ _ _ _ _ _ h_l0 h _ _ _ hS (lv_sub hl [1, 2, 3, 0] rfl)
  · have h := im (c_6) h
    refine lv_aload_n hx hb dX6_ofText_12 rfl (lv_at hl 0 rfl) ?_
    refine cg_X6_11 X h_l0 hS dX6_ofText_13 ?_
    refine lv_iload hx hb dX6_ofText_16 (lv_at hl 3 rfl) ?_
    obtain ⟨i_7, h⟩ := ix_of h
    refine cq_1 X h_l0 hS i_7 dX6_ofText_18 ?_
    refine lv_astore (lv' := [(5, .ref (Z (1000 + (169 * l0 + l4.toNatClampNeg)))), (0, .ref (Z (300 + 50 * l0))), (1, .long l1), (3, .int l3), (4, .int l4)]) hx hb dX6_ofText_19 hl (by decide) rfl (fun ls hl => ?_)
    refine lv_aload hx hb dX6_ofText_21 (lv_at hl 0 rfl) ?_
    refine cg_X6_121 X (bn_1 h_l0 i_7) hS dX6_ofText_23 ?_
    refine lv_lload_n hx hb dX6_ofText_26 rfl (lv_at hl 2 rfl) ?_
    refine W.lcmp hx hb dX6_ofText_27 ?_
    refine lv_if_ne (tgt := 52) hx hb dX6_ofText_28 (by decide) (fun c_8 => ?_) (fun c_8 => ?_)
    · have h := im (mt (lg_cmp_eq _ _).mpr c_8) h
      exact b_X6_ofText_52 X hE  hF hL hR_3 h h_l0 hS (lv_sub hl [1, 2, 3, 4] rfl)
    · have h := ip ((lg_cmp_eq _ _).mp c_8) h
      refine lv_aload hx hb dX6_ofText_31 (lv_at hl 0 rfl) ?_
      refine cg_X6_125 X (bn_1 h_l0 i_7) hS dX6_ofText_33 ?_
      refine lv_iload_n hx hb dX6_ofText_36 rfl (lv_at hl 3 rfl) ?_
      refine lv_icmp_ne (tgt := 52) hx hb dX6_ofText_37 (by decide) (fun c_9 => ?_) (fun c_9 => ?_)
      · have h := im (c_9) h
        exact b_X6_ofText_52 X hE  hF hL hR_3 h h_l0 hS (lv_sub hl [1, 2, 3, 4] rfl)
      · have h := ip (c_9) h
        refine lv_aload hx hb dX6_ofText_40 (lv_at hl 0 rfl) ?_
        refine cg_X6_128 X (bn_1 h_l0 i_7) hS dX6_ofText_42 ?_
        refine lv_iconst (v := 4) hx hb dX6_ofText_45 (by decide) ?_
        refine lv_icmp_gt (tgt := 52) hx hb dX6_ofText_46 (by decide) (fun c_10 => ?_) (fun c_10 => ?_)
        · have h := ip (c_10) h
          exact b_X6_ofText_52 X hE  hF hL hR_3 h h_l0 hS (lv_sub hl [1, 2, 3, 4] rfl)
        · have h := im (c_10) h
          refine lv_aload hx hb dX6_ofText_49 (lv_at hl 0 rfl) ?_
          obtain ⟨rfl, rfl⟩ := so9 h
          exact hE _ _ _ _ hS dX6_ofText_51
def LP_X6_ofText_3 (N : Nat) : Nat → Nat × Int64 × Int32 × Int32 × CSt → Option (Nat × CSt) := lp (fun R a => B_X6_ofText_3 N R a.1 a.2.1 a.2.2.1 a.2.2.2.1 a.2.2.2.2)
theorem bl_X6_ofText_3 {r : Nat} (X : CC p s m args c cX6_ofText 6 (Cond.code yX6_ofText cX6_ofText 6 (some (.object "SoftController$Name"))) RX6 D kA V A) (hE : CEr p l e R s m args below meth c cX6_ofText D kA Z A Q r w) (hF : 0 ≤ R.frames) (hL : 0 ≤ R.locals)  : ∀ (n : Nat) (l0 : Nat) (l1 : Int64) (l3 : Int32) (l4 : Int32) (u : CSt), l0 < 2 → LP_X6_ofText_3 N n (l0, l1, l3, l4, u) = some (r, w) → ∀ (H : Heap) (locs : List Loc) (ls : Array Slot), CS D kA Z A s u H locs → lv_has ls 6 [(0, .ref (Z (300 + 50 * l0))), (1, .long l1), (3, .int l3), (4, .int l4)] → W p l e R s m args below meth c H locs 0 0 Q (F0 m 3 ls []) := by
  intro n
  induction n with
  | zero => intro l0 l1 l3 l4 u h_l0 h; exact nomatch h
  | succ n ih => intro l0 l1 l3 l4 u h_l0 h H locs ls hS hl; exact b_X6_ofText_3 (N := N) (R_3 := LP_X6_ofText_3 N n) X hE  hF hL  ih h h_l0 hS hl
def B_X6_ofText_0 (N : Nat) (l0 : Nat) (l1 : Int64) (l3 : Int32) (u : CSt) : Option (Nat × CSt) := LP_X6_ofText_3 N N (l0, l1, l3, 0, u)
set_option maxHeartbeats 4000000 in
theorem b_X6_ofText_0 {r : Nat} (X : CC p s m args c cX6_ofText 6 (Cond.code yX6_ofText cX6_ofText 6 (some (.object "SoftController$Name"))) RX6 D kA V A) (hE : CEr p l e R s m args below meth c cX6_ofText D kA Z A Q r w) (hF : 0 ≤ R.frames) (hL : 0 ≤ R.locals) {l0 : Nat} {l1 : Int64} {l3 : Int32} {u : CSt}  (h : B_X6_ofText_0 N l0 l1 l3 u = some (r, w)) (h_l0 : l0 < 2) (hS : CS D kA Z A s u H locs) (hl : lv_has ls 6 [(0, .ref (Z (300 + 50 * l0))), (1, .long l1), (3, .int l3)]) : W p l e R s m args below meth c H locs 0 0 Q (F0 m 0 ls []) := by
  obtain ⟨⟨hx, hb, hml, hown, hts⟩, hK, hEV, hA⟩ := id X
  have hG : ∀ w ∈ GW, w.before args s = true := fun w h => hts w (List.mem_cons_of_mem _ h)
  unfold B_X6_ofText_0 at h
  refine lv_iconst (v := 0) hx hb dX6_ofText_0 (by decide) ?_
  refine lv_istore (lv' := [(4, .int 0), (0, .ref (Z (300 + 50 * l0))), (1, .long l1), (3, .int l3)]) hx hb dX6_ofText_1 hl (by decide) rfl (fun ls hl => ?_)
  exact bl_X6_ofText_3 X hE  hF hL  _ _ _ _ _ _ h_l0 h _ _ _ hS (lv_sub hl [1, 2, 3, 0] rfl)
def F_X6_ofText (N : Nat) (l0 : Nat) (l1 : Int64) (l3 : Int32) (u : CSt) : Option (Nat × CSt) := B_X6_ofText_0 N l0 l1 l3 u
set_option maxHeartbeats 4000000 in
theorem k_X6_ofText (l : Launch) (D : va_G) (kA : Nat → ClassId) (V Z : Nat → Nat) (N : Nat) (l0 : Nat) (l1 : Int64) (l3 : Int32) (h_l0 : l0 < 2) (u : CSt) (sz : Nat) {r : Nat} {w : CSt} (h : F_X6_ofText N l0 l1 l3 u = some (r, w)) : Met l yX6_ofText (Cond.code yX6_ofText cX6_ofText 6 (some (.object "SoftController$Name")) :: GW) { frames := 0, cells := 0, slots := 0, locals := 0 } (cPc D kA V Z [.ref (Z (300 + 50 * l0)), .long l1, .int l3] u sz) (cQr D kA Z u sz r w) 0 0 (va_A (CW kA Z u) sz) := by
  refine Met.ofW (cc := cX6_ofText) (maxL := 6) (ret := (some (.object "SoftController$Name"))) (by decide) rfl ?_
  intro p e s m args below meth c s₁ Bd hml hv
  obtain ⟨rfl, hsz, hP, hK, hD0, hE⟩ := hv
  have hts := atoms_spec (ws := Cond.code yX6_ofText cX6_ofText 6 (some (.object "SoftController$Name")) :: GW) Bd.pre
  have hl := lv_entry ([.ref (Z (300 + 50 * l0)), .long l1, .int l3]) (n := 6) (Nat.le_of_ble_eq_true rfl)
  rw [lg_entry_eq]
  generalize (lg_sl ([.ref (Z (300 + 50 * l0)), .long l1, .int l3]) ++ List.replicate (6 - (lg_sl ([.ref (Z (300 + 50 * l0)), .long l1, .int l3])).length) Slot.unset).toArray = ls at hl ⊢
  have hl : lv_has ls 6 [(0, .ref (Z (300 + 50 * l0))), (1, .long l1), (3, .int l3)] := hl
  subst hsz
  have X : CC p s m ([.ref (Z (300 + 50 * l0)), .long l1, .int l3]).toArray c cX6_ofText 6 (Cond.code yX6_ofText cX6_ofText 6 (some (.object "SoftController$Name"))) RX6 D kA V (va_A (CW kA Z u) s.heap.size) := ⟨⟨Bd.exec, Bd.bytes, hml, findClass_of_methodNamed Bd.named, hts⟩, hK, hE, fun q h => Or.inr h⟩
  refine b_X6_ofText_0 X (cend_r X Bd.returns Bd.notSynchronized) (Nat.le_refl _) (Nat.le_refl _) h h_l0 ⟨hP, hD0.self, va_S.rf⟩ (lv_sub hl [0, 1, 2] rfl)
theorem kc_X6_ofText_RX3 {cc : ByteArray} {pc nL : Nat} {c0 : Cond} {rest : List Value} {l0 : Nat} {l1 : Int64} {l3 : Int32} {u w1 : CSt} {r : Nat} (X : CC p s m args c cc nL c0 RX3 D kA V A) (h_l0 : l0 < 2) (hS : CS D kA Z A s u H locs) (h : F_X6_ofText N l0 l1 l3 u = some (r, w1)) (hF : 0 + 1 ≤ R.frames) (hL : 8 + (6 + 11) + 0 ≤ R.locals) (hl : ls.size = nL) (hc : (rest.map fun v => v.category).sum ≤ 8) (hdg : decode cc pc = .ok (.invokevirtual 106, 3)) (kk : ∀ H locs, CS D kA Z A s w1 H locs → W p l e R s m args below meth c H locs 0 0 Q (F0 m (pc + 3) ls (.ref (Z (1000 + r)) :: rest))) : W p l e R s m args below meth c H locs 0 0 Q (F0 m pc ls (.int l3 :: .long l1 :: .ref (Z (300 + 50 * l0)) :: rest)) :=
  ccall_r (n := 2) X hS (k_X6_ofText l D kA V Z N l0 l1 l3 h_l0 u H.size h) (gw_V gw_1029 gw_1030 gw_1031 gw_10 gw_1032) (by decide +kernel) (cp_recv X.2.1 h_l0 hS) hF hL rfl hl hc rfl hdg kk
theorem kc_X6_ofText_RX8 {cc : ByteArray} {pc nL : Nat} {c0 : Cond} {rest : List Value} {l0 : Nat} {l1 : Int64} {l3 : Int32} {u w1 : CSt} {r : Nat} (X : CC p s m args c cc nL c0 RX8 D kA V A) (h_l0 : l0 < 2) (hS : CS D kA Z A s u H locs) (h : F_X6_ofText N l0 l1 l3 u = some (r, w1)) (hF : 0 + 1 ≤ R.frames) (hL : 8 + (6 + 11) + 0 ≤ R.locals) (hl : ls.size = nL) (hc : (rest.map fun v => v.category).sum ≤ 8) (hdg : decode cc pc = .ok (.invokevirtual 64, 3)) (kk : ∀ H locs, CS D kA Z A s w1 H locs → W p l e R s m args below meth c H locs 0 0 Q (F0 m (pc + 3) ls (.ref (Z (1000 + r)) :: rest))) : W p l e R s m args below meth c H locs 0 0 Q (F0 m pc ls (.int l3 :: .long l1 :: .ref (Z (300 + 50 * l0)) :: rest)) :=
  ccall_r (n := 2) X hS (k_X6_ofText l D kA V Z N l0 l1 l3 h_l0 u H.size h) (gw_V gw_1182 gw_1030 gw_1031 gw_10 gw_1032) (by decide +kernel) (cp_recv X.2.1 h_l0 hS) hF hL rfl hl hc rfl hdg kk
theorem kc_X6_ofText_RX2 {cc : ByteArray} {pc nL : Nat} {c0 : Cond} {rest : List Value} {l0 : Nat} {l1 : Int64} {l3 : Int32} {u w1 : CSt} {r : Nat} (X : CC p s m args c cc nL c0 RX2 D kA V A) (h_l0 : l0 < 2) (hS : CS D kA Z A s u H locs) (h : F_X6_ofText N l0 l1 l3 u = some (r, w1)) (hF : 0 + 1 ≤ R.frames) (hL : 8 + (6 + 11) + 0 ≤ R.locals) (hl : ls.size = nL) (hc : (rest.map fun v => v.category).sum ≤ 8) (hdg : decode cc pc = .ok (.invokevirtual 108, 3)) (kk : ∀ H locs, CS D kA Z A s w1 H locs → W p l e R s m args below meth c H locs 0 0 Q (F0 m (pc + 3) ls (.ref (Z (1000 + r)) :: rest))) : W p l e R s m args below meth c H locs 0 0 Q (F0 m pc ls (.int l3 :: .long l1 :: .ref (Z (300 + 50 * l0)) :: rest)) :=
  ccall_r (n := 2) X hS (k_X6_ofText l D kA V Z N l0 l1 l3 h_l0 u H.size h) (gw_V gw_1404 gw_1030 gw_1031 gw_10 gw_1032) (by decide +kernel) (cp_recv X.2.1 h_l0 hS) hF hL rfl hl hc rfl hdg kk
theorem kc_X6_ofText_RX11 {cc : ByteArray} {pc nL : Nat} {c0 : Cond} {rest : List Value} {l0 : Nat} {l1 : Int64} {l3 : Int32} {u w1 : CSt} {r : Nat} (X : CC p s m args c cc nL c0 RX11 D kA V A) (h_l0 : l0 < 2) (hS : CS D kA Z A s u H locs) (h : F_X6_ofText N l0 l1 l3 u = some (r, w1)) (hF : 0 + 1 ≤ R.frames) (hL : 8 + (6 + 11) + 0 ≤ R.locals) (hl : ls.size = nL) (hc : (rest.map fun v => v.category).sum ≤ 8) (hdg : decode cc pc = .ok (.invokevirtual 275, 3)) (kk : ∀ H locs, CS D kA Z A s w1 H locs → W p l e R s m args below meth c H locs 0 0 Q (F0 m (pc + 3) ls (.ref (Z (1000 + r)) :: rest))) : W p l e R s m args below meth c H locs 0 0 Q (F0 m pc ls (.int l3 :: .long l1 :: .ref (Z (300 + 50 * l0)) :: rest)) :=
  ccall_r (n := 2) X hS (k_X6_ofText l D kA V Z N l0 l1 l3 h_l0 u H.size h) (gw_V gw_1782 gw_1030 gw_1031 gw_10 gw_1032) (by decide +kernel) (cp_recv X.2.1 h_l0 hS) hF hL rfl hl hc rfl hdg kk
def B_X6_add_86 (N : Nat) (l0 : Nat) (l5 : Nat) (u : CSt) : Option (Nat × CSt) := pc (xpI u l0 12 ((pI u l0 12) + 1)) fun u_1 => some (l5, u_1)
set_option maxHeartbeats 4000000 in
theorem b_X6_add_86 {r : Nat} (X : CC p s m args c cX6_add 6 (Cond.code yX6_add cX6_add 6 (some (.object "SoftController$Name"))) RX6 D kA V A) (hE : CEr p l e R s m args below meth c cX6_add D kA Z A Q r w) (hF : 1 ≤ R.frames) (hL : 24 ≤ R.locals) {l0 : Nat} {l5 : Nat} {u : CSt}  (h : B_X6_add_86 N l0 l5 u = some (r, w)) (h_l0 : l0 < 2) (h_l5 : l5 < 338) (hS : CS D kA Z A s u H locs) (hl : lv_has ls 6 [(0, .ref (Z (300 + 50 * l0))), (5, .ref (Z (1000 + l5)))]) : W p l e R s m args below meth c H locs 0 0 Q (F0 m 86 ls []) := by
  obtain ⟨⟨hx, hb, hml, hown, hts⟩, hK, hEV, hA⟩ := id X
  have hG : ∀ w ∈ GW, w.before args s = true := fun w h => hts w (List.mem_cons_of_mem _ h)
  unfold B_X6_add_86 at h
  refine lv_aload_n hx hb dX6_add_86 rfl (lv_at hl 0 rfl) ?_
  refine lv_dup hx hb dX6_add_87 rfl ?_
  refine cg_X6_92 X h_l0 hS dX6_add_88 ?_
  refine lv_iconst (v := 1) hx hb dX6_add_91 (by decide) ?_
  refine lv_iadd hx hb dX6_add_92 ?_
  obtain ⟨u_1, e_u_1, h⟩ := pc_of h
  refine cp_X6_92 X h_l0 hS e_u_1 dX6_add_93 (fun H locs hS => ?_)
  refine lv_aload hx hb dX6_add_96 (lv_at hl 1 rfl) ?_
  obtain ⟨rfl, rfl⟩ := so9 h
  exact hE _ _ _ _ hS dX6_add_98
def B_X6_add_0 (N : Nat) (l0 : Nat) (l1 : Int32) (l2 : Int64) (l4 : Int32) (u : CSt) : Option (Nat × CSt) := if (pI u l0 12) < (160 : Int32) then (ix 160 (pI u l0 12) <| bc (F_X4_become N (169 * l0 + (pI u l0 12).toNatClampNeg) l1 l2 l4 u) fun _ u_4 => pc (xmI u_4 (169 * l0 + (pI u l0 12).toNatClampNeg) 3 (pI u_4 l0 12)) fun u_5 => if (4 : Int32) < l1 then (B_X6_add_86 N l0 (169 * l0 + (pI u l0 12).toNatClampNeg) u_5) else (rd (pA u_5 l0 9) 5 l1 fun v_8 => pc (xmI u_5 (169 * l0 + (pI u l0 12).toNatClampNeg) 4 v_8) fun u_9 => ix 5 l1 <| wc 160 (mI u_9 (169 * l0 + (pI u l0 12).toNatClampNeg) 4) (xpA u_9 l0 (4 + l1.toNatClampNeg) (mI u_9 (169 * l0 + (pI u l0 12).toNatClampNeg) 4).toNatClampNeg (pI u_9 l0 12)) fun u_12 => rd (pA u_12 l0 9) 5 l1 fun v_14 => wc 5 l1 (xpA u_12 l0 9 l1.toNatClampNeg (v_14 + 1)) fun u_16 => B_X6_add_86 N l0 (169 * l0 + (pI u l0 12).toNatClampNeg) u_16)) else (some (169 * l0 + 168, u))
set_option maxHeartbeats 4000000 in
theorem b_X6_add_0 {r : Nat} (X : CC p s m args c cX6_add 6 (Cond.code yX6_add cX6_add 6 (some (.object "SoftController$Name"))) RX6 D kA V A) (hE : CEr p l e R s m args below meth c cX6_add D kA Z A Q r w) (hF : 1 ≤ R.frames) (hL : 24 ≤ R.locals) {l0 : Nat} {l1 : Int32} {l2 : Int64} {l4 : Int32} {u : CSt}  (h : B_X6_add_0 N l0 l1 l2 l4 u = some (r, w)) (h_l0 : l0 < 2) (hS : CS D kA Z A s u H locs) (hl : lv_has ls 6 [(0, .ref (Z (300 + 50 * l0))), (1, .int l1), (2, .long l2), (4, .int l4)]) : W p l e R s m args below meth c H locs 0 0 Q (F0 m 0 ls []) := by
  obtain ⟨⟨hx, hb, hml, hown, hts⟩, hK, hEV, hA⟩ := id X
  have hG : ∀ w ∈ GW, w.before args s = true := fun w h => hts w (List.mem_cons_of_mem _ h)
  unfold B_X6_add_0 at h
  refine lv_aload_n hx hb dX6_add_0 rfl (lv_at hl 0 rfl) ?_
  refine cg_X6_92 X h_l0 hS dX6_add_1 ?_
  refine lv_sipush (v := 160) hx hb dX6_add_4 (by decide) ?_
  refine lv_icmp_lt (tgt := 15) hx hb dX6_add_7 (by decide) (fun c_2 => ?_) (fun c_2 => ?_)
  · have h := ip (c_2) h
    refine lv_aload_n hx hb dX6_add_15 rfl (lv_at hl 0 rfl) ?_
    refine cg_X6_11 X h_l0 hS dX6_add_16 ?_
    refine lv_aload_n hx hb dX6_add_19 rfl (lv_at hl 0 rfl) ?_
    refine cg_X6_92 X h_l0 hS dX6_add_20 ?_
    obtain ⟨i_3, h⟩ := ix_of h
    refine cq_1 X h_l0 hS i_3 dX6_add_23 ?_
    refine lv_astore (lv' := [(5, .ref (Z (1000 + (169 * l0 + (pI u l0 12).toNatClampNeg)))), (0, .ref (Z (300 + 50 * l0))), (1, .int l1), (2, .long l2), (4, .int l4)]) hx hb dX6_add_24 hl (by decide) rfl (fun ls hl => ?_)
    refine lv_aload hx hb dX6_add_26 (lv_at hl 0 rfl) ?_
    refine lv_iload_n hx hb dX6_add_28 rfl (lv_at hl 2 rfl) ?_
    refine lv_lload_n hx hb dX6_add_29 rfl (lv_at hl 3 rfl) ?_
    refine lv_iload hx hb dX6_add_30 (lv_at hl 4 rfl) ?_
    obtain ⟨r_u_4, u_4, h_u_4, h⟩ := bc_of h
    refine kc_X4_become_RX6 X (bn_1 h_l0 i_3) hS h_u_4 (Nat.le_trans (Nat.le_of_ble_eq_true rfl) hF) (Nat.le_trans (Nat.le_of_ble_eq_true rfl) hL) hl.1 (Nat.le_of_ble_eq_true rfl) dX6_add_32 (fun H locs hS => ?_)
    refine lv_aload hx hb dX6_add_35 (lv_at hl 0 rfl) ?_
    refine lv_aload_n hx hb dX6_add_37 rfl (lv_at hl 1 rfl) ?_
    refine cg_X6_92 X h_l0 hS dX6_add_38 ?_
    obtain ⟨u_5, e_u_5, h⟩ := pc_of h
    refine cp_X6_118 X (bn_1 h_l0 i_3) hS e_u_5 dX6_add_41 (fun H locs hS => ?_)
    refine lv_iload_n hx hb dX6_add_44 rfl (lv_at hl 2 rfl) ?_
    refine lv_iconst (v := 4) hx hb dX6_add_45 (by decide) ?_
    refine lv_icmp_gt (tgt := 86) hx hb dX6_add_46 (by decide) (fun c_6 => ?_) (fun c_6 => ?_)
    · have h := ip (c_6) h
      exact b_X6_add_86 X hE  hF hL  h h_l0 (bn_1 h_l0 i_3) hS (lv_sub hl [1, 0] rfl)
    · have h := im (c_6) h
      refine lv_aload hx hb dX6_add_49 (lv_at hl 0 rfl) ?_
      refine lv_aload_n hx hb dX6_add_51 rfl (lv_at hl 1 rfl) ?_
      refine cg_X6_34 X h_l0 hS dX6_add_52 ?_
      refine lv_iload_n hx hb dX6_add_55 rfl (lv_at hl 2 rfl) ?_
      obtain ⟨v_8, e_v_8, i_7, h⟩ := rd_of h
      refine ca_p9 X h_l0 hS i_7 e_v_8 dX6_add_56 ?_
      obtain ⟨u_9, e_u_9, h⟩ := pc_of h
      refine cp_X6_79 X (bn_1 h_l0 i_3) hS e_u_9 dX6_add_57 (fun H locs hS => ?_)
      refine lv_aload_n hx hb dX6_add_60 rfl (lv_at hl 1 rfl) ?_
      refine cg_X6_31 X h_l0 hS dX6_add_61 ?_
      refine lv_iload_n hx hb dX6_add_64 rfl (lv_at hl 2 rfl) ?_
      obtain ⟨i_10, h⟩ := ix_of h
      refine cq_3 X h_l0 hS i_10 dX6_add_65 ?_
      refine lv_aload hx hb dX6_add_66 (lv_at hl 0 rfl) ?_
      refine cg_X6_79 X (bn_1 h_l0 i_3) hS dX6_add_68 ?_
      refine lv_aload_n hx hb dX6_add_71 rfl (lv_at hl 1 rfl) ?_
      refine cg_X6_92 X h_l0 hS dX6_add_72 ?_
      obtain ⟨u_12, e_u_12, i_11, h⟩ := wc_of h
      refine cs_o X h_l0 (vpin_lt i_10) hS i_11 e_u_12 dX6_add_75 (fun H locs hS => ?_)
      refine lv_aload_n hx hb dX6_add_76 rfl (lv_at hl 1 rfl) ?_
      refine cg_X6_34 X h_l0 hS dX6_add_77 ?_
      refine lv_iload_n hx hb dX6_add_80 rfl (lv_at hl 2 rfl) ?_
      refine lv_dup2_11 hx hb dX6_add_81 rfl rfl ?_
      obtain ⟨v_14, e_v_14, i_13, h⟩ := rd_of h
      refine ca_p9 X h_l0 hS i_13 e_v_14 dX6_add_82 ?_
      refine lv_iconst (v := 1) hx hb dX6_add_83 (by decide) ?_
      refine lv_iadd hx hb dX6_add_84 ?_
      obtain ⟨u_16, e_u_16, i_15, h⟩ := wc_of h
      refine cs_p9 X h_l0 hS i_15 e_u_16 dX6_add_85 (fun H locs hS => ?_)
      exact b_X6_add_86 X hE  hF hL  h h_l0 (bn_1 h_l0 i_3) hS (lv_sub hl [1, 0] rfl)
  · have h := im (c_2) h
    refine lv_aload_n hx hb dX6_add_10 rfl (lv_at hl 0 rfl) ?_
    refine cg_X6_25 X h_l0 hS dX6_add_11 ?_
    obtain ⟨rfl, rfl⟩ := so9 h
    exact hE _ _ _ _ hS dX6_add_14
def F_X6_add (N : Nat) (l0 : Nat) (l1 : Int32) (l2 : Int64) (l4 : Int32) (u : CSt) : Option (Nat × CSt) := B_X6_add_0 N l0 l1 l2 l4 u
set_option maxHeartbeats 4000000 in
theorem k_X6_add (l : Launch) (D : va_G) (kA : Nat → ClassId) (V Z : Nat → Nat) (N : Nat) (l0 : Nat) (l1 : Int32) (l2 : Int64) (l4 : Int32) (h_l0 : l0 < 2) (u : CSt) (sz : Nat) {r : Nat} {w : CSt} (h : F_X6_add N l0 l1 l2 l4 u = some (r, w)) : Met l yX6_add (Cond.code yX6_add cX6_add 6 (some (.object "SoftController$Name")) :: GW) { frames := 1, cells := 0, slots := 0, locals := 24 } (cPc D kA V Z [.ref (Z (300 + 50 * l0)), .int l1, .long l2, .int l4] u sz) (cQr D kA Z u sz r w) 0 0 (va_A (CW kA Z u) sz) := by
  refine Met.ofW (cc := cX6_add) (maxL := 6) (ret := (some (.object "SoftController$Name"))) (by decide) rfl ?_
  intro p e s m args below meth c s₁ Bd hml hv
  obtain ⟨rfl, hsz, hP, hK, hD0, hE⟩ := hv
  have hts := atoms_spec (ws := Cond.code yX6_add cX6_add 6 (some (.object "SoftController$Name")) :: GW) Bd.pre
  have hl := lv_entry ([.ref (Z (300 + 50 * l0)), .int l1, .long l2, .int l4]) (n := 6) (Nat.le_of_ble_eq_true rfl)
  rw [lg_entry_eq]
  generalize (lg_sl ([.ref (Z (300 + 50 * l0)), .int l1, .long l2, .int l4]) ++ List.replicate (6 - (lg_sl ([.ref (Z (300 + 50 * l0)), .int l1, .long l2, .int l4])).length) Slot.unset).toArray = ls at hl ⊢
  have hl : lv_has ls 6 [(0, .ref (Z (300 + 50 * l0))), (1, .int l1), (2, .long l2), (4, .int l4)] := hl
  subst hsz
  have X : CC p s m ([.ref (Z (300 + 50 * l0)), .int l1, .long l2, .int l4]).toArray c cX6_add 6 (Cond.code yX6_add cX6_add 6 (some (.object "SoftController$Name"))) RX6 D kA V (va_A (CW kA Z u) s.heap.size) := ⟨⟨Bd.exec, Bd.bytes, hml, findClass_of_methodNamed Bd.named, hts⟩, hK, hE, fun q h => Or.inr h⟩
  refine b_X6_add_0 X (cend_r X Bd.returns Bd.notSynchronized) (Nat.le_refl _) (Nat.le_refl _) h h_l0 ⟨hP, hD0.self, va_S.rf⟩ (lv_sub hl [0, 1, 2, 3] rfl)
theorem kc_X6_add_RX3 {cc : ByteArray} {pc nL : Nat} {c0 : Cond} {rest : List Value} {l0 : Nat} {l1 : Int32} {l2 : Int64} {l4 : Int32} {u w1 : CSt} {r : Nat} (X : CC p s m args c cc nL c0 RX3 D kA V A) (h_l0 : l0 < 2) (hS : CS D kA Z A s u H locs) (h : F_X6_add N l0 l1 l2 l4 u = some (r, w1)) (hF : 1 + 1 ≤ R.frames) (hL : 8 + (6 + 11) + 24 ≤ R.locals) (hl : ls.size = nL) (hc : (rest.map fun v => v.category).sum ≤ 8) (hdg : decode cc pc = .ok (.invokevirtual 132, 3)) (kk : ∀ H locs, CS D kA Z A s w1 H locs → W p l e R s m args below meth c H locs 0 0 Q (F0 m (pc + 3) ls (.ref (Z (1000 + r)) :: rest))) : W p l e R s m args below meth c H locs 0 0 Q (F0 m pc ls (.int l4 :: .long l2 :: .int l1 :: .ref (Z (300 + 50 * l0)) :: rest)) :=
  ccall_r (n := 3) X hS (k_X6_add l D kA V Z N l0 l1 l2 l4 h_l0 u H.size h) (gw_V gw_1049 gw_1050 gw_1051 gw_10 gw_1052) (by decide +kernel) (cp_recv X.2.1 h_l0 hS) hF hL rfl hl hc rfl hdg kk
def B_X6_stoppedTasks_32 (N : Nat) (R_4 : Nat × Int32 × Int32 × CSt → Option (Int32 × CSt)) (l0 : Nat) (l2 : Int32) (s0 : Int32) (s1 : Int32) (u : CSt) : Option (Int32 × CSt) := R_4 (l0, (s0 + s1), (l2 + 1), u)
set_option maxHeartbeats 4000000 in
theorem b_X6_stoppedTasks_32 {r : Int32} (X : CC p s m args c cX6_stoppedTasks 3 (Cond.code yX6_stoppedTasks cX6_stoppedTasks 3 (some .int)) RX6 D kA V A) (hE : CEi p l e R s m args below meth c cX6_stoppedTasks D kA Z A Q r w) (hF : 0 ≤ R.frames) (hL : 0 ≤ R.locals) {R_4 : Nat × Int32 × Int32 × CSt → Option (Int32 × CSt)} {l0 : Nat} {l2 : Int32} {s0 : Int32} {s1 : Int32} {u : CSt} (hR_4 : ∀ (l0 : Nat) (l1 : Int32) (l2 : Int32) (u : CSt), l0 < 2 → R_4 (l0, l1, l2, u) = some (r, w) → ∀ (H : Heap) (locs : List Loc) (ls : Array Slot), CS D kA Z A s u H locs → lv_has ls 3 [(0, .ref (Z (300 + 50 * l0))), (1, .int l1), (2, .int l2)] → W p l e R s m args below meth c H locs 0 0 Q (F0 m 4 ls [])) (h : B_X6_stoppedTasks_32 N R_4 l0 l2 s0 s1 u = some (r, w)) (h_l0 : l0 < 2) (hS : CS D kA Z A s u H locs) (hl : lv_has ls 3 [(0, .ref (Z (300 + 50 * l0))), (2, .int l2)]) : W p l e R s m args below meth c H locs 0 0 Q (F0 m 32 ls [.int s1, .int s0]) := by
  obtain ⟨⟨hx, hb, hml, hown, hts⟩, hK, hEV, hA⟩ := id X
  have hG : ∀ w ∈ GW, w.before args s = true := fun w h => hts w (List.mem_cons_of_mem _ h)
  unfold B_X6_stoppedTasks_32 at h
  refine lv_iadd hx hb dX6_stoppedTasks_32 ?_
  refine lv_istore_n (lv' := [(1, .int (s0 + s1)), (0, .ref (Z (300 + 50 * l0))), (2, .int l2)]) hx hb dX6_stoppedTasks_33 rfl hl (by decide) rfl (fun ls hl => ?_)
  refine lv_iinc (v := l2 + 1) (lv' := [(2, .int (l2 + 1)), (1, .int (s0 + s1)), (0, .ref (Z (300 + 50 * l0)))]) hx hb dX6_stoppedTasks_34 hl (k := 2) rfl rfl (by decide) rfl (fun ls hl => ?_)
  refine lv_goto (tgt := 4) hx hb dX6_stoppedTasks_37 (by decide) ?_
  exact hR_4 _ _ _ _ h_l0 h _ _ _ hS (lv_sub hl [2, 1, 0] rfl)
def B_X6_stoppedTasks_4 (N : Nat) (R_4 : Nat × Int32 × Int32 × CSt → Option (Int32 × CSt)) (l0 : Nat) (l1 : Int32) (l2 : Int32) (u : CSt) : Option (Int32 × CSt) := rd (pA u l0 9) 5 2 fun v_2 => if v_2 ≤ l2 then (some (l1, u)) else (ix 8 l2 <| if (tI u (8 * l0 + l2.toNatClampNeg) 3) = (0 : Int32) then (B_X6_stoppedTasks_32 N R_4 l0 l2 l1 0 u) else (B_X6_stoppedTasks_32 N R_4 l0 l2 l1 1 u))
set_option maxHeartbeats 4000000 in
theorem b_X6_stoppedTasks_4 {r : Int32} (X : CC p s m args c cX6_stoppedTasks 3 (Cond.code yX6_stoppedTasks cX6_stoppedTasks 3 (some .int)) RX6 D kA V A) (hE : CEi p l e R s m args below meth c cX6_stoppedTasks D kA Z A Q r w) (hF : 0 ≤ R.frames) (hL : 0 ≤ R.locals) {R_4 : Nat × Int32 × Int32 × CSt → Option (Int32 × CSt)} {l0 : Nat} {l1 : Int32} {l2 : Int32} {u : CSt} (hR_4 : ∀ (l0 : Nat) (l1 : Int32) (l2 : Int32) (u : CSt), l0 < 2 → R_4 (l0, l1, l2, u) = some (r, w) → ∀ (H : Heap) (locs : List Loc) (ls : Array Slot), CS D kA Z A s u H locs → lv_has ls 3 [(0, .ref (Z (300 + 50 * l0))), (1, .int l1), (2, .int l2)] → W p l e R s m args below meth c H locs 0 0 Q (F0 m 4 ls [])) (h : B_X6_stoppedTasks_4 N R_4 l0 l1 l2 u = some (r, w)) (h_l0 : l0 < 2) (hS : CS D kA Z A s u H locs) (hl : lv_has ls 3 [(0, .ref (Z (300 + 50 * l0))), (1, .int l1), (2, .int l2)]) : W p l e R s m args below meth c H locs 0 0 Q (F0 m 4 ls []) := by
  obtain ⟨⟨hx, hb, hml, hown, hts⟩, hK, hEV, hA⟩ := id X
  have hG : ∀ w ∈ GW, w.before args s = true := fun w h => hts w (List.mem_cons_of_mem _ h)
  unfold B_X6_stoppedTasks_4 at h
  refine lv_iload_n hx hb dX6_stoppedTasks_4 rfl (lv_at hl 2 rfl) ?_
  refine lv_aload_n hx hb dX6_stoppedTasks_5 rfl (lv_at hl 0 rfl) ?_
  refine cg_X6_34 X h_l0 hS dX6_stoppedTasks_6 ?_
  refine lv_iconst (v := 2) hx hb dX6_stoppedTasks_9 (by decide) ?_
  obtain ⟨v_2, e_v_2, i_1, h⟩ := rd_of h
  refine ca_p9 X h_l0 hS i_1 e_v_2 dX6_stoppedTasks_10 ?_
  refine lv_icmp_ge (tgt := 40) hx hb dX6_stoppedTasks_11 (by decide) (fun c_3 => ?_) (fun c_3 => ?_)
  · have h := ip (c_3) h
    refine lv_iload_n hx hb dX6_stoppedTasks_40 rfl (lv_at hl 1 rfl) ?_
    obtain ⟨rfl, rfl⟩ := so9 h
    exact hE _ _ _ _ hS dX6_stoppedTasks_41
  · have h := im (c_3) h
    refine lv_iload_n hx hb dX6_stoppedTasks_14 rfl (lv_at hl 1 rfl) ?_
    refine lv_aload_n hx hb dX6_stoppedTasks_15 rfl (lv_at hl 0 rfl) ?_
    refine cg_X6_39 X h_l0 hS dX6_stoppedTasks_16 ?_
    refine lv_iload_n hx hb dX6_stoppedTasks_19 rfl (lv_at hl 2 rfl) ?_
    obtain ⟨i_4, h⟩ := ix_of h
    refine cq_10 X h_l0 hS i_4 dX6_stoppedTasks_20 ?_
    refine cg_X6_134 X (bn_t h_l0 i_4) hS dX6_stoppedTasks_21 ?_
    refine lv_if_eq (tgt := 31) hx hb dX6_stoppedTasks_24 (by decide) (fun c_5 => ?_) (fun c_5 => ?_)
    · have h := ip (c_5) h
      refine lv_iconst (v := 0) hx hb dX6_stoppedTasks_31 (by decide) ?_
      exact b_X6_stoppedTasks_32 X hE  hF hL hR_4 h h_l0 hS (lv_sub hl [0, 2] rfl)
    · have h := im (c_5) h
      refine lv_iconst (v := 1) hx hb dX6_stoppedTasks_27 (by decide) ?_
      refine lv_goto (tgt := 32) hx hb dX6_stoppedTasks_28 (by decide) ?_
      exact b_X6_stoppedTasks_32 X hE  hF hL hR_4 h h_l0 hS (lv_sub hl [0, 2] rfl)
def LP_X6_stoppedTasks_4 (N : Nat) : Nat → Nat × Int32 × Int32 × CSt → Option (Int32 × CSt) := lp (fun R a => B_X6_stoppedTasks_4 N R a.1 a.2.1 a.2.2.1 a.2.2.2)
theorem bl_X6_stoppedTasks_4 {r : Int32} (X : CC p s m args c cX6_stoppedTasks 3 (Cond.code yX6_stoppedTasks cX6_stoppedTasks 3 (some .int)) RX6 D kA V A) (hE : CEi p l e R s m args below meth c cX6_stoppedTasks D kA Z A Q r w) (hF : 0 ≤ R.frames) (hL : 0 ≤ R.locals)  : ∀ (n : Nat) (l0 : Nat) (l1 : Int32) (l2 : Int32) (u : CSt), l0 < 2 → LP_X6_stoppedTasks_4 N n (l0, l1, l2, u) = some (r, w) → ∀ (H : Heap) (locs : List Loc) (ls : Array Slot), CS D kA Z A s u H locs → lv_has ls 3 [(0, .ref (Z (300 + 50 * l0))), (1, .int l1), (2, .int l2)] → W p l e R s m args below meth c H locs 0 0 Q (F0 m 4 ls []) := by
  intro n
  induction n with
  | zero => intro l0 l1 l2 u h_l0 h; exact nomatch h
  | succ n ih => intro l0 l1 l2 u h_l0 h H locs ls hS hl; exact b_X6_stoppedTasks_4 (N := N) (R_4 := LP_X6_stoppedTasks_4 N n) X hE  hF hL  ih h h_l0 hS hl
def B_X6_stoppedTasks_0 (N : Nat) (l0 : Nat) (u : CSt) : Option (Int32 × CSt) := LP_X6_stoppedTasks_4 N N (l0, 0, 0, u)
set_option maxHeartbeats 4000000 in
theorem b_X6_stoppedTasks_0 {r : Int32} (X : CC p s m args c cX6_stoppedTasks 3 (Cond.code yX6_stoppedTasks cX6_stoppedTasks 3 (some .int)) RX6 D kA V A) (hE : CEi p l e R s m args below meth c cX6_stoppedTasks D kA Z A Q r w) (hF : 0 ≤ R.frames) (hL : 0 ≤ R.locals) {l0 : Nat} {u : CSt}  (h : B_X6_stoppedTasks_0 N l0 u = some (r, w)) (h_l0 : l0 < 2) (hS : CS D kA Z A s u H locs) (hl : lv_has ls 3 [(0, .ref (Z (300 + 50 * l0)))]) : W p l e R s m args below meth c H locs 0 0 Q (F0 m 0 ls []) := by
  obtain ⟨⟨hx, hb, hml, hown, hts⟩, hK, hEV, hA⟩ := id X
  have hG : ∀ w ∈ GW, w.before args s = true := fun w h => hts w (List.mem_cons_of_mem _ h)
  unfold B_X6_stoppedTasks_0 at h
  refine lv_iconst (v := 0) hx hb dX6_stoppedTasks_0 (by decide) ?_
  refine lv_istore_n (lv' := [(1, .int 0), (0, .ref (Z (300 + 50 * l0)))]) hx hb dX6_stoppedTasks_1 rfl hl (by decide) rfl (fun ls hl => ?_)
  refine lv_iconst (v := 0) hx hb dX6_stoppedTasks_2 (by decide) ?_
  refine lv_istore_n (lv' := [(2, .int 0), (1, .int 0), (0, .ref (Z (300 + 50 * l0)))]) hx hb dX6_stoppedTasks_3 rfl hl (by decide) rfl (fun ls hl => ?_)
  exact bl_X6_stoppedTasks_4 X hE  hF hL  _ _ _ _ _ h_l0 h _ _ _ hS (lv_sub hl [2, 1, 0] rfl)
def F_X6_stoppedTasks (N : Nat) (l0 : Nat) (u : CSt) : Option (Int32 × CSt) := B_X6_stoppedTasks_0 N l0 u
set_option maxHeartbeats 4000000 in
theorem k_X6_stoppedTasks (l : Launch) (D : va_G) (kA : Nat → ClassId) (V Z : Nat → Nat) (N : Nat) (l0 : Nat) (h_l0 : l0 < 2) (u : CSt) (sz : Nat) {r : Int32} {w : CSt} (h : F_X6_stoppedTasks N l0 u = some (r, w)) : Met l yX6_stoppedTasks (Cond.code yX6_stoppedTasks cX6_stoppedTasks 3 (some .int) :: GW) { frames := 0, cells := 0, slots := 0, locals := 0 } (cPc D kA V Z [.ref (Z (300 + 50 * l0))] u sz) (cQi D kA Z u sz r w) 0 0 (va_A (CW kA Z u) sz) := by
  refine Met.ofW (cc := cX6_stoppedTasks) (maxL := 3) (ret := (some .int)) (by decide) rfl ?_
  intro p e s m args below meth c s₁ Bd hml hv
  obtain ⟨rfl, hsz, hP, hK, hD0, hE⟩ := hv
  have hts := atoms_spec (ws := Cond.code yX6_stoppedTasks cX6_stoppedTasks 3 (some .int) :: GW) Bd.pre
  have hl := lv_entry ([.ref (Z (300 + 50 * l0))]) (n := 3) (Nat.le_of_ble_eq_true rfl)
  rw [lg_entry_eq]
  generalize (lg_sl ([.ref (Z (300 + 50 * l0))]) ++ List.replicate (3 - (lg_sl ([.ref (Z (300 + 50 * l0))])).length) Slot.unset).toArray = ls at hl ⊢
  have hl : lv_has ls 3 [(0, .ref (Z (300 + 50 * l0)))] := hl
  subst hsz
  have X : CC p s m ([.ref (Z (300 + 50 * l0))]).toArray c cX6_stoppedTasks 3 (Cond.code yX6_stoppedTasks cX6_stoppedTasks 3 (some .int)) RX6 D kA V (va_A (CW kA Z u) s.heap.size) := ⟨⟨Bd.exec, Bd.bytes, hml, findClass_of_methodNamed Bd.named, hts⟩, hK, hE, fun q h => Or.inr h⟩
  refine b_X6_stoppedTasks_0 X (cend_i X Bd.returns Bd.notSynchronized) (Nat.le_refl _) (Nat.le_refl _) h h_l0 ⟨hP, hD0.self, va_S.rf⟩ (lv_sub hl [0] rfl)
theorem kc_X6_stoppedTasks_RX11 {cc : ByteArray} {pc nL : Nat} {c0 : Cond} {rest : List Value} {l0 : Nat} {u w1 : CSt} {r : Int32} (X : CC p s m args c cc nL c0 RX11 D kA V A) (h_l0 : l0 < 2) (hS : CS D kA Z A s u H locs) (h : F_X6_stoppedTasks N l0 u = some (r, w1)) (hF : 0 + 1 ≤ R.frames) (hL : 8 + (3 + 11) + 0 ≤ R.locals) (hl : ls.size = nL) (hc : (rest.map fun v => v.category).sum ≤ 8) (hdg : decode cc pc = .ok (.invokevirtual 321, 3)) (kk : ∀ H locs, CS D kA Z A s w1 H locs → W p l e R s m args below meth c H locs 0 0 Q (F0 m (pc + 3) ls (.int r :: rest))) : W p l e R s m args below meth c H locs 0 0 Q (F0 m pc ls (.ref (Z (300 + 50 * l0)) :: rest)) :=
  ccall_i (n := 0) X hS (k_X6_stoppedTasks l D kA V Z N l0 h_l0 u H.size h) (gw_V gw_1826 gw_1827 gw_1828 gw_10 gw_1829) (by decide +kernel) (cp_recv X.2.1 h_l0 hS) hF hL rfl hl hc rfl hdg kk
def B_X6_step_0 (N : Nat) (l0 : Nat) (l1 : Int32) (l2 : Int32) (l3 : Int32) (l4 : Int32) (u : CSt) : Option (Int32 × CSt) := if (pI u l0 13) < (3200 : Int32) then (wc 3200 (pI u l0 13) (xpA u l0 11 (pI u l0 13).toNatClampNeg l1) fun u_3 => wc 3200 (pI u_3 l0 13) (xpA u_3 l0 12 (pI u_3 l0 13).toNatClampNeg l2) fun u_5 => wc 3200 (pI u_5 l0 13) (xpA u_5 l0 13 (pI u_5 l0 13).toNatClampNeg l3) fun u_7 => wc 3200 (pI u_7 l0 13) (xpA u_7 l0 14 (pI u_7 l0 13).toNatClampNeg l4) fun u_9 => pc (xpI u_9 l0 13 ((pI u_9 l0 13) + 1)) fun u_10 => some ((pI u_10 l0 13) - 1, u_10)) else (some ((-1), u))
set_option maxHeartbeats 4000000 in
theorem b_X6_step_0 {r : Int32} (X : CC p s m args c cX6_step 5 (Cond.code yX6_step cX6_step 5 (some .int)) RX6 D kA V A) (hE : CEi p l e R s m args below meth c cX6_step D kA Z A Q r w) (hF : 0 ≤ R.frames) (hL : 0 ≤ R.locals) {l0 : Nat} {l1 : Int32} {l2 : Int32} {l3 : Int32} {l4 : Int32} {u : CSt}  (h : B_X6_step_0 N l0 l1 l2 l3 l4 u = some (r, w)) (h_l0 : l0 < 2) (hS : CS D kA Z A s u H locs) (hl : lv_has ls 5 [(0, .ref (Z (300 + 50 * l0))), (1, .int l1), (2, .int l2), (3, .int l3), (4, .int l4)]) : W p l e R s m args below meth c H locs 0 0 Q (F0 m 0 ls []) := by
  obtain ⟨⟨hx, hb, hml, hown, hts⟩, hK, hEV, hA⟩ := id X
  have hG : ∀ w ∈ GW, w.before args s = true := fun w h => hts w (List.mem_cons_of_mem _ h)
  unfold B_X6_step_0 at h
  refine lv_aload_n hx hb dX6_step_0 rfl (lv_at hl 0 rfl) ?_
  refine cg_X6_95 X h_l0 hS dX6_step_1 ?_
  refine lv_sipush (v := 3200) hx hb dX6_step_4 (by decide) ?_
  refine lv_icmp_lt (tgt := 12) hx hb dX6_step_7 (by decide) (fun c_1 => ?_) (fun c_1 => ?_)
  · have h := ip (c_1) h
    refine lv_aload_n hx hb dX6_step_12 rfl (lv_at hl 0 rfl) ?_
    refine cg_X6_43 X h_l0 hS dX6_step_13 ?_
    refine lv_aload_n hx hb dX6_step_16 rfl (lv_at hl 0 rfl) ?_
    refine cg_X6_95 X h_l0 hS dX6_step_17 ?_
    refine lv_iload_n hx hb dX6_step_20 rfl (lv_at hl 1 rfl) ?_
    obtain ⟨u_3, e_u_3, i_2, h⟩ := wc_of h
    refine cs_p11 X h_l0 hS i_2 e_u_3 dX6_step_21 (fun H locs hS => ?_)
    refine lv_aload_n hx hb dX6_step_22 rfl (lv_at hl 0 rfl) ?_
    refine cg_X6_46 X h_l0 hS dX6_step_23 ?_
    refine lv_aload_n hx hb dX6_step_26 rfl (lv_at hl 0 rfl) ?_
    refine cg_X6_95 X h_l0 hS dX6_step_27 ?_
    refine lv_iload_n hx hb dX6_step_30 rfl (lv_at hl 2 rfl) ?_
    obtain ⟨u_5, e_u_5, i_4, h⟩ := wc_of h
    refine cs_p12 X h_l0 hS i_4 e_u_5 dX6_step_31 (fun H locs hS => ?_)
    refine lv_aload_n hx hb dX6_step_32 rfl (lv_at hl 0 rfl) ?_
    refine cg_X6_49 X h_l0 hS dX6_step_33 ?_
    refine lv_aload_n hx hb dX6_step_36 rfl (lv_at hl 0 rfl) ?_
    refine cg_X6_95 X h_l0 hS dX6_step_37 ?_
    refine lv_iload_n hx hb dX6_step_40 rfl (lv_at hl 3 rfl) ?_
    obtain ⟨u_7, e_u_7, i_6, h⟩ := wc_of h
    refine cs_p13 X h_l0 hS i_6 e_u_7 dX6_step_41 (fun H locs hS => ?_)
    refine lv_aload_n hx hb dX6_step_42 rfl (lv_at hl 0 rfl) ?_
    refine cg_X6_52 X h_l0 hS dX6_step_43 ?_
    refine lv_aload_n hx hb dX6_step_46 rfl (lv_at hl 0 rfl) ?_
    refine cg_X6_95 X h_l0 hS dX6_step_47 ?_
    refine lv_iload hx hb dX6_step_50 (lv_at hl 4 rfl) ?_
    obtain ⟨u_9, e_u_9, i_8, h⟩ := wc_of h
    refine cs_p14 X h_l0 hS i_8 e_u_9 dX6_step_52 (fun H locs hS => ?_)
    refine lv_aload_n hx hb dX6_step_53 rfl (lv_at hl 0 rfl) ?_
    refine lv_dup hx hb dX6_step_54 rfl ?_
    refine cg_X6_95 X h_l0 hS dX6_step_55 ?_
    refine lv_iconst (v := 1) hx hb dX6_step_58 (by decide) ?_
    refine lv_iadd hx hb dX6_step_59 ?_
    obtain ⟨u_10, e_u_10, h⟩ := pc_of h
    refine cp_X6_95 X h_l0 hS e_u_10 dX6_step_60 (fun H locs hS => ?_)
    refine lv_aload_n hx hb dX6_step_63 rfl (lv_at hl 0 rfl) ?_
    refine cg_X6_95 X h_l0 hS dX6_step_64 ?_
    refine lv_iconst (v := 1) hx hb dX6_step_67 (by decide) ?_
    refine lv_isub hx hb dX6_step_68 ?_
    obtain ⟨rfl, rfl⟩ := so9 h
    exact hE _ _ _ _ hS dX6_step_69
  · have h := im (c_1) h
    refine lv_iconst (v := (-1)) hx hb dX6_step_10 (by decide) ?_
    obtain ⟨rfl, rfl⟩ := so9 h
    exact hE _ _ _ _ hS dX6_step_11
def F_X6_step (N : Nat) (l0 : Nat) (l1 : Int32) (l2 : Int32) (l3 : Int32) (l4 : Int32) (u : CSt) : Option (Int32 × CSt) := B_X6_step_0 N l0 l1 l2 l3 l4 u
set_option maxHeartbeats 4000000 in
theorem k_X6_step (l : Launch) (D : va_G) (kA : Nat → ClassId) (V Z : Nat → Nat) (N : Nat) (l0 : Nat) (l1 : Int32) (l2 : Int32) (l3 : Int32) (l4 : Int32) (h_l0 : l0 < 2) (u : CSt) (sz : Nat) {r : Int32} {w : CSt} (h : F_X6_step N l0 l1 l2 l3 l4 u = some (r, w)) : Met l yX6_step (Cond.code yX6_step cX6_step 5 (some .int) :: GW) { frames := 0, cells := 0, slots := 0, locals := 0 } (cPc D kA V Z [.ref (Z (300 + 50 * l0)), .int l1, .int l2, .int l3, .int l4] u sz) (cQi D kA Z u sz r w) 0 0 (va_A (CW kA Z u) sz) := by
  refine Met.ofW (cc := cX6_step) (maxL := 5) (ret := (some .int)) (by decide) rfl ?_
  intro p e s m args below meth c s₁ Bd hml hv
  obtain ⟨rfl, hsz, hP, hK, hD0, hE⟩ := hv
  have hts := atoms_spec (ws := Cond.code yX6_step cX6_step 5 (some .int) :: GW) Bd.pre
  have hl := lv_entry ([.ref (Z (300 + 50 * l0)), .int l1, .int l2, .int l3, .int l4]) (n := 5) (Nat.le_of_ble_eq_true rfl)
  rw [lg_entry_eq]
  generalize (lg_sl ([.ref (Z (300 + 50 * l0)), .int l1, .int l2, .int l3, .int l4]) ++ List.replicate (5 - (lg_sl ([.ref (Z (300 + 50 * l0)), .int l1, .int l2, .int l3, .int l4])).length) Slot.unset).toArray = ls at hl ⊢
  have hl : lv_has ls 5 [(0, .ref (Z (300 + 50 * l0))), (1, .int l1), (2, .int l2), (3, .int l3), (4, .int l4)] := hl
  subst hsz
  have X : CC p s m ([.ref (Z (300 + 50 * l0)), .int l1, .int l2, .int l3, .int l4]).toArray c cX6_step 5 (Cond.code yX6_step cX6_step 5 (some .int)) RX6 D kA V (va_A (CW kA Z u) s.heap.size) := ⟨⟨Bd.exec, Bd.bytes, hml, findClass_of_methodNamed Bd.named, hts⟩, hK, hE, fun q h => Or.inr h⟩
  refine b_X6_step_0 X (cend_i X Bd.returns Bd.notSynchronized) (Nat.le_refl _) (Nat.le_refl _) h h_l0 ⟨hP, hD0.self, va_S.rf⟩ (lv_sub hl [0, 1, 2, 3, 4] rfl)
theorem kc_X6_step_RX6 {cc : ByteArray} {pc nL : Nat} {c0 : Cond} {rest : List Value} {l0 : Nat} {l1 : Int32} {l2 : Int32} {l3 : Int32} {l4 : Int32} {u w1 : CSt} {r : Int32} (X : CC p s m args c cc nL c0 RX6 D kA V A) (h_l0 : l0 < 2) (hS : CS D kA Z A s u H locs) (h : F_X6_step N l0 l1 l2 l3 l4 u = some (r, w1)) (hF : 0 + 1 ≤ R.frames) (hL : 8 + (5 + 11) + 0 ≤ R.locals) (hl : ls.size = nL) (hc : (rest.map fun v => v.category).sum ≤ 8) (hdg : decode cc pc = .ok (.invokevirtual 138, 3)) (kk : ∀ H locs, CS D kA Z A s w1 H locs → W p l e R s m args below meth c H locs 0 0 Q (F0 m (pc + 3) ls (.int r :: rest))) : W p l e R s m args below meth c H locs 0 0 Q (F0 m pc ls (.int l4 :: .int l3 :: .int l2 :: .int l1 :: .ref (Z (300 + 50 * l0)) :: rest)) :=
  ccall_i (n := 4) X hS (k_X6_step l D kA V Z N l0 l1 l2 l3 l4 h_l0 u H.size h) (gw_V gw_1114 gw_1115 gw_1116 gw_10 gw_1117) (by decide +kernel) (cp_recv X.2.1 h_l0 hS) hF hL rfl hl hc rfl hdg kk
theorem kc_X6_step_RX8 {cc : ByteArray} {pc nL : Nat} {c0 : Cond} {rest : List Value} {l0 : Nat} {l1 : Int32} {l2 : Int32} {l3 : Int32} {l4 : Int32} {u w1 : CSt} {r : Int32} (X : CC p s m args c cc nL c0 RX8 D kA V A) (h_l0 : l0 < 2) (hS : CS D kA Z A s u H locs) (h : F_X6_step N l0 l1 l2 l3 l4 u = some (r, w1)) (hF : 0 + 1 ≤ R.frames) (hL : 8 + (5 + 11) + 0 ≤ R.locals) (hl : ls.size = nL) (hc : (rest.map fun v => v.category).sum ≤ 8) (hdg : decode cc pc = .ok (.invokevirtual 118, 3)) (kk : ∀ H locs, CS D kA Z A s w1 H locs → W p l e R s m args below meth c H locs 0 0 Q (F0 m (pc + 3) ls (.int r :: rest))) : W p l e R s m args below meth c H locs 0 0 Q (F0 m pc ls (.int l4 :: .int l3 :: .int l2 :: .int l1 :: .ref (Z (300 + 50 * l0)) :: rest)) :=
  ccall_i (n := 4) X hS (k_X6_step l D kA V Z N l0 l1 l2 l3 l4 h_l0 u H.size h) (gw_V gw_1146 gw_1115 gw_1116 gw_10 gw_1117) (by decide +kernel) (cp_recv X.2.1 h_l0 hS) hF hL rfl hl hc rfl hdg kk
theorem kc_X6_step_RX3 {cc : ByteArray} {pc nL : Nat} {c0 : Cond} {rest : List Value} {l0 : Nat} {l1 : Int32} {l2 : Int32} {l3 : Int32} {l4 : Int32} {u w1 : CSt} {r : Int32} (X : CC p s m args c cc nL c0 RX3 D kA V A) (h_l0 : l0 < 2) (hS : CS D kA Z A s u H locs) (h : F_X6_step N l0 l1 l2 l3 l4 u = some (r, w1)) (hF : 0 + 1 ≤ R.frames) (hL : 8 + (5 + 11) + 0 ≤ R.locals) (hl : ls.size = nL) (hc : (rest.map fun v => v.category).sum ≤ 8) (hdg : decode cc pc = .ok (.invokevirtual 239, 3)) (kk : ∀ H locs, CS D kA Z A s w1 H locs → W p l e R s m args below meth c H locs 0 0 Q (F0 m (pc + 3) ls (.int r :: rest))) : W p l e R s m args below meth c H locs 0 0 Q (F0 m pc ls (.int l4 :: .int l3 :: .int l2 :: .int l1 :: .ref (Z (300 + 50 * l0)) :: rest)) :=
  ccall_i (n := 4) X hS (k_X6_step l D kA V Z N l0 l1 l2 l3 l4 h_l0 u H.size h) (gw_V gw_1275 gw_1115 gw_1116 gw_10 gw_1117) (by decide +kernel) (cp_recv X.2.1 h_l0 hS) hF hL rfl hl hc rfl hdg kk
def B_X6_cost_0 (N : Nat) (l0 : Nat) (l1 : Int32) (u : CSt) : Option (Int32 × CSt) := bc (F_X6_step N l0 64 0 0 l1 u) fun r_2 u_1 => some (0, u_1)
set_option maxHeartbeats 4000000 in
theorem b_X6_cost_0 {r : Int32} (X : CC p s m args c cX6_cost 2 (Cond.code yX6_cost cX6_cost 2 none) RX6 D kA V A) (hE : CEv p l e R s m args below meth c cX6_cost D kA Z A Q w) (hF : 1 ≤ R.frames) (hL : 24 ≤ R.locals) {l0 : Nat} {l1 : Int32} {u : CSt}  (h : B_X6_cost_0 N l0 l1 u = some (r, w)) (h_l0 : l0 < 2) (hS : CS D kA Z A s u H locs) (hl : lv_has ls 2 [(0, .ref (Z (300 + 50 * l0))), (1, .int l1)]) : W p l e R s m args below meth c H locs 0 0 Q (F0 m 0 ls []) := by
  obtain ⟨⟨hx, hb, hml, hown, hts⟩, hK, hEV, hA⟩ := id X
  have hG : ∀ w ∈ GW, w.before args s = true := fun w h => hts w (List.mem_cons_of_mem _ h)
  unfold B_X6_cost_0 at h
  refine lv_aload_n hx hb dX6_cost_0 rfl (lv_at hl 0 rfl) ?_
  refine lv_bipush (v := 64) hx hb dX6_cost_1 (by decide) ?_
  refine lv_iconst (v := 0) hx hb dX6_cost_3 (by decide) ?_
  refine lv_iconst (v := 0) hx hb dX6_cost_4 (by decide) ?_
  refine lv_iload_n hx hb dX6_cost_5 rfl (lv_at hl 1 rfl) ?_
  obtain ⟨r_2, u_1, h_u_1, h⟩ := bc_of h
  refine kc_X6_step_RX6 X h_l0 hS h_u_1 (Nat.le_trans (Nat.le_of_ble_eq_true rfl) hF) (Nat.le_trans (Nat.le_of_ble_eq_true rfl) hL) hl.1 (Nat.le_of_ble_eq_true rfl) dX6_cost_6 (fun H locs hS => ?_)
  refine lv_pop hx hb dX6_cost_9 rfl ?_
  obtain ⟨-, rfl⟩ := so9 h
  exact hE _ _ _ _ hS dX6_cost_10
def F_X6_cost (N : Nat) (l0 : Nat) (l1 : Int32) (u : CSt) : Option (Int32 × CSt) := B_X6_cost_0 N l0 l1 u
set_option maxHeartbeats 4000000 in
theorem k_X6_cost (l : Launch) (D : va_G) (kA : Nat → ClassId) (V Z : Nat → Nat) (N : Nat) (l0 : Nat) (l1 : Int32) (h_l0 : l0 < 2) (u : CSt) (sz : Nat) {r : Int32} {w : CSt} (h : F_X6_cost N l0 l1 u = some (r, w)) : Met l yX6_cost (Cond.code yX6_cost cX6_cost 2 none :: GW) { frames := 1, cells := 0, slots := 0, locals := 24 } (cPc D kA V Z [.ref (Z (300 + 50 * l0)), .int l1] u sz) (cQv D kA Z u sz w) 0 0 (va_A (CW kA Z u) sz) := by
  refine Met.ofW (cc := cX6_cost) (maxL := 2) (ret := none) (by decide) rfl ?_
  intro p e s m args below meth c s₁ Bd hml hv
  obtain ⟨rfl, hsz, hP, hK, hD0, hE⟩ := hv
  have hts := atoms_spec (ws := Cond.code yX6_cost cX6_cost 2 none :: GW) Bd.pre
  have hl := lv_entry ([.ref (Z (300 + 50 * l0)), .int l1]) (n := 2) (Nat.le_of_ble_eq_true rfl)
  rw [lg_entry_eq]
  generalize (lg_sl ([.ref (Z (300 + 50 * l0)), .int l1]) ++ List.replicate (2 - (lg_sl ([.ref (Z (300 + 50 * l0)), .int l1])).length) Slot.unset).toArray = ls at hl ⊢
  have hl : lv_has ls 2 [(0, .ref (Z (300 + 50 * l0))), (1, .int l1)] := hl
  subst hsz
  have X : CC p s m ([.ref (Z (300 + 50 * l0)), .int l1]).toArray c cX6_cost 2 (Cond.code yX6_cost cX6_cost 2 none) RX6 D kA V (va_A (CW kA Z u) s.heap.size) := ⟨⟨Bd.exec, Bd.bytes, hml, findClass_of_methodNamed Bd.named, hts⟩, hK, hE, fun q h => Or.inr h⟩
  refine b_X6_cost_0 X (cend_v X Bd.returns Bd.notSynchronized) (Nat.le_refl _) (Nat.le_refl _) h h_l0 ⟨hP, hD0.self, va_S.rf⟩ (lv_sub hl [0, 1] rfl)
theorem kc_X6_cost_RX3 {cc : ByteArray} {pc nL : Nat} {c0 : Cond} {rest : List Value} {l0 : Nat} {l1 : Int32} {u w1 : CSt} {r : Int32} (X : CC p s m args c cc nL c0 RX3 D kA V A) (h_l0 : l0 < 2) (hS : CS D kA Z A s u H locs) (h : F_X6_cost N l0 l1 u = some (r, w1)) (hF : 1 + 1 ≤ R.frames) (hL : 8 + (2 + 11) + 24 ≤ R.locals) (hl : ls.size = nL) (hc : (rest.map fun v => v.category).sum ≤ 8) (hdg : decode cc pc = .ok (.invokevirtual 260, 3)) (kk : ∀ H locs, CS D kA Z A s w1 H locs → W p l e R s m args below meth c H locs 0 0 Q (F0 m (pc + 3) ls (rest))) : W p l e R s m args below meth c H locs 0 0 Q (F0 m pc ls (.int l1 :: .ref (Z (300 + 50 * l0)) :: rest)) :=
  ccall_v (n := 1) X hS (k_X6_cost l D kA V Z N l0 l1 h_l0 u H.size h) (gw_V gw_1110 gw_1111 gw_1112 gw_10 gw_1113) (by decide +kernel) (cp_recv X.2.1 h_l0 hS) hF hL rfl hl hc rfl hdg kk
theorem kc_X6_cost_RX8 {cc : ByteArray} {pc nL : Nat} {c0 : Cond} {rest : List Value} {l0 : Nat} {l1 : Int32} {u w1 : CSt} {r : Int32} (X : CC p s m args c cc nL c0 RX8 D kA V A) (h_l0 : l0 < 2) (hS : CS D kA Z A s u H locs) (h : F_X6_cost N l0 l1 u = some (r, w1)) (hF : 1 + 1 ≤ R.frames) (hL : 8 + (2 + 11) + 24 ≤ R.locals) (hl : ls.size = nL) (hc : (rest.map fun v => v.category).sum ≤ 8) (hdg : decode cc pc = .ok (.invokevirtual 186, 3)) (kk : ∀ H locs, CS D kA Z A s w1 H locs → W p l e R s m args below meth c H locs 0 0 Q (F0 m (pc + 3) ls (rest))) : W p l e R s m args below meth c H locs 0 0 Q (F0 m pc ls (.int l1 :: .ref (Z (300 + 50 * l0)) :: rest)) :=
  ccall_v (n := 1) X hS (k_X6_cost l D kA V Z N l0 l1 h_l0 u H.size h) (gw_V gw_1140 gw_1111 gw_1112 gw_10 gw_1113) (by decide +kernel) (cp_recv X.2.1 h_l0 hS) hF hL rfl hl hc rfl hdg kk
def B_X6_constant_0 (N : Nat) (l0 : Nat) (l1 : Int64) (l3 : Int32) (l4 : Int32) (u : CSt) : Option (Int32 × CSt) := bc (F_X6_step N l0 (1 + l3) ((l1 >>> ((32 : Int32).toInt64 &&& 63)).toInt32) l1.toInt32 l4 u) fun r_2 u_1 => some (0, u_1)
set_option maxHeartbeats 4000000 in
theorem b_X6_constant_0 {r : Int32} (X : CC p s m args c cX6_constant 5 (Cond.code yX6_constant cX6_constant 5 none) RX6 D kA V A) (hE : CEv p l e R s m args below meth c cX6_constant D kA Z A Q w) (hF : 1 ≤ R.frames) (hL : 24 ≤ R.locals) {l0 : Nat} {l1 : Int64} {l3 : Int32} {l4 : Int32} {u : CSt}  (h : B_X6_constant_0 N l0 l1 l3 l4 u = some (r, w)) (h_l0 : l0 < 2) (hS : CS D kA Z A s u H locs) (hl : lv_has ls 5 [(0, .ref (Z (300 + 50 * l0))), (1, .long l1), (3, .int l3), (4, .int l4)]) : W p l e R s m args below meth c H locs 0 0 Q (F0 m 0 ls []) := by
  obtain ⟨⟨hx, hb, hml, hown, hts⟩, hK, hEV, hA⟩ := id X
  have hG : ∀ w ∈ GW, w.before args s = true := fun w h => hts w (List.mem_cons_of_mem _ h)
  unfold B_X6_constant_0 at h
  refine lv_aload_n hx hb dX6_constant_0 rfl (lv_at hl 0 rfl) ?_
  refine lv_iconst (v := 1) hx hb dX6_constant_1 (by decide) ?_
  refine lv_iload_n hx hb dX6_constant_2 rfl (lv_at hl 2 rfl) ?_
  refine lv_iadd hx hb dX6_constant_3 ?_
  refine lv_lload_n hx hb dX6_constant_4 rfl (lv_at hl 1 rfl) ?_
  refine lv_bipush (v := 32) hx hb dX6_constant_5 (by decide) ?_
  refine lv_lshr (v := l1 >>> ((32 : Int32).toInt64 &&& 63)) hx hb dX6_constant_7 rfl ?_
  refine lv_l2i (v := (l1 >>> ((32 : Int32).toInt64 &&& 63)).toInt32) hx hb dX6_constant_8 rfl ?_
  refine lv_lload_n hx hb dX6_constant_9 rfl (lv_at hl 1 rfl) ?_
  refine lv_l2i (v := l1.toInt32) hx hb dX6_constant_10 rfl ?_
  refine lv_iload hx hb dX6_constant_11 (lv_at hl 3 rfl) ?_
  obtain ⟨r_2, u_1, h_u_1, h⟩ := bc_of h
  refine kc_X6_step_RX6 X h_l0 hS h_u_1 (Nat.le_trans (Nat.le_of_ble_eq_true rfl) hF) (Nat.le_trans (Nat.le_of_ble_eq_true rfl) hL) hl.1 (Nat.le_of_ble_eq_true rfl) dX6_constant_13 (fun H locs hS => ?_)
  refine lv_pop hx hb dX6_constant_16 rfl ?_
  obtain ⟨-, rfl⟩ := so9 h
  exact hE _ _ _ _ hS dX6_constant_17
def F_X6_constant (N : Nat) (l0 : Nat) (l1 : Int64) (l3 : Int32) (l4 : Int32) (u : CSt) : Option (Int32 × CSt) := B_X6_constant_0 N l0 l1 l3 l4 u
set_option maxHeartbeats 4000000 in
theorem k_X6_constant (l : Launch) (D : va_G) (kA : Nat → ClassId) (V Z : Nat → Nat) (N : Nat) (l0 : Nat) (l1 : Int64) (l3 : Int32) (l4 : Int32) (h_l0 : l0 < 2) (u : CSt) (sz : Nat) {r : Int32} {w : CSt} (h : F_X6_constant N l0 l1 l3 l4 u = some (r, w)) : Met l yX6_constant (Cond.code yX6_constant cX6_constant 5 none :: GW) { frames := 1, cells := 0, slots := 0, locals := 24 } (cPc D kA V Z [.ref (Z (300 + 50 * l0)), .long l1, .int l3, .int l4] u sz) (cQv D kA Z u sz w) 0 0 (va_A (CW kA Z u) sz) := by
  refine Met.ofW (cc := cX6_constant) (maxL := 5) (ret := none) (by decide) rfl ?_
  intro p e s m args below meth c s₁ Bd hml hv
  obtain ⟨rfl, hsz, hP, hK, hD0, hE⟩ := hv
  have hts := atoms_spec (ws := Cond.code yX6_constant cX6_constant 5 none :: GW) Bd.pre
  have hl := lv_entry ([.ref (Z (300 + 50 * l0)), .long l1, .int l3, .int l4]) (n := 5) (Nat.le_of_ble_eq_true rfl)
  rw [lg_entry_eq]
  generalize (lg_sl ([.ref (Z (300 + 50 * l0)), .long l1, .int l3, .int l4]) ++ List.replicate (5 - (lg_sl ([.ref (Z (300 + 50 * l0)), .long l1, .int l3, .int l4])).length) Slot.unset).toArray = ls at hl ⊢
  have hl : lv_has ls 5 [(0, .ref (Z (300 + 50 * l0))), (1, .long l1), (3, .int l3), (4, .int l4)] := hl
  subst hsz
  have X : CC p s m ([.ref (Z (300 + 50 * l0)), .long l1, .int l3, .int l4]).toArray c cX6_constant 5 (Cond.code yX6_constant cX6_constant 5 none) RX6 D kA V (va_A (CW kA Z u) s.heap.size) := ⟨⟨Bd.exec, Bd.bytes, hml, findClass_of_methodNamed Bd.named, hts⟩, hK, hE, fun q h => Or.inr h⟩
  refine b_X6_constant_0 X (cend_v X Bd.returns Bd.notSynchronized) (Nat.le_refl _) (Nat.le_refl _) h h_l0 ⟨hP, hD0.self, va_S.rf⟩ (lv_sub hl [0, 1, 2, 3] rfl)
theorem kc_X6_constant_RX8 {cc : ByteArray} {pc nL : Nat} {c0 : Cond} {rest : List Value} {l0 : Nat} {l1 : Int64} {l3 : Int32} {l4 : Int32} {u w1 : CSt} {r : Int32} (X : CC p s m args c cc nL c0 RX8 D kA V A) (h_l0 : l0 < 2) (hS : CS D kA Z A s u H locs) (h : F_X6_constant N l0 l1 l3 l4 u = some (r, w1)) (hF : 1 + 1 ≤ R.frames) (hL : 8 + (5 + 11) + 24 ≤ R.locals) (hl : ls.size = nL) (hc : (rest.map fun v => v.category).sum ≤ 8) (hdg : decode cc pc = .ok (.invokevirtual 182, 3)) (kk : ∀ H locs, CS D kA Z A s w1 H locs → W p l e R s m args below meth c H locs 0 0 Q (F0 m (pc + 3) ls (rest))) : W p l e R s m args below meth c H locs 0 0 Q (F0 m pc ls (.int l4 :: .int l3 :: .long l1 :: .ref (Z (300 + 50 * l0)) :: rest)) :=
  ccall_v (n := 3) X hS (k_X6_constant l D kA V Z N l0 l1 l3 l4 h_l0 u H.size h) (gw_V gw_1161 gw_1162 gw_1163 gw_10 gw_1164) (by decide +kernel) (cp_recv X.2.1 h_l0 hS) hF hL rfl hl hc rfl hdg kk
theorem kc_X6_constant_RX3 {cc : ByteArray} {pc nL : Nat} {c0 : Cond} {rest : List Value} {l0 : Nat} {l1 : Int64} {l3 : Int32} {l4 : Int32} {u w1 : CSt} {r : Int32} (X : CC p s m args c cc nL c0 RX3 D kA V A) (h_l0 : l0 < 2) (hS : CS D kA Z A s u H locs) (h : F_X6_constant N l0 l1 l3 l4 u = some (r, w1)) (hF : 1 + 1 ≤ R.frames) (hL : 8 + (5 + 11) + 24 ≤ R.locals) (hl : ls.size = nL) (hc : (rest.map fun v => v.category).sum ≤ 8) (hdg : decode cc pc = .ok (.invokevirtual 236, 3)) (kk : ∀ H locs, CS D kA Z A s w1 H locs → W p l e R s m args below meth c H locs 0 0 Q (F0 m (pc + 3) ls (rest))) : W p l e R s m args below meth c H locs 0 0 Q (F0 m pc ls (.int l4 :: .int l3 :: .long l1 :: .ref (Z (300 + 50 * l0)) :: rest)) :=
  ccall_v (n := 3) X hS (k_X6_constant l D kA V Z N l0 l1 l3 l4 h_l0 u H.size h) (gw_V gw_1306 gw_1162 gw_1163 gw_10 gw_1164) (by decide +kernel) (cp_recv X.2.1 h_l0 hS) hF hL rfl hl hc rfl hdg kk
def B_X6_land_4 (N : Nat) (R_4 : Nat × Int32 × Int32 × CSt → Option (Int32 × CSt)) (l0 : Nat) (l2 : Int32) (l3 : Int32) (u : CSt) : Option (Int32 × CSt) := if (3200 : Int32) ≤ l3 then (some (0, u)) else (if l2 < (0 : Int32) then (some (0, u)) else (if (pI u l0 13) ≤ l2 then (some (0, u)) else (rd (pA u l0 12) 3200 l2 fun v_5 => wc 3200 l2 (xpA u l0 12 l2.toNatClampNeg (pI u l0 13)) fun u_7 => R_4 (l0, v_5, (l3 + 1), u_7))))
set_option maxHeartbeats 4000000 in
theorem b_X6_land_4 {r : Int32} (X : CC p s m args c cX6_land 5 (Cond.code yX6_land cX6_land 5 none) RX6 D kA V A) (hE : CEv p l e R s m args below meth c cX6_land D kA Z A Q w) (hF : 0 ≤ R.frames) (hL : 0 ≤ R.locals) {R_4 : Nat × Int32 × Int32 × CSt → Option (Int32 × CSt)} {l0 : Nat} {l2 : Int32} {l3 : Int32} {u : CSt} (hR_4 : ∀ (l0 : Nat) (l2 : Int32) (l3 : Int32) (u : CSt), l0 < 2 → R_4 (l0, l2, l3, u) = some (r, w) → ∀ (H : Heap) (locs : List Loc) (ls : Array Slot), CS D kA Z A s u H locs → lv_has ls 5 [(0, .ref (Z (300 + 50 * l0))), (2, .int l2), (3, .int l3)] → W p l e R s m args below meth c H locs 0 0 Q (F0 m 4 ls [])) (h : B_X6_land_4 N R_4 l0 l2 l3 u = some (r, w)) (h_l0 : l0 < 2) (hS : CS D kA Z A s u H locs) (hl : lv_has ls 5 [(0, .ref (Z (300 + 50 * l0))), (2, .int l2), (3, .int l3)]) : W p l e R s m args below meth c H locs 0 0 Q (F0 m 4 ls []) := by
  obtain ⟨⟨hx, hb, hml, hown, hts⟩, hK, hEV, hA⟩ := id X
  have hG : ∀ w ∈ GW, w.before args s = true := fun w h => hts w (List.mem_cons_of_mem _ h)
  unfold B_X6_land_4 at h
  refine lv_iload_n hx hb dX6_land_4 rfl (lv_at hl 2 rfl) ?_
  refine lv_sipush (v := 3200) hx hb dX6_land_5 (by decide) ?_
  refine lv_icmp_ge (tgt := 50) hx hb dX6_land_8 (by decide) (fun c_1 => ?_) (fun c_1 => ?_)
  · have h := ip (c_1) h
    obtain ⟨-, rfl⟩ := so9 h
    exact hE _ _ _ _ hS dX6_land_50
  · have h := im (c_1) h
    refine lv_iload_n hx hb dX6_land_11 rfl (lv_at hl 1 rfl) ?_
    refine lv_if_lt (tgt := 50) hx hb dX6_land_12 (by decide) (fun c_2 => ?_) (fun c_2 => ?_)
    · have h := ip (c_2) h
      obtain ⟨-, rfl⟩ := so9 h
      exact hE _ _ _ _ hS dX6_land_50
    · have h := im (c_2) h
      refine lv_iload_n hx hb dX6_land_15 rfl (lv_at hl 1 rfl) ?_
      refine lv_aload_n hx hb dX6_land_16 rfl (lv_at hl 0 rfl) ?_
      refine cg_X6_95 X h_l0 hS dX6_land_17 ?_
      refine lv_icmp_ge (tgt := 50) hx hb dX6_land_20 (by decide) (fun c_3 => ?_) (fun c_3 => ?_)
      · have h := ip (c_3) h
        obtain ⟨-, rfl⟩ := so9 h
        exact hE _ _ _ _ hS dX6_land_50
      · have h := im (c_3) h
        refine lv_aload_n hx hb dX6_land_23 rfl (lv_at hl 0 rfl) ?_
        refine cg_X6_46 X h_l0 hS dX6_land_24 ?_
        refine lv_iload_n hx hb dX6_land_27 rfl (lv_at hl 1 rfl) ?_
        obtain ⟨v_5, e_v_5, i_4, h⟩ := rd_of h
        refine ca_p12 X h_l0 hS i_4 e_v_5 dX6_land_28 ?_
        refine lv_istore (lv' := [(4, .int v_5), (0, .ref (Z (300 + 50 * l0))), (2, .int l2), (3, .int l3)]) hx hb dX6_land_29 hl (by decide) rfl (fun ls hl => ?_)
        refine lv_aload_n hx hb dX6_land_31 rfl (lv_at hl 1 rfl) ?_
        refine cg_X6_46 X h_l0 hS dX6_land_32 ?_
        refine lv_iload_n hx hb dX6_land_35 rfl (lv_at hl 2 rfl) ?_
        refine lv_aload_n hx hb dX6_land_36 rfl (lv_at hl 1 rfl) ?_
        refine cg_X6_95 X h_l0 hS dX6_land_37 ?_
        obtain ⟨u_7, e_u_7, i_6, h⟩ := wc_of h
        refine cs_p12 X h_l0 hS i_6 e_u_7 dX6_land_40 (fun H locs hS => ?_)
        refine lv_iload hx hb dX6_land_41 (lv_at hl 0 rfl) ?_
        refine lv_istore_n (lv' := [(2, .int v_5), (4, .int v_5), (0, .ref (Z (300 + 50 * l0))), (3, .int l3)]) hx hb dX6_land_43 rfl hl (by decide) rfl (fun ls hl => ?_)
        refine lv_iinc (v := l3 + 1) (lv' := [(3, .int (l3 + 1)), (2, .int v_5), (4, .int v_5), (0, .ref (Z (300 + 50 * l0)))]) hx hb dX6_land_44 hl (k := 3) rfl rfl (by decide) rfl (fun ls hl => ?_)
        refine lv_goto (tgt := 4) hx hb dX6_land_47 (by decide) ?_
        exact hR_4 _ _ _ _ h_l0 h _ _ _ hS (lv_sub hl [3, 1, 0] rfl)
def LP_X6_land_4 (N : Nat) : Nat → Nat × Int32 × Int32 × CSt → Option (Int32 × CSt) := lp (fun R a => B_X6_land_4 N R a.1 a.2.1 a.2.2.1 a.2.2.2)
theorem bl_X6_land_4 {r : Int32} (X : CC p s m args c cX6_land 5 (Cond.code yX6_land cX6_land 5 none) RX6 D kA V A) (hE : CEv p l e R s m args below meth c cX6_land D kA Z A Q w) (hF : 0 ≤ R.frames) (hL : 0 ≤ R.locals)  : ∀ (n : Nat) (l0 : Nat) (l2 : Int32) (l3 : Int32) (u : CSt), l0 < 2 → LP_X6_land_4 N n (l0, l2, l3, u) = some (r, w) → ∀ (H : Heap) (locs : List Loc) (ls : Array Slot), CS D kA Z A s u H locs → lv_has ls 5 [(0, .ref (Z (300 + 50 * l0))), (2, .int l2), (3, .int l3)] → W p l e R s m args below meth c H locs 0 0 Q (F0 m 4 ls []) := by
  intro n
  induction n with
  | zero => intro l0 l2 l3 u h_l0 h; exact nomatch h
  | succ n ih => intro l0 l2 l3 u h_l0 h H locs ls hS hl; exact b_X6_land_4 (N := N) (R_4 := LP_X6_land_4 N n) X hE  hF hL  ih h h_l0 hS hl
def B_X6_land_0 (N : Nat) (l0 : Nat) (l1 : Int32) (u : CSt) : Option (Int32 × CSt) := LP_X6_land_4 N N (l0, l1, 0, u)
set_option maxHeartbeats 4000000 in
theorem b_X6_land_0 {r : Int32} (X : CC p s m args c cX6_land 5 (Cond.code yX6_land cX6_land 5 none) RX6 D kA V A) (hE : CEv p l e R s m args below meth c cX6_land D kA Z A Q w) (hF : 0 ≤ R.frames) (hL : 0 ≤ R.locals) {l0 : Nat} {l1 : Int32} {u : CSt}  (h : B_X6_land_0 N l0 l1 u = some (r, w)) (h_l0 : l0 < 2) (hS : CS D kA Z A s u H locs) (hl : lv_has ls 5 [(0, .ref (Z (300 + 50 * l0))), (1, .int l1)]) : W p l e R s m args below meth c H locs 0 0 Q (F0 m 0 ls []) := by
  obtain ⟨⟨hx, hb, hml, hown, hts⟩, hK, hEV, hA⟩ := id X
  have hG : ∀ w ∈ GW, w.before args s = true := fun w h => hts w (List.mem_cons_of_mem _ h)
  unfold B_X6_land_0 at h
  refine lv_iload_n hx hb dX6_land_0 rfl (lv_at hl 1 rfl) ?_
  refine lv_istore_n (lv' := [(2, .int l1), (0, .ref (Z (300 + 50 * l0))), (1, .int l1)]) hx hb dX6_land_1 rfl hl (by decide) rfl (fun ls hl => ?_)
  refine lv_iconst (v := 0) hx hb dX6_land_2 (by decide) ?_
  refine lv_istore_n (lv' := [(3, .int 0), (2, .int l1), (0, .ref (Z (300 + 50 * l0))), (1, .int l1)]) hx hb dX6_land_3 rfl hl (by decide) rfl (fun ls hl => ?_)
  exact bl_X6_land_4 X hE  hF hL  _ _ _ _ _ h_l0 h _ _ _ hS (lv_sub hl [2, 1, 0] rfl)
def F_X6_land (N : Nat) (l0 : Nat) (l1 : Int32) (u : CSt) : Option (Int32 × CSt) := B_X6_land_0 N l0 l1 u
set_option maxHeartbeats 4000000 in
theorem k_X6_land (l : Launch) (D : va_G) (kA : Nat → ClassId) (V Z : Nat → Nat) (N : Nat) (l0 : Nat) (l1 : Int32) (h_l0 : l0 < 2) (u : CSt) (sz : Nat) {r : Int32} {w : CSt} (h : F_X6_land N l0 l1 u = some (r, w)) : Met l yX6_land (Cond.code yX6_land cX6_land 5 none :: GW) { frames := 0, cells := 0, slots := 0, locals := 0 } (cPc D kA V Z [.ref (Z (300 + 50 * l0)), .int l1] u sz) (cQv D kA Z u sz w) 0 0 (va_A (CW kA Z u) sz) := by
  refine Met.ofW (cc := cX6_land) (maxL := 5) (ret := none) (by decide) rfl ?_
  intro p e s m args below meth c s₁ Bd hml hv
  obtain ⟨rfl, hsz, hP, hK, hD0, hE⟩ := hv
  have hts := atoms_spec (ws := Cond.code yX6_land cX6_land 5 none :: GW) Bd.pre
  have hl := lv_entry ([.ref (Z (300 + 50 * l0)), .int l1]) (n := 5) (Nat.le_of_ble_eq_true rfl)
  rw [lg_entry_eq]
  generalize (lg_sl ([.ref (Z (300 + 50 * l0)), .int l1]) ++ List.replicate (5 - (lg_sl ([.ref (Z (300 + 50 * l0)), .int l1])).length) Slot.unset).toArray = ls at hl ⊢
  have hl : lv_has ls 5 [(0, .ref (Z (300 + 50 * l0))), (1, .int l1)] := hl
  subst hsz
  have X : CC p s m ([.ref (Z (300 + 50 * l0)), .int l1]).toArray c cX6_land 5 (Cond.code yX6_land cX6_land 5 none) RX6 D kA V (va_A (CW kA Z u) s.heap.size) := ⟨⟨Bd.exec, Bd.bytes, hml, findClass_of_methodNamed Bd.named, hts⟩, hK, hE, fun q h => Or.inr h⟩
  refine b_X6_land_0 X (cend_v X Bd.returns Bd.notSynchronized) (Nat.le_refl _) (Nat.le_refl _) h h_l0 ⟨hP, hD0.self, va_S.rf⟩ (lv_sub hl [0, 1] rfl)
theorem kc_X6_land_RX8 {cc : ByteArray} {pc nL : Nat} {c0 : Cond} {rest : List Value} {l0 : Nat} {l1 : Int32} {u w1 : CSt} {r : Int32} (X : CC p s m args c cc nL c0 RX8 D kA V A) (h_l0 : l0 < 2) (hS : CS D kA Z A s u H locs) (h : F_X6_land N l0 l1 u = some (r, w1)) (hF : 0 + 1 ≤ R.frames) (hL : 8 + (5 + 11) + 0 ≤ R.locals) (hl : ls.size = nL) (hc : (rest.map fun v => v.category).sum ≤ 8) (hdg : decode cc pc = .ok (.invokevirtual 128, 3)) (kk : ∀ H locs, CS D kA Z A s w1 H locs → W p l e R s m args below meth c H locs 0 0 Q (F0 m (pc + 3) ls (rest))) : W p l e R s m args below meth c H locs 0 0 Q (F0 m pc ls (.int l1 :: .ref (Z (300 + 50 * l0)) :: rest)) :=
  ccall_v (n := 1) X hS (k_X6_land l D kA V Z N l0 l1 h_l0 u H.size h) (gw_V gw_1259 gw_1260 gw_1261 gw_10 gw_1262) (by decide +kernel) (cp_recv X.2.1 h_l0 hS) hF hL rfl hl hc rfl hdg kk
theorem kc_X6_land_RX3 {cc : ByteArray} {pc nL : Nat} {c0 : Cond} {rest : List Value} {l0 : Nat} {l1 : Int32} {u w1 : CSt} {r : Int32} (X : CC p s m args c cc nL c0 RX3 D kA V A) (h_l0 : l0 < 2) (hS : CS D kA Z A s u H locs) (h : F_X6_land N l0 l1 u = some (r, w1)) (hF : 0 + 1 ≤ R.frames) (hL : 8 + (5 + 11) + 0 ≤ R.locals) (hl : ls.size = nL) (hc : (rest.map fun v => v.category).sum ≤ 8) (hdg : decode cc pc = .ok (.invokevirtual 338, 3)) (kk : ∀ H locs, CS D kA Z A s w1 H locs → W p l e R s m args below meth c H locs 0 0 Q (F0 m (pc + 3) ls (rest))) : W p l e R s m args below meth c H locs 0 0 Q (F0 m pc ls (.int l1 :: .ref (Z (300 + 50 * l0)) :: rest)) :=
  ccall_v (n := 1) X hS (k_X6_land l D kA V Z N l0 l1 h_l0 u H.size h) (gw_V gw_1280 gw_1260 gw_1261 gw_10 gw_1262) (by decide +kernel) (cp_recv X.2.1 h_l0 hS) hF hL rfl hl hc rfl hdg kk
def B_X6_label_0 (N : Nat) (l0 : Nat) (l1 : Int64) (l3 : Int64) (u : CSt) : Option (Int32 × CSt) := if (750 : Int32) ≤ (pI u l0 14) then (some (0, u)) else (wc 750 (pI u l0 14) (xpB u l0 15 (pI u l0 14).toNatClampNeg l1) fun u_3 => wc 750 (pI u_3 l0 14) (xpB u_3 l0 16 (pI u_3 l0 14).toNatClampNeg l3) fun u_5 => pc (xpI u_5 l0 14 ((pI u_5 l0 14) + 1)) fun u_6 => some (0, u_6))
set_option maxHeartbeats 4000000 in
theorem b_X6_label_0 {r : Int32} (X : CC p s m args c cX6_label 5 (Cond.code yX6_label cX6_label 5 none) RX6 D kA V A) (hE : CEv p l e R s m args below meth c cX6_label D kA Z A Q w) (hF : 0 ≤ R.frames) (hL : 0 ≤ R.locals) {l0 : Nat} {l1 : Int64} {l3 : Int64} {u : CSt}  (h : B_X6_label_0 N l0 l1 l3 u = some (r, w)) (h_l0 : l0 < 2) (hS : CS D kA Z A s u H locs) (hl : lv_has ls 5 [(0, .ref (Z (300 + 50 * l0))), (1, .long l1), (3, .long l3)]) : W p l e R s m args below meth c H locs 0 0 Q (F0 m 0 ls []) := by
  obtain ⟨⟨hx, hb, hml, hown, hts⟩, hK, hEV, hA⟩ := id X
  have hG : ∀ w ∈ GW, w.before args s = true := fun w h => hts w (List.mem_cons_of_mem _ h)
  unfold B_X6_label_0 at h
  refine lv_aload_n hx hb dX6_label_0 rfl (lv_at hl 0 rfl) ?_
  refine cg_X6_98 X h_l0 hS dX6_label_1 ?_
  refine lv_sipush (v := 750) hx hb dX6_label_4 (by decide) ?_
  refine lv_icmp_ge (tgt := 40) hx hb dX6_label_7 (by decide) (fun c_1 => ?_) (fun c_1 => ?_)
  · have h := ip (c_1) h
    obtain ⟨-, rfl⟩ := so9 h
    exact hE _ _ _ _ hS dX6_label_40
  · have h := im (c_1) h
    refine lv_aload_n hx hb dX6_label_10 rfl (lv_at hl 0 rfl) ?_
    refine cg_X6_55 X h_l0 hS dX6_label_11 ?_
    refine lv_aload_n hx hb dX6_label_14 rfl (lv_at hl 0 rfl) ?_
    refine cg_X6_98 X h_l0 hS dX6_label_15 ?_
    refine lv_lload_n hx hb dX6_label_18 rfl (lv_at hl 1 rfl) ?_
    obtain ⟨u_3, e_u_3, i_2, h⟩ := wc_of h
    refine cs_p15 X h_l0 hS i_2 e_u_3 dX6_label_19 (fun H locs hS => ?_)
    refine lv_aload_n hx hb dX6_label_20 rfl (lv_at hl 0 rfl) ?_
    refine cg_X6_59 X h_l0 hS dX6_label_21 ?_
    refine lv_aload_n hx hb dX6_label_24 rfl (lv_at hl 0 rfl) ?_
    refine cg_X6_98 X h_l0 hS dX6_label_25 ?_
    refine lv_lload_n hx hb dX6_label_28 rfl (lv_at hl 2 rfl) ?_
    obtain ⟨u_5, e_u_5, i_4, h⟩ := wc_of h
    refine cs_p16 X h_l0 hS i_4 e_u_5 dX6_label_29 (fun H locs hS => ?_)
    refine lv_aload_n hx hb dX6_label_30 rfl (lv_at hl 0 rfl) ?_
    refine lv_dup hx hb dX6_label_31 rfl ?_
    refine cg_X6_98 X h_l0 hS dX6_label_32 ?_
    refine lv_iconst (v := 1) hx hb dX6_label_35 (by decide) ?_
    refine lv_iadd hx hb dX6_label_36 ?_
    obtain ⟨u_6, e_u_6, h⟩ := pc_of h
    refine cp_X6_98 X h_l0 hS e_u_6 dX6_label_37 (fun H locs hS => ?_)
    obtain ⟨-, rfl⟩ := so9 h
    exact hE _ _ _ _ hS dX6_label_40
def F_X6_label (N : Nat) (l0 : Nat) (l1 : Int64) (l3 : Int64) (u : CSt) : Option (Int32 × CSt) := B_X6_label_0 N l0 l1 l3 u
set_option maxHeartbeats 4000000 in
theorem k_X6_label (l : Launch) (D : va_G) (kA : Nat → ClassId) (V Z : Nat → Nat) (N : Nat) (l0 : Nat) (l1 : Int64) (l3 : Int64) (h_l0 : l0 < 2) (u : CSt) (sz : Nat) {r : Int32} {w : CSt} (h : F_X6_label N l0 l1 l3 u = some (r, w)) : Met l yX6_label (Cond.code yX6_label cX6_label 5 none :: GW) { frames := 0, cells := 0, slots := 0, locals := 0 } (cPc D kA V Z [.ref (Z (300 + 50 * l0)), .long l1, .long l3] u sz) (cQv D kA Z u sz w) 0 0 (va_A (CW kA Z u) sz) := by
  refine Met.ofW (cc := cX6_label) (maxL := 5) (ret := none) (by decide) rfl ?_
  intro p e s m args below meth c s₁ Bd hml hv
  obtain ⟨rfl, hsz, hP, hK, hD0, hE⟩ := hv
  have hts := atoms_spec (ws := Cond.code yX6_label cX6_label 5 none :: GW) Bd.pre
  have hl := lv_entry ([.ref (Z (300 + 50 * l0)), .long l1, .long l3]) (n := 5) (Nat.le_of_ble_eq_true rfl)
  rw [lg_entry_eq]
  generalize (lg_sl ([.ref (Z (300 + 50 * l0)), .long l1, .long l3]) ++ List.replicate (5 - (lg_sl ([.ref (Z (300 + 50 * l0)), .long l1, .long l3])).length) Slot.unset).toArray = ls at hl ⊢
  have hl : lv_has ls 5 [(0, .ref (Z (300 + 50 * l0))), (1, .long l1), (3, .long l3)] := hl
  subst hsz
  have X : CC p s m ([.ref (Z (300 + 50 * l0)), .long l1, .long l3]).toArray c cX6_label 5 (Cond.code yX6_label cX6_label 5 none) RX6 D kA V (va_A (CW kA Z u) s.heap.size) := ⟨⟨Bd.exec, Bd.bytes, hml, findClass_of_methodNamed Bd.named, hts⟩, hK, hE, fun q h => Or.inr h⟩
  refine b_X6_label_0 X (cend_v X Bd.returns Bd.notSynchronized) (Nat.le_refl _) (Nat.le_refl _) h h_l0 ⟨hP, hD0.self, va_S.rf⟩ (lv_sub hl [0, 1, 2] rfl)
theorem kc_X6_label_RX3 {cc : ByteArray} {pc nL : Nat} {c0 : Cond} {rest : List Value} {l0 : Nat} {l1 : Int64} {l3 : Int64} {u w1 : CSt} {r : Int32} (X : CC p s m args c cc nL c0 RX3 D kA V A) (h_l0 : l0 < 2) (hS : CS D kA Z A s u H locs) (h : F_X6_label N l0 l1 l3 u = some (r, w1)) (hF : 0 + 1 ≤ R.frames) (hL : 8 + (5 + 11) + 0 ≤ R.locals) (hl : ls.size = nL) (hc : (rest.map fun v => v.category).sum ≤ 8) (hdg : decode cc pc = .ok (.invokevirtual 355, 3)) (kk : ∀ H locs, CS D kA Z A s w1 H locs → W p l e R s m args below meth c H locs 0 0 Q (F0 m (pc + 3) ls (rest))) : W p l e R s m args below meth c H locs 0 0 Q (F0 m pc ls (.long l3 :: .long l1 :: .ref (Z (300 + 50 * l0)) :: rest)) :=
  ccall_v (n := 2) X hS (k_X6_label l D kA V Z N l0 l1 l3 h_l0 u H.size h) (gw_V gw_1316 gw_1317 gw_1318 gw_10 gw_1319) (by decide +kernel) (cp_recv X.2.1 h_l0 hS) hF hL rfl hl hc rfl hdg kk
def B_X6_liesIn_52 (N : Nat) (R_3 : Nat × Int64 × Int32 × Int32 × Int32 × CSt → Option (Int32 × CSt)) (l0 : Nat) (l1 : Int64) (l3 : Int32) (l4 : Int32) (l5 : Int32) (u : CSt) : Option (Int32 × CSt) := R_3 (l0, l1, l3, l4, (l5 + 1), u)
set_option maxHeartbeats 4000000 in
theorem b_X6_liesIn_52 {r : Int32} (X : CC p s m args c cX6_liesIn 6 (Cond.code yX6_liesIn cX6_liesIn 6 (some .boolean)) RX6 D kA V A) (hE : CEz p l e R s m args below meth c cX6_liesIn D kA Z A Q r w) (hF : 0 ≤ R.frames) (hL : 0 ≤ R.locals) {R_3 : Nat × Int64 × Int32 × Int32 × Int32 × CSt → Option (Int32 × CSt)} {l0 : Nat} {l1 : Int64} {l3 : Int32} {l4 : Int32} {l5 : Int32} {u : CSt} (hR_3 : ∀ (l0 : Nat) (l1 : Int64) (l3 : Int32) (l4 : Int32) (l5 : Int32) (u : CSt), l0 < 2 → R_3 (l0, l1, l3, l4, l5, u) = some (r, w) → ∀ (H : Heap) (locs : List Loc) (ls : Array Slot), CS D kA Z A s u H locs → lv_has ls 6 [(0, .ref (Z (300 + 50 * l0))), (1, .long l1), (3, .int l3), (4, .int l4), (5, .int l5)] → W p l e R s m args below meth c H locs 0 0 Q (F0 m 3 ls [])) (h : B_X6_liesIn_52 N R_3 l0 l1 l3 l4 l5 u = some (r, w)) (h_l0 : l0 < 2) (hS : CS D kA Z A s u H locs) (hl : lv_has ls 6 [(0, .ref (Z (300 + 50 * l0))), (1, .long l1), (3, .int l3), (4, .int l4), (5, .int l5)]) : W p l e R s m args below meth c H locs 0 0 Q (F0 m 52 ls []) := by
  obtain ⟨⟨hx, hb, hml, hown, hts⟩, hK, hEV, hA⟩ := id X
  have hG : ∀ w ∈ GW, w.before args s = true := fun w h => hts w (List.mem_cons_of_mem _ h)
  unfold B_X6_liesIn_52 at h
  refine lv_iinc (v := l5 + 1) (lv' := [(5, .int (l5 + 1)), (0, .ref (Z (300 + 50 * l0))), (1, .long l1), (3, .int l3), (4, .int l4)]) hx hb dX6_liesIn_52 hl (k := 4) rfl rfl (by decide) rfl (fun ls hl => ?_)
  refine lv_goto (tgt := 3) hx hb dX6_liesIn_55 (by decide) ?_
  exact hR_3 _ _ _ _ _ _ h_l0 h _ _ _ hS (lv_sub hl [1, 2, 3, 4, 0] rfl)
def B_X6_liesIn_3 (N : Nat) (R_3 : Nat × Int64 × Int32 × Int32 × Int32 × CSt → Option (Int32 × CSt)) (l0 : Nat) (l1 : Int64) (l3 : Int32) (l4 : Int32) (l5 : Int32) (u : CSt) : Option (Int32 × CSt) := if (l3 + l4) ≤ l5 then (some (0, u)) else (if l5 < (0 : Int32) then (some (0, u)) else (if (pI u l0 14) ≤ l5 then (some (0, u)) else (rd (pB u l0 15) 750 l5 fun v_5 => if l1 < v_5 then (B_X6_liesIn_52 N R_3 l0 l1 l3 l4 l5 u) else (rd (pB u l0 16) 750 l5 fun v_8 => if v_8 < l1 then (B_X6_liesIn_52 N R_3 l0 l1 l3 l4 l5 u) else (some (1, u))))))
set_option maxHeartbeats 4000000 in
theorem b_X6_liesIn_3 {r : Int32} (X : CC p s m args c cX6_liesIn 6 (Cond.code yX6_liesIn cX6_liesIn 6 (some .boolean)) RX6 D kA V A) (hE : CEz p l e R s m args below meth c cX6_liesIn D kA Z A Q r w) (hF : 0 ≤ R.frames) (hL : 0 ≤ R.locals) {R_3 : Nat × Int64 × Int32 × Int32 × Int32 × CSt → Option (Int32 × CSt)} {l0 : Nat} {l1 : Int64} {l3 : Int32} {l4 : Int32} {l5 : Int32} {u : CSt} (hR_3 : ∀ (l0 : Nat) (l1 : Int64) (l3 : Int32) (l4 : Int32) (l5 : Int32) (u : CSt), l0 < 2 → R_3 (l0, l1, l3, l4, l5, u) = some (r, w) → ∀ (H : Heap) (locs : List Loc) (ls : Array Slot), CS D kA Z A s u H locs → lv_has ls 6 [(0, .ref (Z (300 + 50 * l0))), (1, .long l1), (3, .int l3), (4, .int l4), (5, .int l5)] → W p l e R s m args below meth c H locs 0 0 Q (F0 m 3 ls [])) (h : B_X6_liesIn_3 N R_3 l0 l1 l3 l4 l5 u = some (r, w)) (h_l0 : l0 < 2) (hS : CS D kA Z A s u H locs) (hl : lv_has ls 6 [(0, .ref (Z (300 + 50 * l0))), (1, .long l1), (3, .int l3), (4, .int l4), (5, .int l5)]) : W p l e R s m args below meth c H locs 0 0 Q (F0 m 3 ls []) := by
  obtain ⟨⟨hx, hb, hml, hown, hts⟩, hK, hEV, hA⟩ := id X
  have hG : ∀ w ∈ GW, w.before args s = true := fun w h => hts w (List.mem_cons_of_mem _ h)
  unfold B_X6_liesIn_3 at h
  refine lv_iload hx hb dX6_liesIn_3 (lv_at hl 4 rfl) ?_
  refine lv_iload_n hx hb dX6_liesIn_5 rfl (lv_at hl 2 rfl) ?_
  refine lv_iload hx hb dX6_liesIn_6 (lv_at hl 3 rfl) ?_
  refine lv_iadd hx hb dX6_liesIn_8 ?_
  refine lv_icmp_ge (tgt := 58) hx hb dX6_liesIn_9 (by decide) (fun c_1 => ?_) (fun c_1 => ?_)
  · have h := ip (c_1) h
    refine lv_iconst (v := 0) hx hb dX6_liesIn_58 (by decide) ?_
    obtain ⟨rfl, rfl⟩ := so9 h
    exact hE _ _ _ _ hS (Or.inl rfl) dX6_liesIn_59
  · have h := im (c_1) h
    refine lv_iload hx hb dX6_liesIn_12 (lv_at hl 4 rfl) ?_
    refine lv_if_lt (tgt := 58) hx hb dX6_liesIn_14 (by decide) (fun c_2 => ?_) (fun c_2 => ?_)
    · have h := ip (c_2) h
      refine lv_iconst (v := 0) hx hb dX6_liesIn_58 (by decide) ?_
      obtain ⟨rfl, rfl⟩ := so9 h
      exact hE _ _ _ _ hS (Or.inl rfl) dX6_liesIn_59
    · have h := im (c_2) h
      refine lv_iload hx hb dX6_liesIn_17 (lv_at hl 4 rfl) ?_
      refine lv_aload_n hx hb dX6_liesIn_19 rfl (lv_at hl 0 rfl) ?_
      refine cg_X6_98 X h_l0 hS dX6_liesIn_20 ?_
      refine lv_icmp_ge (tgt := 58) hx hb dX6_liesIn_23 (by decide) (fun c_3 => ?_) (fun c_3 => ?_)
      · have h := ip (c_3) h
        refine lv_iconst (v := 0) hx hb dX6_liesIn_58 (by decide) ?_
        obtain ⟨rfl, rfl⟩ := so9 h
        exact hE _ _ _ _ hS (Or.inl rfl) dX6_liesIn_59
      · have h := im (c_3) h
        refine lv_lload_n hx hb dX6_liesIn_26 rfl (lv_at hl 1 rfl) ?_
        refine lv_aload_n hx hb dX6_liesIn_27 rfl (lv_at hl 0 rfl) ?_
        refine cg_X6_55 X h_l0 hS dX6_liesIn_28 ?_
        refine lv_iload hx hb dX6_liesIn_31 (lv_at hl 4 rfl) ?_
        obtain ⟨v_5, e_v_5, i_4, h⟩ := rd_of h
        refine ca_p15 X h_l0 hS i_4 e_v_5 dX6_liesIn_33 ?_
        refine W.lcmp hx hb dX6_liesIn_34 ?_
        refine lv_if_lt (tgt := 52) hx hb dX6_liesIn_35 (by decide) (fun c_6 => ?_) (fun c_6 => ?_)
        · have h := ip ((lg_cmp_lt _ _).mp c_6) h
          exact b_X6_liesIn_52 X hE  hF hL hR_3 h h_l0 hS (lv_sub hl [0, 1, 2, 3, 4] rfl)
        · have h := im (mt (lg_cmp_lt _ _).mpr c_6) h
          refine lv_lload_n hx hb dX6_liesIn_38 rfl (lv_at hl 1 rfl) ?_
          refine lv_aload_n hx hb dX6_liesIn_39 rfl (lv_at hl 0 rfl) ?_
          refine cg_X6_59 X h_l0 hS dX6_liesIn_40 ?_
          refine lv_iload hx hb dX6_liesIn_43 (lv_at hl 4 rfl) ?_
          obtain ⟨v_8, e_v_8, i_7, h⟩ := rd_of h
          refine ca_p16 X h_l0 hS i_7 e_v_8 dX6_liesIn_45 ?_
          refine W.lcmp hx hb dX6_liesIn_46 ?_
          refine lv_if_gt (tgt := 52) hx hb dX6_liesIn_47 (by decide) (fun c_9 => ?_) (fun c_9 => ?_)
          · have h := ip ((lg_cmp_gt _ _).mp c_9) h
            exact b_X6_liesIn_52 X hE  hF hL hR_3 h h_l0 hS (lv_sub hl [0, 1, 2, 3, 4] rfl)
          · have h := im (mt (lg_cmp_gt _ _).mpr c_9) h
            refine lv_iconst (v := 1) hx hb dX6_liesIn_50 (by decide) ?_
            obtain ⟨rfl, rfl⟩ := so9 h
            exact hE _ _ _ _ hS (Or.inr rfl) dX6_liesIn_51
def LP_X6_liesIn_3 (N : Nat) : Nat → Nat × Int64 × Int32 × Int32 × Int32 × CSt → Option (Int32 × CSt) := lp (fun R a => B_X6_liesIn_3 N R a.1 a.2.1 a.2.2.1 a.2.2.2.1 a.2.2.2.2.1 a.2.2.2.2.2)
theorem bl_X6_liesIn_3 {r : Int32} (X : CC p s m args c cX6_liesIn 6 (Cond.code yX6_liesIn cX6_liesIn 6 (some .boolean)) RX6 D kA V A) (hE : CEz p l e R s m args below meth c cX6_liesIn D kA Z A Q r w) (hF : 0 ≤ R.frames) (hL : 0 ≤ R.locals)  : ∀ (n : Nat) (l0 : Nat) (l1 : Int64) (l3 : Int32) (l4 : Int32) (l5 : Int32) (u : CSt), l0 < 2 → LP_X6_liesIn_3 N n (l0, l1, l3, l4, l5, u) = some (r, w) → ∀ (H : Heap) (locs : List Loc) (ls : Array Slot), CS D kA Z A s u H locs → lv_has ls 6 [(0, .ref (Z (300 + 50 * l0))), (1, .long l1), (3, .int l3), (4, .int l4), (5, .int l5)] → W p l e R s m args below meth c H locs 0 0 Q (F0 m 3 ls []) := by
  intro n
  induction n with
  | zero => intro l0 l1 l3 l4 l5 u h_l0 h; exact nomatch h
  | succ n ih => intro l0 l1 l3 l4 l5 u h_l0 h H locs ls hS hl; exact b_X6_liesIn_3 (N := N) (R_3 := LP_X6_liesIn_3 N n) X hE  hF hL  ih h h_l0 hS hl
def B_X6_liesIn_0 (N : Nat) (l0 : Nat) (l1 : Int64) (l3 : Int32) (l4 : Int32) (u : CSt) : Option (Int32 × CSt) := LP_X6_liesIn_3 N N (l0, l1, l3, l4, l3, u)
set_option maxHeartbeats 4000000 in
theorem b_X6_liesIn_0 {r : Int32} (X : CC p s m args c cX6_liesIn 6 (Cond.code yX6_liesIn cX6_liesIn 6 (some .boolean)) RX6 D kA V A) (hE : CEz p l e R s m args below meth c cX6_liesIn D kA Z A Q r w) (hF : 0 ≤ R.frames) (hL : 0 ≤ R.locals) {l0 : Nat} {l1 : Int64} {l3 : Int32} {l4 : Int32} {u : CSt}  (h : B_X6_liesIn_0 N l0 l1 l3 l4 u = some (r, w)) (h_l0 : l0 < 2) (hS : CS D kA Z A s u H locs) (hl : lv_has ls 6 [(0, .ref (Z (300 + 50 * l0))), (1, .long l1), (3, .int l3), (4, .int l4)]) : W p l e R s m args below meth c H locs 0 0 Q (F0 m 0 ls []) := by
  obtain ⟨⟨hx, hb, hml, hown, hts⟩, hK, hEV, hA⟩ := id X
  have hG : ∀ w ∈ GW, w.before args s = true := fun w h => hts w (List.mem_cons_of_mem _ h)
  unfold B_X6_liesIn_0 at h
  refine lv_iload_n hx hb dX6_liesIn_0 rfl (lv_at hl 2 rfl) ?_
  refine lv_istore (lv' := [(5, .int l3), (0, .ref (Z (300 + 50 * l0))), (1, .long l1), (3, .int l3), (4, .int l4)]) hx hb dX6_liesIn_1 hl (by decide) rfl (fun ls hl => ?_)
  exact bl_X6_liesIn_3 X hE  hF hL  _ _ _ _ _ _ _ h_l0 h _ _ _ hS (lv_sub hl [1, 2, 3, 4, 0] rfl)
def F_X6_liesIn (N : Nat) (l0 : Nat) (l1 : Int64) (l3 : Int32) (l4 : Int32) (u : CSt) : Option (Int32 × CSt) := B_X6_liesIn_0 N l0 l1 l3 l4 u
set_option maxHeartbeats 4000000 in
theorem k_X6_liesIn (l : Launch) (D : va_G) (kA : Nat → ClassId) (V Z : Nat → Nat) (N : Nat) (l0 : Nat) (l1 : Int64) (l3 : Int32) (l4 : Int32) (h_l0 : l0 < 2) (u : CSt) (sz : Nat) {r : Int32} {w : CSt} (h : F_X6_liesIn N l0 l1 l3 l4 u = some (r, w)) : Met l yX6_liesIn (Cond.code yX6_liesIn cX6_liesIn 6 (some .boolean) :: GW) { frames := 0, cells := 0, slots := 0, locals := 0 } (cPc D kA V Z [.ref (Z (300 + 50 * l0)), .long l1, .int l3, .int l4] u sz) (cQi D kA Z u sz r w) 0 0 (va_A (CW kA Z u) sz) := by
  refine Met.ofW (cc := cX6_liesIn) (maxL := 6) (ret := (some .boolean)) (by decide) rfl ?_
  intro p e s m args below meth c s₁ Bd hml hv
  obtain ⟨rfl, hsz, hP, hK, hD0, hE⟩ := hv
  have hts := atoms_spec (ws := Cond.code yX6_liesIn cX6_liesIn 6 (some .boolean) :: GW) Bd.pre
  have hl := lv_entry ([.ref (Z (300 + 50 * l0)), .long l1, .int l3, .int l4]) (n := 6) (Nat.le_of_ble_eq_true rfl)
  rw [lg_entry_eq]
  generalize (lg_sl ([.ref (Z (300 + 50 * l0)), .long l1, .int l3, .int l4]) ++ List.replicate (6 - (lg_sl ([.ref (Z (300 + 50 * l0)), .long l1, .int l3, .int l4])).length) Slot.unset).toArray = ls at hl ⊢
  have hl : lv_has ls 6 [(0, .ref (Z (300 + 50 * l0))), (1, .long l1), (3, .int l3), (4, .int l4)] := hl
  subst hsz
  have X : CC p s m ([.ref (Z (300 + 50 * l0)), .long l1, .int l3, .int l4]).toArray c cX6_liesIn 6 (Cond.code yX6_liesIn cX6_liesIn 6 (some .boolean)) RX6 D kA V (va_A (CW kA Z u) s.heap.size) := ⟨⟨Bd.exec, Bd.bytes, hml, findClass_of_methodNamed Bd.named, hts⟩, hK, hE, fun q h => Or.inr h⟩
  refine b_X6_liesIn_0 X (cend_z X Bd.returns Bd.notSynchronized) (Nat.le_refl _) (Nat.le_refl _) h h_l0 ⟨hP, hD0.self, va_S.rf⟩ (lv_sub hl [0, 1, 2, 3] rfl)
theorem kc_X6_liesIn_RX2 {cc : ByteArray} {pc nL : Nat} {c0 : Cond} {rest : List Value} {l0 : Nat} {l1 : Int64} {l3 : Int32} {l4 : Int32} {u w1 : CSt} {r : Int32} (X : CC p s m args c cc nL c0 RX2 D kA V A) (h_l0 : l0 < 2) (hS : CS D kA Z A s u H locs) (h : F_X6_liesIn N l0 l1 l3 l4 u = some (r, w1)) (hF : 0 + 1 ≤ R.frames) (hL : 8 + (6 + 11) + 0 ≤ R.locals) (hl : ls.size = nL) (hc : (rest.map fun v => v.category).sum ≤ 8) (hdg : decode cc pc = .ok (.invokevirtual 242, 3)) (kk : ∀ H locs, CS D kA Z A s w1 H locs → W p l e R s m args below meth c H locs 0 0 Q (F0 m (pc + 3) ls (.int r :: rest))) : W p l e R s m args below meth c H locs 0 0 Q (F0 m pc ls (.int l4 :: .int l3 :: .long l1 :: .ref (Z (300 + 50 * l0)) :: rest)) :=
  ccall_i (n := 3) X hS (k_X6_liesIn l D kA V Z N l0 l1 l3 l4 h_l0 u H.size h) (gw_V gw_1592 gw_1593 gw_1594 gw_10 gw_1595) (by decide +kernel) (cp_recv X.2.1 h_l0 hS) hF hL rfl hl hc rfl hdg kk
end C32leaf
