abbrev cX9_rewind : ByteArray := prog_11_method_3_code
def yX9_rewind : MethodName := ⟨RX9, "rewind", "()V"⟩
theorem dX9_rewind_0 : decode cX9_rewind 0 = .ok (.aload_n 0, 1) := by decide +kernel
theorem dX9_rewind_1 : decode cX9_rewind 1 = .ok (.iconst 0, 1) := by decide +kernel
theorem dX9_rewind_2 : decode cX9_rewind 2 = .ok (.putfield 53, 3) := by decide +kernel
theorem dX9_rewind_5 : decode cX9_rewind 5 = .ok (.return_, 1) := by decide +kernel
abbrev cX9_type : ByteArray := prog_11_method_4_code
def yX9_type : MethodName := ⟨RX9, "type", "()I"⟩
theorem dX9_type_0 : decode cX9_type 0 = .ok (.aload_n 0, 1) := by decide +kernel
theorem dX9_type_1 : decode cX9_type 1 = .ok (.getfield 9, 3) := by decide +kernel
theorem dX9_type_4 : decode cX9_type 4 = .ok (.aload_n 0, 1) := by decide +kernel
theorem dX9_type_5 : decode cX9_type 5 = .ok (.getfield 53, 3) := by decide +kernel
theorem dX9_type_8 : decode cX9_type 8 = .ok (.iaload, 1) := by decide +kernel
theorem dX9_type_9 : decode cX9_type 9 = .ok (.ireturn, 1) := by decide +kernel
abbrev cX9_typeAhead : ByteArray := prog_11_method_5_code
def yX9_typeAhead : MethodName := ⟨RX9, "typeAhead", "(I)I"⟩
theorem dX9_typeAhead_0 : decode cX9_typeAhead 0 = .ok (.aload_n 0, 1) := by decide +kernel
theorem dX9_typeAhead_1 : decode cX9_typeAhead 1 = .ok (.getfield 53, 3) := by decide +kernel
theorem dX9_typeAhead_4 : decode cX9_typeAhead 4 = .ok (.iload_n 1, 1) := by decide +kernel
theorem dX9_typeAhead_5 : decode cX9_typeAhead 5 = .ok (.iadd, 1) := by decide +kernel
theorem dX9_typeAhead_6 : decode cX9_typeAhead 6 = .ok (.aload_n 0, 1) := by decide +kernel
theorem dX9_typeAhead_7 : decode cX9_typeAhead 7 = .ok (.getfield 50, 3) := by decide +kernel
theorem dX9_typeAhead_10 : decode cX9_typeAhead 10 = .ok (.if_icmp .gt 17, 3) := by decide +kernel
theorem dX9_typeAhead_13 : decode cX9_typeAhead 13 = .ok (.aload_n 0, 1) := by decide +kernel
theorem dX9_typeAhead_14 : decode cX9_typeAhead 14 = .ok (.getfield 9, 3) := by decide +kernel
theorem dX9_typeAhead_17 : decode cX9_typeAhead 17 = .ok (.aload_n 0, 1) := by decide +kernel
theorem dX9_typeAhead_18 : decode cX9_typeAhead 18 = .ok (.getfield 53, 3) := by decide +kernel
theorem dX9_typeAhead_21 : decode cX9_typeAhead 21 = .ok (.iload_n 1, 1) := by decide +kernel
theorem dX9_typeAhead_22 : decode cX9_typeAhead 22 = .ok (.iadd, 1) := by decide +kernel
theorem dX9_typeAhead_23 : decode cX9_typeAhead 23 = .ok (.iaload, 1) := by decide +kernel
theorem dX9_typeAhead_24 : decode cX9_typeAhead 24 = .ok (.goto 4, 3) := by decide +kernel
theorem dX9_typeAhead_27 : decode cX9_typeAhead 27 = .ok (.iconst 0, 1) := by decide +kernel
theorem dX9_typeAhead_28 : decode cX9_typeAhead 28 = .ok (.ireturn, 1) := by decide +kernel
abbrev cX9_is : ByteArray := prog_11_method_6_code
def yX9_is : MethodName := ⟨RX9, "is", "(I)Z"⟩
theorem dX9_is_0 : decode cX9_is 0 = .ok (.aload_n 0, 1) := by decide +kernel
theorem dX9_is_1 : decode cX9_is 1 = .ok (.getfield 9, 3) := by decide +kernel
theorem dX9_is_4 : decode cX9_is 4 = .ok (.aload_n 0, 1) := by decide +kernel
theorem dX9_is_5 : decode cX9_is 5 = .ok (.getfield 53, 3) := by decide +kernel
theorem dX9_is_8 : decode cX9_is 8 = .ok (.iaload, 1) := by decide +kernel
theorem dX9_is_9 : decode cX9_is 9 = .ok (.iload_n 1, 1) := by decide +kernel
theorem dX9_is_10 : decode cX9_is 10 = .ok (.if_icmp .ne 7, 3) := by decide +kernel
theorem dX9_is_13 : decode cX9_is 13 = .ok (.iconst 1, 1) := by decide +kernel
theorem dX9_is_14 : decode cX9_is 14 = .ok (.goto 4, 3) := by decide +kernel
theorem dX9_is_17 : decode cX9_is 17 = .ok (.iconst 0, 1) := by decide +kernel
theorem dX9_is_18 : decode cX9_is 18 = .ok (.ireturn, 1) := by decide +kernel
abbrev cX9_isKindWord : ByteArray := prog_11_method_7_code
def yX9_isKindWord : MethodName := ⟨RX9, "isKindWord", "()Z"⟩
theorem dX9_isKindWord_0 : decode cX9_isKindWord 0 = .ok (.aload_n 0, 1) := by decide +kernel
theorem dX9_isKindWord_1 : decode cX9_isKindWord 1 = .ok (.getfield 9, 3) := by decide +kernel
theorem dX9_isKindWord_4 : decode cX9_isKindWord 4 = .ok (.aload_n 0, 1) := by decide +kernel
theorem dX9_isKindWord_5 : decode cX9_isKindWord 5 = .ok (.getfield 53, 3) := by decide +kernel
theorem dX9_isKindWord_8 : decode cX9_isKindWord 8 = .ok (.iaload, 1) := by decide +kernel
theorem dX9_isKindWord_9 : decode cX9_isKindWord 9 = .ok (.bipush 12, 2) := by decide +kernel
theorem dX9_isKindWord_11 : decode cX9_isKindWord 11 = .ok (.if_icmp .lt 21, 3) := by decide +kernel
theorem dX9_isKindWord_14 : decode cX9_isKindWord 14 = .ok (.aload_n 0, 1) := by decide +kernel
theorem dX9_isKindWord_15 : decode cX9_isKindWord 15 = .ok (.getfield 9, 3) := by decide +kernel
theorem dX9_isKindWord_18 : decode cX9_isKindWord 18 = .ok (.aload_n 0, 1) := by decide +kernel
theorem dX9_isKindWord_19 : decode cX9_isKindWord 19 = .ok (.getfield 53, 3) := by decide +kernel
theorem dX9_isKindWord_22 : decode cX9_isKindWord 22 = .ok (.iaload, 1) := by decide +kernel
theorem dX9_isKindWord_23 : decode cX9_isKindWord 23 = .ok (.bipush 16, 2) := by decide +kernel
theorem dX9_isKindWord_25 : decode cX9_isKindWord 25 = .ok (.if_icmp .gt 7, 3) := by decide +kernel
theorem dX9_isKindWord_28 : decode cX9_isKindWord 28 = .ok (.iconst 1, 1) := by decide +kernel
theorem dX9_isKindWord_29 : decode cX9_isKindWord 29 = .ok (.goto 4, 3) := by decide +kernel
theorem dX9_isKindWord_32 : decode cX9_isKindWord 32 = .ok (.iconst 0, 1) := by decide +kernel
theorem dX9_isKindWord_33 : decode cX9_isKindWord 33 = .ok (.ireturn, 1) := by decide +kernel
abbrev cX9_here : ByteArray := prog_11_method_8_code
def yX9_here : MethodName := ⟨RX9, "here", "()I"⟩
theorem dX9_here_0 : decode cX9_here 0 = .ok (.aload_n 0, 1) := by decide +kernel
theorem dX9_here_1 : decode cX9_here 1 = .ok (.getfield 15, 3) := by decide +kernel
theorem dX9_here_4 : decode cX9_here 4 = .ok (.aload_n 0, 1) := by decide +kernel
theorem dX9_here_5 : decode cX9_here 5 = .ok (.getfield 53, 3) := by decide +kernel
theorem dX9_here_8 : decode cX9_here 8 = .ok (.iaload, 1) := by decide +kernel
theorem dX9_here_9 : decode cX9_here 9 = .ok (.ireturn, 1) := by decide +kernel
abbrev cX9_head : ByteArray := prog_11_method_9_code
def yX9_head : MethodName := ⟨RX9, "head", "()J"⟩
theorem dX9_head_0 : decode cX9_head 0 = .ok (.aload_n 0, 1) := by decide +kernel
theorem dX9_head_1 : decode cX9_head 1 = .ok (.getfield 18, 3) := by decide +kernel
theorem dX9_head_4 : decode cX9_head 4 = .ok (.aload_n 0, 1) := by decide +kernel
theorem dX9_head_5 : decode cX9_head 5 = .ok (.getfield 53, 3) := by decide +kernel
theorem dX9_head_8 : decode cX9_head 8 = .ok (.laload, 1) := by decide +kernel
theorem dX9_head_9 : decode cX9_head 9 = .ok (.lreturn, 1) := by decide +kernel
abbrev cX9_tail : ByteArray := prog_11_method_10_code
def yX9_tail : MethodName := ⟨RX9, "tail", "()I"⟩
theorem dX9_tail_0 : decode cX9_tail 0 = .ok (.aload_n 0, 1) := by decide +kernel
theorem dX9_tail_1 : decode cX9_tail 1 = .ok (.getfield 22, 3) := by decide +kernel
theorem dX9_tail_4 : decode cX9_tail 4 = .ok (.aload_n 0, 1) := by decide +kernel
theorem dX9_tail_5 : decode cX9_tail 5 = .ok (.getfield 53, 3) := by decide +kernel
theorem dX9_tail_8 : decode cX9_tail 8 = .ok (.iaload, 1) := by decide +kernel
theorem dX9_tail_9 : decode cX9_tail 9 = .ok (.ireturn, 1) := by decide +kernel
abbrev cX9_isWide : ByteArray := prog_11_method_11_code
def yX9_isWide : MethodName := ⟨RX9, "isWide", "()Z"⟩
theorem dX9_isWide_0 : decode cX9_isWide 0 = .ok (.aload_n 0, 1) := by decide +kernel
theorem dX9_isWide_1 : decode cX9_isWide 1 = .ok (.getfield 22, 3) := by decide +kernel
theorem dX9_isWide_4 : decode cX9_isWide 4 = .ok (.aload_n 0, 1) := by decide +kernel
theorem dX9_isWide_5 : decode cX9_isWide 5 = .ok (.getfield 53, 3) := by decide +kernel
theorem dX9_isWide_8 : decode cX9_isWide 8 = .ok (.iaload, 1) := by decide +kernel
theorem dX9_isWide_9 : decode cX9_isWide 9 = .ok (.iconst 1, 1) := by decide +kernel
theorem dX9_isWide_10 : decode cX9_isWide 10 = .ok (.iand, 1) := by decide +kernel
theorem dX9_isWide_11 : decode cX9_isWide 11 = .ok (.ifCond .eq 7, 3) := by decide +kernel
theorem dX9_isWide_14 : decode cX9_isWide 14 = .ok (.iconst 1, 1) := by decide +kernel
theorem dX9_isWide_15 : decode cX9_isWide 15 = .ok (.goto 4, 3) := by decide +kernel
theorem dX9_isWide_18 : decode cX9_isWide 18 = .ok (.iconst 0, 1) := by decide +kernel
theorem dX9_isWide_19 : decode cX9_isWide 19 = .ok (.ireturn, 1) := by decide +kernel
abbrev cX9_next : ByteArray := prog_11_method_12_code
def yX9_next : MethodName := ⟨RX9, "next", "()V"⟩
theorem dX9_next_0 : decode cX9_next 0 = .ok (.aload_n 0, 1) := by decide +kernel
theorem dX9_next_1 : decode cX9_next 1 = .ok (.getfield 53, 3) := by decide +kernel
theorem dX9_next_4 : decode cX9_next 4 = .ok (.aload_n 0, 1) := by decide +kernel
theorem dX9_next_5 : decode cX9_next 5 = .ok (.getfield 50, 3) := by decide +kernel
theorem dX9_next_8 : decode cX9_next 8 = .ok (.if_icmp .ge 13, 3) := by decide +kernel
theorem dX9_next_11 : decode cX9_next 11 = .ok (.aload_n 0, 1) := by decide +kernel
theorem dX9_next_12 : decode cX9_next 12 = .ok (.dup, 1) := by decide +kernel
theorem dX9_next_13 : decode cX9_next 13 = .ok (.getfield 53, 3) := by decide +kernel
theorem dX9_next_16 : decode cX9_next 16 = .ok (.iconst 1, 1) := by decide +kernel
theorem dX9_next_17 : decode cX9_next 17 = .ok (.iadd, 1) := by decide +kernel
theorem dX9_next_18 : decode cX9_next 18 = .ok (.putfield 53, 3) := by decide +kernel
theorem dX9_next_21 : decode cX9_next 21 = .ok (.return_, 1) := by decide +kernel
abbrev cX9_misfit : ByteArray := prog_11_method_15_code
def yX9_misfit : MethodName := ⟨RX9, "misfit", "()I"⟩
theorem dX9_misfit_0 : decode cX9_misfit 0 = .ok (.aload_n 0, 1) := by decide +kernel
theorem dX9_misfit_1 : decode cX9_misfit 1 = .ok (.getfield 9, 3) := by decide +kernel
theorem dX9_misfit_4 : decode cX9_misfit 4 = .ok (.aload_n 0, 1) := by decide +kernel
theorem dX9_misfit_5 : decode cX9_misfit 5 = .ok (.getfield 53, 3) := by decide +kernel
theorem dX9_misfit_8 : decode cX9_misfit 8 = .ok (.iaload, 1) := by decide +kernel
theorem dX9_misfit_9 : decode cX9_misfit 9 = .ok (.sipush 131, 3) := by decide +kernel
theorem dX9_misfit_12 : decode cX9_misfit 12 = .ok (.if_icmp .ne 7, 3) := by decide +kernel
theorem dX9_misfit_15 : decode cX9_misfit 15 = .ok (.iconst 1, 1) := by decide +kernel
theorem dX9_misfit_16 : decode cX9_misfit 16 = .ok (.goto 4, 3) := by decide +kernel
theorem dX9_misfit_19 : decode cX9_misfit 19 = .ok (.iconst 2, 1) := by decide +kernel
theorem dX9_misfit_20 : decode cX9_misfit 20 = .ok (.ireturn, 1) := by decide +kernel
abbrev cX9_refuse : ByteArray := prog_11_method_16_code
def yX9_refuse : MethodName := ⟨RX9, "refuse", "(II)V"⟩
theorem dX9_refuse_0 : decode cX9_refuse 0 = .ok (.aload_n 0, 1) := by decide +kernel
theorem dX9_refuse_1 : decode cX9_refuse 1 = .ok (.iload_n 1, 1) := by decide +kernel
theorem dX9_refuse_2 : decode cX9_refuse 2 = .ok (.putfield 56, 3) := by decide +kernel
theorem dX9_refuse_5 : decode cX9_refuse 5 = .ok (.aload_n 0, 1) := by decide +kernel
theorem dX9_refuse_6 : decode cX9_refuse 6 = .ok (.iload_n 2, 1) := by decide +kernel
theorem dX9_refuse_7 : decode cX9_refuse 7 = .ok (.putfield 32, 3) := by decide +kernel
theorem dX9_refuse_10 : decode cX9_refuse 10 = .ok (.new 79, 3) := by decide +kernel
theorem dX9_refuse_13 : decode cX9_refuse 13 = .ok (.dup, 1) := by decide +kernel
theorem dX9_refuse_14 : decode cX9_refuse 14 = .ok (.ldc 81, 2) := by decide +kernel
theorem dX9_refuse_16 : decode cX9_refuse 16 = .ok (.invokespecial 83, 3) := by decide +kernel
theorem dX9_refuse_19 : decode cX9_refuse 19 = .ok (.athrow, 1) := by decide +kernel
abbrev cX9_take : ByteArray := prog_11_method_13_code
def yX9_take : MethodName := ⟨RX9, "take", "(I)V"⟩
theorem dX9_take_0 : decode cX9_take 0 = .ok (.aload_n 0, 1) := by decide +kernel
theorem dX9_take_1 : decode cX9_take 1 = .ok (.getfield 9, 3) := by decide +kernel
theorem dX9_take_4 : decode cX9_take 4 = .ok (.aload_n 0, 1) := by decide +kernel
theorem dX9_take_5 : decode cX9_take 5 = .ok (.getfield 53, 3) := by decide +kernel
theorem dX9_take_8 : decode cX9_take 8 = .ok (.iaload, 1) := by decide +kernel
theorem dX9_take_9 : decode cX9_take 9 = .ok (.iload_n 1, 1) := by decide +kernel
theorem dX9_take_10 : decode cX9_take 10 = .ok (.if_icmp .eq 20, 3) := by decide +kernel
theorem dX9_take_13 : decode cX9_take 13 = .ok (.aload_n 0, 1) := by decide +kernel
theorem dX9_take_14 : decode cX9_take 14 = .ok (.aload_n 0, 1) := by decide +kernel
theorem dX9_take_15 : decode cX9_take 15 = .ok (.invokevirtual 70, 3) := by decide +kernel
theorem dX9_take_18 : decode cX9_take 18 = .ok (.aload_n 0, 1) := by decide +kernel
theorem dX9_take_19 : decode cX9_take 19 = .ok (.getfield 15, 3) := by decide +kernel
theorem dX9_take_22 : decode cX9_take 22 = .ok (.aload_n 0, 1) := by decide +kernel
theorem dX9_take_23 : decode cX9_take 23 = .ok (.getfield 53, 3) := by decide +kernel
theorem dX9_take_26 : decode cX9_take 26 = .ok (.iaload, 1) := by decide +kernel
theorem dX9_take_27 : decode cX9_take 27 = .ok (.invokevirtual 73, 3) := by decide +kernel
theorem dX9_take_30 : decode cX9_take 30 = .ok (.aload_n 0, 1) := by decide +kernel
theorem dX9_take_31 : decode cX9_take 31 = .ok (.invokevirtual 76, 3) := by decide +kernel
theorem dX9_take_34 : decode cX9_take 34 = .ok (.return_, 1) := by decide +kernel
abbrev cX9_refuseToken : ByteArray := prog_11_method_14_code
def yX9_refuseToken : MethodName := ⟨RX9, "refuseToken", "()V"⟩
theorem dX9_refuseToken_0 : decode cX9_refuseToken 0 = .ok (.aload_n 0, 1) := by decide +kernel
theorem dX9_refuseToken_1 : decode cX9_refuseToken 1 = .ok (.aload_n 0, 1) := by decide +kernel
theorem dX9_refuseToken_2 : decode cX9_refuseToken 2 = .ok (.invokevirtual 70, 3) := by decide +kernel
theorem dX9_refuseToken_5 : decode cX9_refuseToken 5 = .ok (.aload_n 0, 1) := by decide +kernel
theorem dX9_refuseToken_6 : decode cX9_refuseToken 6 = .ok (.getfield 15, 3) := by decide +kernel
theorem dX9_refuseToken_9 : decode cX9_refuseToken 9 = .ok (.aload_n 0, 1) := by decide +kernel
theorem dX9_refuseToken_10 : decode cX9_refuseToken 10 = .ok (.getfield 53, 3) := by decide +kernel
theorem dX9_refuseToken_13 : decode cX9_refuseToken 13 = .ok (.iaload, 1) := by decide +kernel
theorem dX9_refuseToken_14 : decode cX9_refuseToken 14 = .ok (.invokevirtual 73, 3) := by decide +kernel
theorem dX9_refuseToken_17 : decode cX9_refuseToken 17 = .ok (.return_, 1) := by decide +kernel
abbrev cX9_takeNumber : ByteArray := prog_11_method_17_code
def yX9_takeNumber : MethodName := ⟨RX9, "takeNumber", "()J"⟩
theorem dX9_takeNumber_0 : decode cX9_takeNumber 0 = .ok (.aload_n 0, 1) := by decide +kernel
theorem dX9_takeNumber_1 : decode cX9_takeNumber 1 = .ok (.getfield 22, 3) := by decide +kernel
theorem dX9_takeNumber_4 : decode cX9_takeNumber 4 = .ok (.aload_n 0, 1) := by decide +kernel
theorem dX9_takeNumber_5 : decode cX9_takeNumber 5 = .ok (.getfield 53, 3) := by decide +kernel
theorem dX9_takeNumber_8 : decode cX9_takeNumber 8 = .ok (.iaload, 1) := by decide +kernel
theorem dX9_takeNumber_9 : decode cX9_takeNumber 9 = .ok (.iconst 2, 1) := by decide +kernel
theorem dX9_takeNumber_10 : decode cX9_takeNumber 10 = .ok (.iand, 1) := by decide +kernel
theorem dX9_takeNumber_11 : decode cX9_takeNumber 11 = .ok (.ifCond .eq 17, 3) := by decide +kernel
theorem dX9_takeNumber_14 : decode cX9_takeNumber 14 = .ok (.aload_n 0, 1) := by decide +kernel
theorem dX9_takeNumber_15 : decode cX9_takeNumber 15 = .ok (.iconst 5, 1) := by decide +kernel
theorem dX9_takeNumber_16 : decode cX9_takeNumber 16 = .ok (.aload_n 0, 1) := by decide +kernel
theorem dX9_takeNumber_17 : decode cX9_takeNumber 17 = .ok (.getfield 15, 3) := by decide +kernel
theorem dX9_takeNumber_20 : decode cX9_takeNumber 20 = .ok (.aload_n 0, 1) := by decide +kernel
theorem dX9_takeNumber_21 : decode cX9_takeNumber 21 = .ok (.getfield 53, 3) := by decide +kernel
theorem dX9_takeNumber_24 : decode cX9_takeNumber 24 = .ok (.iaload, 1) := by decide +kernel
theorem dX9_takeNumber_25 : decode cX9_takeNumber 25 = .ok (.invokevirtual 73, 3) := by decide +kernel
theorem dX9_takeNumber_28 : decode cX9_takeNumber 28 = .ok (.aload_n 0, 1) := by decide +kernel
theorem dX9_takeNumber_29 : decode cX9_takeNumber 29 = .ok (.getfield 18, 3) := by decide +kernel
theorem dX9_takeNumber_32 : decode cX9_takeNumber 32 = .ok (.aload_n 0, 1) := by decide +kernel
theorem dX9_takeNumber_33 : decode cX9_takeNumber 33 = .ok (.getfield 53, 3) := by decide +kernel
theorem dX9_takeNumber_36 : decode cX9_takeNumber 36 = .ok (.laload, 1) := by decide +kernel
theorem dX9_takeNumber_37 : decode cX9_takeNumber 37 = .ok (.lstore_n 1, 1) := by decide +kernel
theorem dX9_takeNumber_38 : decode cX9_takeNumber 38 = .ok (.aload_n 0, 1) := by decide +kernel
theorem dX9_takeNumber_39 : decode cX9_takeNumber 39 = .ok (.invokevirtual 76, 3) := by decide +kernel
theorem dX9_takeNumber_42 : decode cX9_takeNumber 42 = .ok (.lload_n 1, 1) := by decide +kernel
theorem dX9_takeNumber_43 : decode cX9_takeNumber 43 = .ok (.lreturn, 1) := by decide +kernel
abbrev cX9_takeBounded : ByteArray := prog_11_method_18_code
def yX9_takeBounded : MethodName := ⟨RX9, "takeBounded", "(JJ)J"⟩
theorem dX9_takeBounded_0 : decode cX9_takeBounded 0 = .ok (.aload_n 0, 1) := by decide +kernel
theorem dX9_takeBounded_1 : decode cX9_takeBounded 1 = .ok (.getfield 18, 3) := by decide +kernel
theorem dX9_takeBounded_4 : decode cX9_takeBounded 4 = .ok (.aload_n 0, 1) := by decide +kernel
theorem dX9_takeBounded_5 : decode cX9_takeBounded 5 = .ok (.getfield 53, 3) := by decide +kernel
theorem dX9_takeBounded_8 : decode cX9_takeBounded 8 = .ok (.laload, 1) := by decide +kernel
theorem dX9_takeBounded_9 : decode cX9_takeBounded 9 = .ok (.lstore 5, 2) := by decide +kernel
theorem dX9_takeBounded_11 : decode cX9_takeBounded 11 = .ok (.aload_n 0, 1) := by decide +kernel
theorem dX9_takeBounded_12 : decode cX9_takeBounded 12 = .ok (.getfield 22, 3) := by decide +kernel
theorem dX9_takeBounded_15 : decode cX9_takeBounded 15 = .ok (.aload_n 0, 1) := by decide +kernel
theorem dX9_takeBounded_16 : decode cX9_takeBounded 16 = .ok (.getfield 53, 3) := by decide +kernel
theorem dX9_takeBounded_19 : decode cX9_takeBounded 19 = .ok (.iaload, 1) := by decide +kernel
theorem dX9_takeBounded_20 : decode cX9_takeBounded 20 = .ok (.iconst 2, 1) := by decide +kernel
theorem dX9_takeBounded_21 : decode cX9_takeBounded 21 = .ok (.iand, 1) := by decide +kernel
theorem dX9_takeBounded_22 : decode cX9_takeBounded 22 = .ok (.ifCond .ne 17, 3) := by decide +kernel
theorem dX9_takeBounded_25 : decode cX9_takeBounded 25 = .ok (.lload 5, 2) := by decide +kernel
theorem dX9_takeBounded_27 : decode cX9_takeBounded 27 = .ok (.lload_n 1, 1) := by decide +kernel
theorem dX9_takeBounded_28 : decode cX9_takeBounded 28 = .ok (.lcmp, 1) := by decide +kernel
theorem dX9_takeBounded_29 : decode cX9_takeBounded 29 = .ok (.ifCond .lt 10, 3) := by decide +kernel
theorem dX9_takeBounded_32 : decode cX9_takeBounded 32 = .ok (.lload 5, 2) := by decide +kernel
theorem dX9_takeBounded_34 : decode cX9_takeBounded 34 = .ok (.lload_n 3, 1) := by decide +kernel
theorem dX9_takeBounded_35 : decode cX9_takeBounded 35 = .ok (.lcmp, 1) := by decide +kernel
theorem dX9_takeBounded_36 : decode cX9_takeBounded 36 = .ok (.ifCond .le 17, 3) := by decide +kernel
theorem dX9_takeBounded_39 : decode cX9_takeBounded 39 = .ok (.aload_n 0, 1) := by decide +kernel
theorem dX9_takeBounded_40 : decode cX9_takeBounded 40 = .ok (.iconst 5, 1) := by decide +kernel
theorem dX9_takeBounded_41 : decode cX9_takeBounded 41 = .ok (.aload_n 0, 1) := by decide +kernel
theorem dX9_takeBounded_42 : decode cX9_takeBounded 42 = .ok (.getfield 15, 3) := by decide +kernel
theorem dX9_takeBounded_45 : decode cX9_takeBounded 45 = .ok (.aload_n 0, 1) := by decide +kernel
theorem dX9_takeBounded_46 : decode cX9_takeBounded 46 = .ok (.getfield 53, 3) := by decide +kernel
theorem dX9_takeBounded_49 : decode cX9_takeBounded 49 = .ok (.iaload, 1) := by decide +kernel
theorem dX9_takeBounded_50 : decode cX9_takeBounded 50 = .ok (.invokevirtual 73, 3) := by decide +kernel
theorem dX9_takeBounded_53 : decode cX9_takeBounded 53 = .ok (.aload_n 0, 1) := by decide +kernel
theorem dX9_takeBounded_54 : decode cX9_takeBounded 54 = .ok (.invokevirtual 76, 3) := by decide +kernel
theorem dX9_takeBounded_57 : decode cX9_takeBounded 57 = .ok (.lload 5, 2) := by decide +kernel
theorem dX9_takeBounded_59 : decode cX9_takeBounded 59 = .ok (.lreturn, 1) := by decide +kernel
abbrev cX9_takeKind : ByteArray := prog_11_method_19_code
def yX9_takeKind : MethodName := ⟨RX9, "takeKind", "()I"⟩
theorem dX9_takeKind_0 : decode cX9_takeKind 0 = .ok (.aload_n 0, 1) := by decide +kernel
theorem dX9_takeKind_1 : decode cX9_takeKind 1 = .ok (.getfield 9, 3) := by decide +kernel
theorem dX9_takeKind_4 : decode cX9_takeKind 4 = .ok (.aload_n 0, 1) := by decide +kernel
theorem dX9_takeKind_5 : decode cX9_takeKind 5 = .ok (.getfield 53, 3) := by decide +kernel
theorem dX9_takeKind_8 : decode cX9_takeKind 8 = .ok (.iaload, 1) := by decide +kernel
theorem dX9_takeKind_9 : decode cX9_takeKind 9 = .ok (.bipush 12, 2) := by decide +kernel
theorem dX9_takeKind_11 : decode cX9_takeKind 11 = .ok (.isub, 1) := by decide +kernel
theorem dX9_takeKind_12 : decode cX9_takeKind 12 = .ok (.istore_n 1, 1) := by decide +kernel
theorem dX9_takeKind_13 : decode cX9_takeKind 13 = .ok (.aload_n 0, 1) := by decide +kernel
theorem dX9_takeKind_14 : decode cX9_takeKind 14 = .ok (.invokevirtual 76, 3) := by decide +kernel
theorem dX9_takeKind_17 : decode cX9_takeKind 17 = .ok (.iload_n 1, 1) := by decide +kernel
theorem dX9_takeKind_18 : decode cX9_takeKind 18 = .ok (.ireturn, 1) := by decide +kernel
abbrev cX9_byteAt : ByteArray := prog_11_method_25_code
def yX9_byteAt : MethodName := ⟨RX9, "byteAt", "(I)I"⟩
theorem dX9_byteAt_0 : decode cX9_byteAt 0 = .ok (.iload_n 1, 1) := by decide +kernel
theorem dX9_byteAt_1 : decode cX9_byteAt 1 = .ok (.ifCond .lt 33, 3) := by decide +kernel
theorem dX9_byteAt_4 : decode cX9_byteAt 4 = .ok (.iload_n 1, 1) := by decide +kernel
theorem dX9_byteAt_5 : decode cX9_byteAt 5 = .ok (.aload_n 0, 1) := by decide +kernel
theorem dX9_byteAt_6 : decode cX9_byteAt 6 = .ok (.getfield 48, 3) := by decide +kernel
theorem dX9_byteAt_9 : decode cX9_byteAt 9 = .ok (.if_icmp .ge 25, 3) := by decide +kernel
theorem dX9_byteAt_12 : decode cX9_byteAt 12 = .ok (.iload_n 1, 1) := by decide +kernel
theorem dX9_byteAt_13 : decode cX9_byteAt 13 = .ok (.aload_n 0, 1) := by decide +kernel
theorem dX9_byteAt_14 : decode cX9_byteAt 14 = .ok (.getfield 28, 3) := by decide +kernel
theorem dX9_byteAt_17 : decode cX9_byteAt 17 = .ok (.arraylength, 1) := by decide +kernel
theorem dX9_byteAt_18 : decode cX9_byteAt 18 = .ok (.if_icmp .ge 16, 3) := by decide +kernel
theorem dX9_byteAt_21 : decode cX9_byteAt 21 = .ok (.aload_n 0, 1) := by decide +kernel
theorem dX9_byteAt_22 : decode cX9_byteAt 22 = .ok (.getfield 28, 3) := by decide +kernel
theorem dX9_byteAt_25 : decode cX9_byteAt 25 = .ok (.iload_n 1, 1) := by decide +kernel
theorem dX9_byteAt_26 : decode cX9_byteAt 26 = .ok (.baload, 1) := by decide +kernel
theorem dX9_byteAt_27 : decode cX9_byteAt 27 = .ok (.sipush 255, 3) := by decide +kernel
theorem dX9_byteAt_30 : decode cX9_byteAt 30 = .ok (.iand, 1) := by decide +kernel
theorem dX9_byteAt_31 : decode cX9_byteAt 31 = .ok (.goto 4, 3) := by decide +kernel
theorem dX9_byteAt_34 : decode cX9_byteAt 34 = .ok (.iconst (-1), 1) := by decide +kernel
theorem dX9_byteAt_35 : decode cX9_byteAt 35 = .ok (.ireturn, 1) := by decide +kernel
abbrev cX9_behindGap : ByteArray := prog_11_method_26_code
def yX9_behindGap : MethodName := ⟨RX9, "behindGap", "(I)I"⟩
theorem dX9_behindGap_0 : decode cX9_behindGap 0 = .ok (.iconst 0, 1) := by decide +kernel
theorem dX9_behindGap_1 : decode cX9_behindGap 1 = .ok (.istore_n 2, 1) := by decide +kernel
theorem dX9_behindGap_2 : decode cX9_behindGap 2 = .ok (.iload_n 1, 1) := by decide +kernel
theorem dX9_behindGap_3 : decode cX9_behindGap 3 = .ok (.istore_n 3, 1) := by decide +kernel
theorem dX9_behindGap_4 : decode cX9_behindGap 4 = .ok (.iload_n 3, 1) := by decide +kernel
theorem dX9_behindGap_5 : decode cX9_behindGap 5 = .ok (.aload_n 0, 1) := by decide +kernel
theorem dX9_behindGap_6 : decode cX9_behindGap 6 = .ok (.getfield 48, 3) := by decide +kernel
theorem dX9_behindGap_9 : decode cX9_behindGap 9 = .ok (.if_icmp .ge 90, 3) := by decide +kernel
theorem dX9_behindGap_12 : decode cX9_behindGap 12 = .ok (.aload_n 0, 1) := by decide +kernel
theorem dX9_behindGap_13 : decode cX9_behindGap 13 = .ok (.iload_n 3, 1) := by decide +kernel
theorem dX9_behindGap_14 : decode cX9_behindGap 14 = .ok (.invokevirtual 86, 3) := by decide +kernel
theorem dX9_behindGap_17 : decode cX9_behindGap 17 = .ok (.istore 4, 2) := by decide +kernel
theorem dX9_behindGap_19 : decode cX9_behindGap 19 = .ok (.iload_n 2, 1) := by decide +kernel
theorem dX9_behindGap_20 : decode cX9_behindGap 20 = .ok (.ifCond .eq 19, 3) := by decide +kernel
theorem dX9_behindGap_23 : decode cX9_behindGap 23 = .ok (.iload 4, 2) := by decide +kernel
theorem dX9_behindGap_25 : decode cX9_behindGap 25 = .ok (.bipush 10, 2) := by decide +kernel
theorem dX9_behindGap_27 : decode cX9_behindGap 27 = .ok (.if_icmp .eq 7, 3) := by decide +kernel
theorem dX9_behindGap_30 : decode cX9_behindGap 30 = .ok (.iconst 1, 1) := by decide +kernel
theorem dX9_behindGap_31 : decode cX9_behindGap 31 = .ok (.goto 4, 3) := by decide +kernel
theorem dX9_behindGap_34 : decode cX9_behindGap 34 = .ok (.iconst 0, 1) := by decide +kernel
theorem dX9_behindGap_35 : decode cX9_behindGap 35 = .ok (.istore_n 2, 1) := by decide +kernel
theorem dX9_behindGap_36 : decode cX9_behindGap 36 = .ok (.goto 57, 3) := by decide +kernel
theorem dX9_behindGap_39 : decode cX9_behindGap 39 = .ok (.iload 4, 2) := by decide +kernel
theorem dX9_behindGap_41 : decode cX9_behindGap 41 = .ok (.bipush 47, 2) := by decide +kernel
theorem dX9_behindGap_43 : decode cX9_behindGap 43 = .ok (.if_icmp .ne 20, 3) := by decide +kernel
theorem dX9_behindGap_46 : decode cX9_behindGap 46 = .ok (.aload_n 0, 1) := by decide +kernel
theorem dX9_behindGap_47 : decode cX9_behindGap 47 = .ok (.iload_n 3, 1) := by decide +kernel
theorem dX9_behindGap_48 : decode cX9_behindGap 48 = .ok (.iconst 1, 1) := by decide +kernel
theorem dX9_behindGap_49 : decode cX9_behindGap 49 = .ok (.iadd, 1) := by decide +kernel
theorem dX9_behindGap_50 : decode cX9_behindGap 50 = .ok (.invokevirtual 86, 3) := by decide +kernel
theorem dX9_behindGap_53 : decode cX9_behindGap 53 = .ok (.bipush 47, 2) := by decide +kernel
theorem dX9_behindGap_55 : decode cX9_behindGap 55 = .ok (.if_icmp .ne 8, 3) := by decide +kernel
theorem dX9_behindGap_58 : decode cX9_behindGap 58 = .ok (.iconst 1, 1) := by decide +kernel
theorem dX9_behindGap_59 : decode cX9_behindGap 59 = .ok (.istore_n 2, 1) := by decide +kernel
theorem dX9_behindGap_60 : decode cX9_behindGap 60 = .ok (.goto 33, 3) := by decide +kernel
theorem dX9_behindGap_63 : decode cX9_behindGap 63 = .ok (.iload 4, 2) := by decide +kernel
theorem dX9_behindGap_65 : decode cX9_behindGap 65 = .ok (.bipush 9, 2) := by decide +kernel
theorem dX9_behindGap_67 : decode cX9_behindGap 67 = .ok (.if_icmp .eq 26, 3) := by decide +kernel
theorem dX9_behindGap_70 : decode cX9_behindGap 70 = .ok (.iload 4, 2) := by decide +kernel
theorem dX9_behindGap_72 : decode cX9_behindGap 72 = .ok (.bipush 10, 2) := by decide +kernel
theorem dX9_behindGap_74 : decode cX9_behindGap 74 = .ok (.if_icmp .eq 19, 3) := by decide +kernel
theorem dX9_behindGap_77 : decode cX9_behindGap 77 = .ok (.iload 4, 2) := by decide +kernel
theorem dX9_behindGap_79 : decode cX9_behindGap 79 = .ok (.bipush 13, 2) := by decide +kernel
theorem dX9_behindGap_81 : decode cX9_behindGap 81 = .ok (.if_icmp .eq 12, 3) := by decide +kernel
theorem dX9_behindGap_84 : decode cX9_behindGap 84 = .ok (.iload 4, 2) := by decide +kernel
theorem dX9_behindGap_86 : decode cX9_behindGap 86 = .ok (.bipush 32, 2) := by decide +kernel
theorem dX9_behindGap_88 : decode cX9_behindGap 88 = .ok (.if_icmp .eq 5, 3) := by decide +kernel
theorem dX9_behindGap_91 : decode cX9_behindGap 91 = .ok (.iload_n 3, 1) := by decide +kernel
theorem dX9_behindGap_92 : decode cX9_behindGap 92 = .ok (.ireturn, 1) := by decide +kernel
theorem dX9_behindGap_93 : decode cX9_behindGap 93 = .ok (.iinc 3 1, 3) := by decide +kernel
theorem dX9_behindGap_96 : decode cX9_behindGap 96 = .ok (.goto (-92), 3) := by decide +kernel
theorem dX9_behindGap_99 : decode cX9_behindGap 99 = .ok (.aload_n 0, 1) := by decide +kernel
theorem dX9_behindGap_100 : decode cX9_behindGap 100 = .ok (.getfield 48, 3) := by decide +kernel
theorem dX9_behindGap_103 : decode cX9_behindGap 103 = .ok (.ireturn, 1) := by decide +kernel
abbrev cX9_put : ByteArray := prog_11_method_24_code
def yX9_put : MethodName := ⟨RX9, "put", "(IJI)V"⟩
theorem dX9_put_0 : decode cX9_put 0 = .ok (.aload_n 0, 1) := by decide +kernel
theorem dX9_put_1 : decode cX9_put 1 = .ok (.getfield 9, 3) := by decide +kernel
theorem dX9_put_4 : decode cX9_put 4 = .ok (.aload_n 0, 1) := by decide +kernel
theorem dX9_put_5 : decode cX9_put 5 = .ok (.getfield 50, 3) := by decide +kernel
theorem dX9_put_8 : decode cX9_put 8 = .ok (.iload_n 1, 1) := by decide +kernel
theorem dX9_put_9 : decode cX9_put 9 = .ok (.iastore, 1) := by decide +kernel
theorem dX9_put_10 : decode cX9_put 10 = .ok (.aload_n 0, 1) := by decide +kernel
theorem dX9_put_11 : decode cX9_put 11 = .ok (.getfield 18, 3) := by decide +kernel
theorem dX9_put_14 : decode cX9_put 14 = .ok (.aload_n 0, 1) := by decide +kernel
theorem dX9_put_15 : decode cX9_put 15 = .ok (.getfield 50, 3) := by decide +kernel
theorem dX9_put_18 : decode cX9_put 18 = .ok (.lload_n 2, 1) := by decide +kernel
theorem dX9_put_19 : decode cX9_put 19 = .ok (.lastore, 1) := by decide +kernel
theorem dX9_put_20 : decode cX9_put 20 = .ok (.aload_n 0, 1) := by decide +kernel
theorem dX9_put_21 : decode cX9_put 21 = .ok (.getfield 22, 3) := by decide +kernel
theorem dX9_put_24 : decode cX9_put 24 = .ok (.aload_n 0, 1) := by decide +kernel
theorem dX9_put_25 : decode cX9_put 25 = .ok (.getfield 50, 3) := by decide +kernel
theorem dX9_put_28 : decode cX9_put 28 = .ok (.iload 4, 2) := by decide +kernel
theorem dX9_put_30 : decode cX9_put 30 = .ok (.iastore, 1) := by decide +kernel
theorem dX9_put_31 : decode cX9_put 31 = .ok (.return_, 1) := by decide +kernel
abbrev cX9_closeWith : ByteArray := prog_11_method_23_code
def yX9_closeWith : MethodName := ⟨RX9, "closeWith", "(II)V"⟩
theorem dX9_closeWith_0 : decode cX9_closeWith 0 = .ok (.aload_n 0, 1) := by decide +kernel
theorem dX9_closeWith_1 : decode cX9_closeWith 1 = .ok (.iload_n 1, 1) := by decide +kernel
theorem dX9_closeWith_2 : decode cX9_closeWith 2 = .ok (.lconst 0, 1) := by decide +kernel
theorem dX9_closeWith_3 : decode cX9_closeWith 3 = .ok (.iconst 0, 1) := by decide +kernel
theorem dX9_closeWith_4 : decode cX9_closeWith 4 = .ok (.invokevirtual 93, 3) := by decide +kernel
theorem dX9_closeWith_7 : decode cX9_closeWith 7 = .ok (.aload_n 0, 1) := by decide +kernel
theorem dX9_closeWith_8 : decode cX9_closeWith 8 = .ok (.getfield 15, 3) := by decide +kernel
theorem dX9_closeWith_11 : decode cX9_closeWith 11 = .ok (.aload_n 0, 1) := by decide +kernel
theorem dX9_closeWith_12 : decode cX9_closeWith 12 = .ok (.getfield 50, 3) := by decide +kernel
theorem dX9_closeWith_15 : decode cX9_closeWith 15 = .ok (.iload_n 2, 1) := by decide +kernel
theorem dX9_closeWith_16 : decode cX9_closeWith 16 = .ok (.iastore, 1) := by decide +kernel
theorem dX9_closeWith_17 : decode cX9_closeWith 17 = .ok (.return_, 1) := by decide +kernel
abbrev cX9_isWord : ByteArray := prog_11_method_20_code
def yX9_isWord : MethodName := ⟨RX9, "isWord", "(I)Z"⟩
theorem dX9_isWord_0 : decode cX9_isWord 0 = .ok (.aload_n 0, 1) := by decide +kernel
theorem dX9_isWord_1 : decode cX9_isWord 1 = .ok (.iload_n 1, 1) := by decide +kernel
theorem dX9_isWord_2 : decode cX9_isWord 2 = .ok (.putfield 48, 3) := by decide +kernel
theorem dX9_isWord_5 : decode cX9_isWord 5 = .ok (.iload_n 1, 1) := by decide +kernel
theorem dX9_isWord_6 : decode cX9_isWord 6 = .ok (.iconst 1, 1) := by decide +kernel
theorem dX9_isWord_7 : decode cX9_isWord 7 = .ok (.if_icmp .lt 9, 3) := by decide +kernel
theorem dX9_isWord_10 : decode cX9_isWord 10 = .ok (.iload_n 1, 1) := by decide +kernel
theorem dX9_isWord_11 : decode cX9_isWord 11 = .ok (.bipush 12, 2) := by decide +kernel
theorem dX9_isWord_13 : decode cX9_isWord 13 = .ok (.if_icmp .le 5, 3) := by decide +kernel
theorem dX9_isWord_16 : decode cX9_isWord 16 = .ok (.iconst 0, 1) := by decide +kernel
theorem dX9_isWord_17 : decode cX9_isWord 17 = .ok (.ireturn, 1) := by decide +kernel
theorem dX9_isWord_18 : decode cX9_isWord 18 = .ok (.iconst 0, 1) := by decide +kernel
theorem dX9_isWord_19 : decode cX9_isWord 19 = .ok (.istore_n 2, 1) := by decide +kernel
theorem dX9_isWord_20 : decode cX9_isWord 20 = .ok (.iload_n 2, 1) := by decide +kernel
theorem dX9_isWord_21 : decode cX9_isWord 21 = .ok (.iload_n 1, 1) := by decide +kernel
theorem dX9_isWord_22 : decode cX9_isWord 22 = .ok (.if_icmp .ge 22, 3) := by decide +kernel
theorem dX9_isWord_25 : decode cX9_isWord 25 = .ok (.aload_n 0, 1) := by decide +kernel
theorem dX9_isWord_26 : decode cX9_isWord 26 = .ok (.iload_n 2, 1) := by decide +kernel
theorem dX9_isWord_27 : decode cX9_isWord 27 = .ok (.invokevirtual 86, 3) := by decide +kernel
theorem dX9_isWord_30 : decode cX9_isWord 30 = .ok (.invokestatic 89, 3) := by decide +kernel
theorem dX9_isWord_33 : decode cX9_isWord 33 = .ok (.ifCond .ne 5, 3) := by decide +kernel
theorem dX9_isWord_36 : decode cX9_isWord 36 = .ok (.iconst 0, 1) := by decide +kernel
theorem dX9_isWord_37 : decode cX9_isWord 37 = .ok (.ireturn, 1) := by decide +kernel
theorem dX9_isWord_38 : decode cX9_isWord 38 = .ok (.iinc 2 1, 3) := by decide +kernel
theorem dX9_isWord_41 : decode cX9_isWord 41 = .ok (.goto (-21), 3) := by decide +kernel
theorem dX9_isWord_44 : decode cX9_isWord 44 = .ok (.iconst 1, 1) := by decide +kernel
theorem dX9_isWord_45 : decode cX9_isWord 45 = .ok (.ireturn, 1) := by decide +kernel
abbrev cX9_wordHead : ByteArray := prog_11_method_21_code
def yX9_wordHead : MethodName := ⟨RX9, "wordHead", "(II)J"⟩
theorem dX9_wordHead_0 : decode cX9_wordHead 0 = .ok (.lconst 0, 1) := by decide +kernel
theorem dX9_wordHead_1 : decode cX9_wordHead 1 = .ok (.lstore_n 3, 1) := by decide +kernel
theorem dX9_wordHead_2 : decode cX9_wordHead 2 = .ok (.iload_n 1, 1) := by decide +kernel
theorem dX9_wordHead_3 : decode cX9_wordHead 3 = .ok (.istore 5, 2) := by decide +kernel
theorem dX9_wordHead_5 : decode cX9_wordHead 5 = .ok (.iload 5, 2) := by decide +kernel
theorem dX9_wordHead_7 : decode cX9_wordHead 7 = .ok (.iload_n 2, 1) := by decide +kernel
theorem dX9_wordHead_8 : decode cX9_wordHead 8 = .ok (.if_icmp .ge 31, 3) := by decide +kernel
theorem dX9_wordHead_11 : decode cX9_wordHead 11 = .ok (.iload 5, 2) := by decide +kernel
theorem dX9_wordHead_13 : decode cX9_wordHead 13 = .ok (.iload_n 1, 1) := by decide +kernel
theorem dX9_wordHead_14 : decode cX9_wordHead 14 = .ok (.bipush 8, 2) := by decide +kernel
theorem dX9_wordHead_16 : decode cX9_wordHead 16 = .ok (.iadd, 1) := by decide +kernel
theorem dX9_wordHead_17 : decode cX9_wordHead 17 = .ok (.if_icmp .ge 22, 3) := by decide +kernel
theorem dX9_wordHead_20 : decode cX9_wordHead 20 = .ok (.lload_n 3, 1) := by decide +kernel
theorem dX9_wordHead_21 : decode cX9_wordHead 21 = .ok (.bipush 8, 2) := by decide +kernel
theorem dX9_wordHead_23 : decode cX9_wordHead 23 = .ok (.lshl, 1) := by decide +kernel
theorem dX9_wordHead_24 : decode cX9_wordHead 24 = .ok (.aload_n 0, 1) := by decide +kernel
theorem dX9_wordHead_25 : decode cX9_wordHead 25 = .ok (.iload 5, 2) := by decide +kernel
theorem dX9_wordHead_27 : decode cX9_wordHead 27 = .ok (.invokevirtual 86, 3) := by decide +kernel
theorem dX9_wordHead_30 : decode cX9_wordHead 30 = .ok (.i2l, 1) := by decide +kernel
theorem dX9_wordHead_31 : decode cX9_wordHead 31 = .ok (.lor, 1) := by decide +kernel
theorem dX9_wordHead_32 : decode cX9_wordHead 32 = .ok (.lstore_n 3, 1) := by decide +kernel
theorem dX9_wordHead_33 : decode cX9_wordHead 33 = .ok (.iinc 5 1, 3) := by decide +kernel
theorem dX9_wordHead_36 : decode cX9_wordHead 36 = .ok (.goto (-31), 3) := by decide +kernel
theorem dX9_wordHead_39 : decode cX9_wordHead 39 = .ok (.lload_n 3, 1) := by decide +kernel
theorem dX9_wordHead_40 : decode cX9_wordHead 40 = .ok (.lreturn, 1) := by decide +kernel
abbrev cX9_wordTail : ByteArray := prog_11_method_22_code
def yX9_wordTail : MethodName := ⟨RX9, "wordTail", "(II)I"⟩
theorem dX9_wordTail_0 : decode cX9_wordTail 0 = .ok (.iconst 0, 1) := by decide +kernel
theorem dX9_wordTail_1 : decode cX9_wordTail 1 = .ok (.istore_n 3, 1) := by decide +kernel
theorem dX9_wordTail_2 : decode cX9_wordTail 2 = .ok (.iload_n 1, 1) := by decide +kernel
theorem dX9_wordTail_3 : decode cX9_wordTail 3 = .ok (.bipush 8, 2) := by decide +kernel
theorem dX9_wordTail_5 : decode cX9_wordTail 5 = .ok (.iadd, 1) := by decide +kernel
theorem dX9_wordTail_6 : decode cX9_wordTail 6 = .ok (.istore 4, 2) := by decide +kernel
theorem dX9_wordTail_8 : decode cX9_wordTail 8 = .ok (.iload 4, 2) := by decide +kernel
theorem dX9_wordTail_10 : decode cX9_wordTail 10 = .ok (.iload_n 2, 1) := by decide +kernel
theorem dX9_wordTail_11 : decode cX9_wordTail 11 = .ok (.if_icmp .ge 21, 3) := by decide +kernel
theorem dX9_wordTail_14 : decode cX9_wordTail 14 = .ok (.iload_n 3, 1) := by decide +kernel
theorem dX9_wordTail_15 : decode cX9_wordTail 15 = .ok (.bipush 8, 2) := by decide +kernel
theorem dX9_wordTail_17 : decode cX9_wordTail 17 = .ok (.ishl, 1) := by decide +kernel
theorem dX9_wordTail_18 : decode cX9_wordTail 18 = .ok (.aload_n 0, 1) := by decide +kernel
theorem dX9_wordTail_19 : decode cX9_wordTail 19 = .ok (.iload 4, 2) := by decide +kernel
theorem dX9_wordTail_21 : decode cX9_wordTail 21 = .ok (.invokevirtual 86, 3) := by decide +kernel
theorem dX9_wordTail_24 : decode cX9_wordTail 24 = .ok (.ior, 1) := by decide +kernel
theorem dX9_wordTail_25 : decode cX9_wordTail 25 = .ok (.istore_n 3, 1) := by decide +kernel
theorem dX9_wordTail_26 : decode cX9_wordTail 26 = .ok (.iinc 4 1, 3) := by decide +kernel
theorem dX9_wordTail_29 : decode cX9_wordTail 29 = .ok (.goto (-21), 3) := by decide +kernel
theorem dX9_wordTail_32 : decode cX9_wordTail 32 = .ok (.iload_n 3, 1) := by decide +kernel
theorem dX9_wordTail_33 : decode cX9_wordTail 33 = .ok (.ireturn, 1) := by decide +kernel
abbrev cX9_wordType : ByteArray := prog_11_method_29_code
def yX9_wordType : MethodName := ⟨RX9, "wordType", "(J)I"⟩
theorem dX9_wordType_0 : decode cX9_wordType 0 = .ok (.iconst 1, 1) := by decide +kernel
theorem dX9_wordType_1 : decode cX9_wordType 1 = .ok (.istore_n 3, 1) := by decide +kernel
theorem dX9_wordType_2 : decode cX9_wordType 2 = .ok (.iload_n 3, 1) := by decide +kernel
theorem dX9_wordType_3 : decode cX9_wordType 3 = .ok (.bipush 29, 2) := by decide +kernel
theorem dX9_wordType_5 : decode cX9_wordType 5 = .ok (.if_icmp .gt 22, 3) := by decide +kernel
theorem dX9_wordType_8 : decode cX9_wordType 8 = .ok (.aload_n 0, 1) := by decide +kernel
theorem dX9_wordType_9 : decode cX9_wordType 9 = .ok (.getfield 25, 3) := by decide +kernel
theorem dX9_wordType_12 : decode cX9_wordType 12 = .ok (.iload_n 3, 1) := by decide +kernel
theorem dX9_wordType_13 : decode cX9_wordType 13 = .ok (.laload, 1) := by decide +kernel
theorem dX9_wordType_14 : decode cX9_wordType 14 = .ok (.lload_n 1, 1) := by decide +kernel
theorem dX9_wordType_15 : decode cX9_wordType 15 = .ok (.lcmp, 1) := by decide +kernel
theorem dX9_wordType_16 : decode cX9_wordType 16 = .ok (.ifCond .ne 5, 3) := by decide +kernel
theorem dX9_wordType_19 : decode cX9_wordType 19 = .ok (.iload_n 3, 1) := by decide +kernel
theorem dX9_wordType_20 : decode cX9_wordType 20 = .ok (.ireturn, 1) := by decide +kernel
theorem dX9_wordType_21 : decode cX9_wordType 21 = .ok (.iinc 3 1, 3) := by decide +kernel
theorem dX9_wordType_24 : decode cX9_wordType 24 = .ok (.goto (-22), 3) := by decide +kernel
theorem dX9_wordType_27 : decode cX9_wordType 27 = .ok (.sipush 128, 3) := by decide +kernel
theorem dX9_wordType_30 : decode cX9_wordType 30 = .ok (.ireturn, 1) := by decide +kernel
abbrev cX9_readWord : ByteArray := prog_11_method_28_code
def yX9_readWord : MethodName := ⟨RX9, "readWord", "(I)I"⟩
theorem dX9_readWord_0 : decode cX9_readWord 0 = .ok (.iload_n 1, 1) := by decide +kernel
theorem dX9_readWord_1 : decode cX9_readWord 1 = .ok (.istore_n 2, 1) := by decide +kernel
theorem dX9_readWord_2 : decode cX9_readWord 2 = .ok (.iload_n 2, 1) := by decide +kernel
theorem dX9_readWord_3 : decode cX9_readWord 3 = .ok (.aload_n 0, 1) := by decide +kernel
theorem dX9_readWord_4 : decode cX9_readWord 4 = .ok (.getfield 48, 3) := by decide +kernel
theorem dX9_readWord_7 : decode cX9_readWord 7 = .ok (.if_icmp .ge 20, 3) := by decide +kernel
theorem dX9_readWord_10 : decode cX9_readWord 10 = .ok (.aload_n 0, 1) := by decide +kernel
theorem dX9_readWord_11 : decode cX9_readWord 11 = .ok (.iload_n 2, 1) := by decide +kernel
theorem dX9_readWord_12 : decode cX9_readWord 12 = .ok (.invokevirtual 86, 3) := by decide +kernel
theorem dX9_readWord_15 : decode cX9_readWord 15 = .ok (.invokestatic 89, 3) := by decide +kernel
theorem dX9_readWord_18 : decode cX9_readWord 18 = .ok (.ifCond .eq 9, 3) := by decide +kernel
theorem dX9_readWord_21 : decode cX9_readWord 21 = .ok (.iinc 2 1, 3) := by decide +kernel
theorem dX9_readWord_24 : decode cX9_readWord 24 = .ok (.goto (-22), 3) := by decide +kernel
theorem dX9_readWord_27 : decode cX9_readWord 27 = .ok (.iload_n 2, 1) := by decide +kernel
theorem dX9_readWord_28 : decode cX9_readWord 28 = .ok (.iload_n 1, 1) := by decide +kernel
theorem dX9_readWord_29 : decode cX9_readWord 29 = .ok (.isub, 1) := by decide +kernel
theorem dX9_readWord_30 : decode cX9_readWord 30 = .ok (.bipush 12, 2) := by decide +kernel
theorem dX9_readWord_32 : decode cX9_readWord 32 = .ok (.if_icmp .le 5, 3) := by decide +kernel
theorem dX9_readWord_35 : decode cX9_readWord 35 = .ok (.iconst (-1), 1) := by decide +kernel
theorem dX9_readWord_36 : decode cX9_readWord 36 = .ok (.ireturn, 1) := by decide +kernel
theorem dX9_readWord_37 : decode cX9_readWord 37 = .ok (.aload_n 0, 1) := by decide +kernel
theorem dX9_readWord_38 : decode cX9_readWord 38 = .ok (.iload_n 1, 1) := by decide +kernel
theorem dX9_readWord_39 : decode cX9_readWord 39 = .ok (.iload_n 2, 1) := by decide +kernel
theorem dX9_readWord_40 : decode cX9_readWord 40 = .ok (.invokevirtual 109, 3) := by decide +kernel
theorem dX9_readWord_43 : decode cX9_readWord 43 = .ok (.lstore_n 3, 1) := by decide +kernel
theorem dX9_readWord_44 : decode cX9_readWord 44 = .ok (.aload_n 0, 1) := by decide +kernel
theorem dX9_readWord_45 : decode cX9_readWord 45 = .ok (.iload_n 1, 1) := by decide +kernel
theorem dX9_readWord_46 : decode cX9_readWord 46 = .ok (.iload_n 2, 1) := by decide +kernel
theorem dX9_readWord_47 : decode cX9_readWord 47 = .ok (.invokevirtual 113, 3) := by decide +kernel
theorem dX9_readWord_50 : decode cX9_readWord 50 = .ok (.istore 5, 2) := by decide +kernel
theorem dX9_readWord_52 : decode cX9_readWord 52 = .ok (.aload_n 0, 1) := by decide +kernel
theorem dX9_readWord_53 : decode cX9_readWord 53 = .ok (.iload 5, 2) := by decide +kernel
theorem dX9_readWord_55 : decode cX9_readWord 55 = .ok (.ifCond .ne 11, 3) := by decide +kernel
theorem dX9_readWord_58 : decode cX9_readWord 58 = .ok (.aload_n 0, 1) := by decide +kernel
theorem dX9_readWord_59 : decode cX9_readWord 59 = .ok (.lload_n 3, 1) := by decide +kernel
theorem dX9_readWord_60 : decode cX9_readWord 60 = .ok (.invokevirtual 117, 3) := by decide +kernel
theorem dX9_readWord_63 : decode cX9_readWord 63 = .ok (.goto 6, 3) := by decide +kernel
theorem dX9_readWord_66 : decode cX9_readWord 66 = .ok (.sipush 128, 3) := by decide +kernel
theorem dX9_readWord_69 : decode cX9_readWord 69 = .ok (.lload_n 3, 1) := by decide +kernel
theorem dX9_readWord_70 : decode cX9_readWord 70 = .ok (.iload 5, 2) := by decide +kernel
theorem dX9_readWord_72 : decode cX9_readWord 72 = .ok (.invokevirtual 93, 3) := by decide +kernel
theorem dX9_readWord_75 : decode cX9_readWord 75 = .ok (.iload_n 2, 1) := by decide +kernel
theorem dX9_readWord_76 : decode cX9_readWord 76 = .ok (.ireturn, 1) := by decide +kernel
abbrev cX9_hexBits : ByteArray := prog_11_method_31_code
def yX9_hexBits : MethodName := ⟨RX9, "hexBits", "(II)J"⟩
theorem dX9_hexBits_0 : decode cX9_hexBits 0 = .ok (.lconst 0, 1) := by decide +kernel
theorem dX9_hexBits_1 : decode cX9_hexBits 1 = .ok (.lstore_n 3, 1) := by decide +kernel
theorem dX9_hexBits_2 : decode cX9_hexBits 2 = .ok (.iload_n 1, 1) := by decide +kernel
theorem dX9_hexBits_3 : decode cX9_hexBits 3 = .ok (.istore 5, 2) := by decide +kernel
theorem dX9_hexBits_5 : decode cX9_hexBits 5 = .ok (.iload 5, 2) := by decide +kernel
theorem dX9_hexBits_7 : decode cX9_hexBits 7 = .ok (.iload_n 2, 1) := by decide +kernel
theorem dX9_hexBits_8 : decode cX9_hexBits 8 = .ok (.if_icmp .ge 25, 3) := by decide +kernel
theorem dX9_hexBits_11 : decode cX9_hexBits 11 = .ok (.lload_n 3, 1) := by decide +kernel
theorem dX9_hexBits_12 : decode cX9_hexBits 12 = .ok (.iconst 4, 1) := by decide +kernel
theorem dX9_hexBits_13 : decode cX9_hexBits 13 = .ok (.lshl, 1) := by decide +kernel
theorem dX9_hexBits_14 : decode cX9_hexBits 14 = .ok (.aload_n 0, 1) := by decide +kernel
theorem dX9_hexBits_15 : decode cX9_hexBits 15 = .ok (.iload 5, 2) := by decide +kernel
theorem dX9_hexBits_17 : decode cX9_hexBits 17 = .ok (.invokevirtual 86, 3) := by decide +kernel
theorem dX9_hexBits_20 : decode cX9_hexBits 20 = .ok (.iconst 1, 1) := by decide +kernel
theorem dX9_hexBits_21 : decode cX9_hexBits 21 = .ok (.invokestatic 121, 3) := by decide +kernel
theorem dX9_hexBits_24 : decode cX9_hexBits 24 = .ok (.i2l, 1) := by decide +kernel
theorem dX9_hexBits_25 : decode cX9_hexBits 25 = .ok (.lor, 1) := by decide +kernel
theorem dX9_hexBits_26 : decode cX9_hexBits 26 = .ok (.lstore_n 3, 1) := by decide +kernel
theorem dX9_hexBits_27 : decode cX9_hexBits 27 = .ok (.iinc 5 1, 3) := by decide +kernel
theorem dX9_hexBits_30 : decode cX9_hexBits 30 = .ok (.goto (-25), 3) := by decide +kernel
theorem dX9_hexBits_33 : decode cX9_hexBits 33 = .ok (.lload_n 3, 1) := by decide +kernel
theorem dX9_hexBits_34 : decode cX9_hexBits 34 = .ok (.lreturn, 1) := by decide +kernel
abbrev cX9_decimal : ByteArray := prog_11_method_32_code
def yX9_decimal : MethodName := ⟨RX9, "decimal", "(II)J"⟩
theorem dX9_decimal_0 : decode cX9_decimal 0 = .ok (.lconst 0, 1) := by decide +kernel
theorem dX9_decimal_1 : decode cX9_decimal 1 = .ok (.lstore_n 3, 1) := by decide +kernel
theorem dX9_decimal_2 : decode cX9_decimal 2 = .ok (.iload_n 1, 1) := by decide +kernel
theorem dX9_decimal_3 : decode cX9_decimal 3 = .ok (.istore 5, 2) := by decide +kernel
theorem dX9_decimal_5 : decode cX9_decimal 5 = .ok (.iload 5, 2) := by decide +kernel
theorem dX9_decimal_7 : decode cX9_decimal 7 = .ok (.iload_n 2, 1) := by decide +kernel
theorem dX9_decimal_8 : decode cX9_decimal 8 = .ok (.if_icmp .ge 27, 3) := by decide +kernel
theorem dX9_decimal_11 : decode cX9_decimal 11 = .ok (.ldc2_w 133, 3) := by decide +kernel
theorem dX9_decimal_14 : decode cX9_decimal 14 = .ok (.lload_n 3, 1) := by decide +kernel
theorem dX9_decimal_15 : decode cX9_decimal 15 = .ok (.lmul, 1) := by decide +kernel
theorem dX9_decimal_16 : decode cX9_decimal 16 = .ok (.aload_n 0, 1) := by decide +kernel
theorem dX9_decimal_17 : decode cX9_decimal 17 = .ok (.iload 5, 2) := by decide +kernel
theorem dX9_decimal_19 : decode cX9_decimal 19 = .ok (.invokevirtual 86, 3) := by decide +kernel
theorem dX9_decimal_22 : decode cX9_decimal 22 = .ok (.iconst 0, 1) := by decide +kernel
theorem dX9_decimal_23 : decode cX9_decimal 23 = .ok (.invokestatic 121, 3) := by decide +kernel
theorem dX9_decimal_26 : decode cX9_decimal 26 = .ok (.i2l, 1) := by decide +kernel
theorem dX9_decimal_27 : decode cX9_decimal 27 = .ok (.ladd, 1) := by decide +kernel
theorem dX9_decimal_28 : decode cX9_decimal 28 = .ok (.lstore_n 3, 1) := by decide +kernel
theorem dX9_decimal_29 : decode cX9_decimal 29 = .ok (.iinc 5 1, 3) := by decide +kernel
theorem dX9_decimal_32 : decode cX9_decimal 32 = .ok (.goto (-27), 3) := by decide +kernel
theorem dX9_decimal_35 : decode cX9_decimal 35 = .ok (.lload_n 3, 1) := by decide +kernel
theorem dX9_decimal_36 : decode cX9_decimal 36 = .ok (.lreturn, 1) := by decide +kernel
abbrev cX9_readNumber : ByteArray := prog_11_method_30_code
def yX9_readNumber : MethodName := ⟨RX9, "readNumber", "(I)I"⟩
theorem dX9_readNumber_0 : decode cX9_readNumber 0 = .ok (.aload_n 0, 1) := by decide +kernel
theorem dX9_readNumber_1 : decode cX9_readNumber 1 = .ok (.iload_n 1, 1) := by decide +kernel
theorem dX9_readNumber_2 : decode cX9_readNumber 2 = .ok (.invokevirtual 86, 3) := by decide +kernel
theorem dX9_readNumber_5 : decode cX9_readNumber 5 = .ok (.bipush 48, 2) := by decide +kernel
theorem dX9_readNumber_7 : decode cX9_readNumber 7 = .ok (.if_icmp .ne 19, 3) := by decide +kernel
theorem dX9_readNumber_10 : decode cX9_readNumber 10 = .ok (.aload_n 0, 1) := by decide +kernel
theorem dX9_readNumber_11 : decode cX9_readNumber 11 = .ok (.iload_n 1, 1) := by decide +kernel
theorem dX9_readNumber_12 : decode cX9_readNumber 12 = .ok (.iconst 1, 1) := by decide +kernel
theorem dX9_readNumber_13 : decode cX9_readNumber 13 = .ok (.iadd, 1) := by decide +kernel
theorem dX9_readNumber_14 : decode cX9_readNumber 14 = .ok (.invokevirtual 86, 3) := by decide +kernel
theorem dX9_readNumber_17 : decode cX9_readNumber 17 = .ok (.bipush 120, 2) := by decide +kernel
theorem dX9_readNumber_19 : decode cX9_readNumber 19 = .ok (.if_icmp .ne 7, 3) := by decide +kernel
theorem dX9_readNumber_22 : decode cX9_readNumber 22 = .ok (.iconst 1, 1) := by decide +kernel
theorem dX9_readNumber_23 : decode cX9_readNumber 23 = .ok (.goto 4, 3) := by decide +kernel
theorem dX9_readNumber_26 : decode cX9_readNumber 26 = .ok (.iconst 0, 1) := by decide +kernel
theorem dX9_readNumber_27 : decode cX9_readNumber 27 = .ok (.istore_n 2, 1) := by decide +kernel
theorem dX9_readNumber_28 : decode cX9_readNumber 28 = .ok (.iload_n 2, 1) := by decide +kernel
theorem dX9_readNumber_29 : decode cX9_readNumber 29 = .ok (.ifCond .eq 9, 3) := by decide +kernel
theorem dX9_readNumber_32 : decode cX9_readNumber 32 = .ok (.iload_n 1, 1) := by decide +kernel
theorem dX9_readNumber_33 : decode cX9_readNumber 33 = .ok (.iconst 2, 1) := by decide +kernel
theorem dX9_readNumber_34 : decode cX9_readNumber 34 = .ok (.iadd, 1) := by decide +kernel
theorem dX9_readNumber_35 : decode cX9_readNumber 35 = .ok (.goto 4, 3) := by decide +kernel
theorem dX9_readNumber_38 : decode cX9_readNumber 38 = .ok (.iload_n 1, 1) := by decide +kernel
theorem dX9_readNumber_39 : decode cX9_readNumber 39 = .ok (.istore_n 3, 1) := by decide +kernel
theorem dX9_readNumber_40 : decode cX9_readNumber 40 = .ok (.iload_n 3, 1) := by decide +kernel
theorem dX9_readNumber_41 : decode cX9_readNumber 41 = .ok (.istore 4, 2) := by decide +kernel
theorem dX9_readNumber_43 : decode cX9_readNumber 43 = .ok (.iload 4, 2) := by decide +kernel
theorem dX9_readNumber_45 : decode cX9_readNumber 45 = .ok (.aload_n 0, 1) := by decide +kernel
theorem dX9_readNumber_46 : decode cX9_readNumber 46 = .ok (.getfield 48, 3) := by decide +kernel
theorem dX9_readNumber_49 : decode cX9_readNumber 49 = .ok (.if_icmp .ge 23, 3) := by decide +kernel
theorem dX9_readNumber_52 : decode cX9_readNumber 52 = .ok (.aload_n 0, 1) := by decide +kernel
theorem dX9_readNumber_53 : decode cX9_readNumber 53 = .ok (.iload 4, 2) := by decide +kernel
theorem dX9_readNumber_55 : decode cX9_readNumber 55 = .ok (.invokevirtual 86, 3) := by decide +kernel
theorem dX9_readNumber_58 : decode cX9_readNumber 58 = .ok (.iload_n 2, 1) := by decide +kernel
theorem dX9_readNumber_59 : decode cX9_readNumber 59 = .ok (.invokestatic 121, 3) := by decide +kernel
theorem dX9_readNumber_62 : decode cX9_readNumber 62 = .ok (.iconst (-1), 1) := by decide +kernel
theorem dX9_readNumber_63 : decode cX9_readNumber 63 = .ok (.if_icmp .eq 9, 3) := by decide +kernel
theorem dX9_readNumber_66 : decode cX9_readNumber 66 = .ok (.iinc 4 1, 3) := by decide +kernel
theorem dX9_readNumber_69 : decode cX9_readNumber 69 = .ok (.goto (-26), 3) := by decide +kernel
theorem dX9_readNumber_72 : decode cX9_readNumber 72 = .ok (.aload_n 0, 1) := by decide +kernel
theorem dX9_readNumber_73 : decode cX9_readNumber 73 = .ok (.iload 4, 2) := by decide +kernel
theorem dX9_readNumber_75 : decode cX9_readNumber 75 = .ok (.invokevirtual 86, 3) := by decide +kernel
theorem dX9_readNumber_78 : decode cX9_readNumber 78 = .ok (.bipush 76, 2) := by decide +kernel
theorem dX9_readNumber_80 : decode cX9_readNumber 80 = .ok (.if_icmp .ne 7, 3) := by decide +kernel
theorem dX9_readNumber_83 : decode cX9_readNumber 83 = .ok (.iconst 1, 1) := by decide +kernel
theorem dX9_readNumber_84 : decode cX9_readNumber 84 = .ok (.goto 4, 3) := by decide +kernel
theorem dX9_readNumber_87 : decode cX9_readNumber 87 = .ok (.iconst 0, 1) := by decide +kernel
theorem dX9_readNumber_88 : decode cX9_readNumber 88 = .ok (.istore 5, 2) := by decide +kernel
theorem dX9_readNumber_90 : decode cX9_readNumber 90 = .ok (.iload 5, 2) := by decide +kernel
theorem dX9_readNumber_92 : decode cX9_readNumber 92 = .ok (.ifCond .eq 10, 3) := by decide +kernel
theorem dX9_readNumber_95 : decode cX9_readNumber 95 = .ok (.iload 4, 2) := by decide +kernel
theorem dX9_readNumber_97 : decode cX9_readNumber 97 = .ok (.iconst 1, 1) := by decide +kernel
theorem dX9_readNumber_98 : decode cX9_readNumber 98 = .ok (.iadd, 1) := by decide +kernel
theorem dX9_readNumber_99 : decode cX9_readNumber 99 = .ok (.goto 5, 3) := by decide +kernel
theorem dX9_readNumber_102 : decode cX9_readNumber 102 = .ok (.iload 4, 2) := by decide +kernel
theorem dX9_readNumber_104 : decode cX9_readNumber 104 = .ok (.istore 6, 2) := by decide +kernel
theorem dX9_readNumber_106 : decode cX9_readNumber 106 = .ok (.iload_n 2, 1) := by decide +kernel
theorem dX9_readNumber_107 : decode cX9_readNumber 107 = .ok (.ifCond .eq 18, 3) := by decide +kernel
theorem dX9_readNumber_110 : decode cX9_readNumber 110 = .ok (.iload 5, 2) := by decide +kernel
theorem dX9_readNumber_112 : decode cX9_readNumber 112 = .ok (.ifCond .eq 8, 3) := by decide +kernel
theorem dX9_readNumber_115 : decode cX9_readNumber 115 = .ok (.bipush 16, 2) := by decide +kernel
theorem dX9_readNumber_117 : decode cX9_readNumber 117 = .ok (.goto 20, 3) := by decide +kernel
theorem dX9_readNumber_120 : decode cX9_readNumber 120 = .ok (.bipush 8, 2) := by decide +kernel
theorem dX9_readNumber_122 : decode cX9_readNumber 122 = .ok (.goto 15, 3) := by decide +kernel
theorem dX9_readNumber_125 : decode cX9_readNumber 125 = .ok (.iload 5, 2) := by decide +kernel
theorem dX9_readNumber_127 : decode cX9_readNumber 127 = .ok (.ifCond .eq 8, 3) := by decide +kernel
theorem dX9_readNumber_130 : decode cX9_readNumber 130 = .ok (.bipush 19, 2) := by decide +kernel
theorem dX9_readNumber_132 : decode cX9_readNumber 132 = .ok (.goto 5, 3) := by decide +kernel
theorem dX9_readNumber_135 : decode cX9_readNumber 135 = .ok (.bipush 10, 2) := by decide +kernel
theorem dX9_readNumber_137 : decode cX9_readNumber 137 = .ok (.istore 7, 2) := by decide +kernel
theorem dX9_readNumber_139 : decode cX9_readNumber 139 = .ok (.iload 4, 2) := by decide +kernel
theorem dX9_readNumber_141 : decode cX9_readNumber 141 = .ok (.iload_n 3, 1) := by decide +kernel
theorem dX9_readNumber_142 : decode cX9_readNumber 142 = .ok (.if_icmp .eq 24, 3) := by decide +kernel
theorem dX9_readNumber_145 : decode cX9_readNumber 145 = .ok (.iload 4, 2) := by decide +kernel
theorem dX9_readNumber_147 : decode cX9_readNumber 147 = .ok (.iload_n 3, 1) := by decide +kernel
theorem dX9_readNumber_148 : decode cX9_readNumber 148 = .ok (.isub, 1) := by decide +kernel
theorem dX9_readNumber_149 : decode cX9_readNumber 149 = .ok (.iload 7, 2) := by decide +kernel
theorem dX9_readNumber_151 : decode cX9_readNumber 151 = .ok (.if_icmp .gt 15, 3) := by decide +kernel
theorem dX9_readNumber_154 : decode cX9_readNumber 154 = .ok (.aload_n 0, 1) := by decide +kernel
theorem dX9_readNumber_155 : decode cX9_readNumber 155 = .ok (.iload 6, 2) := by decide +kernel
theorem dX9_readNumber_157 : decode cX9_readNumber 157 = .ok (.invokevirtual 86, 3) := by decide +kernel
theorem dX9_readNumber_160 : decode cX9_readNumber 160 = .ok (.invokestatic 89, 3) := by decide +kernel
theorem dX9_readNumber_163 : decode cX9_readNumber 163 = .ok (.ifCond .eq 5, 3) := by decide +kernel
theorem dX9_readNumber_166 : decode cX9_readNumber 166 = .ok (.iconst (-1), 1) := by decide +kernel
theorem dX9_readNumber_167 : decode cX9_readNumber 167 = .ok (.ireturn, 1) := by decide +kernel
theorem dX9_readNumber_168 : decode cX9_readNumber 168 = .ok (.iload 5, 2) := by decide +kernel
theorem dX9_readNumber_170 : decode cX9_readNumber 170 = .ok (.ifCond .eq 7, 3) := by decide +kernel
theorem dX9_readNumber_173 : decode cX9_readNumber 173 = .ok (.iconst 1, 1) := by decide +kernel
theorem dX9_readNumber_174 : decode cX9_readNumber 174 = .ok (.goto 4, 3) := by decide +kernel
theorem dX9_readNumber_177 : decode cX9_readNumber 177 = .ok (.iconst 0, 1) := by decide +kernel
theorem dX9_readNumber_178 : decode cX9_readNumber 178 = .ok (.istore 8, 2) := by decide +kernel
theorem dX9_readNumber_180 : decode cX9_readNumber 180 = .ok (.iload_n 2, 1) := by decide +kernel
theorem dX9_readNumber_181 : decode cX9_readNumber 181 = .ok (.ifCond .eq 38, 3) := by decide +kernel
theorem dX9_readNumber_184 : decode cX9_readNumber 184 = .ok (.aload_n 0, 1) := by decide +kernel
theorem dX9_readNumber_185 : decode cX9_readNumber 185 = .ok (.iload_n 3, 1) := by decide +kernel
theorem dX9_readNumber_186 : decode cX9_readNumber 186 = .ok (.iload 4, 2) := by decide +kernel
theorem dX9_readNumber_188 : decode cX9_readNumber 188 = .ok (.invokevirtual 125, 3) := by decide +kernel
theorem dX9_readNumber_191 : decode cX9_readNumber 191 = .ok (.lstore 9, 2) := by decide +kernel
theorem dX9_readNumber_193 : decode cX9_readNumber 193 = .ok (.aload_n 0, 1) := by decide +kernel
theorem dX9_readNumber_194 : decode cX9_readNumber 194 = .ok (.sipush 129, 3) := by decide +kernel
theorem dX9_readNumber_197 : decode cX9_readNumber 197 = .ok (.iload 5, 2) := by decide +kernel
theorem dX9_readNumber_199 : decode cX9_readNumber 199 = .ok (.ifCond .eq 8, 3) := by decide +kernel
theorem dX9_readNumber_202 : decode cX9_readNumber 202 = .ok (.lload 9, 2) := by decide +kernel
theorem dX9_readNumber_204 : decode cX9_readNumber 204 = .ok (.goto 7, 3) := by decide +kernel
theorem dX9_readNumber_207 : decode cX9_readNumber 207 = .ok (.lload 9, 2) := by decide +kernel
theorem dX9_readNumber_209 : decode cX9_readNumber 209 = .ok (.l2i, 1) := by decide +kernel
theorem dX9_readNumber_210 : decode cX9_readNumber 210 = .ok (.i2l, 1) := by decide +kernel
theorem dX9_readNumber_211 : decode cX9_readNumber 211 = .ok (.iload 8, 2) := by decide +kernel
theorem dX9_readNumber_213 : decode cX9_readNumber 213 = .ok (.invokevirtual 93, 3) := by decide +kernel
theorem dX9_readNumber_216 : decode cX9_readNumber 216 = .ok (.iload 6, 2) := by decide +kernel
theorem dX9_readNumber_218 : decode cX9_readNumber 218 = .ok (.ireturn, 1) := by decide +kernel
theorem dX9_readNumber_219 : decode cX9_readNumber 219 = .ok (.aload_n 0, 1) := by decide +kernel
theorem dX9_readNumber_220 : decode cX9_readNumber 220 = .ok (.iload_n 3, 1) := by decide +kernel
theorem dX9_readNumber_221 : decode cX9_readNumber 221 = .ok (.iload 4, 2) := by decide +kernel
theorem dX9_readNumber_223 : decode cX9_readNumber 223 = .ok (.invokevirtual 128, 3) := by decide +kernel
theorem dX9_readNumber_226 : decode cX9_readNumber 226 = .ok (.lstore 9, 2) := by decide +kernel
theorem dX9_readNumber_228 : decode cX9_readNumber 228 = .ok (.lload 9, 2) := by decide +kernel
theorem dX9_readNumber_230 : decode cX9_readNumber 230 = .ok (.lconst 0, 1) := by decide +kernel
theorem dX9_readNumber_231 : decode cX9_readNumber 231 = .ok (.lcmp, 1) := by decide +kernel
theorem dX9_readNumber_232 : decode cX9_readNumber 232 = .ok (.ifCond .lt 17, 3) := by decide +kernel
theorem dX9_readNumber_235 : decode cX9_readNumber 235 = .ok (.iload 5, 2) := by decide +kernel
theorem dX9_readNumber_237 : decode cX9_readNumber 237 = .ok (.ifCond .ne 16, 3) := by decide +kernel
theorem dX9_readNumber_240 : decode cX9_readNumber 240 = .ok (.lload 9, 2) := by decide +kernel
theorem dX9_readNumber_242 : decode cX9_readNumber 242 = .ok (.ldc2_w 131, 3) := by decide +kernel
theorem dX9_readNumber_245 : decode cX9_readNumber 245 = .ok (.lcmp, 1) := by decide +kernel
theorem dX9_readNumber_246 : decode cX9_readNumber 246 = .ok (.ifCond .le 7, 3) := by decide +kernel
theorem dX9_readNumber_249 : decode cX9_readNumber 249 = .ok (.iconst 1, 1) := by decide +kernel
theorem dX9_readNumber_250 : decode cX9_readNumber 250 = .ok (.goto 4, 3) := by decide +kernel
theorem dX9_readNumber_253 : decode cX9_readNumber 253 = .ok (.iconst 0, 1) := by decide +kernel
theorem dX9_readNumber_254 : decode cX9_readNumber 254 = .ok (.istore 11, 2) := by decide +kernel
theorem dX9_readNumber_256 : decode cX9_readNumber 256 = .ok (.aload_n 0, 1) := by decide +kernel
theorem dX9_readNumber_257 : decode cX9_readNumber 257 = .ok (.sipush 129, 3) := by decide +kernel
theorem dX9_readNumber_260 : decode cX9_readNumber 260 = .ok (.lload 9, 2) := by decide +kernel
theorem dX9_readNumber_262 : decode cX9_readNumber 262 = .ok (.iload 11, 2) := by decide +kernel
theorem dX9_readNumber_264 : decode cX9_readNumber 264 = .ok (.ifCond .eq 10, 3) := by decide +kernel
theorem dX9_readNumber_267 : decode cX9_readNumber 267 = .ok (.iload 8, 2) := by decide +kernel
theorem dX9_readNumber_269 : decode cX9_readNumber 269 = .ok (.iconst 2, 1) := by decide +kernel
theorem dX9_readNumber_270 : decode cX9_readNumber 270 = .ok (.ior, 1) := by decide +kernel
theorem dX9_readNumber_271 : decode cX9_readNumber 271 = .ok (.goto 5, 3) := by decide +kernel
theorem dX9_readNumber_274 : decode cX9_readNumber 274 = .ok (.iload 8, 2) := by decide +kernel
theorem dX9_readNumber_276 : decode cX9_readNumber 276 = .ok (.invokevirtual 93, 3) := by decide +kernel
theorem dX9_readNumber_279 : decode cX9_readNumber 279 = .ok (.iload 6, 2) := by decide +kernel
theorem dX9_readNumber_281 : decode cX9_readNumber 281 = .ok (.ireturn, 1) := by decide +kernel
abbrev cX9_readCharacter : ByteArray := prog_11_method_33_code
def yX9_readCharacter : MethodName := ⟨RX9, "readCharacter", "(I)I"⟩
theorem dX9_readCharacter_0 : decode cX9_readCharacter 0 = .ok (.aload_n 0, 1) := by decide +kernel
theorem dX9_readCharacter_1 : decode cX9_readCharacter 1 = .ok (.iload_n 1, 1) := by decide +kernel
theorem dX9_readCharacter_2 : decode cX9_readCharacter 2 = .ok (.iconst 1, 1) := by decide +kernel
theorem dX9_readCharacter_3 : decode cX9_readCharacter 3 = .ok (.iadd, 1) := by decide +kernel
theorem dX9_readCharacter_4 : decode cX9_readCharacter 4 = .ok (.invokevirtual 86, 3) := by decide +kernel
theorem dX9_readCharacter_7 : decode cX9_readCharacter 7 = .ok (.istore_n 2, 1) := by decide +kernel
theorem dX9_readCharacter_8 : decode cX9_readCharacter 8 = .ok (.iload_n 2, 1) := by decide +kernel
theorem dX9_readCharacter_9 : decode cX9_readCharacter 9 = .ok (.bipush 32, 2) := by decide +kernel
theorem dX9_readCharacter_11 : decode cX9_readCharacter 11 = .ok (.if_icmp .lt 21, 3) := by decide +kernel
theorem dX9_readCharacter_14 : decode cX9_readCharacter 14 = .ok (.iload_n 2, 1) := by decide +kernel
theorem dX9_readCharacter_15 : decode cX9_readCharacter 15 = .ok (.bipush 126, 2) := by decide +kernel
theorem dX9_readCharacter_17 : decode cX9_readCharacter 17 = .ok (.if_icmp .gt 15, 3) := by decide +kernel
theorem dX9_readCharacter_20 : decode cX9_readCharacter 20 = .ok (.aload_n 0, 1) := by decide +kernel
theorem dX9_readCharacter_21 : decode cX9_readCharacter 21 = .ok (.iload_n 1, 1) := by decide +kernel
theorem dX9_readCharacter_22 : decode cX9_readCharacter 22 = .ok (.iconst 2, 1) := by decide +kernel
theorem dX9_readCharacter_23 : decode cX9_readCharacter 23 = .ok (.iadd, 1) := by decide +kernel
theorem dX9_readCharacter_24 : decode cX9_readCharacter 24 = .ok (.invokevirtual 86, 3) := by decide +kernel
theorem dX9_readCharacter_27 : decode cX9_readCharacter 27 = .ok (.bipush 39, 2) := by decide +kernel
theorem dX9_readCharacter_29 : decode cX9_readCharacter 29 = .ok (.if_icmp .eq 5, 3) := by decide +kernel
theorem dX9_readCharacter_32 : decode cX9_readCharacter 32 = .ok (.iconst (-1), 1) := by decide +kernel
theorem dX9_readCharacter_33 : decode cX9_readCharacter 33 = .ok (.ireturn, 1) := by decide +kernel
theorem dX9_readCharacter_34 : decode cX9_readCharacter 34 = .ok (.aload_n 0, 1) := by decide +kernel
theorem dX9_readCharacter_35 : decode cX9_readCharacter 35 = .ok (.sipush 130, 3) := by decide +kernel
theorem dX9_readCharacter_38 : decode cX9_readCharacter 38 = .ok (.iload_n 2, 1) := by decide +kernel
theorem dX9_readCharacter_39 : decode cX9_readCharacter 39 = .ok (.i2l, 1) := by decide +kernel
theorem dX9_readCharacter_40 : decode cX9_readCharacter 40 = .ok (.iconst 0, 1) := by decide +kernel
theorem dX9_readCharacter_41 : decode cX9_readCharacter 41 = .ok (.invokevirtual 93, 3) := by decide +kernel
theorem dX9_readCharacter_44 : decode cX9_readCharacter 44 = .ok (.iload_n 1, 1) := by decide +kernel
theorem dX9_readCharacter_45 : decode cX9_readCharacter 45 = .ok (.iconst 3, 1) := by decide +kernel
theorem dX9_readCharacter_46 : decode cX9_readCharacter 46 = .ok (.iadd, 1) := by decide +kernel
theorem dX9_readCharacter_47 : decode cX9_readCharacter 47 = .ok (.ireturn, 1) := by decide +kernel
abbrev cX9_readSign : ByteArray := prog_11_method_34_code
def yX9_readSign : MethodName := ⟨RX9, "readSign", "(I)I"⟩
theorem dX9_readSign_0 : decode cX9_readSign 0 = .ok (.aload_n 0, 1) := by decide +kernel
theorem dX9_readSign_1 : decode cX9_readSign 1 = .ok (.iload_n 1, 1) := by decide +kernel
theorem dX9_readSign_2 : decode cX9_readSign 2 = .ok (.invokevirtual 86, 3) := by decide +kernel
theorem dX9_readSign_5 : decode cX9_readSign 5 = .ok (.istore_n 2, 1) := by decide +kernel
theorem dX9_readSign_6 : decode cX9_readSign 6 = .ok (.iload_n 2, 1) := by decide +kernel
theorem dX9_readSign_7 : decode cX9_readSign 7 = .ok (.ifCond .lt 13, 3) := by decide +kernel
theorem dX9_readSign_10 : decode cX9_readSign 10 = .ok (.ldc 135, 2) := by decide +kernel
theorem dX9_readSign_12 : decode cX9_readSign 12 = .ok (.iload_n 2, 1) := by decide +kernel
theorem dX9_readSign_13 : decode cX9_readSign 13 = .ok (.i2c, 1) := by decide +kernel
theorem dX9_readSign_14 : decode cX9_readSign 14 = .ok (.invokevirtual 137, 3) := by decide +kernel
theorem dX9_readSign_17 : decode cX9_readSign 17 = .ok (.ifCond .ge 5, 3) := by decide +kernel
theorem dX9_readSign_20 : decode cX9_readSign 20 = .ok (.iconst (-1), 1) := by decide +kernel
theorem dX9_readSign_21 : decode cX9_readSign 21 = .ok (.ireturn, 1) := by decide +kernel
theorem dX9_readSign_22 : decode cX9_readSign 22 = .ok (.iload_n 2, 1) := by decide +kernel
theorem dX9_readSign_23 : decode cX9_readSign 23 = .ok (.istore_n 3, 1) := by decide +kernel
theorem dX9_readSign_24 : decode cX9_readSign 24 = .ok (.iconst 1, 1) := by decide +kernel
theorem dX9_readSign_25 : decode cX9_readSign 25 = .ok (.istore 4, 2) := by decide +kernel
theorem dX9_readSign_27 : decode cX9_readSign 27 = .ok (.iload_n 2, 1) := by decide +kernel
theorem dX9_readSign_28 : decode cX9_readSign 28 = .ok (.invokestatic 140, 3) := by decide +kernel
theorem dX9_readSign_31 : decode cX9_readSign 31 = .ok (.istore 5, 2) := by decide +kernel
theorem dX9_readSign_33 : decode cX9_readSign 33 = .ok (.iload 4, 2) := by decide +kernel
theorem dX9_readSign_35 : decode cX9_readSign 35 = .ok (.iload 5, 2) := by decide +kernel
theorem dX9_readSign_37 : decode cX9_readSign 37 = .ok (.if_icmp .ge 28, 3) := by decide +kernel
theorem dX9_readSign_40 : decode cX9_readSign 40 = .ok (.aload_n 0, 1) := by decide +kernel
theorem dX9_readSign_41 : decode cX9_readSign 41 = .ok (.iload_n 1, 1) := by decide +kernel
theorem dX9_readSign_42 : decode cX9_readSign 42 = .ok (.iload 4, 2) := by decide +kernel
theorem dX9_readSign_44 : decode cX9_readSign 44 = .ok (.iadd, 1) := by decide +kernel
theorem dX9_readSign_45 : decode cX9_readSign 45 = .ok (.invokevirtual 86, 3) := by decide +kernel
theorem dX9_readSign_48 : decode cX9_readSign 48 = .ok (.iload_n 2, 1) := by decide +kernel
theorem dX9_readSign_49 : decode cX9_readSign 49 = .ok (.if_icmp .ne 16, 3) := by decide +kernel
theorem dX9_readSign_52 : decode cX9_readSign 52 = .ok (.iload_n 3, 1) := by decide +kernel
theorem dX9_readSign_53 : decode cX9_readSign 53 = .ok (.bipush 8, 2) := by decide +kernel
theorem dX9_readSign_55 : decode cX9_readSign 55 = .ok (.ishl, 1) := by decide +kernel
theorem dX9_readSign_56 : decode cX9_readSign 56 = .ok (.iload_n 2, 1) := by decide +kernel
theorem dX9_readSign_57 : decode cX9_readSign 57 = .ok (.ior, 1) := by decide +kernel
theorem dX9_readSign_58 : decode cX9_readSign 58 = .ok (.istore_n 3, 1) := by decide +kernel
theorem dX9_readSign_59 : decode cX9_readSign 59 = .ok (.iinc 4 1, 3) := by decide +kernel
theorem dX9_readSign_62 : decode cX9_readSign 62 = .ok (.goto (-29), 3) := by decide +kernel
theorem dX9_readSign_65 : decode cX9_readSign 65 = .ok (.aload_n 0, 1) := by decide +kernel
theorem dX9_readSign_66 : decode cX9_readSign 66 = .ok (.iload_n 1, 1) := by decide +kernel
theorem dX9_readSign_67 : decode cX9_readSign 67 = .ok (.iload 4, 2) := by decide +kernel
theorem dX9_readSign_69 : decode cX9_readSign 69 = .ok (.iadd, 1) := by decide +kernel
theorem dX9_readSign_70 : decode cX9_readSign 70 = .ok (.invokevirtual 86, 3) := by decide +kernel
theorem dX9_readSign_73 : decode cX9_readSign 73 = .ok (.bipush 61, 2) := by decide +kernel
theorem dX9_readSign_75 : decode cX9_readSign 75 = .ok (.if_icmp .ne 23, 3) := by decide +kernel
theorem dX9_readSign_78 : decode cX9_readSign 78 = .ok (.iload_n 2, 1) := by decide +kernel
theorem dX9_readSign_79 : decode cX9_readSign 79 = .ok (.iload 4, 2) := by decide +kernel
theorem dX9_readSign_81 : decode cX9_readSign 81 = .ok (.invokestatic 143, 3) := by decide +kernel
theorem dX9_readSign_84 : decode cX9_readSign 84 = .ok (.ifCond .eq 14, 3) := by decide +kernel
theorem dX9_readSign_87 : decode cX9_readSign 87 = .ok (.iload_n 3, 1) := by decide +kernel
theorem dX9_readSign_88 : decode cX9_readSign 88 = .ok (.bipush 8, 2) := by decide +kernel
theorem dX9_readSign_90 : decode cX9_readSign 90 = .ok (.ishl, 1) := by decide +kernel
theorem dX9_readSign_91 : decode cX9_readSign 91 = .ok (.bipush 61, 2) := by decide +kernel
theorem dX9_readSign_93 : decode cX9_readSign 93 = .ok (.ior, 1) := by decide +kernel
theorem dX9_readSign_94 : decode cX9_readSign 94 = .ok (.istore_n 3, 1) := by decide +kernel
theorem dX9_readSign_95 : decode cX9_readSign 95 = .ok (.iinc 4 1, 3) := by decide +kernel
theorem dX9_readSign_98 : decode cX9_readSign 98 = .ok (.aload_n 0, 1) := by decide +kernel
theorem dX9_readSign_99 : decode cX9_readSign 99 = .ok (.iload_n 3, 1) := by decide +kernel
theorem dX9_readSign_100 : decode cX9_readSign 100 = .ok (.lconst 0, 1) := by decide +kernel
theorem dX9_readSign_101 : decode cX9_readSign 101 = .ok (.iconst 0, 1) := by decide +kernel
theorem dX9_readSign_102 : decode cX9_readSign 102 = .ok (.invokevirtual 93, 3) := by decide +kernel
theorem dX9_readSign_105 : decode cX9_readSign 105 = .ok (.iload_n 1, 1) := by decide +kernel
theorem dX9_readSign_106 : decode cX9_readSign 106 = .ok (.iload 4, 2) := by decide +kernel
theorem dX9_readSign_108 : decode cX9_readSign 108 = .ok (.iadd, 1) := by decide +kernel
theorem dX9_readSign_109 : decode cX9_readSign 109 = .ok (.ireturn, 1) := by decide +kernel
abbrev cX9_readToken : ByteArray := prog_11_method_27_code
def yX9_readToken : MethodName := ⟨RX9, "readToken", "(I)I"⟩
theorem dX9_readToken_0 : decode cX9_readToken 0 = .ok (.aload_n 0, 1) := by decide +kernel
theorem dX9_readToken_1 : decode cX9_readToken 1 = .ok (.iload_n 1, 1) := by decide +kernel
theorem dX9_readToken_2 : decode cX9_readToken 2 = .ok (.invokevirtual 86, 3) := by decide +kernel
theorem dX9_readToken_5 : decode cX9_readToken 5 = .ok (.istore_n 2, 1) := by decide +kernel
theorem dX9_readToken_6 : decode cX9_readToken 6 = .ok (.aload_n 0, 1) := by decide +kernel
theorem dX9_readToken_7 : decode cX9_readToken 7 = .ok (.getfield 15, 3) := by decide +kernel
theorem dX9_readToken_10 : decode cX9_readToken 10 = .ok (.aload_n 0, 1) := by decide +kernel
theorem dX9_readToken_11 : decode cX9_readToken 11 = .ok (.getfield 50, 3) := by decide +kernel
theorem dX9_readToken_14 : decode cX9_readToken 14 = .ok (.iload_n 1, 1) := by decide +kernel
theorem dX9_readToken_15 : decode cX9_readToken 15 = .ok (.iastore, 1) := by decide +kernel
theorem dX9_readToken_16 : decode cX9_readToken 16 = .ok (.iload_n 2, 1) := by decide +kernel
theorem dX9_readToken_17 : decode cX9_readToken 17 = .ok (.bipush 48, 2) := by decide +kernel
theorem dX9_readToken_19 : decode cX9_readToken 19 = .ok (.if_icmp .lt 15, 3) := by decide +kernel
theorem dX9_readToken_22 : decode cX9_readToken 22 = .ok (.iload_n 2, 1) := by decide +kernel
theorem dX9_readToken_23 : decode cX9_readToken 23 = .ok (.bipush 57, 2) := by decide +kernel
theorem dX9_readToken_25 : decode cX9_readToken 25 = .ok (.if_icmp .gt 9, 3) := by decide +kernel
theorem dX9_readToken_28 : decode cX9_readToken 28 = .ok (.aload_n 0, 1) := by decide +kernel
theorem dX9_readToken_29 : decode cX9_readToken 29 = .ok (.iload_n 1, 1) := by decide +kernel
theorem dX9_readToken_30 : decode cX9_readToken 30 = .ok (.invokevirtual 97, 3) := by decide +kernel
theorem dX9_readToken_33 : decode cX9_readToken 33 = .ok (.ireturn, 1) := by decide +kernel
theorem dX9_readToken_34 : decode cX9_readToken 34 = .ok (.iload_n 2, 1) := by decide +kernel
theorem dX9_readToken_35 : decode cX9_readToken 35 = .ok (.invokestatic 89, 3) := by decide +kernel
theorem dX9_readToken_38 : decode cX9_readToken 38 = .ok (.ifCond .eq 9, 3) := by decide +kernel
theorem dX9_readToken_41 : decode cX9_readToken 41 = .ok (.aload_n 0, 1) := by decide +kernel
theorem dX9_readToken_42 : decode cX9_readToken 42 = .ok (.iload_n 1, 1) := by decide +kernel
theorem dX9_readToken_43 : decode cX9_readToken 43 = .ok (.invokevirtual 100, 3) := by decide +kernel
theorem dX9_readToken_46 : decode cX9_readToken 46 = .ok (.ireturn, 1) := by decide +kernel
theorem dX9_readToken_47 : decode cX9_readToken 47 = .ok (.iload_n 2, 1) := by decide +kernel
theorem dX9_readToken_48 : decode cX9_readToken 48 = .ok (.bipush 39, 2) := by decide +kernel
theorem dX9_readToken_50 : decode cX9_readToken 50 = .ok (.if_icmp .ne 11, 3) := by decide +kernel
theorem dX9_readToken_53 : decode cX9_readToken 53 = .ok (.aload_n 0, 1) := by decide +kernel
theorem dX9_readToken_54 : decode cX9_readToken 54 = .ok (.iload_n 1, 1) := by decide +kernel
theorem dX9_readToken_55 : decode cX9_readToken 55 = .ok (.invokevirtual 103, 3) := by decide +kernel
theorem dX9_readToken_58 : decode cX9_readToken 58 = .ok (.goto 8, 3) := by decide +kernel
theorem dX9_readToken_61 : decode cX9_readToken 61 = .ok (.aload_n 0, 1) := by decide +kernel
theorem dX9_readToken_62 : decode cX9_readToken 62 = .ok (.iload_n 1, 1) := by decide +kernel
theorem dX9_readToken_63 : decode cX9_readToken 63 = .ok (.invokevirtual 106, 3) := by decide +kernel
theorem dX9_readToken_66 : decode cX9_readToken 66 = .ok (.ireturn, 1) := by decide +kernel
abbrev cX9_read : ByteArray := prog_11_method_2_code
def yX9_read : MethodName := ⟨RX9, "read", "(I)V"⟩
theorem dX9_read_0 : decode cX9_read 0 = .ok (.aload_n 0, 1) := by decide +kernel
theorem dX9_read_1 : decode cX9_read 1 = .ok (.iload_n 1, 1) := by decide +kernel
theorem dX9_read_2 : decode cX9_read 2 = .ok (.putfield 48, 3) := by decide +kernel
theorem dX9_read_5 : decode cX9_read 5 = .ok (.aload_n 0, 1) := by decide +kernel
theorem dX9_read_6 : decode cX9_read 6 = .ok (.iconst 0, 1) := by decide +kernel
theorem dX9_read_7 : decode cX9_read 7 = .ok (.putfield 50, 3) := by decide +kernel
theorem dX9_read_10 : decode cX9_read 10 = .ok (.aload_n 0, 1) := by decide +kernel
theorem dX9_read_11 : decode cX9_read 11 = .ok (.iconst 0, 1) := by decide +kernel
theorem dX9_read_12 : decode cX9_read 12 = .ok (.putfield 53, 3) := by decide +kernel
theorem dX9_read_15 : decode cX9_read 15 = .ok (.aload_n 0, 1) := by decide +kernel
theorem dX9_read_16 : decode cX9_read 16 = .ok (.iconst 0, 1) := by decide +kernel
theorem dX9_read_17 : decode cX9_read 17 = .ok (.putfield 56, 3) := by decide +kernel
theorem dX9_read_20 : decode cX9_read 20 = .ok (.aload_n 0, 1) := by decide +kernel
theorem dX9_read_21 : decode cX9_read 21 = .ok (.iconst (-1), 1) := by decide +kernel
theorem dX9_read_22 : decode cX9_read 22 = .ok (.putfield 32, 3) := by decide +kernel
theorem dX9_read_25 : decode cX9_read 25 = .ok (.aload_n 0, 1) := by decide +kernel
theorem dX9_read_26 : decode cX9_read 26 = .ok (.iconst 0, 1) := by decide +kernel
theorem dX9_read_27 : decode cX9_read 27 = .ok (.invokevirtual 59, 3) := by decide +kernel
theorem dX9_read_30 : decode cX9_read 30 = .ok (.istore_n 2, 1) := by decide +kernel
theorem dX9_read_31 : decode cX9_read 31 = .ok (.iconst 0, 1) := by decide +kernel
theorem dX9_read_32 : decode cX9_read 32 = .ok (.istore_n 3, 1) := by decide +kernel
theorem dX9_read_33 : decode cX9_read 33 = .ok (.iload_n 3, 1) := by decide +kernel
theorem dX9_read_34 : decode cX9_read 34 = .ok (.sipush 1500, 3) := by decide +kernel
theorem dX9_read_37 : decode cX9_read 37 = .ok (.if_icmp .ge 56, 3) := by decide +kernel
theorem dX9_read_40 : decode cX9_read 40 = .ok (.iload_n 2, 1) := by decide +kernel
theorem dX9_read_41 : decode cX9_read 41 = .ok (.aload_n 0, 1) := by decide +kernel
theorem dX9_read_42 : decode cX9_read 42 = .ok (.getfield 48, 3) := by decide +kernel
theorem dX9_read_45 : decode cX9_read 45 = .ok (.if_icmp .ge 48, 3) := by decide +kernel
theorem dX9_read_48 : decode cX9_read 48 = .ok (.aload_n 0, 1) := by decide +kernel
theorem dX9_read_49 : decode cX9_read 49 = .ok (.iload_n 2, 1) := by decide +kernel
theorem dX9_read_50 : decode cX9_read 50 = .ok (.invokevirtual 63, 3) := by decide +kernel
theorem dX9_read_53 : decode cX9_read 53 = .ok (.istore 4, 2) := by decide +kernel
theorem dX9_read_55 : decode cX9_read 55 = .ok (.iload 4, 2) := by decide +kernel
theorem dX9_read_57 : decode cX9_read 57 = .ok (.iload_n 2, 1) := by decide +kernel
theorem dX9_read_58 : decode cX9_read 58 = .ok (.if_icmp .gt 12, 3) := by decide +kernel
theorem dX9_read_61 : decode cX9_read 61 = .ok (.aload_n 0, 1) := by decide +kernel
theorem dX9_read_62 : decode cX9_read 62 = .ok (.sipush 131, 3) := by decide +kernel
theorem dX9_read_65 : decode cX9_read 65 = .ok (.iload_n 2, 1) := by decide +kernel
theorem dX9_read_66 : decode cX9_read 66 = .ok (.invokevirtual 66, 3) := by decide +kernel
theorem dX9_read_69 : decode cX9_read 69 = .ok (.return_, 1) := by decide +kernel
theorem dX9_read_70 : decode cX9_read 70 = .ok (.aload_n 0, 1) := by decide +kernel
theorem dX9_read_71 : decode cX9_read 71 = .ok (.dup, 1) := by decide +kernel
theorem dX9_read_72 : decode cX9_read 72 = .ok (.getfield 50, 3) := by decide +kernel
theorem dX9_read_75 : decode cX9_read 75 = .ok (.iconst 1, 1) := by decide +kernel
theorem dX9_read_76 : decode cX9_read 76 = .ok (.iadd, 1) := by decide +kernel
theorem dX9_read_77 : decode cX9_read 77 = .ok (.putfield 50, 3) := by decide +kernel
theorem dX9_read_80 : decode cX9_read 80 = .ok (.aload_n 0, 1) := by decide +kernel
theorem dX9_read_81 : decode cX9_read 81 = .ok (.iload 4, 2) := by decide +kernel
theorem dX9_read_83 : decode cX9_read 83 = .ok (.invokevirtual 59, 3) := by decide +kernel
theorem dX9_read_86 : decode cX9_read 86 = .ok (.istore_n 2, 1) := by decide +kernel
theorem dX9_read_87 : decode cX9_read 87 = .ok (.iinc 3 1, 3) := by decide +kernel
theorem dX9_read_90 : decode cX9_read 90 = .ok (.goto (-57), 3) := by decide +kernel
theorem dX9_read_93 : decode cX9_read 93 = .ok (.iload_n 2, 1) := by decide +kernel
theorem dX9_read_94 : decode cX9_read 94 = .ok (.aload_n 0, 1) := by decide +kernel
theorem dX9_read_95 : decode cX9_read 95 = .ok (.getfield 48, 3) := by decide +kernel
theorem dX9_read_98 : decode cX9_read 98 = .ok (.if_icmp .lt 15, 3) := by decide +kernel
theorem dX9_read_101 : decode cX9_read 101 = .ok (.aload_n 0, 1) := by decide +kernel
theorem dX9_read_102 : decode cX9_read 102 = .ok (.iconst 0, 1) := by decide +kernel
theorem dX9_read_103 : decode cX9_read 103 = .ok (.aload_n 0, 1) := by decide +kernel
theorem dX9_read_104 : decode cX9_read 104 = .ok (.getfield 48, 3) := by decide +kernel
theorem dX9_read_107 : decode cX9_read 107 = .ok (.invokevirtual 66, 3) := by decide +kernel
theorem dX9_read_110 : decode cX9_read 110 = .ok (.goto 26, 3) := by decide +kernel
theorem dX9_read_113 : decode cX9_read 113 = .ok (.aload_n 0, 1) := by decide +kernel
theorem dX9_read_114 : decode cX9_read 114 = .ok (.aload_n 0, 1) := by decide +kernel
theorem dX9_read_115 : decode cX9_read 115 = .ok (.iload_n 2, 1) := by decide +kernel
theorem dX9_read_116 : decode cX9_read 116 = .ok (.invokevirtual 63, 3) := by decide +kernel
theorem dX9_read_119 : decode cX9_read 119 = .ok (.iload_n 2, 1) := by decide +kernel
theorem dX9_read_120 : decode cX9_read 120 = .ok (.if_icmp .le 9, 3) := by decide +kernel
theorem dX9_read_123 : decode cX9_read 123 = .ok (.sipush 132, 3) := by decide +kernel
theorem dX9_read_126 : decode cX9_read 126 = .ok (.goto 6, 3) := by decide +kernel
theorem dX9_read_129 : decode cX9_read 129 = .ok (.sipush 131, 3) := by decide +kernel
theorem dX9_read_132 : decode cX9_read 132 = .ok (.iload_n 2, 1) := by decide +kernel
theorem dX9_read_133 : decode cX9_read 133 = .ok (.invokevirtual 66, 3) := by decide +kernel
theorem dX9_read_136 : decode cX9_read 136 = .ok (.return_, 1) := by decide +kernel
theorem gs_1_1 : Cond.selects "SoftController$Tokens" ⟨"SoftController$Tokens", "behindGap", "(I)I"⟩ ⟨"SoftController$Tokens", "behindGap", "(I)I"⟩ ∈ GW := gw_s (List.mem_map.mpr ⟨_, pin_1 _ (List.mem_of_getElem? (i := 1) rfl), rfl⟩) rfl
theorem gs_1_10 : Cond.selects "SoftController$Tokens" ⟨"SoftController$Tokens", "readCharacter", "(I)I"⟩ ⟨"SoftController$Tokens", "readCharacter", "(I)I"⟩ ∈ GW := gw_s (List.mem_map.mpr ⟨_, pin_1 _ (List.mem_of_getElem? (i := 10) rfl), rfl⟩) rfl
theorem gs_1_11 : Cond.selects "SoftController$Tokens" ⟨"SoftController$Tokens", "readSign", "(I)I"⟩ ⟨"SoftController$Tokens", "readSign", "(I)I"⟩ ∈ GW := gw_s (List.mem_map.mpr ⟨_, pin_1 _ (List.mem_of_getElem? (i := 11) rfl), rfl⟩) rfl
theorem gs_1_12 : Cond.selects "SoftController$Tokens" ⟨"SoftController$Tokens", "closeWith", "(II)V"⟩ ⟨"SoftController$Tokens", "closeWith", "(II)V"⟩ ∈ GW := gw_s (List.mem_map.mpr ⟨_, pin_1 _ (List.mem_of_getElem? (i := 12) rfl), rfl⟩) rfl
theorem gs_1_15 : Cond.selects "SoftController$Tokens" ⟨"SoftController$Tokens", "misfit", "()I"⟩ ⟨"SoftController$Tokens", "misfit", "()I"⟩ ∈ GW := gw_s (List.mem_map.mpr ⟨_, pin_1 _ (List.mem_of_getElem? (i := 15) rfl), rfl⟩) rfl
theorem gs_1_2 : Cond.selects "SoftController$Tokens" ⟨"SoftController$Tokens", "byteAt", "(I)I"⟩ ⟨"SoftController$Tokens", "byteAt", "(I)I"⟩ ∈ GW := gw_s (List.mem_map.mpr ⟨_, pin_1 _ (List.mem_of_getElem? (i := 2) rfl), rfl⟩) rfl
theorem gs_1_3 : Cond.selects "SoftController$Tokens" ⟨"SoftController$Tokens", "readToken", "(I)I"⟩ ⟨"SoftController$Tokens", "readToken", "(I)I"⟩ ∈ GW := gw_s (List.mem_map.mpr ⟨_, pin_1 _ (List.mem_of_getElem? (i := 3) rfl), rfl⟩) rfl
theorem gs_1_4 : Cond.selects "SoftController$Tokens" ⟨"SoftController$Tokens", "readNumber", "(I)I"⟩ ⟨"SoftController$Tokens", "readNumber", "(I)I"⟩ ∈ GW := gw_s (List.mem_map.mpr ⟨_, pin_1 _ (List.mem_of_getElem? (i := 4) rfl), rfl⟩) rfl
theorem gs_1_5 : Cond.selects "SoftController$Tokens" ⟨"SoftController$Tokens", "hexBits", "(II)J"⟩ ⟨"SoftController$Tokens", "hexBits", "(II)J"⟩ ∈ GW := gw_s (List.mem_map.mpr ⟨_, pin_1 _ (List.mem_of_getElem? (i := 5) rfl), rfl⟩) rfl
theorem gs_1_6 : Cond.selects "SoftController$Tokens" ⟨"SoftController$Tokens", "put", "(IJI)V"⟩ ⟨"SoftController$Tokens", "put", "(IJI)V"⟩ ∈ GW := gw_s (List.mem_map.mpr ⟨_, pin_1 _ (List.mem_of_getElem? (i := 6) rfl), rfl⟩) rfl
theorem gs_1_7 : Cond.selects "SoftController$Tokens" ⟨"SoftController$Tokens", "decimal", "(II)J"⟩ ⟨"SoftController$Tokens", "decimal", "(II)J"⟩ ∈ GW := gw_s (List.mem_map.mpr ⟨_, pin_1 _ (List.mem_of_getElem? (i := 7) rfl), rfl⟩) rfl
theorem gs_1_8 : Cond.selects "SoftController$Tokens" ⟨"SoftController$Tokens", "readWord", "(I)I"⟩ ⟨"SoftController$Tokens", "readWord", "(I)I"⟩ ∈ GW := gw_s (List.mem_map.mpr ⟨_, pin_1 _ (List.mem_of_getElem? (i := 8) rfl), rfl⟩) rfl
theorem gs_1_9 : Cond.selects "SoftController$Tokens" ⟨"SoftController$Tokens", "wordType", "(J)I"⟩ ⟨"SoftController$Tokens", "wordType", "(J)I"⟩ ∈ GW := gw_s (List.mem_map.mpr ⟨_, pin_1 _ (List.mem_of_getElem? (i := 9) rfl), rfl⟩) rfl
theorem gw_100 : (Jvm.Cond.fieldLink "SoftController$Tokens" (22 : Nat) "SoftController$Tokens" "tails" "[I") ∈ GW := gw_t (tin_1 _ (List.mem_of_getElem? (i := 100) rfl)) rfl
theorem gw_1000 : (Jvm.Cond.methodLink "SoftController$Maker" (73 : Nat) ({ cls := "SoftController$Tokens", name := "next", desc := "()V" } : Jvm.MethodName)) ∈ GW := gw_t (tin_5 _ (List.mem_of_getElem? (i := 40) rfl)) rfl
theorem gw_1005 : (Jvm.Cond.methodLink "SoftController$Maker" (90 : Nat) ({ cls := "SoftController$Tokens", name := "takeKind", desc := "()I" } : Jvm.MethodName)) ∈ GW := gw_t (tin_5 _ (List.mem_of_getElem? (i := 45) rfl)) rfl
theorem gw_1006 : (Jvm.Cond.instanceMethod ({ cls := "SoftController$Tokens", name := "takeKind", desc := "()I" } : Jvm.MethodName)) ∈ GW := gw_t (tin_5 _ (List.mem_of_getElem? (i := 46) rfl)) rfl
theorem gw_1007 : (Jvm.Cond.selects "SoftController$Tokens" ({ cls := "SoftController$Tokens", name := "takeKind", desc := "()I" } : Jvm.MethodName) ({ cls := "SoftController$Tokens", name := "takeKind", desc := "()I" } : Jvm.MethodName)) ∈ GW := gw_t (tin_5 _ (List.mem_of_getElem? (i := 47) rfl)) rfl
theorem gw_1008 : (Jvm.Cond.code ({ cls := "SoftController$Tokens", name := "takeKind", desc := "()I" } : Jvm.MethodName) prog_11_method_19_code (2 : Nat) (Option.some Jvm.ClassFile.FieldType.int)) ∈ GW := gw_t (tin_5 _ (List.mem_of_getElem? (i := 48) rfl)) rfl
theorem gw_101 : (Jvm.Cond.fieldLink "SoftController$Tokens" (25 : Nat) "SoftController$Tokens" "words" "[J") ∈ GW := gw_t (tin_1 _ (List.mem_of_getElem? (i := 101) rfl)) rfl
theorem gw_1013 : (Jvm.Cond.methodLink "SoftController$Maker" (96 : Nat) ({ cls := "SoftController$Tokens", name := "here", desc := "()I" } : Jvm.MethodName)) ∈ GW := gw_t (tin_5 _ (List.mem_of_getElem? (i := 53) rfl)) rfl
theorem gw_1014 : (Jvm.Cond.instanceMethod ({ cls := "SoftController$Tokens", name := "here", desc := "()I" } : Jvm.MethodName)) ∈ GW := gw_t (tin_5 _ (List.mem_of_getElem? (i := 54) rfl)) rfl
theorem gw_1015 : (Jvm.Cond.selects "SoftController$Tokens" ({ cls := "SoftController$Tokens", name := "here", desc := "()I" } : Jvm.MethodName) ({ cls := "SoftController$Tokens", name := "here", desc := "()I" } : Jvm.MethodName)) ∈ GW := gw_t (tin_5 _ (List.mem_of_getElem? (i := 55) rfl)) rfl
theorem gw_1016 : (Jvm.Cond.code ({ cls := "SoftController$Tokens", name := "here", desc := "()I" } : Jvm.MethodName) prog_11_method_8_code (1 : Nat) (Option.some Jvm.ClassFile.FieldType.int)) ∈ GW := gw_t (tin_5 _ (List.mem_of_getElem? (i := 56) rfl)) rfl
theorem gw_102 : (Jvm.Cond.fieldLink "SoftController$Tokens" (48 : Nat) "SoftController$Tokens" "length" "I") ∈ GW := gw_t (tin_1 _ (List.mem_of_getElem? (i := 102) rfl)) rfl
theorem gw_1021 : (Jvm.Cond.methodLink "SoftController$Maker" (99 : Nat) ({ cls := "SoftController$Tokens", name := "head", desc := "()J" } : Jvm.MethodName)) ∈ GW := gw_t (tin_5 _ (List.mem_of_getElem? (i := 61) rfl)) rfl
theorem gw_1022 : (Jvm.Cond.instanceMethod ({ cls := "SoftController$Tokens", name := "head", desc := "()J" } : Jvm.MethodName)) ∈ GW := gw_t (tin_5 _ (List.mem_of_getElem? (i := 62) rfl)) rfl
theorem gw_1023 : (Jvm.Cond.selects "SoftController$Tokens" ({ cls := "SoftController$Tokens", name := "head", desc := "()J" } : Jvm.MethodName) ({ cls := "SoftController$Tokens", name := "head", desc := "()J" } : Jvm.MethodName)) ∈ GW := gw_t (tin_5 _ (List.mem_of_getElem? (i := 63) rfl)) rfl
theorem gw_1024 : (Jvm.Cond.code ({ cls := "SoftController$Tokens", name := "head", desc := "()J" } : Jvm.MethodName) prog_11_method_9_code (1 : Nat) (Option.some Jvm.ClassFile.FieldType.long)) ∈ GW := gw_t (tin_5 _ (List.mem_of_getElem? (i := 64) rfl)) rfl
theorem gw_1025 : (Jvm.Cond.methodLink "SoftController$Maker" (103 : Nat) ({ cls := "SoftController$Tokens", name := "tail", desc := "()I" } : Jvm.MethodName)) ∈ GW := gw_t (tin_5 _ (List.mem_of_getElem? (i := 65) rfl)) rfl
theorem gw_1026 : (Jvm.Cond.instanceMethod ({ cls := "SoftController$Tokens", name := "tail", desc := "()I" } : Jvm.MethodName)) ∈ GW := gw_t (tin_5 _ (List.mem_of_getElem? (i := 66) rfl)) rfl
theorem gw_1027 : (Jvm.Cond.selects "SoftController$Tokens" ({ cls := "SoftController$Tokens", name := "tail", desc := "()I" } : Jvm.MethodName) ({ cls := "SoftController$Tokens", name := "tail", desc := "()I" } : Jvm.MethodName)) ∈ GW := gw_t (tin_5 _ (List.mem_of_getElem? (i := 67) rfl)) rfl
theorem gw_1028 : (Jvm.Cond.code ({ cls := "SoftController$Tokens", name := "tail", desc := "()I" } : Jvm.MethodName) prog_11_method_10_code (1 : Nat) (Option.some Jvm.ClassFile.FieldType.int)) ∈ GW := gw_t (tin_5 _ (List.mem_of_getElem? (i := 68) rfl)) rfl
theorem gw_103 : (Jvm.Cond.fieldLink "SoftController$Tokens" (50 : Nat) "SoftController$Tokens" "size" "I") ∈ GW := gw_t (tin_1 _ (List.mem_of_getElem? (i := 103) rfl)) rfl
theorem gw_104 : (Jvm.Cond.fieldLink "SoftController$Tokens" (53 : Nat) "SoftController$Tokens" "at" "I") ∈ GW := gw_t (tin_1 _ (List.mem_of_getElem? (i := 104) rfl)) rfl
theorem gw_1041 : (Jvm.Cond.methodLink "SoftController$Maker" (126 : Nat) ({ cls := "SoftController$Tokens", name := "refuse", desc := "(II)V" } : Jvm.MethodName)) ∈ GW := gw_t (tin_5 _ (List.mem_of_getElem? (i := 81) rfl)) rfl
theorem gw_105 : (Jvm.Cond.fieldLink "SoftController$Tokens" (56 : Nat) "SoftController$Tokens" "fault" "I") ∈ GW := gw_t (tin_1 _ (List.mem_of_getElem? (i := 105) rfl)) rfl
theorem gw_1054 : (Jvm.Cond.methodLink "SoftController$Maker" (158 : Nat) ({ cls := "SoftController$Tokens", name := "takeBounded", desc := "(JJ)J" } : Jvm.MethodName)) ∈ GW := gw_t (tin_5 _ (List.mem_of_getElem? (i := 94) rfl)) rfl
theorem gw_1055 : (Jvm.Cond.instanceMethod ({ cls := "SoftController$Tokens", name := "takeBounded", desc := "(JJ)J" } : Jvm.MethodName)) ∈ GW := gw_t (tin_5 _ (List.mem_of_getElem? (i := 95) rfl)) rfl
theorem gw_1056 : (Jvm.Cond.selects "SoftController$Tokens" ({ cls := "SoftController$Tokens", name := "takeBounded", desc := "(JJ)J" } : Jvm.MethodName) ({ cls := "SoftController$Tokens", name := "takeBounded", desc := "(JJ)J" } : Jvm.MethodName)) ∈ GW := gw_t (tin_5 _ (List.mem_of_getElem? (i := 96) rfl)) rfl
theorem gw_1057 : (Jvm.Cond.code ({ cls := "SoftController$Tokens", name := "takeBounded", desc := "(JJ)J" } : Jvm.MethodName) prog_11_method_18_code (7 : Nat) (Option.some Jvm.ClassFile.FieldType.long)) ∈ GW := gw_t (tin_5 _ (List.mem_of_getElem? (i := 97) rfl)) rfl
theorem gw_1062 : (Jvm.Cond.methodLink "SoftController$Maker" (180 : Nat) ({ cls := "SoftController$Tokens", name := "isWide", desc := "()Z" } : Jvm.MethodName)) ∈ GW := gw_t (tin_5 _ (List.mem_of_getElem? (i := 102) rfl)) rfl
theorem gw_1063 : (Jvm.Cond.instanceMethod ({ cls := "SoftController$Tokens", name := "isWide", desc := "()Z" } : Jvm.MethodName)) ∈ GW := gw_t (tin_5 _ (List.mem_of_getElem? (i := 103) rfl)) rfl
theorem gw_1064 : (Jvm.Cond.selects "SoftController$Tokens" ({ cls := "SoftController$Tokens", name := "isWide", desc := "()Z" } : Jvm.MethodName) ({ cls := "SoftController$Tokens", name := "isWide", desc := "()Z" } : Jvm.MethodName)) ∈ GW := gw_t (tin_5 _ (List.mem_of_getElem? (i := 104) rfl)) rfl
theorem gw_1065 : (Jvm.Cond.code ({ cls := "SoftController$Tokens", name := "isWide", desc := "()Z" } : Jvm.MethodName) prog_11_method_11_code (1 : Nat) (Option.some Jvm.ClassFile.FieldType.boolean)) ∈ GW := gw_t (tin_5 _ (List.mem_of_getElem? (i := 105) rfl)) rfl
theorem gw_1066 : (Jvm.Cond.methodLink "SoftController$Maker" (184 : Nat) ({ cls := "SoftController$Tokens", name := "takeNumber", desc := "()J" } : Jvm.MethodName)) ∈ GW := gw_t (tin_5 _ (List.mem_of_getElem? (i := 106) rfl)) rfl
theorem gw_1067 : (Jvm.Cond.instanceMethod ({ cls := "SoftController$Tokens", name := "takeNumber", desc := "()J" } : Jvm.MethodName)) ∈ GW := gw_t (tin_5 _ (List.mem_of_getElem? (i := 107) rfl)) rfl
theorem gw_1068 : (Jvm.Cond.selects "SoftController$Tokens" ({ cls := "SoftController$Tokens", name := "takeNumber", desc := "()J" } : Jvm.MethodName) ({ cls := "SoftController$Tokens", name := "takeNumber", desc := "()J" } : Jvm.MethodName)) ∈ GW := gw_t (tin_5 _ (List.mem_of_getElem? (i := 108) rfl)) rfl
theorem gw_1069 : (Jvm.Cond.code ({ cls := "SoftController$Tokens", name := "takeNumber", desc := "()J" } : Jvm.MethodName) prog_11_method_17_code (3 : Nat) (Option.some Jvm.ClassFile.FieldType.long)) ∈ GW := gw_t (tin_5 _ (List.mem_of_getElem? (i := 109) rfl)) rfl
theorem gw_107 : (Jvm.Cond.fieldLink "SoftController$Tokens" (32 : Nat) "SoftController$Tokens" "faultPlace" "I") ∈ GW := gw_t (tin_1 _ (List.mem_of_getElem? (i := 107) rfl)) rfl
theorem gw_1134 : (Jvm.Cond.methodLink "SoftController$Terms" (76 : Nat) ({ cls := "SoftController$Tokens", name := "here", desc := "()I" } : Jvm.MethodName)) ∈ GW := gw_t (tin_5 _ (List.mem_of_getElem? (i := 174) rfl)) rfl
theorem gw_1135 : (Jvm.Cond.methodLink "SoftController$Terms" (139 : Nat) ({ cls := "SoftController$Tokens", name := "type", desc := "()I" } : Jvm.MethodName)) ∈ GW := gw_t (tin_5 _ (List.mem_of_getElem? (i := 175) rfl)) rfl
theorem gw_1141 : (Jvm.Cond.methodLink "SoftController$Terms" (122 : Nat) ({ cls := "SoftController$Tokens", name := "next", desc := "()V" } : Jvm.MethodName)) ∈ GW := gw_t (tin_5 _ (List.mem_of_getElem? (i := 181) rfl)) rfl
theorem gw_1142 : (Jvm.Cond.methodLink "SoftController$Terms" (114 : Nat) ({ cls := "SoftController$Tokens", name := "is", desc := "(I)Z" } : Jvm.MethodName)) ∈ GW := gw_t (tin_5 _ (List.mem_of_getElem? (i := 182) rfl)) rfl
theorem gw_1152 : (Jvm.Cond.methodLink "SoftController$Terms" (193 : Nat) ({ cls := "SoftController$Tokens", name := "isKindWord", desc := "()Z" } : Jvm.MethodName)) ∈ GW := gw_t (tin_5 _ (List.mem_of_getElem? (i := 192) rfl)) rfl
theorem gw_1154 : (Jvm.Cond.methodLink "SoftController$Terms" (196 : Nat) ({ cls := "SoftController$Tokens", name := "takeKind", desc := "()I" } : Jvm.MethodName)) ∈ GW := gw_t (tin_5 _ (List.mem_of_getElem? (i := 194) rfl)) rfl
theorem gw_1159 : (Jvm.Cond.methodLink "SoftController$Terms" (177 : Nat) ({ cls := "SoftController$Tokens", name := "isWide", desc := "()Z" } : Jvm.MethodName)) ∈ GW := gw_t (tin_5 _ (List.mem_of_getElem? (i := 199) rfl)) rfl
theorem gw_1160 : (Jvm.Cond.methodLink "SoftController$Terms" (179 : Nat) ({ cls := "SoftController$Tokens", name := "takeNumber", desc := "()J" } : Jvm.MethodName)) ∈ GW := gw_t (tin_5 _ (List.mem_of_getElem? (i := 200) rfl)) rfl
theorem gw_1169 : (Jvm.Cond.methodLink "SoftController$Terms" (87 : Nat) ({ cls := "SoftController$Tokens", name := "typeAhead", desc := "(I)I" } : Jvm.MethodName)) ∈ GW := gw_t (tin_5 _ (List.mem_of_getElem? (i := 209) rfl)) rfl
theorem gw_1178 : (Jvm.Cond.methodLink "SoftController$Terms" (36 : Nat) ({ cls := "SoftController$Tokens", name := "head", desc := "()J" } : Jvm.MethodName)) ∈ GW := gw_t (tin_5 _ (List.mem_of_getElem? (i := 218) rfl)) rfl
theorem gw_1179 : (Jvm.Cond.methodLink "SoftController$Terms" (42 : Nat) ({ cls := "SoftController$Tokens", name := "tail", desc := "()I" } : Jvm.MethodName)) ∈ GW := gw_t (tin_5 _ (List.mem_of_getElem? (i := 219) rfl)) rfl
theorem gw_1183 : (Jvm.Cond.methodLink "SoftController$Terms" (79 : Nat) ({ cls := "SoftController$Tokens", name := "refuse", desc := "(II)V" } : Jvm.MethodName)) ∈ GW := gw_t (tin_5 _ (List.mem_of_getElem? (i := 223) rfl)) rfl
theorem gw_1250 : (Jvm.Cond.methodLink "SoftController$Terms" (265 : Nat) ({ cls := "SoftController$Tokens", name := "takeBounded", desc := "(JJ)J" } : Jvm.MethodName)) ∈ GW := gw_t (tin_6 _ (List.mem_of_getElem? (i := 50) rfl)) rfl
theorem gw_1328 : (Jvm.Cond.methodLink "SoftController$Maker" (284 : Nat) ({ cls := "SoftController$Tokens", name := "typeAhead", desc := "(I)I" } : Jvm.MethodName)) ∈ GW := gw_t (tin_6 _ (List.mem_of_getElem? (i := 128) rfl)) rfl
theorem gw_1776 : (Jvm.Cond.methodLink "SoftController" (263 : Nat) ({ cls := "SoftController$Tokens", name := "isWord", desc := "(I)Z" } : Jvm.MethodName)) ∈ GW := gw_t (tin_8 _ (List.mem_of_getElem? (i := 96) rfl)) rfl
theorem gw_1777 : (Jvm.Cond.instanceMethod ({ cls := "SoftController$Tokens", name := "isWord", desc := "(I)Z" } : Jvm.MethodName)) ∈ GW := gw_t (tin_8 _ (List.mem_of_getElem? (i := 97) rfl)) rfl
theorem gw_1778 : (Jvm.Cond.selects "SoftController$Tokens" ({ cls := "SoftController$Tokens", name := "isWord", desc := "(I)Z" } : Jvm.MethodName) ({ cls := "SoftController$Tokens", name := "isWord", desc := "(I)Z" } : Jvm.MethodName)) ∈ GW := gw_t (tin_8 _ (List.mem_of_getElem? (i := 98) rfl)) rfl
theorem gw_1779 : (Jvm.Cond.code ({ cls := "SoftController$Tokens", name := "isWord", desc := "(I)Z" } : Jvm.MethodName) prog_11_method_20_code (3 : Nat) (Option.some Jvm.ClassFile.FieldType.boolean)) ∈ GW := gw_t (tin_8 _ (List.mem_of_getElem? (i := 99) rfl)) rfl
theorem gw_1780 : (Jvm.Cond.methodLink "SoftController" (267 : Nat) ({ cls := "SoftController$Tokens", name := "wordHead", desc := "(II)J" } : Jvm.MethodName)) ∈ GW := gw_t (tin_8 _ (List.mem_of_getElem? (i := 100) rfl)) rfl
theorem gw_1781 : (Jvm.Cond.methodLink "SoftController" (271 : Nat) ({ cls := "SoftController$Tokens", name := "wordTail", desc := "(II)I" } : Jvm.MethodName)) ∈ GW := gw_t (tin_8 _ (List.mem_of_getElem? (i := 101) rfl)) rfl
theorem gw_22 : (Jvm.Cond.initialized "java/lang/IllegalStateException") ∈ GW := gw_t (tin_1 _ (List.mem_of_getElem? (i := 22) rfl)) rfl
theorem gw_619 : (Jvm.Cond.methodLink "SoftController" (84 : Nat) ({ cls := "SoftController$Tokens", name := "read", desc := "(I)V" } : Jvm.MethodName)) ∈ GW := gw_t (tin_3 _ (List.mem_of_getElem? (i := 139) rfl)) rfl
theorem gw_620 : (Jvm.Cond.instanceMethod ({ cls := "SoftController$Tokens", name := "read", desc := "(I)V" } : Jvm.MethodName)) ∈ GW := gw_t (tin_3 _ (List.mem_of_getElem? (i := 140) rfl)) rfl
theorem gw_621 : (Jvm.Cond.selects "SoftController$Tokens" ({ cls := "SoftController$Tokens", name := "read", desc := "(I)V" } : Jvm.MethodName) ({ cls := "SoftController$Tokens", name := "read", desc := "(I)V" } : Jvm.MethodName)) ∈ GW := gw_t (tin_3 _ (List.mem_of_getElem? (i := 141) rfl)) rfl
theorem gw_622 : (Jvm.Cond.code ({ cls := "SoftController$Tokens", name := "read", desc := "(I)V" } : Jvm.MethodName) prog_11_method_2_code (5 : Nat) (Option.none : Option Jvm.ClassFile.FieldType)) ∈ GW := gw_t (tin_3 _ (List.mem_of_getElem? (i := 142) rfl)) rfl
theorem gw_623 : (Jvm.Cond.methodLink "SoftController$Tokens" (59 : Nat) ({ cls := "SoftController$Tokens", name := "behindGap", desc := "(I)I" } : Jvm.MethodName)) ∈ GW := gw_t (tin_3 _ (List.mem_of_getElem? (i := 143) rfl)) rfl
theorem gw_625 : (Jvm.Cond.instanceMethod ({ cls := "SoftController$Tokens", name := "behindGap", desc := "(I)I" } : Jvm.MethodName)) ∈ GW := gw_t (tin_3 _ (List.mem_of_getElem? (i := 145) rfl)) rfl
theorem gw_626 : (Jvm.Cond.code ({ cls := "SoftController$Tokens", name := "behindGap", desc := "(I)I" } : Jvm.MethodName) prog_11_method_26_code (5 : Nat) (Option.some Jvm.ClassFile.FieldType.int)) ∈ GW := gw_t (tin_3 _ (List.mem_of_getElem? (i := 146) rfl)) rfl
theorem gw_627 : (Jvm.Cond.methodLink "SoftController$Tokens" (86 : Nat) ({ cls := "SoftController$Tokens", name := "byteAt", desc := "(I)I" } : Jvm.MethodName)) ∈ GW := gw_t (tin_3 _ (List.mem_of_getElem? (i := 147) rfl)) rfl
theorem gw_629 : (Jvm.Cond.instanceMethod ({ cls := "SoftController$Tokens", name := "byteAt", desc := "(I)I" } : Jvm.MethodName)) ∈ GW := gw_t (tin_3 _ (List.mem_of_getElem? (i := 149) rfl)) rfl
theorem gw_630 : (Jvm.Cond.code ({ cls := "SoftController$Tokens", name := "byteAt", desc := "(I)I" } : Jvm.MethodName) prog_11_method_25_code (2 : Nat) (Option.some Jvm.ClassFile.FieldType.int)) ∈ GW := gw_t (tin_3 _ (List.mem_of_getElem? (i := 150) rfl)) rfl
theorem gw_631 : (Jvm.Cond.methodLink "SoftController$Tokens" (63 : Nat) ({ cls := "SoftController$Tokens", name := "readToken", desc := "(I)I" } : Jvm.MethodName)) ∈ GW := gw_t (tin_3 _ (List.mem_of_getElem? (i := 151) rfl)) rfl
theorem gw_633 : (Jvm.Cond.instanceMethod ({ cls := "SoftController$Tokens", name := "readToken", desc := "(I)I" } : Jvm.MethodName)) ∈ GW := gw_t (tin_3 _ (List.mem_of_getElem? (i := 153) rfl)) rfl
theorem gw_634 : (Jvm.Cond.code ({ cls := "SoftController$Tokens", name := "readToken", desc := "(I)I" } : Jvm.MethodName) prog_11_method_27_code (3 : Nat) (Option.some Jvm.ClassFile.FieldType.int)) ∈ GW := gw_t (tin_3 _ (List.mem_of_getElem? (i := 154) rfl)) rfl
theorem gw_635 : (Jvm.Cond.methodLink "SoftController$Tokens" (97 : Nat) ({ cls := "SoftController$Tokens", name := "readNumber", desc := "(I)I" } : Jvm.MethodName)) ∈ GW := gw_t (tin_3 _ (List.mem_of_getElem? (i := 155) rfl)) rfl
theorem gw_637 : (Jvm.Cond.instanceMethod ({ cls := "SoftController$Tokens", name := "readNumber", desc := "(I)I" } : Jvm.MethodName)) ∈ GW := gw_t (tin_3 _ (List.mem_of_getElem? (i := 157) rfl)) rfl
theorem gw_638 : (Jvm.Cond.code ({ cls := "SoftController$Tokens", name := "readNumber", desc := "(I)I" } : Jvm.MethodName) prog_11_method_30_code (12 : Nat) (Option.some Jvm.ClassFile.FieldType.int)) ∈ GW := gw_t (tin_3 _ (List.mem_of_getElem? (i := 158) rfl)) rfl
theorem gw_639 : (Jvm.Cond.methodLink "SoftController$Tokens" (121 : Nat) ({ cls := "SoftController$Tokens", name := "digit", desc := "(IZ)I" } : Jvm.MethodName)) ∈ GW := gw_t (tin_3 _ (List.mem_of_getElem? (i := 159) rfl)) rfl
theorem gw_640 : (Jvm.Cond.static ({ cls := "SoftController$Tokens", name := "digit", desc := "(IZ)I" } : Jvm.MethodName)) ∈ GW := gw_t (tin_3 _ (List.mem_of_getElem? (i := 160) rfl)) rfl
theorem gw_641 : (Jvm.Cond.code ({ cls := "SoftController$Tokens", name := "digit", desc := "(IZ)I" } : Jvm.MethodName) prog_11_method_37_code (2 : Nat) (Option.some Jvm.ClassFile.FieldType.int)) ∈ GW := gw_t (tin_3 _ (List.mem_of_getElem? (i := 161) rfl)) rfl
theorem gw_642 : (Jvm.Cond.methodLink "SoftController$Tokens" (89 : Nat) ({ cls := "SoftController$Tokens", name := "isWordByte", desc := "(I)Z" } : Jvm.MethodName)) ∈ GW := gw_t (tin_3 _ (List.mem_of_getElem? (i := 162) rfl)) rfl
theorem gw_643 : (Jvm.Cond.static ({ cls := "SoftController$Tokens", name := "isWordByte", desc := "(I)Z" } : Jvm.MethodName)) ∈ GW := gw_t (tin_3 _ (List.mem_of_getElem? (i := 163) rfl)) rfl
theorem gw_644 : (Jvm.Cond.code ({ cls := "SoftController$Tokens", name := "isWordByte", desc := "(I)Z" } : Jvm.MethodName) prog_11_method_38_code (1 : Nat) (Option.some Jvm.ClassFile.FieldType.boolean)) ∈ GW := gw_t (tin_3 _ (List.mem_of_getElem? (i := 164) rfl)) rfl
theorem gw_645 : (Jvm.Cond.methodLink "SoftController$Tokens" (125 : Nat) ({ cls := "SoftController$Tokens", name := "hexBits", desc := "(II)J" } : Jvm.MethodName)) ∈ GW := gw_t (tin_3 _ (List.mem_of_getElem? (i := 165) rfl)) rfl
theorem gw_647 : (Jvm.Cond.instanceMethod ({ cls := "SoftController$Tokens", name := "hexBits", desc := "(II)J" } : Jvm.MethodName)) ∈ GW := gw_t (tin_3 _ (List.mem_of_getElem? (i := 167) rfl)) rfl
theorem gw_648 : (Jvm.Cond.code ({ cls := "SoftController$Tokens", name := "hexBits", desc := "(II)J" } : Jvm.MethodName) prog_11_method_31_code (6 : Nat) (Option.some Jvm.ClassFile.FieldType.long)) ∈ GW := gw_t (tin_3 _ (List.mem_of_getElem? (i := 168) rfl)) rfl
theorem gw_649 : (Jvm.Cond.methodLink "SoftController$Tokens" (93 : Nat) ({ cls := "SoftController$Tokens", name := "put", desc := "(IJI)V" } : Jvm.MethodName)) ∈ GW := gw_t (tin_3 _ (List.mem_of_getElem? (i := 169) rfl)) rfl
theorem gw_651 : (Jvm.Cond.instanceMethod ({ cls := "SoftController$Tokens", name := "put", desc := "(IJI)V" } : Jvm.MethodName)) ∈ GW := gw_t (tin_3 _ (List.mem_of_getElem? (i := 171) rfl)) rfl
theorem gw_652 : (Jvm.Cond.code ({ cls := "SoftController$Tokens", name := "put", desc := "(IJI)V" } : Jvm.MethodName) prog_11_method_24_code (5 : Nat) (Option.none : Option Jvm.ClassFile.FieldType)) ∈ GW := gw_t (tin_3 _ (List.mem_of_getElem? (i := 172) rfl)) rfl
theorem gw_653 : (Jvm.Cond.methodLink "SoftController$Tokens" (128 : Nat) ({ cls := "SoftController$Tokens", name := "decimal", desc := "(II)J" } : Jvm.MethodName)) ∈ GW := gw_t (tin_3 _ (List.mem_of_getElem? (i := 173) rfl)) rfl
theorem gw_655 : (Jvm.Cond.instanceMethod ({ cls := "SoftController$Tokens", name := "decimal", desc := "(II)J" } : Jvm.MethodName)) ∈ GW := gw_t (tin_3 _ (List.mem_of_getElem? (i := 175) rfl)) rfl
theorem gw_656 : (Jvm.Cond.code ({ cls := "SoftController$Tokens", name := "decimal", desc := "(II)J" } : Jvm.MethodName) prog_11_method_32_code (6 : Nat) (Option.some Jvm.ClassFile.FieldType.long)) ∈ GW := gw_t (tin_3 _ (List.mem_of_getElem? (i := 176) rfl)) rfl
theorem gw_657 : (Jvm.Cond.constantLong "SoftController$Tokens" (133 : Nat) (10 : Int64)) ∈ GW := gw_t (tin_3 _ (List.mem_of_getElem? (i := 177) rfl)) rfl
theorem gw_658 : (Jvm.Cond.constantLong "SoftController$Tokens" (131 : Nat) (2147483647 : Int64)) ∈ GW := gw_t (tin_3 _ (List.mem_of_getElem? (i := 178) rfl)) rfl
theorem gw_659 : (Jvm.Cond.methodLink "SoftController$Tokens" (100 : Nat) ({ cls := "SoftController$Tokens", name := "readWord", desc := "(I)I" } : Jvm.MethodName)) ∈ GW := gw_t (tin_3 _ (List.mem_of_getElem? (i := 179) rfl)) rfl
theorem gw_661 : (Jvm.Cond.instanceMethod ({ cls := "SoftController$Tokens", name := "readWord", desc := "(I)I" } : Jvm.MethodName)) ∈ GW := gw_t (tin_3 _ (List.mem_of_getElem? (i := 181) rfl)) rfl
theorem gw_662 : (Jvm.Cond.code ({ cls := "SoftController$Tokens", name := "readWord", desc := "(I)I" } : Jvm.MethodName) prog_11_method_28_code (6 : Nat) (Option.some Jvm.ClassFile.FieldType.int)) ∈ GW := gw_t (tin_3 _ (List.mem_of_getElem? (i := 182) rfl)) rfl
theorem gw_663 : (Jvm.Cond.methodLink "SoftController$Tokens" (109 : Nat) ({ cls := "SoftController$Tokens", name := "wordHead", desc := "(II)J" } : Jvm.MethodName)) ∈ GW := gw_t (tin_3 _ (List.mem_of_getElem? (i := 183) rfl)) rfl
theorem gw_664 : (Jvm.Cond.instanceMethod ({ cls := "SoftController$Tokens", name := "wordHead", desc := "(II)J" } : Jvm.MethodName)) ∈ GW := gw_t (tin_3 _ (List.mem_of_getElem? (i := 184) rfl)) rfl
theorem gw_665 : (Jvm.Cond.selects "SoftController$Tokens" ({ cls := "SoftController$Tokens", name := "wordHead", desc := "(II)J" } : Jvm.MethodName) ({ cls := "SoftController$Tokens", name := "wordHead", desc := "(II)J" } : Jvm.MethodName)) ∈ GW := gw_t (tin_3 _ (List.mem_of_getElem? (i := 185) rfl)) rfl
theorem gw_666 : (Jvm.Cond.code ({ cls := "SoftController$Tokens", name := "wordHead", desc := "(II)J" } : Jvm.MethodName) prog_11_method_21_code (6 : Nat) (Option.some Jvm.ClassFile.FieldType.long)) ∈ GW := gw_t (tin_3 _ (List.mem_of_getElem? (i := 186) rfl)) rfl
theorem gw_667 : (Jvm.Cond.methodLink "SoftController$Tokens" (113 : Nat) ({ cls := "SoftController$Tokens", name := "wordTail", desc := "(II)I" } : Jvm.MethodName)) ∈ GW := gw_t (tin_3 _ (List.mem_of_getElem? (i := 187) rfl)) rfl
theorem gw_668 : (Jvm.Cond.instanceMethod ({ cls := "SoftController$Tokens", name := "wordTail", desc := "(II)I" } : Jvm.MethodName)) ∈ GW := gw_t (tin_3 _ (List.mem_of_getElem? (i := 188) rfl)) rfl
theorem gw_669 : (Jvm.Cond.selects "SoftController$Tokens" ({ cls := "SoftController$Tokens", name := "wordTail", desc := "(II)I" } : Jvm.MethodName) ({ cls := "SoftController$Tokens", name := "wordTail", desc := "(II)I" } : Jvm.MethodName)) ∈ GW := gw_t (tin_3 _ (List.mem_of_getElem? (i := 189) rfl)) rfl
theorem gw_670 : (Jvm.Cond.code ({ cls := "SoftController$Tokens", name := "wordTail", desc := "(II)I" } : Jvm.MethodName) prog_11_method_22_code (5 : Nat) (Option.some Jvm.ClassFile.FieldType.int)) ∈ GW := gw_t (tin_3 _ (List.mem_of_getElem? (i := 190) rfl)) rfl
theorem gw_671 : (Jvm.Cond.methodLink "SoftController$Tokens" (117 : Nat) ({ cls := "SoftController$Tokens", name := "wordType", desc := "(J)I" } : Jvm.MethodName)) ∈ GW := gw_t (tin_3 _ (List.mem_of_getElem? (i := 191) rfl)) rfl
theorem gw_673 : (Jvm.Cond.instanceMethod ({ cls := "SoftController$Tokens", name := "wordType", desc := "(J)I" } : Jvm.MethodName)) ∈ GW := gw_t (tin_3 _ (List.mem_of_getElem? (i := 193) rfl)) rfl
theorem gw_674 : (Jvm.Cond.code ({ cls := "SoftController$Tokens", name := "wordType", desc := "(J)I" } : Jvm.MethodName) prog_11_method_29_code (4 : Nat) (Option.some Jvm.ClassFile.FieldType.int)) ∈ GW := gw_t (tin_3 _ (List.mem_of_getElem? (i := 194) rfl)) rfl
theorem gw_675 : (Jvm.Cond.methodLink "SoftController$Tokens" (103 : Nat) ({ cls := "SoftController$Tokens", name := "readCharacter", desc := "(I)I" } : Jvm.MethodName)) ∈ GW := gw_t (tin_3 _ (List.mem_of_getElem? (i := 195) rfl)) rfl
theorem gw_677 : (Jvm.Cond.instanceMethod ({ cls := "SoftController$Tokens", name := "readCharacter", desc := "(I)I" } : Jvm.MethodName)) ∈ GW := gw_t (tin_3 _ (List.mem_of_getElem? (i := 197) rfl)) rfl
theorem gw_678 : (Jvm.Cond.code ({ cls := "SoftController$Tokens", name := "readCharacter", desc := "(I)I" } : Jvm.MethodName) prog_11_method_33_code (3 : Nat) (Option.some Jvm.ClassFile.FieldType.int)) ∈ GW := gw_t (tin_3 _ (List.mem_of_getElem? (i := 198) rfl)) rfl
theorem gw_679 : (Jvm.Cond.methodLink "SoftController$Tokens" (106 : Nat) ({ cls := "SoftController$Tokens", name := "readSign", desc := "(I)I" } : Jvm.MethodName)) ∈ GW := gw_t (tin_3 _ (List.mem_of_getElem? (i := 199) rfl)) rfl
theorem gw_681 : (Jvm.Cond.instanceMethod ({ cls := "SoftController$Tokens", name := "readSign", desc := "(I)I" } : Jvm.MethodName)) ∈ GW := gw_t (tin_3 _ (List.mem_of_getElem? (i := 201) rfl)) rfl
theorem gw_682 : (Jvm.Cond.code ({ cls := "SoftController$Tokens", name := "readSign", desc := "(I)I" } : Jvm.MethodName) prog_11_method_34_code (6 : Nat) (Option.some Jvm.ClassFile.FieldType.int)) ∈ GW := gw_t (tin_3 _ (List.mem_of_getElem? (i := 202) rfl)) rfl
theorem gw_743 : (Jvm.Cond.methodLink "SoftController$Tokens" (140 : Nat) ({ cls := "SoftController$Tokens", name := "mostRepeats", desc := "(I)I" } : Jvm.MethodName)) ∈ GW := gw_t (tin_4 _ (List.mem_of_getElem? (i := 23) rfl)) rfl
theorem gw_744 : (Jvm.Cond.static ({ cls := "SoftController$Tokens", name := "mostRepeats", desc := "(I)I" } : Jvm.MethodName)) ∈ GW := gw_t (tin_4 _ (List.mem_of_getElem? (i := 24) rfl)) rfl
theorem gw_745 : (Jvm.Cond.code ({ cls := "SoftController$Tokens", name := "mostRepeats", desc := "(I)I" } : Jvm.MethodName) prog_11_method_35_code (1 : Nat) (Option.some Jvm.ClassFile.FieldType.int)) ∈ GW := gw_t (tin_4 _ (List.mem_of_getElem? (i := 25) rfl)) rfl
theorem gw_746 : (Jvm.Cond.methodLink "SoftController$Tokens" (143 : Nat) ({ cls := "SoftController$Tokens", name := "takesEquals", desc := "(II)Z" } : Jvm.MethodName)) ∈ GW := gw_t (tin_4 _ (List.mem_of_getElem? (i := 26) rfl)) rfl
theorem gw_747 : (Jvm.Cond.static ({ cls := "SoftController$Tokens", name := "takesEquals", desc := "(II)Z" } : Jvm.MethodName)) ∈ GW := gw_t (tin_4 _ (List.mem_of_getElem? (i := 27) rfl)) rfl
theorem gw_748 : (Jvm.Cond.code ({ cls := "SoftController$Tokens", name := "takesEquals", desc := "(II)Z" } : Jvm.MethodName) prog_11_method_36_code (2 : Nat) (Option.some Jvm.ClassFile.FieldType.boolean)) ∈ GW := gw_t (tin_4 _ (List.mem_of_getElem? (i := 28) rfl)) rfl
theorem gw_749 : (Jvm.Cond.methodLink "SoftController$Tokens" (66 : Nat) ({ cls := "SoftController$Tokens", name := "closeWith", desc := "(II)V" } : Jvm.MethodName)) ∈ GW := gw_t (tin_4 _ (List.mem_of_getElem? (i := 29) rfl)) rfl
theorem gw_751 : (Jvm.Cond.instanceMethod ({ cls := "SoftController$Tokens", name := "closeWith", desc := "(II)V" } : Jvm.MethodName)) ∈ GW := gw_t (tin_4 _ (List.mem_of_getElem? (i := 31) rfl)) rfl
theorem gw_752 : (Jvm.Cond.code ({ cls := "SoftController$Tokens", name := "closeWith", desc := "(II)V" } : Jvm.MethodName) prog_11_method_23_code (3 : Nat) (Option.none : Option Jvm.ClassFile.FieldType)) ∈ GW := gw_t (tin_4 _ (List.mem_of_getElem? (i := 32) rfl)) rfl
theorem gw_757 : (Jvm.Cond.methodLink "SoftController$Grammar" (19 : Nat) ({ cls := "SoftController$Tokens", name := "rewind", desc := "()V" } : Jvm.MethodName)) ∈ GW := gw_t (tin_4 _ (List.mem_of_getElem? (i := 37) rfl)) rfl
theorem gw_758 : (Jvm.Cond.instanceMethod ({ cls := "SoftController$Tokens", name := "rewind", desc := "()V" } : Jvm.MethodName)) ∈ GW := gw_t (tin_4 _ (List.mem_of_getElem? (i := 38) rfl)) rfl
theorem gw_759 : (Jvm.Cond.selects "SoftController$Tokens" ({ cls := "SoftController$Tokens", name := "rewind", desc := "()V" } : Jvm.MethodName) ({ cls := "SoftController$Tokens", name := "rewind", desc := "()V" } : Jvm.MethodName)) ∈ GW := gw_t (tin_4 _ (List.mem_of_getElem? (i := 39) rfl)) rfl
theorem gw_760 : (Jvm.Cond.code ({ cls := "SoftController$Tokens", name := "rewind", desc := "()V" } : Jvm.MethodName) prog_11_method_3_code (1 : Nat) (Option.none : Option Jvm.ClassFile.FieldType)) ∈ GW := gw_t (tin_4 _ (List.mem_of_getElem? (i := 40) rfl)) rfl
theorem gw_761 : (Jvm.Cond.methodLink "SoftController$Grammar" (24 : Nat) ({ cls := "SoftController$Tokens", name := "is", desc := "(I)Z" } : Jvm.MethodName)) ∈ GW := gw_t (tin_4 _ (List.mem_of_getElem? (i := 41) rfl)) rfl
theorem gw_762 : (Jvm.Cond.instanceMethod ({ cls := "SoftController$Tokens", name := "is", desc := "(I)Z" } : Jvm.MethodName)) ∈ GW := gw_t (tin_4 _ (List.mem_of_getElem? (i := 42) rfl)) rfl
theorem gw_763 : (Jvm.Cond.selects "SoftController$Tokens" ({ cls := "SoftController$Tokens", name := "is", desc := "(I)Z" } : Jvm.MethodName) ({ cls := "SoftController$Tokens", name := "is", desc := "(I)Z" } : Jvm.MethodName)) ∈ GW := gw_t (tin_4 _ (List.mem_of_getElem? (i := 43) rfl)) rfl
theorem gw_764 : (Jvm.Cond.code ({ cls := "SoftController$Tokens", name := "is", desc := "(I)Z" } : Jvm.MethodName) prog_11_method_6_code (2 : Nat) (Option.some Jvm.ClassFile.FieldType.boolean)) ∈ GW := gw_t (tin_4 _ (List.mem_of_getElem? (i := 44) rfl)) rfl
theorem gw_765 : (Jvm.Cond.methodLink "SoftController$Grammar" (28 : Nat) ({ cls := "SoftController$Tokens", name := "type", desc := "()I" } : Jvm.MethodName)) ∈ GW := gw_t (tin_4 _ (List.mem_of_getElem? (i := 45) rfl)) rfl
theorem gw_766 : (Jvm.Cond.instanceMethod ({ cls := "SoftController$Tokens", name := "type", desc := "()I" } : Jvm.MethodName)) ∈ GW := gw_t (tin_4 _ (List.mem_of_getElem? (i := 46) rfl)) rfl
theorem gw_767 : (Jvm.Cond.selects "SoftController$Tokens" ({ cls := "SoftController$Tokens", name := "type", desc := "()I" } : Jvm.MethodName) ({ cls := "SoftController$Tokens", name := "type", desc := "()I" } : Jvm.MethodName)) ∈ GW := gw_t (tin_4 _ (List.mem_of_getElem? (i := 47) rfl)) rfl
theorem gw_768 : (Jvm.Cond.code ({ cls := "SoftController$Tokens", name := "type", desc := "()I" } : Jvm.MethodName) prog_11_method_4_code (1 : Nat) (Option.some Jvm.ClassFile.FieldType.int)) ∈ GW := gw_t (tin_4 _ (List.mem_of_getElem? (i := 48) rfl)) rfl
theorem gw_773 : (Jvm.Cond.methodLink "SoftController$Grammar" (38 : Nat) ({ cls := "SoftController$Tokens", name := "next", desc := "()V" } : Jvm.MethodName)) ∈ GW := gw_t (tin_4 _ (List.mem_of_getElem? (i := 53) rfl)) rfl
theorem gw_774 : (Jvm.Cond.instanceMethod ({ cls := "SoftController$Tokens", name := "next", desc := "()V" } : Jvm.MethodName)) ∈ GW := gw_t (tin_4 _ (List.mem_of_getElem? (i := 54) rfl)) rfl
theorem gw_775 : (Jvm.Cond.selects "SoftController$Tokens" ({ cls := "SoftController$Tokens", name := "next", desc := "()V" } : Jvm.MethodName) ({ cls := "SoftController$Tokens", name := "next", desc := "()V" } : Jvm.MethodName)) ∈ GW := gw_t (tin_4 _ (List.mem_of_getElem? (i := 55) rfl)) rfl
theorem gw_776 : (Jvm.Cond.code ({ cls := "SoftController$Tokens", name := "next", desc := "()V" } : Jvm.MethodName) prog_11_method_12_code (1 : Nat) (Option.none : Option Jvm.ClassFile.FieldType)) ∈ GW := gw_t (tin_4 _ (List.mem_of_getElem? (i := 56) rfl)) rfl
theorem gw_781 : (Jvm.Cond.methodLink "SoftController$Grammar" (56 : Nat) ({ cls := "SoftController$Tokens", name := "isKindWord", desc := "()Z" } : Jvm.MethodName)) ∈ GW := gw_t (tin_4 _ (List.mem_of_getElem? (i := 61) rfl)) rfl
theorem gw_782 : (Jvm.Cond.instanceMethod ({ cls := "SoftController$Tokens", name := "isKindWord", desc := "()Z" } : Jvm.MethodName)) ∈ GW := gw_t (tin_4 _ (List.mem_of_getElem? (i := 62) rfl)) rfl
theorem gw_783 : (Jvm.Cond.selects "SoftController$Tokens" ({ cls := "SoftController$Tokens", name := "isKindWord", desc := "()Z" } : Jvm.MethodName) ({ cls := "SoftController$Tokens", name := "isKindWord", desc := "()Z" } : Jvm.MethodName)) ∈ GW := gw_t (tin_4 _ (List.mem_of_getElem? (i := 63) rfl)) rfl
theorem gw_784 : (Jvm.Cond.code ({ cls := "SoftController$Tokens", name := "isKindWord", desc := "()Z" } : Jvm.MethodName) prog_11_method_7_code (1 : Nat) (Option.some Jvm.ClassFile.FieldType.boolean)) ∈ GW := gw_t (tin_4 _ (List.mem_of_getElem? (i := 64) rfl)) rfl
theorem gw_785 : (Jvm.Cond.methodLink "SoftController$Grammar" (53 : Nat) ({ cls := "SoftController$Tokens", name := "refuseToken", desc := "()V" } : Jvm.MethodName)) ∈ GW := gw_t (tin_4 _ (List.mem_of_getElem? (i := 65) rfl)) rfl
theorem gw_786 : (Jvm.Cond.instanceMethod ({ cls := "SoftController$Tokens", name := "refuseToken", desc := "()V" } : Jvm.MethodName)) ∈ GW := gw_t (tin_4 _ (List.mem_of_getElem? (i := 66) rfl)) rfl
theorem gw_787 : (Jvm.Cond.selects "SoftController$Tokens" ({ cls := "SoftController$Tokens", name := "refuseToken", desc := "()V" } : Jvm.MethodName) ({ cls := "SoftController$Tokens", name := "refuseToken", desc := "()V" } : Jvm.MethodName)) ∈ GW := gw_t (tin_4 _ (List.mem_of_getElem? (i := 67) rfl)) rfl
theorem gw_788 : (Jvm.Cond.code ({ cls := "SoftController$Tokens", name := "refuseToken", desc := "()V" } : Jvm.MethodName) prog_11_method_14_code (1 : Nat) (Option.none : Option Jvm.ClassFile.FieldType)) ∈ GW := gw_t (tin_4 _ (List.mem_of_getElem? (i := 68) rfl)) rfl
theorem gw_789 : (Jvm.Cond.methodLink "SoftController$Tokens" (70 : Nat) ({ cls := "SoftController$Tokens", name := "misfit", desc := "()I" } : Jvm.MethodName)) ∈ GW := gw_t (tin_4 _ (List.mem_of_getElem? (i := 69) rfl)) rfl
theorem gw_791 : (Jvm.Cond.instanceMethod ({ cls := "SoftController$Tokens", name := "misfit", desc := "()I" } : Jvm.MethodName)) ∈ GW := gw_t (tin_4 _ (List.mem_of_getElem? (i := 71) rfl)) rfl
theorem gw_792 : (Jvm.Cond.code ({ cls := "SoftController$Tokens", name := "misfit", desc := "()I" } : Jvm.MethodName) prog_11_method_15_code (1 : Nat) (Option.some Jvm.ClassFile.FieldType.int)) ∈ GW := gw_t (tin_4 _ (List.mem_of_getElem? (i := 72) rfl)) rfl
theorem gw_793 : (Jvm.Cond.methodLink "SoftController$Tokens" (73 : Nat) ({ cls := "SoftController$Tokens", name := "refuse", desc := "(II)V" } : Jvm.MethodName)) ∈ GW := gw_t (tin_4 _ (List.mem_of_getElem? (i := 73) rfl)) rfl
theorem gw_794 : (Jvm.Cond.instanceMethod ({ cls := "SoftController$Tokens", name := "refuse", desc := "(II)V" } : Jvm.MethodName)) ∈ GW := gw_t (tin_4 _ (List.mem_of_getElem? (i := 74) rfl)) rfl
theorem gw_795 : (Jvm.Cond.selects "SoftController$Tokens" ({ cls := "SoftController$Tokens", name := "refuse", desc := "(II)V" } : Jvm.MethodName) ({ cls := "SoftController$Tokens", name := "refuse", desc := "(II)V" } : Jvm.MethodName)) ∈ GW := gw_t (tin_4 _ (List.mem_of_getElem? (i := 75) rfl)) rfl
theorem gw_796 : (Jvm.Cond.code ({ cls := "SoftController$Tokens", name := "refuse", desc := "(II)V" } : Jvm.MethodName) prog_11_method_16_code (3 : Nat) (Option.none : Option Jvm.ClassFile.FieldType)) ∈ GW := gw_t (tin_4 _ (List.mem_of_getElem? (i := 76) rfl)) rfl
theorem gw_797 : (Jvm.Cond.classLink "SoftController$Tokens" (79 : Nat) "java/lang/IllegalStateException") ∈ GW := gw_t (tin_4 _ (List.mem_of_getElem? (i := 77) rfl)) rfl
theorem gw_871 : (Jvm.Cond.methodLink "SoftController$Grammar" (63 : Nat) ({ cls := "SoftController$Tokens", name := "take", desc := "(I)V" } : Jvm.MethodName)) ∈ GW := gw_t (tin_4 _ (List.mem_of_getElem? (i := 151) rfl)) rfl
theorem gw_872 : (Jvm.Cond.instanceMethod ({ cls := "SoftController$Tokens", name := "take", desc := "(I)V" } : Jvm.MethodName)) ∈ GW := gw_t (tin_4 _ (List.mem_of_getElem? (i := 152) rfl)) rfl
theorem gw_873 : (Jvm.Cond.selects "SoftController$Tokens" ({ cls := "SoftController$Tokens", name := "take", desc := "(I)V" } : Jvm.MethodName) ({ cls := "SoftController$Tokens", name := "take", desc := "(I)V" } : Jvm.MethodName)) ∈ GW := gw_t (tin_4 _ (List.mem_of_getElem? (i := 153) rfl)) rfl
theorem gw_874 : (Jvm.Cond.code ({ cls := "SoftController$Tokens", name := "take", desc := "(I)V" } : Jvm.MethodName) prog_11_method_13_code (2 : Nat) (Option.none : Option Jvm.ClassFile.FieldType)) ∈ GW := gw_t (tin_4 _ (List.mem_of_getElem? (i := 154) rfl)) rfl
theorem gw_875 : (Jvm.Cond.methodLink "SoftController$Tokens" (76 : Nat) ({ cls := "SoftController$Tokens", name := "next", desc := "()V" } : Jvm.MethodName)) ∈ GW := gw_t (tin_4 _ (List.mem_of_getElem? (i := 155) rfl)) rfl
theorem gw_928 : (Jvm.Cond.methodLink "SoftController$Grammar" (131 : Nat) ({ cls := "SoftController$Tokens", name := "typeAhead", desc := "(I)I" } : Jvm.MethodName)) ∈ GW := gw_t (tin_4 _ (List.mem_of_getElem? (i := 208) rfl)) rfl
theorem gw_929 : (Jvm.Cond.instanceMethod ({ cls := "SoftController$Tokens", name := "typeAhead", desc := "(I)I" } : Jvm.MethodName)) ∈ GW := gw_t (tin_4 _ (List.mem_of_getElem? (i := 209) rfl)) rfl
theorem gw_930 : (Jvm.Cond.selects "SoftController$Tokens" ({ cls := "SoftController$Tokens", name := "typeAhead", desc := "(I)I" } : Jvm.MethodName) ({ cls := "SoftController$Tokens", name := "typeAhead", desc := "(I)I" } : Jvm.MethodName)) ∈ GW := gw_t (tin_4 _ (List.mem_of_getElem? (i := 210) rfl)) rfl
theorem gw_931 : (Jvm.Cond.code ({ cls := "SoftController$Tokens", name := "typeAhead", desc := "(I)I" } : Jvm.MethodName) prog_11_method_5_code (2 : Nat) (Option.some Jvm.ClassFile.FieldType.int)) ∈ GW := gw_t (tin_4 _ (List.mem_of_getElem? (i := 211) rfl)) rfl
theorem gw_96 : (Jvm.Cond.fieldLink "SoftController$Tokens" (28 : Nat) "SoftController$Tokens" "text" "[B") ∈ GW := gw_t (tin_1 _ (List.mem_of_getElem? (i := 96) rfl)) rfl
theorem gw_97 : (Jvm.Cond.fieldLink "SoftController$Tokens" (9 : Nat) "SoftController$Tokens" "types" "[I") ∈ GW := gw_t (tin_1 _ (List.mem_of_getElem? (i := 97) rfl)) rfl
theorem gw_98 : (Jvm.Cond.fieldLink "SoftController$Tokens" (15 : Nat) "SoftController$Tokens" "places" "[I") ∈ GW := gw_t (tin_1 _ (List.mem_of_getElem? (i := 98) rfl)) rfl
theorem gw_99 : (Jvm.Cond.fieldLink "SoftController$Tokens" (18 : Nat) "SoftController$Tokens" "values" "[J") ∈ GW := gw_t (tin_1 _ (List.mem_of_getElem? (i := 99) rfl)) rfl
theorem gw_997 : (Jvm.Cond.methodLink "SoftController$Maker" (60 : Nat) ({ cls := "SoftController$Tokens", name := "rewind", desc := "()V" } : Jvm.MethodName)) ∈ GW := gw_t (tin_5 _ (List.mem_of_getElem? (i := 37) rfl)) rfl
theorem gw_998 : (Jvm.Cond.methodLink "SoftController$Maker" (65 : Nat) ({ cls := "SoftController$Tokens", name := "is", desc := "(I)Z" } : Jvm.MethodName)) ∈ GW := gw_t (tin_5 _ (List.mem_of_getElem? (i := 38) rfl)) rfl
theorem gw_999 : (Jvm.Cond.methodLink "SoftController$Maker" (69 : Nat) ({ cls := "SoftController$Tokens", name := "type", desc := "()I" } : Jvm.MethodName)) ∈ GW := gw_t (tin_5 _ (List.mem_of_getElem? (i := 39) rfl)) rfl
section C34tokensR
variable {p : Program} {l : Launch} {e : Env} {R : Room} {s : State} {m : MethodId} {args : Array Value} {below : List Frame} {meth : Method} {c : Code} {H : Heap} {locs : List Loc} {Q : State → Prop} {cells slots : Nat}
variable {cc : ByteArray} {pc nL : Nat} {c0 : Cond} {own : String} {ls : Array Slot} {rest : List Value} {D : va_G} {kA : Nat → ClassId} {V Z : Nat → Nat} {A : Nat → Prop}
variable {u u1 : CSt}
theorem cp_X9_53 (X : CC p s m args c cc nL c0 RX9 D kA V A) (hS : CS D kA Z A s u H locs) {v : Int32} (hu : xI u 5 v = u1) (hd : decode cc pc = .ok (.putfield 53, 3)) (kk : ∀ H locs, CS D kA Z A s u1 H locs → W p l e R s m args below meth c H locs cells slots Q (F0 m (pc + 3) ls rest)) : W p l e R s m args below meth c H locs cells slots Q (F0 m pc ls (.int v :: .ref (Z 202) :: rest)) := by
  obtain ⟨⟨hx, hb, hml, hown, hts⟩, hK, hE, hA⟩ := X
  have hG : ∀ w ∈ GW, w.before args s = true := fun w h => hts w (List.mem_cons_of_mem _ h)
  subst hu
  refine va_put (D := D) (ci := 8) (v := .int v) (ty := .int) (C := RX9) (T := TX9) (N := 11) hx hb hG gwl_X9 tyX9 tyX9_ok nmX9 hown hK hS.1 hS.2.1 hS.2.2 2 (cw_lit rfl) rfl 8 (by decide) (hG _ gw_104) (fun _ h9 => h9) rfl (by decide +kernel) rfl rfl (Nat.le_of_ble_eq_true rfl) hd (fun H1 locs1 hP hD hS1 => kk H1 locs1 ?_)
  have he := cw_setL (kA := kA) (Z := Z) (u := u) (w := xI u 5 v) (k := 2) (x := (Z 202, .inr (8, ([.ref (Z 201), .ref (Z 203), .ref (Z 204), .ref (Z 205), .ref (Z 206), .ref (Z 207), .int (cI u 3), .int (cI u 4), .int (cI u 5), .int (cI u 6), .int (cI u 7)] : List Value).set 8 (.int v)))) (by decide) rfl rfl rfl
  exact cs_put he hP hD hS1
theorem cg_X9_9 (X : CC p s m args c cc nL c0 RX9 D kA V A) (hS : CS D kA Z A s u H locs) (hd : decode cc pc = .ok (.getfield 9, 3)) (kk : W p l e R s m args below meth c H locs cells slots Q (F0 m (pc + 3) ls (.ref (Z 203) :: rest))) : W p l e R s m args below meth c H locs cells slots Q (F0 m pc ls (.ref (Z 202) :: rest)) := by
  obtain ⟨⟨hx, hb, hml, hown, hts⟩, hK, hE, hA⟩ := X
  have hG : ∀ w ∈ GW, w.before args s = true := fun w h => hts w (List.mem_cons_of_mem _ h)
  exact va_get (D := D) (ci := 8) (v := .ref (Z 203)) (C := RX9) (T := TX9) (N := 11) hx hb hG gwl_X9 hown hK hS.1 2 (cw_lit rfl) rfl 1 (by decide) (hG _ gw_97) (fun _ h9 => h9) rfl hd kk
theorem cg_X9_53 (X : CC p s m args c cc nL c0 RX9 D kA V A) (hS : CS D kA Z A s u H locs) (hd : decode cc pc = .ok (.getfield 53, 3)) (kk : W p l e R s m args below meth c H locs cells slots Q (F0 m (pc + 3) ls (.int (cI u 5) :: rest))) : W p l e R s m args below meth c H locs cells slots Q (F0 m pc ls (.ref (Z 202) :: rest)) := by
  obtain ⟨⟨hx, hb, hml, hown, hts⟩, hK, hE, hA⟩ := X
  have hG : ∀ w ∈ GW, w.before args s = true := fun w h => hts w (List.mem_cons_of_mem _ h)
  exact va_get (D := D) (ci := 8) (v := .int (cI u 5)) (C := RX9) (T := TX9) (N := 11) hx hb hG gwl_X9 hown hK hS.1 2 (cw_lit rfl) rfl 8 (by decide) (hG _ gw_104) (fun _ h9 => h9) rfl hd kk
theorem ca_s203 (X : CC p s m args c cc nL c0 own D kA V A) (hS : CS D kA Z A s u H locs) {i : Int32} {v : Int32} (hi : vp_in i 1501) (hv : cA u 203 i.toNatClampNeg = v) (hd : decode cc pc = .ok (.iaload, 1)) (kk : W p l e R s m args below meth c H locs cells slots Q (F0 m (pc + 1) ls (.int v :: rest))) : W p l e R s m args below meth c H locs cells slots Q (F0 m pc ls (.int i :: .ref (Z 203) :: rest)) := by
  subst hv
  exact va_iald X.1.1 X.1.2.1 X.2.1 hS.1 3 0 (cw_lit rfl) rfl hi hd kk
theorem cg_X9_50 (X : CC p s m args c cc nL c0 RX9 D kA V A) (hS : CS D kA Z A s u H locs) (hd : decode cc pc = .ok (.getfield 50, 3)) (kk : W p l e R s m args below meth c H locs cells slots Q (F0 m (pc + 3) ls (.int (cI u 4) :: rest))) : W p l e R s m args below meth c H locs cells slots Q (F0 m pc ls (.ref (Z 202) :: rest)) := by
  obtain ⟨⟨hx, hb, hml, hown, hts⟩, hK, hE, hA⟩ := X
  have hG : ∀ w ∈ GW, w.before args s = true := fun w h => hts w (List.mem_cons_of_mem _ h)
  exact va_get (D := D) (ci := 8) (v := .int (cI u 4)) (C := RX9) (T := TX9) (N := 11) hx hb hG gwl_X9 hown hK hS.1 2 (cw_lit rfl) rfl 7 (by decide) (hG _ gw_103) (fun _ h9 => h9) rfl hd kk
theorem cg_X9_15 (X : CC p s m args c cc nL c0 RX9 D kA V A) (hS : CS D kA Z A s u H locs) (hd : decode cc pc = .ok (.getfield 15, 3)) (kk : W p l e R s m args below meth c H locs cells slots Q (F0 m (pc + 3) ls (.ref (Z 204) :: rest))) : W p l e R s m args below meth c H locs cells slots Q (F0 m pc ls (.ref (Z 202) :: rest)) := by
  obtain ⟨⟨hx, hb, hml, hown, hts⟩, hK, hE, hA⟩ := X
  have hG : ∀ w ∈ GW, w.before args s = true := fun w h => hts w (List.mem_cons_of_mem _ h)
  exact va_get (D := D) (ci := 8) (v := .ref (Z 204)) (C := RX9) (T := TX9) (N := 11) hx hb hG gwl_X9 hown hK hS.1 2 (cw_lit rfl) rfl 2 (by decide) (hG _ gw_98) (fun _ h9 => h9) rfl hd kk
theorem ca_s204 (X : CC p s m args c cc nL c0 own D kA V A) (hS : CS D kA Z A s u H locs) {i : Int32} {v : Int32} (hi : vp_in i 1501) (hv : cA u 204 i.toNatClampNeg = v) (hd : decode cc pc = .ok (.iaload, 1)) (kk : W p l e R s m args below meth c H locs cells slots Q (F0 m (pc + 1) ls (.int v :: rest))) : W p l e R s m args below meth c H locs cells slots Q (F0 m pc ls (.int i :: .ref (Z 204) :: rest)) := by
  subst hv
  exact va_iald X.1.1 X.1.2.1 X.2.1 hS.1 4 0 (cw_lit rfl) rfl hi hd kk
theorem cg_X9_18 (X : CC p s m args c cc nL c0 RX9 D kA V A) (hS : CS D kA Z A s u H locs) (hd : decode cc pc = .ok (.getfield 18, 3)) (kk : W p l e R s m args below meth c H locs cells slots Q (F0 m (pc + 3) ls (.ref (Z 205) :: rest))) : W p l e R s m args below meth c H locs cells slots Q (F0 m pc ls (.ref (Z 202) :: rest)) := by
  obtain ⟨⟨hx, hb, hml, hown, hts⟩, hK, hE, hA⟩ := X
  have hG : ∀ w ∈ GW, w.before args s = true := fun w h => hts w (List.mem_cons_of_mem _ h)
  exact va_get (D := D) (ci := 8) (v := .ref (Z 205)) (C := RX9) (T := TX9) (N := 11) hx hb hG gwl_X9 hown hK hS.1 2 (cw_lit rfl) rfl 3 (by decide) (hG _ gw_99) (fun _ h9 => h9) rfl hd kk
theorem ca_s205 (X : CC p s m args c cc nL c0 own D kA V A) (hS : CS D kA Z A s u H locs) {i : Int32} {v : Int64} (hi : vp_in i 1501) (hv : cB u 205 i.toNatClampNeg = v) (hd : decode cc pc = .ok (.laload, 1)) (kk : W p l e R s m args below meth c H locs cells slots Q (F0 m (pc + 1) ls (.long v :: rest))) : W p l e R s m args below meth c H locs cells slots Q (F0 m pc ls (.int i :: .ref (Z 205) :: rest)) := by
  subst hv
  exact va_lald X.1.1 X.1.2.1 X.2.1 hS.1 5 1 (cw_lit rfl) rfl hi hd kk
theorem cg_X9_22 (X : CC p s m args c cc nL c0 RX9 D kA V A) (hS : CS D kA Z A s u H locs) (hd : decode cc pc = .ok (.getfield 22, 3)) (kk : W p l e R s m args below meth c H locs cells slots Q (F0 m (pc + 3) ls (.ref (Z 206) :: rest))) : W p l e R s m args below meth c H locs cells slots Q (F0 m pc ls (.ref (Z 202) :: rest)) := by
  obtain ⟨⟨hx, hb, hml, hown, hts⟩, hK, hE, hA⟩ := X
  have hG : ∀ w ∈ GW, w.before args s = true := fun w h => hts w (List.mem_cons_of_mem _ h)
  exact va_get (D := D) (ci := 8) (v := .ref (Z 206)) (C := RX9) (T := TX9) (N := 11) hx hb hG gwl_X9 hown hK hS.1 2 (cw_lit rfl) rfl 4 (by decide) (hG _ gw_100) (fun _ h9 => h9) rfl hd kk
theorem ca_s206 (X : CC p s m args c cc nL c0 own D kA V A) (hS : CS D kA Z A s u H locs) {i : Int32} {v : Int32} (hi : vp_in i 1501) (hv : cA u 206 i.toNatClampNeg = v) (hd : decode cc pc = .ok (.iaload, 1)) (kk : W p l e R s m args below meth c H locs cells slots Q (F0 m (pc + 1) ls (.int v :: rest))) : W p l e R s m args below meth c H locs cells slots Q (F0 m pc ls (.int i :: .ref (Z 206) :: rest)) := by
  subst hv
  exact va_iald X.1.1 X.1.2.1 X.2.1 hS.1 6 0 (cw_lit rfl) rfl hi hd kk
theorem cp_X9_56 (X : CC p s m args c cc nL c0 RX9 D kA V A) (hS : CS D kA Z A s u H locs) {v : Int32} (hu : xI u 6 v = u1) (hd : decode cc pc = .ok (.putfield 56, 3)) (kk : ∀ H locs, CS D kA Z A s u1 H locs → W p l e R s m args below meth c H locs cells slots Q (F0 m (pc + 3) ls rest)) : W p l e R s m args below meth c H locs cells slots Q (F0 m pc ls (.int v :: .ref (Z 202) :: rest)) := by
  obtain ⟨⟨hx, hb, hml, hown, hts⟩, hK, hE, hA⟩ := X
  have hG : ∀ w ∈ GW, w.before args s = true := fun w h => hts w (List.mem_cons_of_mem _ h)
  subst hu
  refine va_put (D := D) (ci := 8) (v := .int v) (ty := .int) (C := RX9) (T := TX9) (N := 11) hx hb hG gwl_X9 tyX9 tyX9_ok nmX9 hown hK hS.1 hS.2.1 hS.2.2 2 (cw_lit rfl) rfl 9 (by decide) (hG _ gw_105) (fun _ h9 => h9) rfl (by decide +kernel) rfl rfl (Nat.le_of_ble_eq_true rfl) hd (fun H1 locs1 hP hD hS1 => kk H1 locs1 ?_)
  have he := cw_setL (kA := kA) (Z := Z) (u := u) (w := xI u 6 v) (k := 2) (x := (Z 202, .inr (8, ([.ref (Z 201), .ref (Z 203), .ref (Z 204), .ref (Z 205), .ref (Z 206), .ref (Z 207), .int (cI u 3), .int (cI u 4), .int (cI u 5), .int (cI u 6), .int (cI u 7)] : List Value).set 9 (.int v)))) (by decide) rfl rfl rfl
  exact cs_put he hP hD hS1
theorem cp_X9_32 (X : CC p s m args c cc nL c0 RX9 D kA V A) (hS : CS D kA Z A s u H locs) {v : Int32} (hu : xI u 7 v = u1) (hd : decode cc pc = .ok (.putfield 32, 3)) (kk : ∀ H locs, CS D kA Z A s u1 H locs → W p l e R s m args below meth c H locs cells slots Q (F0 m (pc + 3) ls rest)) : W p l e R s m args below meth c H locs cells slots Q (F0 m pc ls (.int v :: .ref (Z 202) :: rest)) := by
  obtain ⟨⟨hx, hb, hml, hown, hts⟩, hK, hE, hA⟩ := X
  have hG : ∀ w ∈ GW, w.before args s = true := fun w h => hts w (List.mem_cons_of_mem _ h)
  subst hu
  refine va_put (D := D) (ci := 8) (v := .int v) (ty := .int) (C := RX9) (T := TX9) (N := 11) hx hb hG gwl_X9 tyX9 tyX9_ok nmX9 hown hK hS.1 hS.2.1 hS.2.2 2 (cw_lit rfl) rfl 10 (by decide) (hG _ gw_107) (fun _ h9 => h9) rfl (by decide +kernel) rfl rfl (Nat.le_of_ble_eq_true rfl) hd (fun H1 locs1 hP hD hS1 => kk H1 locs1 ?_)
  have he := cw_setL (kA := kA) (Z := Z) (u := u) (w := xI u 7 v) (k := 2) (x := (Z 202, .inr (8, ([.ref (Z 201), .ref (Z 203), .ref (Z 204), .ref (Z 205), .ref (Z 206), .ref (Z 207), .int (cI u 3), .int (cI u 4), .int (cI u 5), .int (cI u 6), .int (cI u 7)] : List Value).set 10 (.int v)))) (by decide) rfl rfl rfl
  exact cs_put he hP hD hS1
theorem cg_X9_48 (X : CC p s m args c cc nL c0 RX9 D kA V A) (hS : CS D kA Z A s u H locs) (hd : decode cc pc = .ok (.getfield 48, 3)) (kk : W p l e R s m args below meth c H locs cells slots Q (F0 m (pc + 3) ls (.int (cI u 3) :: rest))) : W p l e R s m args below meth c H locs cells slots Q (F0 m pc ls (.ref (Z 202) :: rest)) := by
  obtain ⟨⟨hx, hb, hml, hown, hts⟩, hK, hE, hA⟩ := X
  have hG : ∀ w ∈ GW, w.before args s = true := fun w h => hts w (List.mem_cons_of_mem _ h)
  exact va_get (D := D) (ci := 8) (v := .int (cI u 3)) (C := RX9) (T := TX9) (N := 11) hx hb hG gwl_X9 hown hK hS.1 2 (cw_lit rfl) rfl 6 (by decide) (hG _ gw_102) (fun _ h9 => h9) rfl hd kk
theorem cg_X9_28 (X : CC p s m args c cc nL c0 RX9 D kA V A) (hS : CS D kA Z A s u H locs) (hd : decode cc pc = .ok (.getfield 28, 3)) (kk : W p l e R s m args below meth c H locs cells slots Q (F0 m (pc + 3) ls (.ref (Z 201) :: rest))) : W p l e R s m args below meth c H locs cells slots Q (F0 m pc ls (.ref (Z 202) :: rest)) := by
  obtain ⟨⟨hx, hb, hml, hown, hts⟩, hK, hE, hA⟩ := X
  have hG : ∀ w ∈ GW, w.before args s = true := fun w h => hts w (List.mem_cons_of_mem _ h)
  exact va_get (D := D) (ci := 8) (v := .ref (Z 201)) (C := RX9) (T := TX9) (N := 11) hx hb hG gwl_X9 hown hK hS.1 2 (cw_lit rfl) rfl 0 (by decide) (hG _ gw_96) (fun _ h9 => h9) rfl hd kk
theorem ca_s201 (X : CC p s m args c cc nL c0 own D kA V A) (hS : CS D kA Z A s u H locs) {i : Int32} {v : Int32} (hi : vp_in i 6000) (hv : cA u 201 i.toNatClampNeg = v) (hd : decode cc pc = .ok (.baload, 1)) (kk : W p l e R s m args below meth c H locs cells slots Q (F0 m (pc + 1) ls (.int v :: rest))) : W p l e R s m args below meth c H locs cells slots Q (F0 m pc ls (.int i :: .ref (Z 201) :: rest)) := by
  subst hv
  exact va_bald X.1.1 X.1.2.1 X.2.1 hS.1 1 3 (cw_lit rfl) rfl hi hd kk
theorem cs_s203 (X : CC p s m args c cc nL c0 own D kA V A) (hS : CS D kA Z A s u H locs) {i : Int32} {v : Int32} (hi : vp_in i 1501) (hu : xA u 203 i.toNatClampNeg v = u1) (hd : decode cc pc = .ok (.iastore, 1)) (kk : ∀ H locs, CS D kA Z A s u1 H locs → W p l e R s m args below meth c H locs cells slots Q (F0 m (pc + 1) ls rest)) : W p l e R s m args below meth c H locs cells slots Q (F0 m pc ls (.int v :: .int i :: .ref (Z 203) :: rest)) := by
  subst hu
  refine va_iast X.1.1 X.1.2.1 X.2.1 hS.1 hS.2.1 hS.2.2 3 0 (cw_lit rfl) rfl hi hd (fun H1 locs1 hP hD hS1 => kk H1 locs1 ?_)
  have he := cw_setL (kA := kA) (Z := Z) (u := u) (w := xA u 203 i.toNatClampNeg v) (k := 3) (x := (Z 203, .inl (kA 0, 1501, .inl (upd (cA u 203) i.toNatClampNeg v)))) (by decide) rfl rfl rfl
  exact cs_put he hP hD hS1
theorem cs_s205 (X : CC p s m args c cc nL c0 own D kA V A) (hS : CS D kA Z A s u H locs) {i : Int32} {v : Int64} (hi : vp_in i 1501) (hu : xB u 205 i.toNatClampNeg v = u1) (hd : decode cc pc = .ok (.lastore, 1)) (kk : ∀ H locs, CS D kA Z A s u1 H locs → W p l e R s m args below meth c H locs cells slots Q (F0 m (pc + 1) ls rest)) : W p l e R s m args below meth c H locs cells slots Q (F0 m pc ls (.long v :: .int i :: .ref (Z 205) :: rest)) := by
  subst hu
  refine va_last X.1.1 X.1.2.1 X.2.1 hS.1 hS.2.1 hS.2.2 5 1 (cw_lit rfl) rfl hi hd (fun H1 locs1 hP hD hS1 => kk H1 locs1 ?_)
  have he := cw_setL (kA := kA) (Z := Z) (u := u) (w := xB u 205 i.toNatClampNeg v) (k := 5) (x := (Z 205, .inl (kA 1, 1501, .inr (.inl (vp_updL (cB u 205) i.toNatClampNeg v))))) (by decide) rfl rfl rfl
  exact cs_put he hP hD hS1
theorem cs_s206 (X : CC p s m args c cc nL c0 own D kA V A) (hS : CS D kA Z A s u H locs) {i : Int32} {v : Int32} (hi : vp_in i 1501) (hu : xA u 206 i.toNatClampNeg v = u1) (hd : decode cc pc = .ok (.iastore, 1)) (kk : ∀ H locs, CS D kA Z A s u1 H locs → W p l e R s m args below meth c H locs cells slots Q (F0 m (pc + 1) ls rest)) : W p l e R s m args below meth c H locs cells slots Q (F0 m pc ls (.int v :: .int i :: .ref (Z 206) :: rest)) := by
  subst hu
  refine va_iast X.1.1 X.1.2.1 X.2.1 hS.1 hS.2.1 hS.2.2 6 0 (cw_lit rfl) rfl hi hd (fun H1 locs1 hP hD hS1 => kk H1 locs1 ?_)
  have he := cw_setL (kA := kA) (Z := Z) (u := u) (w := xA u 206 i.toNatClampNeg v) (k := 6) (x := (Z 206, .inl (kA 0, 1501, .inl (upd (cA u 206) i.toNatClampNeg v)))) (by decide) rfl rfl rfl
  exact cs_put he hP hD hS1
theorem cs_s204 (X : CC p s m args c cc nL c0 own D kA V A) (hS : CS D kA Z A s u H locs) {i : Int32} {v : Int32} (hi : vp_in i 1501) (hu : xA u 204 i.toNatClampNeg v = u1) (hd : decode cc pc = .ok (.iastore, 1)) (kk : ∀ H locs, CS D kA Z A s u1 H locs → W p l e R s m args below meth c H locs cells slots Q (F0 m (pc + 1) ls rest)) : W p l e R s m args below meth c H locs cells slots Q (F0 m pc ls (.int v :: .int i :: .ref (Z 204) :: rest)) := by
  subst hu
  refine va_iast X.1.1 X.1.2.1 X.2.1 hS.1 hS.2.1 hS.2.2 4 0 (cw_lit rfl) rfl hi hd (fun H1 locs1 hP hD hS1 => kk H1 locs1 ?_)
  have he := cw_setL (kA := kA) (Z := Z) (u := u) (w := xA u 204 i.toNatClampNeg v) (k := 4) (x := (Z 204, .inl (kA 0, 1501, .inl (upd (cA u 204) i.toNatClampNeg v)))) (by decide) rfl rfl rfl
  exact cs_put he hP hD hS1
theorem cp_X9_48 (X : CC p s m args c cc nL c0 RX9 D kA V A) (hS : CS D kA Z A s u H locs) {v : Int32} (hu : xI u 3 v = u1) (hd : decode cc pc = .ok (.putfield 48, 3)) (kk : ∀ H locs, CS D kA Z A s u1 H locs → W p l e R s m args below meth c H locs cells slots Q (F0 m (pc + 3) ls rest)) : W p l e R s m args below meth c H locs cells slots Q (F0 m pc ls (.int v :: .ref (Z 202) :: rest)) := by
  obtain ⟨⟨hx, hb, hml, hown, hts⟩, hK, hE, hA⟩ := X
  have hG : ∀ w ∈ GW, w.before args s = true := fun w h => hts w (List.mem_cons_of_mem _ h)
  subst hu
  refine va_put (D := D) (ci := 8) (v := .int v) (ty := .int) (C := RX9) (T := TX9) (N := 11) hx hb hG gwl_X9 tyX9 tyX9_ok nmX9 hown hK hS.1 hS.2.1 hS.2.2 2 (cw_lit rfl) rfl 6 (by decide) (hG _ gw_102) (fun _ h9 => h9) rfl (by decide +kernel) rfl rfl (Nat.le_of_ble_eq_true rfl) hd (fun H1 locs1 hP hD hS1 => kk H1 locs1 ?_)
  have he := cw_setL (kA := kA) (Z := Z) (u := u) (w := xI u 3 v) (k := 2) (x := (Z 202, .inr (8, ([.ref (Z 201), .ref (Z 203), .ref (Z 204), .ref (Z 205), .ref (Z 206), .ref (Z 207), .int (cI u 3), .int (cI u 4), .int (cI u 5), .int (cI u 6), .int (cI u 7)] : List Value).set 6 (.int v)))) (by decide) rfl rfl rfl
  exact cs_put he hP hD hS1
theorem cg_X9_25 (X : CC p s m args c cc nL c0 RX9 D kA V A) (hS : CS D kA Z A s u H locs) (hd : decode cc pc = .ok (.getfield 25, 3)) (kk : W p l e R s m args below meth c H locs cells slots Q (F0 m (pc + 3) ls (.ref (Z 207) :: rest))) : W p l e R s m args below meth c H locs cells slots Q (F0 m pc ls (.ref (Z 202) :: rest)) := by
  obtain ⟨⟨hx, hb, hml, hown, hts⟩, hK, hE, hA⟩ := X
  have hG : ∀ w ∈ GW, w.before args s = true := fun w h => hts w (List.mem_cons_of_mem _ h)
  exact va_get (D := D) (ci := 8) (v := .ref (Z 207)) (C := RX9) (T := TX9) (N := 11) hx hb hG gwl_X9 hown hK hS.1 2 (cw_lit rfl) rfl 5 (by decide) (hG _ gw_101) (fun _ h9 => h9) rfl hd kk
theorem ca_s207 (X : CC p s m args c cc nL c0 own D kA V A) (hS : CS D kA Z A s u H locs) {i : Int32} {v : Int64} (hi : vp_in i 30) (hv : cB u 207 i.toNatClampNeg = v) (hd : decode cc pc = .ok (.laload, 1)) (kk : W p l e R s m args below meth c H locs cells slots Q (F0 m (pc + 1) ls (.long v :: rest))) : W p l e R s m args below meth c H locs cells slots Q (F0 m pc ls (.int i :: .ref (Z 207) :: rest)) := by
  subst hv
  exact va_lald X.1.1 X.1.2.1 X.2.1 hS.1 7 1 (cw_lit rfl) rfl hi hd kk
theorem cp_X9_50 (X : CC p s m args c cc nL c0 RX9 D kA V A) (hS : CS D kA Z A s u H locs) {v : Int32} (hu : xI u 4 v = u1) (hd : decode cc pc = .ok (.putfield 50, 3)) (kk : ∀ H locs, CS D kA Z A s u1 H locs → W p l e R s m args below meth c H locs cells slots Q (F0 m (pc + 3) ls rest)) : W p l e R s m args below meth c H locs cells slots Q (F0 m pc ls (.int v :: .ref (Z 202) :: rest)) := by
  obtain ⟨⟨hx, hb, hml, hown, hts⟩, hK, hE, hA⟩ := X
  have hG : ∀ w ∈ GW, w.before args s = true := fun w h => hts w (List.mem_cons_of_mem _ h)
  subst hu
  refine va_put (D := D) (ci := 8) (v := .int v) (ty := .int) (C := RX9) (T := TX9) (N := 11) hx hb hG gwl_X9 tyX9 tyX9_ok nmX9 hown hK hS.1 hS.2.1 hS.2.2 2 (cw_lit rfl) rfl 7 (by decide) (hG _ gw_103) (fun _ h9 => h9) rfl (by decide +kernel) rfl rfl (Nat.le_of_ble_eq_true rfl) hd (fun H1 locs1 hP hD hS1 => kk H1 locs1 ?_)
  have he := cw_setL (kA := kA) (Z := Z) (u := u) (w := xI u 4 v) (k := 2) (x := (Z 202, .inr (8, ([.ref (Z 201), .ref (Z 203), .ref (Z 204), .ref (Z 205), .ref (Z 206), .ref (Z 207), .int (cI u 3), .int (cI u 4), .int (cI u 5), .int (cI u 6), .int (cI u 7)] : List Value).set 7 (.int v)))) (by decide) rfl rfl rfl
  exact cs_put he hP hD hS1
end C34tokensR
section C34tokens
variable {p : Program} {l : Launch} {e : Env} {R : Room} {s : State} {m : MethodId} {args : Array Value} {below : List Frame} {meth : Method} {c : Code} {H : Heap} {locs : List Loc} {Q : State → Prop} {cells slots : Nat}
variable {ls : Array Slot} {D : va_G} {kA : Nat → ClassId} {V Z : Nat → Nat} {A : Nat → Prop} {N d : Nat} {w : CSt}
def B_X9_rewind_0 (N : Nat) (u : CSt) : Option (Int32 × CSt) := pc (xI u 5 0) fun u_1 => some (0, u_1)
set_option maxHeartbeats 4000000 in
theorem b_X9_rewind_0 {r : Int32} (X : CC p s m args c cX9_rewind 1 (Cond.code yX9_rewind cX9_rewind 1 none) RX9 D kA V A) (hE : CEv p l e R s m args below meth c cX9_rewind D kA Z A Q w) (hF : 0 ≤ R.frames) (hL : 0 ≤ R.locals) {u : CSt}  (h : B_X9_rewind_0 N u = some (r, w))  (hS : CS D kA Z A s u H locs) (hl : lv_has ls 1 [(0, .ref (Z 202))]) : W p l e R s m args below meth c H locs 0 0 Q (F0 m 0 ls []) := by
  obtain ⟨⟨hx, hb, hml, hown, hts⟩, hK, hEV, hA⟩ := id X
  have hG : ∀ w ∈ GW, w.before args s = true := fun w h => hts w (List.mem_cons_of_mem _ h)
  unfold B_X9_rewind_0 at h
  refine lv_aload_n hx hb dX9_rewind_0 rfl (lv_at hl 0 rfl) ?_
  refine lv_iconst (v := 0) hx hb dX9_rewind_1 (by decide) ?_
  obtain ⟨u_1, e_u_1, h⟩ := pc_of h
  refine cp_X9_53 X hS e_u_1 dX9_rewind_2 (fun H locs hS => ?_)
  obtain ⟨-, rfl⟩ := so9 h
  exact hE _ _ _ _ hS dX9_rewind_5
def F_X9_rewind (N : Nat) (u : CSt) : Option (Int32 × CSt) := B_X9_rewind_0 N u
set_option maxHeartbeats 4000000 in
theorem k_X9_rewind (l : Launch) (D : va_G) (kA : Nat → ClassId) (V Z : Nat → Nat) (N : Nat) (u : CSt) (sz : Nat) {r : Int32} {w : CSt} (h : F_X9_rewind N u = some (r, w)) : Met l yX9_rewind (Cond.code yX9_rewind cX9_rewind 1 none :: GW) { frames := 0, cells := 0, slots := 0, locals := 0 } (cPc D kA V Z [.ref (Z 202)] u sz) (cQv D kA Z u sz w) 0 0 (va_A (CW kA Z u) sz) := by
  refine Met.ofW (cc := cX9_rewind) (maxL := 1) (ret := none) (by decide) rfl ?_
  intro p e s m args below meth c s₁ Bd hml hv
  obtain ⟨rfl, hsz, hP, hK, hD0, hE⟩ := hv
  have hts := atoms_spec (ws := Cond.code yX9_rewind cX9_rewind 1 none :: GW) Bd.pre
  have hl := lv_entry ([.ref (Z 202)]) (n := 1) (Nat.le_of_ble_eq_true rfl)
  rw [lg_entry_eq]
  generalize (lg_sl ([.ref (Z 202)]) ++ List.replicate (1 - (lg_sl ([.ref (Z 202)])).length) Slot.unset).toArray = ls at hl ⊢
  have hl : lv_has ls 1 [(0, .ref (Z 202))] := hl
  subst hsz
  have X : CC p s m ([.ref (Z 202)]).toArray c cX9_rewind 1 (Cond.code yX9_rewind cX9_rewind 1 none) RX9 D kA V (va_A (CW kA Z u) s.heap.size) := ⟨⟨Bd.exec, Bd.bytes, hml, findClass_of_methodNamed Bd.named, hts⟩, hK, hE, fun q h => Or.inr h⟩
  refine b_X9_rewind_0 X (cend_v X Bd.returns Bd.notSynchronized) (Nat.le_refl _) (Nat.le_refl _) h  ⟨hP, hD0.self, va_S.rf⟩ (lv_sub hl [0] rfl)
theorem kc_X9_rewind_RX0 {cc : ByteArray} {pc nL : Nat} {c0 : Cond} {rest : List Value} {u w1 : CSt} {r : Int32} (X : CC p s m args c cc nL c0 RX0 D kA V A)  (hS : CS D kA Z A s u H locs) (h : F_X9_rewind N u = some (r, w1)) (hF : 0 + 1 ≤ R.frames) (hL : 8 + (1 + 11) + 0 ≤ R.locals) (hl : ls.size = nL) (hc : (rest.map fun v => v.category).sum ≤ 8) (hdg : decode cc pc = .ok (.invokevirtual 19, 3)) (kk : ∀ H locs, CS D kA Z A s w1 H locs → W p l e R s m args below meth c H locs 0 0 Q (F0 m (pc + 3) ls (rest))) : W p l e R s m args below meth c H locs 0 0 Q (F0 m pc ls (.ref (Z 202) :: rest)) :=
  ccall_v (n := 0) X hS (k_X9_rewind l D kA V Z N   u H.size h) (gw_V gw_757 gw_758 gw_759 gw_2 gw_760) (by decide +kernel) (va_recv X.2.1 hS.1 (ci := 8) (q0 := 2) rfl (cw_lit rfl)) hF hL rfl hl hc rfl hdg kk
theorem kc_X9_rewind_RX3 {cc : ByteArray} {pc nL : Nat} {c0 : Cond} {rest : List Value} {u w1 : CSt} {r : Int32} (X : CC p s m args c cc nL c0 RX3 D kA V A)  (hS : CS D kA Z A s u H locs) (h : F_X9_rewind N u = some (r, w1)) (hF : 0 + 1 ≤ R.frames) (hL : 8 + (1 + 11) + 0 ≤ R.locals) (hl : ls.size = nL) (hc : (rest.map fun v => v.category).sum ≤ 8) (hdg : decode cc pc = .ok (.invokevirtual 60, 3)) (kk : ∀ H locs, CS D kA Z A s w1 H locs → W p l e R s m args below meth c H locs 0 0 Q (F0 m (pc + 3) ls (rest))) : W p l e R s m args below meth c H locs 0 0 Q (F0 m pc ls (.ref (Z 202) :: rest)) :=
  ccall_v (n := 0) X hS (k_X9_rewind l D kA V Z N   u H.size h) (gw_V gw_997 gw_758 gw_759 gw_2 gw_760) (by decide +kernel) (va_recv X.2.1 hS.1 (ci := 8) (q0 := 2) rfl (cw_lit rfl)) hF hL rfl hl hc rfl hdg kk
def B_X9_type_0 (N : Nat) (u : CSt) : Option (Int32 × CSt) := rd (cA u 203) 1501 (cI u 5) fun v_2 => some (v_2, u)
set_option maxHeartbeats 4000000 in
theorem b_X9_type_0 {r : Int32} (X : CC p s m args c cX9_type 1 (Cond.code yX9_type cX9_type 1 (some .int)) RX9 D kA V A) (hE : CEi p l e R s m args below meth c cX9_type D kA Z A Q r w) (hF : 0 ≤ R.frames) (hL : 0 ≤ R.locals) {u : CSt}  (h : B_X9_type_0 N u = some (r, w))  (hS : CS D kA Z A s u H locs) (hl : lv_has ls 1 [(0, .ref (Z 202))]) : W p l e R s m args below meth c H locs 0 0 Q (F0 m 0 ls []) := by
  obtain ⟨⟨hx, hb, hml, hown, hts⟩, hK, hEV, hA⟩ := id X
  have hG : ∀ w ∈ GW, w.before args s = true := fun w h => hts w (List.mem_cons_of_mem _ h)
  unfold B_X9_type_0 at h
  refine lv_aload_n hx hb dX9_type_0 rfl (lv_at hl 0 rfl) ?_
  refine cg_X9_9 X hS dX9_type_1 ?_
  refine lv_aload_n hx hb dX9_type_4 rfl (lv_at hl 0 rfl) ?_
  refine cg_X9_53 X hS dX9_type_5 ?_
  obtain ⟨v_2, e_v_2, i_1, h⟩ := rd_of h
  refine ca_s203 X hS i_1 e_v_2 dX9_type_8 ?_
  obtain ⟨rfl, rfl⟩ := so9 h
  exact hE _ _ _ _ hS dX9_type_9
def F_X9_type (N : Nat) (u : CSt) : Option (Int32 × CSt) := B_X9_type_0 N u
set_option maxHeartbeats 4000000 in
theorem k_X9_type (l : Launch) (D : va_G) (kA : Nat → ClassId) (V Z : Nat → Nat) (N : Nat) (u : CSt) (sz : Nat) {r : Int32} {w : CSt} (h : F_X9_type N u = some (r, w)) : Met l yX9_type (Cond.code yX9_type cX9_type 1 (some .int) :: GW) { frames := 0, cells := 0, slots := 0, locals := 0 } (cPc D kA V Z [.ref (Z 202)] u sz) (cQi D kA Z u sz r w) 0 0 (va_A (CW kA Z u) sz) := by
  refine Met.ofW (cc := cX9_type) (maxL := 1) (ret := (some .int)) (by decide) rfl ?_
  intro p e s m args below meth c s₁ Bd hml hv
  obtain ⟨rfl, hsz, hP, hK, hD0, hE⟩ := hv
  have hts := atoms_spec (ws := Cond.code yX9_type cX9_type 1 (some .int) :: GW) Bd.pre
  have hl := lv_entry ([.ref (Z 202)]) (n := 1) (Nat.le_of_ble_eq_true rfl)
  rw [lg_entry_eq]
  generalize (lg_sl ([.ref (Z 202)]) ++ List.replicate (1 - (lg_sl ([.ref (Z 202)])).length) Slot.unset).toArray = ls at hl ⊢
  have hl : lv_has ls 1 [(0, .ref (Z 202))] := hl
  subst hsz
  have X : CC p s m ([.ref (Z 202)]).toArray c cX9_type 1 (Cond.code yX9_type cX9_type 1 (some .int)) RX9 D kA V (va_A (CW kA Z u) s.heap.size) := ⟨⟨Bd.exec, Bd.bytes, hml, findClass_of_methodNamed Bd.named, hts⟩, hK, hE, fun q h => Or.inr h⟩
  refine b_X9_type_0 X (cend_i X Bd.returns Bd.notSynchronized) (Nat.le_refl _) (Nat.le_refl _) h  ⟨hP, hD0.self, va_S.rf⟩ (lv_sub hl [0] rfl)
theorem kc_X9_type_RX0 {cc : ByteArray} {pc nL : Nat} {c0 : Cond} {rest : List Value} {u w1 : CSt} {r : Int32} (X : CC p s m args c cc nL c0 RX0 D kA V A)  (hS : CS D kA Z A s u H locs) (h : F_X9_type N u = some (r, w1)) (hF : 0 + 1 ≤ R.frames) (hL : 8 + (1 + 11) + 0 ≤ R.locals) (hl : ls.size = nL) (hc : (rest.map fun v => v.category).sum ≤ 8) (hdg : decode cc pc = .ok (.invokevirtual 28, 3)) (kk : ∀ H locs, CS D kA Z A s w1 H locs → W p l e R s m args below meth c H locs 0 0 Q (F0 m (pc + 3) ls (.int r :: rest))) : W p l e R s m args below meth c H locs 0 0 Q (F0 m pc ls (.ref (Z 202) :: rest)) :=
  ccall_i (n := 0) X hS (k_X9_type l D kA V Z N   u H.size h) (gw_V gw_765 gw_766 gw_767 gw_2 gw_768) (by decide +kernel) (va_recv X.2.1 hS.1 (ci := 8) (q0 := 2) rfl (cw_lit rfl)) hF hL rfl hl hc rfl hdg kk
theorem kc_X9_type_RX3 {cc : ByteArray} {pc nL : Nat} {c0 : Cond} {rest : List Value} {u w1 : CSt} {r : Int32} (X : CC p s m args c cc nL c0 RX3 D kA V A)  (hS : CS D kA Z A s u H locs) (h : F_X9_type N u = some (r, w1)) (hF : 0 + 1 ≤ R.frames) (hL : 8 + (1 + 11) + 0 ≤ R.locals) (hl : ls.size = nL) (hc : (rest.map fun v => v.category).sum ≤ 8) (hdg : decode cc pc = .ok (.invokevirtual 69, 3)) (kk : ∀ H locs, CS D kA Z A s w1 H locs → W p l e R s m args below meth c H locs 0 0 Q (F0 m (pc + 3) ls (.int r :: rest))) : W p l e R s m args below meth c H locs 0 0 Q (F0 m pc ls (.ref (Z 202) :: rest)) :=
  ccall_i (n := 0) X hS (k_X9_type l D kA V Z N   u H.size h) (gw_V gw_999 gw_766 gw_767 gw_2 gw_768) (by decide +kernel) (va_recv X.2.1 hS.1 (ci := 8) (q0 := 2) rfl (cw_lit rfl)) hF hL rfl hl hc rfl hdg kk
theorem kc_X9_type_RX8 {cc : ByteArray} {pc nL : Nat} {c0 : Cond} {rest : List Value} {u w1 : CSt} {r : Int32} (X : CC p s m args c cc nL c0 RX8 D kA V A)  (hS : CS D kA Z A s u H locs) (h : F_X9_type N u = some (r, w1)) (hF : 0 + 1 ≤ R.frames) (hL : 8 + (1 + 11) + 0 ≤ R.locals) (hl : ls.size = nL) (hc : (rest.map fun v => v.category).sum ≤ 8) (hdg : decode cc pc = .ok (.invokevirtual 139, 3)) (kk : ∀ H locs, CS D kA Z A s w1 H locs → W p l e R s m args below meth c H locs 0 0 Q (F0 m (pc + 3) ls (.int r :: rest))) : W p l e R s m args below meth c H locs 0 0 Q (F0 m pc ls (.ref (Z 202) :: rest)) :=
  ccall_i (n := 0) X hS (k_X9_type l D kA V Z N   u H.size h) (gw_V gw_1135 gw_766 gw_767 gw_2 gw_768) (by decide +kernel) (va_recv X.2.1 hS.1 (ci := 8) (q0 := 2) rfl (cw_lit rfl)) hF hL rfl hl hc rfl hdg kk
def B_X9_typeAhead_0 (N : Nat) (l1 : Int32) (u : CSt) : Option (Int32 × CSt) := if (cI u 4) < ((cI u 5) + l1) then (some (0, u)) else (rd (cA u 203) 1501 ((cI u 5) + l1) fun v_3 => some (v_3, u))
set_option maxHeartbeats 4000000 in
theorem b_X9_typeAhead_0 {r : Int32} (X : CC p s m args c cX9_typeAhead 2 (Cond.code yX9_typeAhead cX9_typeAhead 2 (some .int)) RX9 D kA V A) (hE : CEi p l e R s m args below meth c cX9_typeAhead D kA Z A Q r w) (hF : 0 ≤ R.frames) (hL : 0 ≤ R.locals) {l1 : Int32} {u : CSt}  (h : B_X9_typeAhead_0 N l1 u = some (r, w))  (hS : CS D kA Z A s u H locs) (hl : lv_has ls 2 [(0, .ref (Z 202)), (1, .int l1)]) : W p l e R s m args below meth c H locs 0 0 Q (F0 m 0 ls []) := by
  obtain ⟨⟨hx, hb, hml, hown, hts⟩, hK, hEV, hA⟩ := id X
  have hG : ∀ w ∈ GW, w.before args s = true := fun w h => hts w (List.mem_cons_of_mem _ h)
  unfold B_X9_typeAhead_0 at h
  refine lv_aload_n hx hb dX9_typeAhead_0 rfl (lv_at hl 0 rfl) ?_
  refine cg_X9_53 X hS dX9_typeAhead_1 ?_
  refine lv_iload_n hx hb dX9_typeAhead_4 rfl (lv_at hl 1 rfl) ?_
  refine lv_iadd hx hb dX9_typeAhead_5 ?_
  refine lv_aload_n hx hb dX9_typeAhead_6 rfl (lv_at hl 0 rfl) ?_
  refine cg_X9_50 X hS dX9_typeAhead_7 ?_
  refine lv_icmp_gt (tgt := 27) hx hb dX9_typeAhead_10 (by decide) (fun c_1 => ?_) (fun c_1 => ?_)
  · have h := ip (c_1) h
    refine lv_iconst (v := 0) hx hb dX9_typeAhead_27 (by decide) ?_
    obtain ⟨rfl, rfl⟩ := so9 h
    exact hE _ _ _ _ hS dX9_typeAhead_28
  · have h := im (c_1) h
    refine lv_aload_n hx hb dX9_typeAhead_13 rfl (lv_at hl 0 rfl) ?_
    refine cg_X9_9 X hS dX9_typeAhead_14 ?_
    refine lv_aload_n hx hb dX9_typeAhead_17 rfl (lv_at hl 0 rfl) ?_
    refine cg_X9_53 X hS dX9_typeAhead_18 ?_
    refine lv_iload_n hx hb dX9_typeAhead_21 rfl (lv_at hl 1 rfl) ?_
    refine lv_iadd hx hb dX9_typeAhead_22 ?_
    obtain ⟨v_3, e_v_3, i_2, h⟩ := rd_of h
    refine ca_s203 X hS i_2 e_v_3 dX9_typeAhead_23 ?_
    refine lv_goto (tgt := 28) hx hb dX9_typeAhead_24 (by decide) ?_
    obtain ⟨rfl, rfl⟩ := so9 h
    exact hE _ _ _ _ hS dX9_typeAhead_28
def F_X9_typeAhead (N : Nat) (l1 : Int32) (u : CSt) : Option (Int32 × CSt) := B_X9_typeAhead_0 N l1 u
set_option maxHeartbeats 4000000 in
theorem k_X9_typeAhead (l : Launch) (D : va_G) (kA : Nat → ClassId) (V Z : Nat → Nat) (N : Nat) (l1 : Int32) (u : CSt) (sz : Nat) {r : Int32} {w : CSt} (h : F_X9_typeAhead N l1 u = some (r, w)) : Met l yX9_typeAhead (Cond.code yX9_typeAhead cX9_typeAhead 2 (some .int) :: GW) { frames := 0, cells := 0, slots := 0, locals := 0 } (cPc D kA V Z [.ref (Z 202), .int l1] u sz) (cQi D kA Z u sz r w) 0 0 (va_A (CW kA Z u) sz) := by
  refine Met.ofW (cc := cX9_typeAhead) (maxL := 2) (ret := (some .int)) (by decide) rfl ?_
  intro p e s m args below meth c s₁ Bd hml hv
  obtain ⟨rfl, hsz, hP, hK, hD0, hE⟩ := hv
  have hts := atoms_spec (ws := Cond.code yX9_typeAhead cX9_typeAhead 2 (some .int) :: GW) Bd.pre
  have hl := lv_entry ([.ref (Z 202), .int l1]) (n := 2) (Nat.le_of_ble_eq_true rfl)
  rw [lg_entry_eq]
  generalize (lg_sl ([.ref (Z 202), .int l1]) ++ List.replicate (2 - (lg_sl ([.ref (Z 202), .int l1])).length) Slot.unset).toArray = ls at hl ⊢
  have hl : lv_has ls 2 [(0, .ref (Z 202)), (1, .int l1)] := hl
  subst hsz
  have X : CC p s m ([.ref (Z 202), .int l1]).toArray c cX9_typeAhead 2 (Cond.code yX9_typeAhead cX9_typeAhead 2 (some .int)) RX9 D kA V (va_A (CW kA Z u) s.heap.size) := ⟨⟨Bd.exec, Bd.bytes, hml, findClass_of_methodNamed Bd.named, hts⟩, hK, hE, fun q h => Or.inr h⟩
  refine b_X9_typeAhead_0 X (cend_i X Bd.returns Bd.notSynchronized) (Nat.le_refl _) (Nat.le_refl _) h  ⟨hP, hD0.self, va_S.rf⟩ (lv_sub hl [0, 1] rfl)
theorem kc_X9_typeAhead_RX0 {cc : ByteArray} {pc nL : Nat} {c0 : Cond} {rest : List Value} {l1 : Int32} {u w1 : CSt} {r : Int32} (X : CC p s m args c cc nL c0 RX0 D kA V A)  (hS : CS D kA Z A s u H locs) (h : F_X9_typeAhead N l1 u = some (r, w1)) (hF : 0 + 1 ≤ R.frames) (hL : 8 + (2 + 11) + 0 ≤ R.locals) (hl : ls.size = nL) (hc : (rest.map fun v => v.category).sum ≤ 8) (hdg : decode cc pc = .ok (.invokevirtual 131, 3)) (kk : ∀ H locs, CS D kA Z A s w1 H locs → W p l e R s m args below meth c H locs 0 0 Q (F0 m (pc + 3) ls (.int r :: rest))) : W p l e R s m args below meth c H locs 0 0 Q (F0 m pc ls (.int l1 :: .ref (Z 202) :: rest)) :=
  ccall_i (n := 1) X hS (k_X9_typeAhead l D kA V Z N l1  u H.size h) (gw_V gw_928 gw_929 gw_930 gw_2 gw_931) (by decide +kernel) (va_recv X.2.1 hS.1 (ci := 8) (q0 := 2) rfl (cw_lit rfl)) hF hL rfl hl hc rfl hdg kk
theorem kc_X9_typeAhead_RX8 {cc : ByteArray} {pc nL : Nat} {c0 : Cond} {rest : List Value} {l1 : Int32} {u w1 : CSt} {r : Int32} (X : CC p s m args c cc nL c0 RX8 D kA V A)  (hS : CS D kA Z A s u H locs) (h : F_X9_typeAhead N l1 u = some (r, w1)) (hF : 0 + 1 ≤ R.frames) (hL : 8 + (2 + 11) + 0 ≤ R.locals) (hl : ls.size = nL) (hc : (rest.map fun v => v.category).sum ≤ 8) (hdg : decode cc pc = .ok (.invokevirtual 87, 3)) (kk : ∀ H locs, CS D kA Z A s w1 H locs → W p l e R s m args below meth c H locs 0 0 Q (F0 m (pc + 3) ls (.int r :: rest))) : W p l e R s m args below meth c H locs 0 0 Q (F0 m pc ls (.int l1 :: .ref (Z 202) :: rest)) :=
  ccall_i (n := 1) X hS (k_X9_typeAhead l D kA V Z N l1  u H.size h) (gw_V gw_1169 gw_929 gw_930 gw_2 gw_931) (by decide +kernel) (va_recv X.2.1 hS.1 (ci := 8) (q0 := 2) rfl (cw_lit rfl)) hF hL rfl hl hc rfl hdg kk
theorem kc_X9_typeAhead_RX3 {cc : ByteArray} {pc nL : Nat} {c0 : Cond} {rest : List Value} {l1 : Int32} {u w1 : CSt} {r : Int32} (X : CC p s m args c cc nL c0 RX3 D kA V A)  (hS : CS D kA Z A s u H locs) (h : F_X9_typeAhead N l1 u = some (r, w1)) (hF : 0 + 1 ≤ R.frames) (hL : 8 + (2 + 11) + 0 ≤ R.locals) (hl : ls.size = nL) (hc : (rest.map fun v => v.category).sum ≤ 8) (hdg : decode cc pc = .ok (.invokevirtual 284, 3)) (kk : ∀ H locs, CS D kA Z A s w1 H locs → W p l e R s m args below meth c H locs 0 0 Q (F0 m (pc + 3) ls (.int r :: rest))) : W p l e R s m args below meth c H locs 0 0 Q (F0 m pc ls (.int l1 :: .ref (Z 202) :: rest)) :=
  ccall_i (n := 1) X hS (k_X9_typeAhead l D kA V Z N l1  u H.size h) (gw_V gw_1328 gw_929 gw_930 gw_2 gw_931) (by decide +kernel) (va_recv X.2.1 hS.1 (ci := 8) (q0 := 2) rfl (cw_lit rfl)) hF hL rfl hl hc rfl hdg kk
def B_X9_is_0 (N : Nat) (l1 : Int32) (u : CSt) : Option (Int32 × CSt) := rd (cA u 203) 1501 (cI u 5) fun v_2 => if v_2 = l1 then (some (1, u)) else (some (0, u))
set_option maxHeartbeats 4000000 in
theorem b_X9_is_0 {r : Int32} (X : CC p s m args c cX9_is 2 (Cond.code yX9_is cX9_is 2 (some .boolean)) RX9 D kA V A) (hE : CEz p l e R s m args below meth c cX9_is D kA Z A Q r w) (hF : 0 ≤ R.frames) (hL : 0 ≤ R.locals) {l1 : Int32} {u : CSt}  (h : B_X9_is_0 N l1 u = some (r, w))  (hS : CS D kA Z A s u H locs) (hl : lv_has ls 2 [(0, .ref (Z 202)), (1, .int l1)]) : W p l e R s m args below meth c H locs 0 0 Q (F0 m 0 ls []) := by
  obtain ⟨⟨hx, hb, hml, hown, hts⟩, hK, hEV, hA⟩ := id X
  have hG : ∀ w ∈ GW, w.before args s = true := fun w h => hts w (List.mem_cons_of_mem _ h)
  unfold B_X9_is_0 at h
  refine lv_aload_n hx hb dX9_is_0 rfl (lv_at hl 0 rfl) ?_
  refine cg_X9_9 X hS dX9_is_1 ?_
  refine lv_aload_n hx hb dX9_is_4 rfl (lv_at hl 0 rfl) ?_
  refine cg_X9_53 X hS dX9_is_5 ?_
  obtain ⟨v_2, e_v_2, i_1, h⟩ := rd_of h
  refine ca_s203 X hS i_1 e_v_2 dX9_is_8 ?_
  refine lv_iload_n hx hb dX9_is_9 rfl (lv_at hl 1 rfl) ?_
  refine lv_icmp_ne (tgt := 17) hx hb dX9_is_10 (by decide) (fun c_3 => ?_) (fun c_3 => ?_)
  · have h := im (c_3) h
    refine lv_iconst (v := 0) hx hb dX9_is_17 (by decide) ?_
    obtain ⟨rfl, rfl⟩ := so9 h
    exact hE _ _ _ _ hS (Or.inl rfl) dX9_is_18
  · have h := ip (c_3) h
    refine lv_iconst (v := 1) hx hb dX9_is_13 (by decide) ?_
    refine lv_goto (tgt := 18) hx hb dX9_is_14 (by decide) ?_
    obtain ⟨rfl, rfl⟩ := so9 h
    exact hE _ _ _ _ hS (Or.inr rfl) dX9_is_18
def F_X9_is (N : Nat) (l1 : Int32) (u : CSt) : Option (Int32 × CSt) := B_X9_is_0 N l1 u
set_option maxHeartbeats 4000000 in
theorem k_X9_is (l : Launch) (D : va_G) (kA : Nat → ClassId) (V Z : Nat → Nat) (N : Nat) (l1 : Int32) (u : CSt) (sz : Nat) {r : Int32} {w : CSt} (h : F_X9_is N l1 u = some (r, w)) : Met l yX9_is (Cond.code yX9_is cX9_is 2 (some .boolean) :: GW) { frames := 0, cells := 0, slots := 0, locals := 0 } (cPc D kA V Z [.ref (Z 202), .int l1] u sz) (cQi D kA Z u sz r w) 0 0 (va_A (CW kA Z u) sz) := by
  refine Met.ofW (cc := cX9_is) (maxL := 2) (ret := (some .boolean)) (by decide) rfl ?_
  intro p e s m args below meth c s₁ Bd hml hv
  obtain ⟨rfl, hsz, hP, hK, hD0, hE⟩ := hv
  have hts := atoms_spec (ws := Cond.code yX9_is cX9_is 2 (some .boolean) :: GW) Bd.pre
  have hl := lv_entry ([.ref (Z 202), .int l1]) (n := 2) (Nat.le_of_ble_eq_true rfl)
  rw [lg_entry_eq]
  generalize (lg_sl ([.ref (Z 202), .int l1]) ++ List.replicate (2 - (lg_sl ([.ref (Z 202), .int l1])).length) Slot.unset).toArray = ls at hl ⊢
  have hl : lv_has ls 2 [(0, .ref (Z 202)), (1, .int l1)] := hl
  subst hsz
  have X : CC p s m ([.ref (Z 202), .int l1]).toArray c cX9_is 2 (Cond.code yX9_is cX9_is 2 (some .boolean)) RX9 D kA V (va_A (CW kA Z u) s.heap.size) := ⟨⟨Bd.exec, Bd.bytes, hml, findClass_of_methodNamed Bd.named, hts⟩, hK, hE, fun q h => Or.inr h⟩
  refine b_X9_is_0 X (cend_z X Bd.returns Bd.notSynchronized) (Nat.le_refl _) (Nat.le_refl _) h  ⟨hP, hD0.self, va_S.rf⟩ (lv_sub hl [0, 1] rfl)
theorem kc_X9_is_RX0 {cc : ByteArray} {pc nL : Nat} {c0 : Cond} {rest : List Value} {l1 : Int32} {u w1 : CSt} {r : Int32} (X : CC p s m args c cc nL c0 RX0 D kA V A)  (hS : CS D kA Z A s u H locs) (h : F_X9_is N l1 u = some (r, w1)) (hF : 0 + 1 ≤ R.frames) (hL : 8 + (2 + 11) + 0 ≤ R.locals) (hl : ls.size = nL) (hc : (rest.map fun v => v.category).sum ≤ 8) (hdg : decode cc pc = .ok (.invokevirtual 24, 3)) (kk : ∀ H locs, CS D kA Z A s w1 H locs → W p l e R s m args below meth c H locs 0 0 Q (F0 m (pc + 3) ls (.int r :: rest))) : W p l e R s m args below meth c H locs 0 0 Q (F0 m pc ls (.int l1 :: .ref (Z 202) :: rest)) :=
  ccall_i (n := 1) X hS (k_X9_is l D kA V Z N l1  u H.size h) (gw_V gw_761 gw_762 gw_763 gw_2 gw_764) (by decide +kernel) (va_recv X.2.1 hS.1 (ci := 8) (q0 := 2) rfl (cw_lit rfl)) hF hL rfl hl hc rfl hdg kk
theorem kc_X9_is_RX3 {cc : ByteArray} {pc nL : Nat} {c0 : Cond} {rest : List Value} {l1 : Int32} {u w1 : CSt} {r : Int32} (X : CC p s m args c cc nL c0 RX3 D kA V A)  (hS : CS D kA Z A s u H locs) (h : F_X9_is N l1 u = some (r, w1)) (hF : 0 + 1 ≤ R.frames) (hL : 8 + (2 + 11) + 0 ≤ R.locals) (hl : ls.size = nL) (hc : (rest.map fun v => v.category).sum ≤ 8) (hdg : decode cc pc = .ok (.invokevirtual 65, 3)) (kk : ∀ H locs, CS D kA Z A s w1 H locs → W p l e R s m args below meth c H locs 0 0 Q (F0 m (pc + 3) ls (.int r :: rest))) : W p l e R s m args below meth c H locs 0 0 Q (F0 m pc ls (.int l1 :: .ref (Z 202) :: rest)) :=
  ccall_i (n := 1) X hS (k_X9_is l D kA V Z N l1  u H.size h) (gw_V gw_998 gw_762 gw_763 gw_2 gw_764) (by decide +kernel) (va_recv X.2.1 hS.1 (ci := 8) (q0 := 2) rfl (cw_lit rfl)) hF hL rfl hl hc rfl hdg kk
theorem kc_X9_is_RX8 {cc : ByteArray} {pc nL : Nat} {c0 : Cond} {rest : List Value} {l1 : Int32} {u w1 : CSt} {r : Int32} (X : CC p s m args c cc nL c0 RX8 D kA V A)  (hS : CS D kA Z A s u H locs) (h : F_X9_is N l1 u = some (r, w1)) (hF : 0 + 1 ≤ R.frames) (hL : 8 + (2 + 11) + 0 ≤ R.locals) (hl : ls.size = nL) (hc : (rest.map fun v => v.category).sum ≤ 8) (hdg : decode cc pc = .ok (.invokevirtual 114, 3)) (kk : ∀ H locs, CS D kA Z A s w1 H locs → W p l e R s m args below meth c H locs 0 0 Q (F0 m (pc + 3) ls (.int r :: rest))) : W p l e R s m args below meth c H locs 0 0 Q (F0 m pc ls (.int l1 :: .ref (Z 202) :: rest)) :=
  ccall_i (n := 1) X hS (k_X9_is l D kA V Z N l1  u H.size h) (gw_V gw_1142 gw_762 gw_763 gw_2 gw_764) (by decide +kernel) (va_recv X.2.1 hS.1 (ci := 8) (q0 := 2) rfl (cw_lit rfl)) hF hL rfl hl hc rfl hdg kk
def B_X9_isKindWord_0 (N : Nat) (u : CSt) : Option (Int32 × CSt) := rd (cA u 203) 1501 (cI u 5) fun v_2 => if v_2 < (12 : Int32) then (some (0, u)) else (rd (cA u 203) 1501 (cI u 5) fun v_5 => if (16 : Int32) < v_5 then (some (0, u)) else (some (1, u)))
set_option maxHeartbeats 4000000 in
theorem b_X9_isKindWord_0 {r : Int32} (X : CC p s m args c cX9_isKindWord 1 (Cond.code yX9_isKindWord cX9_isKindWord 1 (some .boolean)) RX9 D kA V A) (hE : CEz p l e R s m args below meth c cX9_isKindWord D kA Z A Q r w) (hF : 0 ≤ R.frames) (hL : 0 ≤ R.locals) {u : CSt}  (h : B_X9_isKindWord_0 N u = some (r, w))  (hS : CS D kA Z A s u H locs) (hl : lv_has ls 1 [(0, .ref (Z 202))]) : W p l e R s m args below meth c H locs 0 0 Q (F0 m 0 ls []) := by
  obtain ⟨⟨hx, hb, hml, hown, hts⟩, hK, hEV, hA⟩ := id X
  have hG : ∀ w ∈ GW, w.before args s = true := fun w h => hts w (List.mem_cons_of_mem _ h)
  unfold B_X9_isKindWord_0 at h
  refine lv_aload_n hx hb dX9_isKindWord_0 rfl (lv_at hl 0 rfl) ?_
  refine cg_X9_9 X hS dX9_isKindWord_1 ?_
  refine lv_aload_n hx hb dX9_isKindWord_4 rfl (lv_at hl 0 rfl) ?_
  refine cg_X9_53 X hS dX9_isKindWord_5 ?_
  obtain ⟨v_2, e_v_2, i_1, h⟩ := rd_of h
  refine ca_s203 X hS i_1 e_v_2 dX9_isKindWord_8 ?_
  refine lv_bipush (v := 12) hx hb dX9_isKindWord_9 (by decide) ?_
  refine lv_icmp_lt (tgt := 32) hx hb dX9_isKindWord_11 (by decide) (fun c_3 => ?_) (fun c_3 => ?_)
  · have h := ip (c_3) h
    refine lv_iconst (v := 0) hx hb dX9_isKindWord_32 (by decide) ?_
    obtain ⟨rfl, rfl⟩ := so9 h
    exact hE _ _ _ _ hS (Or.inl rfl) dX9_isKindWord_33
  · have h := im (c_3) h
    refine lv_aload_n hx hb dX9_isKindWord_14 rfl (lv_at hl 0 rfl) ?_
    refine cg_X9_9 X hS dX9_isKindWord_15 ?_
    refine lv_aload_n hx hb dX9_isKindWord_18 rfl (lv_at hl 0 rfl) ?_
    refine cg_X9_53 X hS dX9_isKindWord_19 ?_
    obtain ⟨v_5, e_v_5, i_4, h⟩ := rd_of h
    refine ca_s203 X hS i_4 e_v_5 dX9_isKindWord_22 ?_
    refine lv_bipush (v := 16) hx hb dX9_isKindWord_23 (by decide) ?_
    refine lv_icmp_gt (tgt := 32) hx hb dX9_isKindWord_25 (by decide) (fun c_6 => ?_) (fun c_6 => ?_)
    · have h := ip (c_6) h
      refine lv_iconst (v := 0) hx hb dX9_isKindWord_32 (by decide) ?_
      obtain ⟨rfl, rfl⟩ := so9 h
      exact hE _ _ _ _ hS (Or.inl rfl) dX9_isKindWord_33
    · have h := im (c_6) h
      refine lv_iconst (v := 1) hx hb dX9_isKindWord_28 (by decide) ?_
      refine lv_goto (tgt := 33) hx hb dX9_isKindWord_29 (by decide) ?_
      obtain ⟨rfl, rfl⟩ := so9 h
      exact hE _ _ _ _ hS (Or.inr rfl) dX9_isKindWord_33
def F_X9_isKindWord (N : Nat) (u : CSt) : Option (Int32 × CSt) := B_X9_isKindWord_0 N u
set_option maxHeartbeats 4000000 in
theorem k_X9_isKindWord (l : Launch) (D : va_G) (kA : Nat → ClassId) (V Z : Nat → Nat) (N : Nat) (u : CSt) (sz : Nat) {r : Int32} {w : CSt} (h : F_X9_isKindWord N u = some (r, w)) : Met l yX9_isKindWord (Cond.code yX9_isKindWord cX9_isKindWord 1 (some .boolean) :: GW) { frames := 0, cells := 0, slots := 0, locals := 0 } (cPc D kA V Z [.ref (Z 202)] u sz) (cQi D kA Z u sz r w) 0 0 (va_A (CW kA Z u) sz) := by
  refine Met.ofW (cc := cX9_isKindWord) (maxL := 1) (ret := (some .boolean)) (by decide) rfl ?_
  intro p e s m args below meth c s₁ Bd hml hv
  obtain ⟨rfl, hsz, hP, hK, hD0, hE⟩ := hv
  have hts := atoms_spec (ws := Cond.code yX9_isKindWord cX9_isKindWord 1 (some .boolean) :: GW) Bd.pre
  have hl := lv_entry ([.ref (Z 202)]) (n := 1) (Nat.le_of_ble_eq_true rfl)
  rw [lg_entry_eq]
  generalize (lg_sl ([.ref (Z 202)]) ++ List.replicate (1 - (lg_sl ([.ref (Z 202)])).length) Slot.unset).toArray = ls at hl ⊢
  have hl : lv_has ls 1 [(0, .ref (Z 202))] := hl
  subst hsz
  have X : CC p s m ([.ref (Z 202)]).toArray c cX9_isKindWord 1 (Cond.code yX9_isKindWord cX9_isKindWord 1 (some .boolean)) RX9 D kA V (va_A (CW kA Z u) s.heap.size) := ⟨⟨Bd.exec, Bd.bytes, hml, findClass_of_methodNamed Bd.named, hts⟩, hK, hE, fun q h => Or.inr h⟩
  refine b_X9_isKindWord_0 X (cend_z X Bd.returns Bd.notSynchronized) (Nat.le_refl _) (Nat.le_refl _) h  ⟨hP, hD0.self, va_S.rf⟩ (lv_sub hl [0] rfl)
theorem kc_X9_isKindWord_RX0 {cc : ByteArray} {pc nL : Nat} {c0 : Cond} {rest : List Value} {u w1 : CSt} {r : Int32} (X : CC p s m args c cc nL c0 RX0 D kA V A)  (hS : CS D kA Z A s u H locs) (h : F_X9_isKindWord N u = some (r, w1)) (hF : 0 + 1 ≤ R.frames) (hL : 8 + (1 + 11) + 0 ≤ R.locals) (hl : ls.size = nL) (hc : (rest.map fun v => v.category).sum ≤ 8) (hdg : decode cc pc = .ok (.invokevirtual 56, 3)) (kk : ∀ H locs, CS D kA Z A s w1 H locs → W p l e R s m args below meth c H locs 0 0 Q (F0 m (pc + 3) ls (.int r :: rest))) : W p l e R s m args below meth c H locs 0 0 Q (F0 m pc ls (.ref (Z 202) :: rest)) :=
  ccall_i (n := 0) X hS (k_X9_isKindWord l D kA V Z N   u H.size h) (gw_V gw_781 gw_782 gw_783 gw_2 gw_784) (by decide +kernel) (va_recv X.2.1 hS.1 (ci := 8) (q0 := 2) rfl (cw_lit rfl)) hF hL rfl hl hc rfl hdg kk
theorem kc_X9_isKindWord_RX8 {cc : ByteArray} {pc nL : Nat} {c0 : Cond} {rest : List Value} {u w1 : CSt} {r : Int32} (X : CC p s m args c cc nL c0 RX8 D kA V A)  (hS : CS D kA Z A s u H locs) (h : F_X9_isKindWord N u = some (r, w1)) (hF : 0 + 1 ≤ R.frames) (hL : 8 + (1 + 11) + 0 ≤ R.locals) (hl : ls.size = nL) (hc : (rest.map fun v => v.category).sum ≤ 8) (hdg : decode cc pc = .ok (.invokevirtual 193, 3)) (kk : ∀ H locs, CS D kA Z A s w1 H locs → W p l e R s m args below meth c H locs 0 0 Q (F0 m (pc + 3) ls (.int r :: rest))) : W p l e R s m args below meth c H locs 0 0 Q (F0 m pc ls (.ref (Z 202) :: rest)) :=
  ccall_i (n := 0) X hS (k_X9_isKindWord l D kA V Z N   u H.size h) (gw_V gw_1152 gw_782 gw_783 gw_2 gw_784) (by decide +kernel) (va_recv X.2.1 hS.1 (ci := 8) (q0 := 2) rfl (cw_lit rfl)) hF hL rfl hl hc rfl hdg kk
def B_X9_here_0 (N : Nat) (u : CSt) : Option (Int32 × CSt) := rd (cA u 204) 1501 (cI u 5) fun v_2 => some (v_2, u)
set_option maxHeartbeats 4000000 in
theorem b_X9_here_0 {r : Int32} (X : CC p s m args c cX9_here 1 (Cond.code yX9_here cX9_here 1 (some .int)) RX9 D kA V A) (hE : CEi p l e R s m args below meth c cX9_here D kA Z A Q r w) (hF : 0 ≤ R.frames) (hL : 0 ≤ R.locals) {u : CSt}  (h : B_X9_here_0 N u = some (r, w))  (hS : CS D kA Z A s u H locs) (hl : lv_has ls 1 [(0, .ref (Z 202))]) : W p l e R s m args below meth c H locs 0 0 Q (F0 m 0 ls []) := by
  obtain ⟨⟨hx, hb, hml, hown, hts⟩, hK, hEV, hA⟩ := id X
  have hG : ∀ w ∈ GW, w.before args s = true := fun w h => hts w (List.mem_cons_of_mem _ h)
  unfold B_X9_here_0 at h
  refine lv_aload_n hx hb dX9_here_0 rfl (lv_at hl 0 rfl) ?_
  refine cg_X9_15 X hS dX9_here_1 ?_
  refine lv_aload_n hx hb dX9_here_4 rfl (lv_at hl 0 rfl) ?_
  refine cg_X9_53 X hS dX9_here_5 ?_
  obtain ⟨v_2, e_v_2, i_1, h⟩ := rd_of h
  refine ca_s204 X hS i_1 e_v_2 dX9_here_8 ?_
  obtain ⟨rfl, rfl⟩ := so9 h
  exact hE _ _ _ _ hS dX9_here_9
def F_X9_here (N : Nat) (u : CSt) : Option (Int32 × CSt) := B_X9_here_0 N u
set_option maxHeartbeats 4000000 in
theorem k_X9_here (l : Launch) (D : va_G) (kA : Nat → ClassId) (V Z : Nat → Nat) (N : Nat) (u : CSt) (sz : Nat) {r : Int32} {w : CSt} (h : F_X9_here N u = some (r, w)) : Met l yX9_here (Cond.code yX9_here cX9_here 1 (some .int) :: GW) { frames := 0, cells := 0, slots := 0, locals := 0 } (cPc D kA V Z [.ref (Z 202)] u sz) (cQi D kA Z u sz r w) 0 0 (va_A (CW kA Z u) sz) := by
  refine Met.ofW (cc := cX9_here) (maxL := 1) (ret := (some .int)) (by decide) rfl ?_
  intro p e s m args below meth c s₁ Bd hml hv
  obtain ⟨rfl, hsz, hP, hK, hD0, hE⟩ := hv
  have hts := atoms_spec (ws := Cond.code yX9_here cX9_here 1 (some .int) :: GW) Bd.pre
  have hl := lv_entry ([.ref (Z 202)]) (n := 1) (Nat.le_of_ble_eq_true rfl)
  rw [lg_entry_eq]
  generalize (lg_sl ([.ref (Z 202)]) ++ List.replicate (1 - (lg_sl ([.ref (Z 202)])).length) Slot.unset).toArray = ls at hl ⊢
  have hl : lv_has ls 1 [(0, .ref (Z 202))] := hl
  subst hsz
  have X : CC p s m ([.ref (Z 202)]).toArray c cX9_here 1 (Cond.code yX9_here cX9_here 1 (some .int)) RX9 D kA V (va_A (CW kA Z u) s.heap.size) := ⟨⟨Bd.exec, Bd.bytes, hml, findClass_of_methodNamed Bd.named, hts⟩, hK, hE, fun q h => Or.inr h⟩
  refine b_X9_here_0 X (cend_i X Bd.returns Bd.notSynchronized) (Nat.le_refl _) (Nat.le_refl _) h  ⟨hP, hD0.self, va_S.rf⟩ (lv_sub hl [0] rfl)
theorem kc_X9_here_RX3 {cc : ByteArray} {pc nL : Nat} {c0 : Cond} {rest : List Value} {u w1 : CSt} {r : Int32} (X : CC p s m args c cc nL c0 RX3 D kA V A)  (hS : CS D kA Z A s u H locs) (h : F_X9_here N u = some (r, w1)) (hF : 0 + 1 ≤ R.frames) (hL : 8 + (1 + 11) + 0 ≤ R.locals) (hl : ls.size = nL) (hc : (rest.map fun v => v.category).sum ≤ 8) (hdg : decode cc pc = .ok (.invokevirtual 96, 3)) (kk : ∀ H locs, CS D kA Z A s w1 H locs → W p l e R s m args below meth c H locs 0 0 Q (F0 m (pc + 3) ls (.int r :: rest))) : W p l e R s m args below meth c H locs 0 0 Q (F0 m pc ls (.ref (Z 202) :: rest)) :=
  ccall_i (n := 0) X hS (k_X9_here l D kA V Z N   u H.size h) (gw_V gw_1013 gw_1014 gw_1015 gw_2 gw_1016) (by decide +kernel) (va_recv X.2.1 hS.1 (ci := 8) (q0 := 2) rfl (cw_lit rfl)) hF hL rfl hl hc rfl hdg kk
theorem kc_X9_here_RX8 {cc : ByteArray} {pc nL : Nat} {c0 : Cond} {rest : List Value} {u w1 : CSt} {r : Int32} (X : CC p s m args c cc nL c0 RX8 D kA V A)  (hS : CS D kA Z A s u H locs) (h : F_X9_here N u = some (r, w1)) (hF : 0 + 1 ≤ R.frames) (hL : 8 + (1 + 11) + 0 ≤ R.locals) (hl : ls.size = nL) (hc : (rest.map fun v => v.category).sum ≤ 8) (hdg : decode cc pc = .ok (.invokevirtual 76, 3)) (kk : ∀ H locs, CS D kA Z A s w1 H locs → W p l e R s m args below meth c H locs 0 0 Q (F0 m (pc + 3) ls (.int r :: rest))) : W p l e R s m args below meth c H locs 0 0 Q (F0 m pc ls (.ref (Z 202) :: rest)) :=
  ccall_i (n := 0) X hS (k_X9_here l D kA V Z N   u H.size h) (gw_V gw_1134 gw_1014 gw_1015 gw_2 gw_1016) (by decide +kernel) (va_recv X.2.1 hS.1 (ci := 8) (q0 := 2) rfl (cw_lit rfl)) hF hL rfl hl hc rfl hdg kk
def B_X9_head_0 (N : Nat) (u : CSt) : Option (Int64 × CSt) := rd (cB u 205) 1501 (cI u 5) fun v_2 => some (v_2, u)
set_option maxHeartbeats 4000000 in
theorem b_X9_head_0 {r : Int64} (X : CC p s m args c cX9_head 1 (Cond.code yX9_head cX9_head 1 (some .long)) RX9 D kA V A) (hE : CEl p l e R s m args below meth c cX9_head D kA Z A Q r w) (hF : 0 ≤ R.frames) (hL : 0 ≤ R.locals) {u : CSt}  (h : B_X9_head_0 N u = some (r, w))  (hS : CS D kA Z A s u H locs) (hl : lv_has ls 1 [(0, .ref (Z 202))]) : W p l e R s m args below meth c H locs 0 0 Q (F0 m 0 ls []) := by
  obtain ⟨⟨hx, hb, hml, hown, hts⟩, hK, hEV, hA⟩ := id X
  have hG : ∀ w ∈ GW, w.before args s = true := fun w h => hts w (List.mem_cons_of_mem _ h)
  unfold B_X9_head_0 at h
  refine lv_aload_n hx hb dX9_head_0 rfl (lv_at hl 0 rfl) ?_
  refine cg_X9_18 X hS dX9_head_1 ?_
  refine lv_aload_n hx hb dX9_head_4 rfl (lv_at hl 0 rfl) ?_
  refine cg_X9_53 X hS dX9_head_5 ?_
  obtain ⟨v_2, e_v_2, i_1, h⟩ := rd_of h
  refine ca_s205 X hS i_1 e_v_2 dX9_head_8 ?_
  obtain ⟨rfl, rfl⟩ := so9 h
  exact hE _ _ _ _ hS dX9_head_9
def F_X9_head (N : Nat) (u : CSt) : Option (Int64 × CSt) := B_X9_head_0 N u
set_option maxHeartbeats 4000000 in
theorem k_X9_head (l : Launch) (D : va_G) (kA : Nat → ClassId) (V Z : Nat → Nat) (N : Nat) (u : CSt) (sz : Nat) {r : Int64} {w : CSt} (h : F_X9_head N u = some (r, w)) : Met l yX9_head (Cond.code yX9_head cX9_head 1 (some .long) :: GW) { frames := 0, cells := 0, slots := 0, locals := 0 } (cPc D kA V Z [.ref (Z 202)] u sz) (cQl D kA Z u sz r w) 0 0 (va_A (CW kA Z u) sz) := by
  refine Met.ofW (cc := cX9_head) (maxL := 1) (ret := (some .long)) (by decide) rfl ?_
  intro p e s m args below meth c s₁ Bd hml hv
  obtain ⟨rfl, hsz, hP, hK, hD0, hE⟩ := hv
  have hts := atoms_spec (ws := Cond.code yX9_head cX9_head 1 (some .long) :: GW) Bd.pre
  have hl := lv_entry ([.ref (Z 202)]) (n := 1) (Nat.le_of_ble_eq_true rfl)
  rw [lg_entry_eq]
  generalize (lg_sl ([.ref (Z 202)]) ++ List.replicate (1 - (lg_sl ([.ref (Z 202)])).length) Slot.unset).toArray = ls at hl ⊢
  have hl : lv_has ls 1 [(0, .ref (Z 202))] := hl
  subst hsz
  have X : CC p s m ([.ref (Z 202)]).toArray c cX9_head 1 (Cond.code yX9_head cX9_head 1 (some .long)) RX9 D kA V (va_A (CW kA Z u) s.heap.size) := ⟨⟨Bd.exec, Bd.bytes, hml, findClass_of_methodNamed Bd.named, hts⟩, hK, hE, fun q h => Or.inr h⟩
  refine b_X9_head_0 X (cend_l X Bd.returns Bd.notSynchronized) (Nat.le_refl _) (Nat.le_refl _) h  ⟨hP, hD0.self, va_S.rf⟩ (lv_sub hl [0] rfl)
theorem kc_X9_head_RX3 {cc : ByteArray} {pc nL : Nat} {c0 : Cond} {rest : List Value} {u w1 : CSt} {r : Int64} (X : CC p s m args c cc nL c0 RX3 D kA V A)  (hS : CS D kA Z A s u H locs) (h : F_X9_head N u = some (r, w1)) (hF : 0 + 1 ≤ R.frames) (hL : 8 + (1 + 11) + 0 ≤ R.locals) (hl : ls.size = nL) (hc : (rest.map fun v => v.category).sum ≤ 8) (hdg : decode cc pc = .ok (.invokevirtual 99, 3)) (kk : ∀ H locs, CS D kA Z A s w1 H locs → W p l e R s m args below meth c H locs 0 0 Q (F0 m (pc + 3) ls (.long r :: rest))) : W p l e R s m args below meth c H locs 0 0 Q (F0 m pc ls (.ref (Z 202) :: rest)) :=
  ccall_l (n := 0) X hS (k_X9_head l D kA V Z N   u H.size h) (gw_V gw_1021 gw_1022 gw_1023 gw_2 gw_1024) (by decide +kernel) (va_recv X.2.1 hS.1 (ci := 8) (q0 := 2) rfl (cw_lit rfl)) hF hL rfl hl hc rfl hdg kk
theorem kc_X9_head_RX8 {cc : ByteArray} {pc nL : Nat} {c0 : Cond} {rest : List Value} {u w1 : CSt} {r : Int64} (X : CC p s m args c cc nL c0 RX8 D kA V A)  (hS : CS D kA Z A s u H locs) (h : F_X9_head N u = some (r, w1)) (hF : 0 + 1 ≤ R.frames) (hL : 8 + (1 + 11) + 0 ≤ R.locals) (hl : ls.size = nL) (hc : (rest.map fun v => v.category).sum ≤ 8) (hdg : decode cc pc = .ok (.invokevirtual 36, 3)) (kk : ∀ H locs, CS D kA Z A s w1 H locs → W p l e R s m args below meth c H locs 0 0 Q (F0 m (pc + 3) ls (.long r :: rest))) : W p l e R s m args below meth c H locs 0 0 Q (F0 m pc ls (.ref (Z 202) :: rest)) :=
  ccall_l (n := 0) X hS (k_X9_head l D kA V Z N   u H.size h) (gw_V gw_1178 gw_1022 gw_1023 gw_2 gw_1024) (by decide +kernel) (va_recv X.2.1 hS.1 (ci := 8) (q0 := 2) rfl (cw_lit rfl)) hF hL rfl hl hc rfl hdg kk
def B_X9_tail_0 (N : Nat) (u : CSt) : Option (Int32 × CSt) := rd (cA u 206) 1501 (cI u 5) fun v_2 => some (v_2, u)
set_option maxHeartbeats 4000000 in
theorem b_X9_tail_0 {r : Int32} (X : CC p s m args c cX9_tail 1 (Cond.code yX9_tail cX9_tail 1 (some .int)) RX9 D kA V A) (hE : CEi p l e R s m args below meth c cX9_tail D kA Z A Q r w) (hF : 0 ≤ R.frames) (hL : 0 ≤ R.locals) {u : CSt}  (h : B_X9_tail_0 N u = some (r, w))  (hS : CS D kA Z A s u H locs) (hl : lv_has ls 1 [(0, .ref (Z 202))]) : W p l e R s m args below meth c H locs 0 0 Q (F0 m 0 ls []) := by
  obtain ⟨⟨hx, hb, hml, hown, hts⟩, hK, hEV, hA⟩ := id X
  have hG : ∀ w ∈ GW, w.before args s = true := fun w h => hts w (List.mem_cons_of_mem _ h)
  unfold B_X9_tail_0 at h
  refine lv_aload_n hx hb dX9_tail_0 rfl (lv_at hl 0 rfl) ?_
  refine cg_X9_22 X hS dX9_tail_1 ?_
  refine lv_aload_n hx hb dX9_tail_4 rfl (lv_at hl 0 rfl) ?_
  refine cg_X9_53 X hS dX9_tail_5 ?_
  obtain ⟨v_2, e_v_2, i_1, h⟩ := rd_of h
  refine ca_s206 X hS i_1 e_v_2 dX9_tail_8 ?_
  obtain ⟨rfl, rfl⟩ := so9 h
  exact hE _ _ _ _ hS dX9_tail_9
def F_X9_tail (N : Nat) (u : CSt) : Option (Int32 × CSt) := B_X9_tail_0 N u
set_option maxHeartbeats 4000000 in
theorem k_X9_tail (l : Launch) (D : va_G) (kA : Nat → ClassId) (V Z : Nat → Nat) (N : Nat) (u : CSt) (sz : Nat) {r : Int32} {w : CSt} (h : F_X9_tail N u = some (r, w)) : Met l yX9_tail (Cond.code yX9_tail cX9_tail 1 (some .int) :: GW) { frames := 0, cells := 0, slots := 0, locals := 0 } (cPc D kA V Z [.ref (Z 202)] u sz) (cQi D kA Z u sz r w) 0 0 (va_A (CW kA Z u) sz) := by
  refine Met.ofW (cc := cX9_tail) (maxL := 1) (ret := (some .int)) (by decide) rfl ?_
  intro p e s m args below meth c s₁ Bd hml hv
  obtain ⟨rfl, hsz, hP, hK, hD0, hE⟩ := hv
  have hts := atoms_spec (ws := Cond.code yX9_tail cX9_tail 1 (some .int) :: GW) Bd.pre
  have hl := lv_entry ([.ref (Z 202)]) (n := 1) (Nat.le_of_ble_eq_true rfl)
  rw [lg_entry_eq]
  generalize (lg_sl ([.ref (Z 202)]) ++ List.replicate (1 - (lg_sl ([.ref (Z 202)])).length) Slot.unset).toArray = ls at hl ⊢
  have hl : lv_has ls 1 [(0, .ref (Z 202))] := hl
  subst hsz
  have X : CC p s m ([.ref (Z 202)]).toArray c cX9_tail 1 (Cond.code yX9_tail cX9_tail 1 (some .int)) RX9 D kA V (va_A (CW kA Z u) s.heap.size) := ⟨⟨Bd.exec, Bd.bytes, hml, findClass_of_methodNamed Bd.named, hts⟩, hK, hE, fun q h => Or.inr h⟩
  refine b_X9_tail_0 X (cend_i X Bd.returns Bd.notSynchronized) (Nat.le_refl _) (Nat.le_refl _) h  ⟨hP, hD0.self, va_S.rf⟩ (lv_sub hl [0] rfl)
theorem kc_X9_tail_RX3 {cc : ByteArray} {pc nL : Nat} {c0 : Cond} {rest : List Value} {u w1 : CSt} {r : Int32} (X : CC p s m args c cc nL c0 RX3 D kA V A)  (hS : CS D kA Z A s u H locs) (h : F_X9_tail N u = some (r, w1)) (hF : 0 + 1 ≤ R.frames) (hL : 8 + (1 + 11) + 0 ≤ R.locals) (hl : ls.size = nL) (hc : (rest.map fun v => v.category).sum ≤ 8) (hdg : decode cc pc = .ok (.invokevirtual 103, 3)) (kk : ∀ H locs, CS D kA Z A s w1 H locs → W p l e R s m args below meth c H locs 0 0 Q (F0 m (pc + 3) ls (.int r :: rest))) : W p l e R s m args below meth c H locs 0 0 Q (F0 m pc ls (.ref (Z 202) :: rest)) :=
  ccall_i (n := 0) X hS (k_X9_tail l D kA V Z N   u H.size h) (gw_V gw_1025 gw_1026 gw_1027 gw_2 gw_1028) (by decide +kernel) (va_recv X.2.1 hS.1 (ci := 8) (q0 := 2) rfl (cw_lit rfl)) hF hL rfl hl hc rfl hdg kk
theorem kc_X9_tail_RX8 {cc : ByteArray} {pc nL : Nat} {c0 : Cond} {rest : List Value} {u w1 : CSt} {r : Int32} (X : CC p s m args c cc nL c0 RX8 D kA V A)  (hS : CS D kA Z A s u H locs) (h : F_X9_tail N u = some (r, w1)) (hF : 0 + 1 ≤ R.frames) (hL : 8 + (1 + 11) + 0 ≤ R.locals) (hl : ls.size = nL) (hc : (rest.map fun v => v.category).sum ≤ 8) (hdg : decode cc pc = .ok (.invokevirtual 42, 3)) (kk : ∀ H locs, CS D kA Z A s w1 H locs → W p l e R s m args below meth c H locs 0 0 Q (F0 m (pc + 3) ls (.int r :: rest))) : W p l e R s m args below meth c H locs 0 0 Q (F0 m pc ls (.ref (Z 202) :: rest)) :=
  ccall_i (n := 0) X hS (k_X9_tail l D kA V Z N   u H.size h) (gw_V gw_1179 gw_1026 gw_1027 gw_2 gw_1028) (by decide +kernel) (va_recv X.2.1 hS.1 (ci := 8) (q0 := 2) rfl (cw_lit rfl)) hF hL rfl hl hc rfl hdg kk
def B_X9_isWide_0 (N : Nat) (u : CSt) : Option (Int32 × CSt) := rd (cA u 206) 1501 (cI u 5) fun v_2 => if (v_2 &&& 1) = (0 : Int32) then (some (0, u)) else (some (1, u))
set_option maxHeartbeats 4000000 in
theorem b_X9_isWide_0 {r : Int32} (X : CC p s m args c cX9_isWide 1 (Cond.code yX9_isWide cX9_isWide 1 (some .boolean)) RX9 D kA V A) (hE : CEz p l e R s m args below meth c cX9_isWide D kA Z A Q r w) (hF : 0 ≤ R.frames) (hL : 0 ≤ R.locals) {u : CSt}  (h : B_X9_isWide_0 N u = some (r, w))  (hS : CS D kA Z A s u H locs) (hl : lv_has ls 1 [(0, .ref (Z 202))]) : W p l e R s m args below meth c H locs 0 0 Q (F0 m 0 ls []) := by
  obtain ⟨⟨hx, hb, hml, hown, hts⟩, hK, hEV, hA⟩ := id X
  have hG : ∀ w ∈ GW, w.before args s = true := fun w h => hts w (List.mem_cons_of_mem _ h)
  unfold B_X9_isWide_0 at h
  refine lv_aload_n hx hb dX9_isWide_0 rfl (lv_at hl 0 rfl) ?_
  refine cg_X9_22 X hS dX9_isWide_1 ?_
  refine lv_aload_n hx hb dX9_isWide_4 rfl (lv_at hl 0 rfl) ?_
  refine cg_X9_53 X hS dX9_isWide_5 ?_
  obtain ⟨v_2, e_v_2, i_1, h⟩ := rd_of h
  refine ca_s206 X hS i_1 e_v_2 dX9_isWide_8 ?_
  refine lv_iconst (v := 1) hx hb dX9_isWide_9 (by decide) ?_
  refine lv_iand hx hb dX9_isWide_10 ?_
  refine lv_if_eq (tgt := 18) hx hb dX9_isWide_11 (by decide) (fun c_3 => ?_) (fun c_3 => ?_)
  · have h := ip (c_3) h
    refine lv_iconst (v := 0) hx hb dX9_isWide_18 (by decide) ?_
    obtain ⟨rfl, rfl⟩ := so9 h
    exact hE _ _ _ _ hS (Or.inl rfl) dX9_isWide_19
  · have h := im (c_3) h
    refine lv_iconst (v := 1) hx hb dX9_isWide_14 (by decide) ?_
    refine lv_goto (tgt := 19) hx hb dX9_isWide_15 (by decide) ?_
    obtain ⟨rfl, rfl⟩ := so9 h
    exact hE _ _ _ _ hS (Or.inr rfl) dX9_isWide_19
def F_X9_isWide (N : Nat) (u : CSt) : Option (Int32 × CSt) := B_X9_isWide_0 N u
set_option maxHeartbeats 4000000 in
theorem k_X9_isWide (l : Launch) (D : va_G) (kA : Nat → ClassId) (V Z : Nat → Nat) (N : Nat) (u : CSt) (sz : Nat) {r : Int32} {w : CSt} (h : F_X9_isWide N u = some (r, w)) : Met l yX9_isWide (Cond.code yX9_isWide cX9_isWide 1 (some .boolean) :: GW) { frames := 0, cells := 0, slots := 0, locals := 0 } (cPc D kA V Z [.ref (Z 202)] u sz) (cQi D kA Z u sz r w) 0 0 (va_A (CW kA Z u) sz) := by
  refine Met.ofW (cc := cX9_isWide) (maxL := 1) (ret := (some .boolean)) (by decide) rfl ?_
  intro p e s m args below meth c s₁ Bd hml hv
  obtain ⟨rfl, hsz, hP, hK, hD0, hE⟩ := hv
  have hts := atoms_spec (ws := Cond.code yX9_isWide cX9_isWide 1 (some .boolean) :: GW) Bd.pre
  have hl := lv_entry ([.ref (Z 202)]) (n := 1) (Nat.le_of_ble_eq_true rfl)
  rw [lg_entry_eq]
  generalize (lg_sl ([.ref (Z 202)]) ++ List.replicate (1 - (lg_sl ([.ref (Z 202)])).length) Slot.unset).toArray = ls at hl ⊢
  have hl : lv_has ls 1 [(0, .ref (Z 202))] := hl
  subst hsz
  have X : CC p s m ([.ref (Z 202)]).toArray c cX9_isWide 1 (Cond.code yX9_isWide cX9_isWide 1 (some .boolean)) RX9 D kA V (va_A (CW kA Z u) s.heap.size) := ⟨⟨Bd.exec, Bd.bytes, hml, findClass_of_methodNamed Bd.named, hts⟩, hK, hE, fun q h => Or.inr h⟩
  refine b_X9_isWide_0 X (cend_z X Bd.returns Bd.notSynchronized) (Nat.le_refl _) (Nat.le_refl _) h  ⟨hP, hD0.self, va_S.rf⟩ (lv_sub hl [0] rfl)
theorem kc_X9_isWide_RX3 {cc : ByteArray} {pc nL : Nat} {c0 : Cond} {rest : List Value} {u w1 : CSt} {r : Int32} (X : CC p s m args c cc nL c0 RX3 D kA V A)  (hS : CS D kA Z A s u H locs) (h : F_X9_isWide N u = some (r, w1)) (hF : 0 + 1 ≤ R.frames) (hL : 8 + (1 + 11) + 0 ≤ R.locals) (hl : ls.size = nL) (hc : (rest.map fun v => v.category).sum ≤ 8) (hdg : decode cc pc = .ok (.invokevirtual 180, 3)) (kk : ∀ H locs, CS D kA Z A s w1 H locs → W p l e R s m args below meth c H locs 0 0 Q (F0 m (pc + 3) ls (.int r :: rest))) : W p l e R s m args below meth c H locs 0 0 Q (F0 m pc ls (.ref (Z 202) :: rest)) :=
  ccall_i (n := 0) X hS (k_X9_isWide l D kA V Z N   u H.size h) (gw_V gw_1062 gw_1063 gw_1064 gw_2 gw_1065) (by decide +kernel) (va_recv X.2.1 hS.1 (ci := 8) (q0 := 2) rfl (cw_lit rfl)) hF hL rfl hl hc rfl hdg kk
theorem kc_X9_isWide_RX8 {cc : ByteArray} {pc nL : Nat} {c0 : Cond} {rest : List Value} {u w1 : CSt} {r : Int32} (X : CC p s m args c cc nL c0 RX8 D kA V A)  (hS : CS D kA Z A s u H locs) (h : F_X9_isWide N u = some (r, w1)) (hF : 0 + 1 ≤ R.frames) (hL : 8 + (1 + 11) + 0 ≤ R.locals) (hl : ls.size = nL) (hc : (rest.map fun v => v.category).sum ≤ 8) (hdg : decode cc pc = .ok (.invokevirtual 177, 3)) (kk : ∀ H locs, CS D kA Z A s w1 H locs → W p l e R s m args below meth c H locs 0 0 Q (F0 m (pc + 3) ls (.int r :: rest))) : W p l e R s m args below meth c H locs 0 0 Q (F0 m pc ls (.ref (Z 202) :: rest)) :=
  ccall_i (n := 0) X hS (k_X9_isWide l D kA V Z N   u H.size h) (gw_V gw_1159 gw_1063 gw_1064 gw_2 gw_1065) (by decide +kernel) (va_recv X.2.1 hS.1 (ci := 8) (q0 := 2) rfl (cw_lit rfl)) hF hL rfl hl hc rfl hdg kk
def B_X9_next_0 (N : Nat) (u : CSt) : Option (Int32 × CSt) := if (cI u 4) ≤ (cI u 5) then (some (0, u)) else (pc (xI u 5 ((cI u 5) + 1)) fun u_2 => some (0, u_2))
set_option maxHeartbeats 4000000 in
theorem b_X9_next_0 {r : Int32} (X : CC p s m args c cX9_next 1 (Cond.code yX9_next cX9_next 1 none) RX9 D kA V A) (hE : CEv p l e R s m args below meth c cX9_next D kA Z A Q w) (hF : 0 ≤ R.frames) (hL : 0 ≤ R.locals) {u : CSt}  (h : B_X9_next_0 N u = some (r, w))  (hS : CS D kA Z A s u H locs) (hl : lv_has ls 1 [(0, .ref (Z 202))]) : W p l e R s m args below meth c H locs 0 0 Q (F0 m 0 ls []) := by
  obtain ⟨⟨hx, hb, hml, hown, hts⟩, hK, hEV, hA⟩ := id X
  have hG : ∀ w ∈ GW, w.before args s = true := fun w h => hts w (List.mem_cons_of_mem _ h)
  unfold B_X9_next_0 at h
  refine lv_aload_n hx hb dX9_next_0 rfl (lv_at hl 0 rfl) ?_
  refine cg_X9_53 X hS dX9_next_1 ?_
  refine lv_aload_n hx hb dX9_next_4 rfl (lv_at hl 0 rfl) ?_
  refine cg_X9_50 X hS dX9_next_5 ?_
  refine lv_icmp_ge (tgt := 21) hx hb dX9_next_8 (by decide) (fun c_1 => ?_) (fun c_1 => ?_)
  · have h := ip (c_1) h
    obtain ⟨-, rfl⟩ := so9 h
    exact hE _ _ _ _ hS dX9_next_21
  · have h := im (c_1) h
    refine lv_aload_n hx hb dX9_next_11 rfl (lv_at hl 0 rfl) ?_
    refine lv_dup hx hb dX9_next_12 rfl ?_
    refine cg_X9_53 X hS dX9_next_13 ?_
    refine lv_iconst (v := 1) hx hb dX9_next_16 (by decide) ?_
    refine lv_iadd hx hb dX9_next_17 ?_
    obtain ⟨u_2, e_u_2, h⟩ := pc_of h
    refine cp_X9_53 X hS e_u_2 dX9_next_18 (fun H locs hS => ?_)
    obtain ⟨-, rfl⟩ := so9 h
    exact hE _ _ _ _ hS dX9_next_21
def F_X9_next (N : Nat) (u : CSt) : Option (Int32 × CSt) := B_X9_next_0 N u
set_option maxHeartbeats 4000000 in
theorem k_X9_next (l : Launch) (D : va_G) (kA : Nat → ClassId) (V Z : Nat → Nat) (N : Nat) (u : CSt) (sz : Nat) {r : Int32} {w : CSt} (h : F_X9_next N u = some (r, w)) : Met l yX9_next (Cond.code yX9_next cX9_next 1 none :: GW) { frames := 0, cells := 0, slots := 0, locals := 0 } (cPc D kA V Z [.ref (Z 202)] u sz) (cQv D kA Z u sz w) 0 0 (va_A (CW kA Z u) sz) := by
  refine Met.ofW (cc := cX9_next) (maxL := 1) (ret := none) (by decide) rfl ?_
  intro p e s m args below meth c s₁ Bd hml hv
  obtain ⟨rfl, hsz, hP, hK, hD0, hE⟩ := hv
  have hts := atoms_spec (ws := Cond.code yX9_next cX9_next 1 none :: GW) Bd.pre
  have hl := lv_entry ([.ref (Z 202)]) (n := 1) (Nat.le_of_ble_eq_true rfl)
  rw [lg_entry_eq]
  generalize (lg_sl ([.ref (Z 202)]) ++ List.replicate (1 - (lg_sl ([.ref (Z 202)])).length) Slot.unset).toArray = ls at hl ⊢
  have hl : lv_has ls 1 [(0, .ref (Z 202))] := hl
  subst hsz
  have X : CC p s m ([.ref (Z 202)]).toArray c cX9_next 1 (Cond.code yX9_next cX9_next 1 none) RX9 D kA V (va_A (CW kA Z u) s.heap.size) := ⟨⟨Bd.exec, Bd.bytes, hml, findClass_of_methodNamed Bd.named, hts⟩, hK, hE, fun q h => Or.inr h⟩
  refine b_X9_next_0 X (cend_v X Bd.returns Bd.notSynchronized) (Nat.le_refl _) (Nat.le_refl _) h  ⟨hP, hD0.self, va_S.rf⟩ (lv_sub hl [0] rfl)
theorem kc_X9_next_RX0 {cc : ByteArray} {pc nL : Nat} {c0 : Cond} {rest : List Value} {u w1 : CSt} {r : Int32} (X : CC p s m args c cc nL c0 RX0 D kA V A)  (hS : CS D kA Z A s u H locs) (h : F_X9_next N u = some (r, w1)) (hF : 0 + 1 ≤ R.frames) (hL : 8 + (1 + 11) + 0 ≤ R.locals) (hl : ls.size = nL) (hc : (rest.map fun v => v.category).sum ≤ 8) (hdg : decode cc pc = .ok (.invokevirtual 38, 3)) (kk : ∀ H locs, CS D kA Z A s w1 H locs → W p l e R s m args below meth c H locs 0 0 Q (F0 m (pc + 3) ls (rest))) : W p l e R s m args below meth c H locs 0 0 Q (F0 m pc ls (.ref (Z 202) :: rest)) :=
  ccall_v (n := 0) X hS (k_X9_next l D kA V Z N   u H.size h) (gw_V gw_773 gw_774 gw_775 gw_2 gw_776) (by decide +kernel) (va_recv X.2.1 hS.1 (ci := 8) (q0 := 2) rfl (cw_lit rfl)) hF hL rfl hl hc rfl hdg kk
theorem kc_X9_next_RX9 {cc : ByteArray} {pc nL : Nat} {c0 : Cond} {rest : List Value} {u w1 : CSt} {r : Int32} (X : CC p s m args c cc nL c0 RX9 D kA V A)  (hS : CS D kA Z A s u H locs) (h : F_X9_next N u = some (r, w1)) (hF : 0 + 1 ≤ R.frames) (hL : 8 + (1 + 11) + 0 ≤ R.locals) (hl : ls.size = nL) (hc : (rest.map fun v => v.category).sum ≤ 8) (hdg : decode cc pc = .ok (.invokevirtual 76, 3)) (kk : ∀ H locs, CS D kA Z A s w1 H locs → W p l e R s m args below meth c H locs 0 0 Q (F0 m (pc + 3) ls (rest))) : W p l e R s m args below meth c H locs 0 0 Q (F0 m pc ls (.ref (Z 202) :: rest)) :=
  ccall_v (n := 0) X hS (k_X9_next l D kA V Z N   u H.size h) (gw_V gw_875 gw_774 gw_775 gw_2 gw_776) (by decide +kernel) (va_recv X.2.1 hS.1 (ci := 8) (q0 := 2) rfl (cw_lit rfl)) hF hL rfl hl hc rfl hdg kk
theorem kc_X9_next_RX3 {cc : ByteArray} {pc nL : Nat} {c0 : Cond} {rest : List Value} {u w1 : CSt} {r : Int32} (X : CC p s m args c cc nL c0 RX3 D kA V A)  (hS : CS D kA Z A s u H locs) (h : F_X9_next N u = some (r, w1)) (hF : 0 + 1 ≤ R.frames) (hL : 8 + (1 + 11) + 0 ≤ R.locals) (hl : ls.size = nL) (hc : (rest.map fun v => v.category).sum ≤ 8) (hdg : decode cc pc = .ok (.invokevirtual 73, 3)) (kk : ∀ H locs, CS D kA Z A s w1 H locs → W p l e R s m args below meth c H locs 0 0 Q (F0 m (pc + 3) ls (rest))) : W p l e R s m args below meth c H locs 0 0 Q (F0 m pc ls (.ref (Z 202) :: rest)) :=
  ccall_v (n := 0) X hS (k_X9_next l D kA V Z N   u H.size h) (gw_V gw_1000 gw_774 gw_775 gw_2 gw_776) (by decide +kernel) (va_recv X.2.1 hS.1 (ci := 8) (q0 := 2) rfl (cw_lit rfl)) hF hL rfl hl hc rfl hdg kk
theorem kc_X9_next_RX8 {cc : ByteArray} {pc nL : Nat} {c0 : Cond} {rest : List Value} {u w1 : CSt} {r : Int32} (X : CC p s m args c cc nL c0 RX8 D kA V A)  (hS : CS D kA Z A s u H locs) (h : F_X9_next N u = some (r, w1)) (hF : 0 + 1 ≤ R.frames) (hL : 8 + (1 + 11) + 0 ≤ R.locals) (hl : ls.size = nL) (hc : (rest.map fun v => v.category).sum ≤ 8) (hdg : decode cc pc = .ok (.invokevirtual 122, 3)) (kk : ∀ H locs, CS D kA Z A s w1 H locs → W p l e R s m args below meth c H locs 0 0 Q (F0 m (pc + 3) ls (rest))) : W p l e R s m args below meth c H locs 0 0 Q (F0 m pc ls (.ref (Z 202) :: rest)) :=
  ccall_v (n := 0) X hS (k_X9_next l D kA V Z N   u H.size h) (gw_V gw_1141 gw_774 gw_775 gw_2 gw_776) (by decide +kernel) (va_recv X.2.1 hS.1 (ci := 8) (q0 := 2) rfl (cw_lit rfl)) hF hL rfl hl hc rfl hdg kk
def B_X9_misfit_0 (N : Nat) (u : CSt) : Option (Int32 × CSt) := rd (cA u 203) 1501 (cI u 5) fun v_2 => if v_2 = (131 : Int32) then (some (1, u)) else (some (2, u))
set_option maxHeartbeats 4000000 in
theorem b_X9_misfit_0 {r : Int32} (X : CC p s m args c cX9_misfit 1 (Cond.code yX9_misfit cX9_misfit 1 (some .int)) RX9 D kA V A) (hE : CEi p l e R s m args below meth c cX9_misfit D kA Z A Q r w) (hF : 0 ≤ R.frames) (hL : 0 ≤ R.locals) {u : CSt}  (h : B_X9_misfit_0 N u = some (r, w))  (hS : CS D kA Z A s u H locs) (hl : lv_has ls 1 [(0, .ref (Z 202))]) : W p l e R s m args below meth c H locs 0 0 Q (F0 m 0 ls []) := by
  obtain ⟨⟨hx, hb, hml, hown, hts⟩, hK, hEV, hA⟩ := id X
  have hG : ∀ w ∈ GW, w.before args s = true := fun w h => hts w (List.mem_cons_of_mem _ h)
  unfold B_X9_misfit_0 at h
  refine lv_aload_n hx hb dX9_misfit_0 rfl (lv_at hl 0 rfl) ?_
  refine cg_X9_9 X hS dX9_misfit_1 ?_
  refine lv_aload_n hx hb dX9_misfit_4 rfl (lv_at hl 0 rfl) ?_
  refine cg_X9_53 X hS dX9_misfit_5 ?_
  obtain ⟨v_2, e_v_2, i_1, h⟩ := rd_of h
  refine ca_s203 X hS i_1 e_v_2 dX9_misfit_8 ?_
  refine lv_sipush (v := 131) hx hb dX9_misfit_9 (by decide) ?_
  refine lv_icmp_ne (tgt := 19) hx hb dX9_misfit_12 (by decide) (fun c_3 => ?_) (fun c_3 => ?_)
  · have h := im (c_3) h
    refine lv_iconst (v := 2) hx hb dX9_misfit_19 (by decide) ?_
    obtain ⟨rfl, rfl⟩ := so9 h
    exact hE _ _ _ _ hS dX9_misfit_20
  · have h := ip (c_3) h
    refine lv_iconst (v := 1) hx hb dX9_misfit_15 (by decide) ?_
    refine lv_goto (tgt := 20) hx hb dX9_misfit_16 (by decide) ?_
    obtain ⟨rfl, rfl⟩ := so9 h
    exact hE _ _ _ _ hS dX9_misfit_20
def F_X9_misfit (N : Nat) (u : CSt) : Option (Int32 × CSt) := B_X9_misfit_0 N u
set_option maxHeartbeats 4000000 in
theorem k_X9_misfit (l : Launch) (D : va_G) (kA : Nat → ClassId) (V Z : Nat → Nat) (N : Nat) (u : CSt) (sz : Nat) {r : Int32} {w : CSt} (h : F_X9_misfit N u = some (r, w)) : Met l yX9_misfit (Cond.code yX9_misfit cX9_misfit 1 (some .int) :: GW) { frames := 0, cells := 0, slots := 0, locals := 0 } (cPc D kA V Z [.ref (Z 202)] u sz) (cQi D kA Z u sz r w) 0 0 (va_A (CW kA Z u) sz) := by
  refine Met.ofW (cc := cX9_misfit) (maxL := 1) (ret := (some .int)) (by decide) rfl ?_
  intro p e s m args below meth c s₁ Bd hml hv
  obtain ⟨rfl, hsz, hP, hK, hD0, hE⟩ := hv
  have hts := atoms_spec (ws := Cond.code yX9_misfit cX9_misfit 1 (some .int) :: GW) Bd.pre
  have hl := lv_entry ([.ref (Z 202)]) (n := 1) (Nat.le_of_ble_eq_true rfl)
  rw [lg_entry_eq]
  generalize (lg_sl ([.ref (Z 202)]) ++ List.replicate (1 - (lg_sl ([.ref (Z 202)])).length) Slot.unset).toArray = ls at hl ⊢
  have hl : lv_has ls 1 [(0, .ref (Z 202))] := hl
  subst hsz
  have X : CC p s m ([.ref (Z 202)]).toArray c cX9_misfit 1 (Cond.code yX9_misfit cX9_misfit 1 (some .int)) RX9 D kA V (va_A (CW kA Z u) s.heap.size) := ⟨⟨Bd.exec, Bd.bytes, hml, findClass_of_methodNamed Bd.named, hts⟩, hK, hE, fun q h => Or.inr h⟩
  refine b_X9_misfit_0 X (cend_i X Bd.returns Bd.notSynchronized) (Nat.le_refl _) (Nat.le_refl _) h  ⟨hP, hD0.self, va_S.rf⟩ (lv_sub hl [0] rfl)
theorem kc_X9_misfit_RX9 {cc : ByteArray} {pc nL : Nat} {c0 : Cond} {rest : List Value} {u w1 : CSt} {r : Int32} (X : CC p s m args c cc nL c0 RX9 D kA V A)  (hS : CS D kA Z A s u H locs) (h : F_X9_misfit N u = some (r, w1)) (hF : 0 + 1 ≤ R.frames) (hL : 8 + (1 + 11) + 0 ≤ R.locals) (hl : ls.size = nL) (hc : (rest.map fun v => v.category).sum ≤ 8) (hdg : decode cc pc = .ok (.invokevirtual 70, 3)) (kk : ∀ H locs, CS D kA Z A s w1 H locs → W p l e R s m args below meth c H locs 0 0 Q (F0 m (pc + 3) ls (.int r :: rest))) : W p l e R s m args below meth c H locs 0 0 Q (F0 m pc ls (.ref (Z 202) :: rest)) :=
  ccall_i (n := 0) X hS (k_X9_misfit l D kA V Z N   u H.size h) (gw_V gw_789 gw_791 gs_1_15 gw_2 gw_792) (by decide +kernel) (va_recv X.2.1 hS.1 (ci := 8) (q0 := 2) rfl (cw_lit rfl)) hF hL rfl hl hc rfl hdg kk
def B_X9_refuse_0 (N : Nat) (l1 : Int32) (l2 : Int32) (u : CSt) : Option ((Sum Nat Int32) × CSt) := pc (xI u 6 l1) fun u_1 => pc (xI u_1 7 l2) fun u_2 => some (.inl 0, u_2)
set_option maxHeartbeats 4000000 in
theorem b_X9_refuse_0 {y : (Sum Nat Int32)} (X : CC p s m args c cX9_refuse 3 (Cond.code yX9_refuse cX9_refuse 3 none) RX9 D kA V A) (hE : CEvx p l e R s m args below meth c cX9_refuse D kA Z A Q y w) (hst : l.stackTraces = false) (hX : CX p l e R s m args below meth c D kA Z A Q y w) (hC : 1 ≤ R.cells ∧ 6 ≤ R.slots) (hT_10 : y = .inl 0 → ∀ (H : Heap) (locs : List Loc) (ls : Array Slot), CS D kA Z A s w H locs → ls.size = 3 → W p l e R s m args below meth c H locs 0 0 Q (F0 m 10 ls [])) (hF : 6 ≤ R.frames) (hL : 100 ≤ R.locals) {l1 : Int32} {l2 : Int32} {u : CSt}  (h : B_X9_refuse_0 N l1 l2 u = some (y, w))  (hS : CS D kA Z A s u H locs) (hl : lv_has ls 3 [(0, .ref (Z 202)), (1, .int l1), (2, .int l2)]) : W p l e R s m args below meth c H locs 0 0 Q (F0 m 0 ls []) := by
  obtain ⟨⟨hx, hb, hml, hown, hts⟩, hK, hEV, hA⟩ := id X
  have hG : ∀ w ∈ GW, w.before args s = true := fun w h => hts w (List.mem_cons_of_mem _ h)
  unfold B_X9_refuse_0 at h
  refine lv_aload_n hx hb dX9_refuse_0 rfl (lv_at hl 0 rfl) ?_
  refine lv_iload_n hx hb dX9_refuse_1 rfl (lv_at hl 1 rfl) ?_
  obtain ⟨u_1, e_u_1, h⟩ := pc_of h
  refine cp_X9_56 X hS e_u_1 dX9_refuse_2 (fun H locs hS => ?_)
  refine lv_aload_n hx hb dX9_refuse_5 rfl (lv_at hl 0 rfl) ?_
  refine lv_iload_n hx hb dX9_refuse_6 rfl (lv_at hl 2 rfl) ?_
  obtain ⟨u_2, e_u_2, h⟩ := pc_of h
  refine cp_X9_32 X hS e_u_2 dX9_refuse_7 (fun H locs hS => ?_)
  obtain ⟨e9, rfl⟩ := so9 h
  exact hT_10 e9.symm _ _ _ hS hl.1
def F_X9_refuse (N : Nat) (l1 : Int32) (l2 : Int32) (u : CSt) : Option ((Sum Nat Int32) × CSt) := B_X9_refuse_0 N l1 l2 u
set_option maxHeartbeats 4000000 in
theorem k_X9_refuse (l : Launch) (hst : l.stackTraces = false) (D : va_G) (kA : Nat → ClassId) (V Z : Nat → Nat) (N : Nat) (l1 : Int32) (l2 : Int32) (u : CSt) (sz : Nat) {y : (Sum Nat Int32)} {w : CSt} (h : F_X9_refuse N l1 l2 u = some (y, w)) : vx_Met l yX9_refuse (Cond.code yX9_refuse cX9_refuse 3 none :: GW) { frames := 6, cells := 1, slots := 6, locals := 100 } (cPc D kA V Z [.ref (Z 202), .int l1, .int l2] u sz) (cQvx D kA Z u sz y w) (cXc D kA Z u sz y w) 1 6 (va_A (CW kA Z u) sz) := by
  refine vx_ofW (cc := cX9_refuse) (maxL := 3) (ret := none) (by decide) rfl ?_
  intro p e s m args below meth c s₁ Bd hml hxt hv
  obtain ⟨rfl, hsz, hP, hK, hD0, hE⟩ := hv
  have hts := atoms_spec (ws := Cond.code yX9_refuse cX9_refuse 3 none :: GW) Bd.pre
  have hl := lv_entry ([.ref (Z 202), .int l1, .int l2]) (n := 3) (Nat.le_of_ble_eq_true rfl)
  rw [lg_entry_eq]
  generalize (lg_sl ([.ref (Z 202), .int l1, .int l2]) ++ List.replicate (3 - (lg_sl ([.ref (Z 202), .int l1, .int l2])).length) Slot.unset).toArray = ls at hl ⊢
  have hl : lv_has ls 3 [(0, .ref (Z 202)), (1, .int l1), (2, .int l2)] := hl
  subst hsz
  have X : CC p s m ([.ref (Z 202), .int l1, .int l2]).toArray c cX9_refuse 3 (Cond.code yX9_refuse cX9_refuse 3 none) RX9 D kA V (va_A (CW kA Z u) s.heap.size) := ⟨⟨Bd.exec, Bd.bytes, hml, findClass_of_methodNamed Bd.named, hts⟩, hK, hE, fun q h => Or.inr h⟩
  refine b_X9_refuse_0 X (cend_vx X Bd.returns Bd.notSynchronized) hst (cend_X X hxt Bd.notSynchronized) ⟨Nat.le_refl _, Nat.le_refl _⟩ (fun hy H locs ls hS hls => cx_throw (x := 0) Bd.exec Bd.bytes hst (findClass_of_methodNamed Bd.named) (by decide +kernel) (by decide +kernel) X hS hy rfl gw_797 gw_22 (evr_3 hE.2.1) xat_X9_IllegalStateException xgo_X9_IllegalStateException (by rw [hml]; exact hls) dX9_refuse_10 dX9_refuse_13 dX9_refuse_14 dX9_refuse_16 dX9_refuse_19 hxt (Nat.le_of_ble_eq_true rfl) (Nat.le_of_ble_eq_true rfl) (Nat.le_of_ble_eq_true rfl) (Nat.le_of_ble_eq_true rfl) Bd.notSynchronized (Nat.le_of_ble_eq_true rfl) (Nat.le_of_ble_eq_true rfl)) (Nat.le_refl _) (Nat.le_refl _) h  ⟨hP, hD0.self, va_S.rf⟩ (lv_sub hl [0, 1, 2] rfl)
theorem kc_X9_refuse_RX9 {cc : ByteArray} {pc nL : Nat} {c0 : Cond} {rest : List Value} {l1 : Int32} {l2 : Int32} {u w1 : CSt} {y1 : (Sum Nat Int32)} (hst : l.stackTraces = false) (X : CC p s m args c cc nL c0 RX9 D kA V A)  (hS : CS D kA Z A s u H locs) (h : F_X9_refuse N l1 l2 u = some (y1, w1)) (hF : 6 + 1 ≤ R.frames) (hL : 8 + (3 + 11) + 100 ≤ R.locals) (hC : 1 ≤ R.cells ∧ 6 ≤ R.slots) (hl : ls.size = nL) (hc : (rest.map fun v => v.category).sum ≤ 8) (hdg : decode cc pc = .ok (.invokevirtual 73, 3)) (kk : ∀ r, y1 = .inr r → ∀ H locs, CS D kA Z A s w1 H locs → W p l e R s m args below meth c H locs 0 0 Q (F0 m (pc + 3) ls (rest))) (kx : ∀ x, y1 = .inl x → ∀ (H : Heap) (locs : List Loc) (q : Addr) (ce : Cell), CS D kA Z A s w1 H locs → H[q]? = some ce → ce.vm = .none → s.vm.findClass (exN x) = some ce.cls → vx_W p l e R s m args below meth c H locs 1 6 Q (F0 m pc ls rest) q) : W p l e R s m args below meth c H locs 0 0 Q (F0 m pc ls (.int l2 :: .int l1 :: .ref (Z 202) :: rest)) :=
  ccall_vx (n := 2) X hS (k_X9_refuse l hst D kA V Z N l1 l2  u H.size h) (gw_V gw_793 gw_794 gw_795 gw_2 gw_796) (by decide +kernel) (va_recv X.2.1 hS.1 (ci := 8) (q0 := 2) rfl (cw_lit rfl)) hF hL hC rfl hl hc rfl hdg kk kx
theorem kc_X9_refuse_RX3 {cc : ByteArray} {pc nL : Nat} {c0 : Cond} {rest : List Value} {l1 : Int32} {l2 : Int32} {u w1 : CSt} {y1 : (Sum Nat Int32)} (hst : l.stackTraces = false) (X : CC p s m args c cc nL c0 RX3 D kA V A)  (hS : CS D kA Z A s u H locs) (h : F_X9_refuse N l1 l2 u = some (y1, w1)) (hF : 6 + 1 ≤ R.frames) (hL : 8 + (3 + 11) + 100 ≤ R.locals) (hC : 1 ≤ R.cells ∧ 6 ≤ R.slots) (hl : ls.size = nL) (hc : (rest.map fun v => v.category).sum ≤ 8) (hdg : decode cc pc = .ok (.invokevirtual 126, 3)) (kk : ∀ r, y1 = .inr r → ∀ H locs, CS D kA Z A s w1 H locs → W p l e R s m args below meth c H locs 0 0 Q (F0 m (pc + 3) ls (rest))) (kx : ∀ x, y1 = .inl x → ∀ (H : Heap) (locs : List Loc) (q : Addr) (ce : Cell), CS D kA Z A s w1 H locs → H[q]? = some ce → ce.vm = .none → s.vm.findClass (exN x) = some ce.cls → vx_W p l e R s m args below meth c H locs 1 6 Q (F0 m pc ls rest) q) : W p l e R s m args below meth c H locs 0 0 Q (F0 m pc ls (.int l2 :: .int l1 :: .ref (Z 202) :: rest)) :=
  ccall_vx (n := 2) X hS (k_X9_refuse l hst D kA V Z N l1 l2  u H.size h) (gw_V gw_1041 gw_794 gw_795 gw_2 gw_796) (by decide +kernel) (va_recv X.2.1 hS.1 (ci := 8) (q0 := 2) rfl (cw_lit rfl)) hF hL hC rfl hl hc rfl hdg kk kx
theorem kc_X9_refuse_RX8 {cc : ByteArray} {pc nL : Nat} {c0 : Cond} {rest : List Value} {l1 : Int32} {l2 : Int32} {u w1 : CSt} {y1 : (Sum Nat Int32)} (hst : l.stackTraces = false) (X : CC p s m args c cc nL c0 RX8 D kA V A)  (hS : CS D kA Z A s u H locs) (h : F_X9_refuse N l1 l2 u = some (y1, w1)) (hF : 6 + 1 ≤ R.frames) (hL : 8 + (3 + 11) + 100 ≤ R.locals) (hC : 1 ≤ R.cells ∧ 6 ≤ R.slots) (hl : ls.size = nL) (hc : (rest.map fun v => v.category).sum ≤ 8) (hdg : decode cc pc = .ok (.invokevirtual 79, 3)) (kk : ∀ r, y1 = .inr r → ∀ H locs, CS D kA Z A s w1 H locs → W p l e R s m args below meth c H locs 0 0 Q (F0 m (pc + 3) ls (rest))) (kx : ∀ x, y1 = .inl x → ∀ (H : Heap) (locs : List Loc) (q : Addr) (ce : Cell), CS D kA Z A s w1 H locs → H[q]? = some ce → ce.vm = .none → s.vm.findClass (exN x) = some ce.cls → vx_W p l e R s m args below meth c H locs 1 6 Q (F0 m pc ls rest) q) : W p l e R s m args below meth c H locs 0 0 Q (F0 m pc ls (.int l2 :: .int l1 :: .ref (Z 202) :: rest)) :=
  ccall_vx (n := 2) X hS (k_X9_refuse l hst D kA V Z N l1 l2  u H.size h) (gw_V gw_1183 gw_794 gw_795 gw_2 gw_796) (by decide +kernel) (va_recv X.2.1 hS.1 (ci := 8) (q0 := 2) rfl (cw_lit rfl)) hF hL hC rfl hl hc rfl hdg kk kx
def B_X9_take_30 (N : Nat) (u : CSt) : Option ((Sum Nat Int32) × CSt) := bc (F_X9_next N u) fun _ u_1 => some (.inr 0, u_1)
set_option maxHeartbeats 4000000 in
theorem b_X9_take_30 {y : (Sum Nat Int32)} (X : CC p s m args c cX9_take 2 (Cond.code yX9_take cX9_take 2 none) RX9 D kA V A) (hE : CEvx p l e R s m args below meth c cX9_take D kA Z A Q y w) (hst : l.stackTraces = false) (hX : CX p l e R s m args below meth c D kA Z A Q y w) (hC : 1 ≤ R.cells ∧ 6 ≤ R.slots) (hF : 7 ≤ R.frames) (hL : 122 ≤ R.locals) {u : CSt}  (h : B_X9_take_30 N u = some (y, w))  (hS : CS D kA Z A s u H locs) (hl : lv_has ls 2 [(0, .ref (Z 202))]) : W p l e R s m args below meth c H locs 0 0 Q (F0 m 30 ls []) := by
  obtain ⟨⟨hx, hb, hml, hown, hts⟩, hK, hEV, hA⟩ := id X
  have hG : ∀ w ∈ GW, w.before args s = true := fun w h => hts w (List.mem_cons_of_mem _ h)
  unfold B_X9_take_30 at h
  refine lv_aload_n hx hb dX9_take_30 rfl (lv_at hl 0 rfl) ?_
  obtain ⟨r_u_1, u_1, h_u_1, h⟩ := bc_of h
  refine kc_X9_next_RX9 X  hS h_u_1 (Nat.le_trans (Nat.le_of_ble_eq_true rfl) hF) (Nat.le_trans (Nat.le_of_ble_eq_true rfl) hL) hl.1 (Nat.le_of_ble_eq_true rfl) dX9_take_31 (fun H locs hS => ?_)
  obtain ⟨e9, rfl⟩ := so9 h
  exact hE _ e9.symm _ _ _ _ hS dX9_take_34
def B_X9_take_0 (N : Nat) (l1 : Int32) (u : CSt) : Option ((Sum Nat Int32) × CSt) := rd (cA u 203) 1501 (cI u 5) fun v_3 => if v_3 = l1 then (B_X9_take_30 N u) else (bc (F_X9_misfit N u) fun r_6 u_5 => rd (cA u_5 204) 1501 (cI u_5 5) fun v_8 => bt (F_X9_refuse N r_6 v_8 u_5) fun _ u_9 => B_X9_take_30 N u_9)
set_option maxHeartbeats 4000000 in
theorem b_X9_take_0 {y : (Sum Nat Int32)} (X : CC p s m args c cX9_take 2 (Cond.code yX9_take cX9_take 2 none) RX9 D kA V A) (hE : CEvx p l e R s m args below meth c cX9_take D kA Z A Q y w) (hst : l.stackTraces = false) (hX : CX p l e R s m args below meth c D kA Z A Q y w) (hC : 1 ≤ R.cells ∧ 6 ≤ R.slots) (hF : 7 ≤ R.frames) (hL : 122 ≤ R.locals) {l1 : Int32} {u : CSt}  (h : B_X9_take_0 N l1 u = some (y, w))  (hS : CS D kA Z A s u H locs) (hl : lv_has ls 2 [(0, .ref (Z 202)), (1, .int l1)]) : W p l e R s m args below meth c H locs 0 0 Q (F0 m 0 ls []) := by
  obtain ⟨⟨hx, hb, hml, hown, hts⟩, hK, hEV, hA⟩ := id X
  have hG : ∀ w ∈ GW, w.before args s = true := fun w h => hts w (List.mem_cons_of_mem _ h)
  unfold B_X9_take_0 at h
  refine lv_aload_n hx hb dX9_take_0 rfl (lv_at hl 0 rfl) ?_
  refine cg_X9_9 X hS dX9_take_1 ?_
  refine lv_aload_n hx hb dX9_take_4 rfl (lv_at hl 0 rfl) ?_
  refine cg_X9_53 X hS dX9_take_5 ?_
  obtain ⟨v_3, e_v_3, i_2, h⟩ := rd_of h
  refine ca_s203 X hS i_2 e_v_3 dX9_take_8 ?_
  refine lv_iload_n hx hb dX9_take_9 rfl (lv_at hl 1 rfl) ?_
  refine lv_icmp_eq (tgt := 30) hx hb dX9_take_10 (by decide) (fun c_4 => ?_) (fun c_4 => ?_)
  · have h := ip (c_4) h
    exact b_X9_take_30 X hE hst hX hC hF hL  h  hS (lv_sub hl [0] rfl)
  · have h := im (c_4) h
    refine lv_aload_n hx hb dX9_take_13 rfl (lv_at hl 0 rfl) ?_
    refine lv_aload_n hx hb dX9_take_14 rfl (lv_at hl 0 rfl) ?_
    obtain ⟨r_6, u_5, h_u_5, h⟩ := bc_of h
    refine kc_X9_misfit_RX9 X  hS h_u_5 (Nat.le_trans (Nat.le_of_ble_eq_true rfl) hF) (Nat.le_trans (Nat.le_of_ble_eq_true rfl) hL) hl.1 (Nat.le_of_ble_eq_true rfl) dX9_take_15 (fun H locs hS => ?_)
    refine lv_aload_n hx hb dX9_take_18 rfl (lv_at hl 0 rfl) ?_
    refine cg_X9_15 X hS dX9_take_19 ?_
    refine lv_aload_n hx hb dX9_take_22 rfl (lv_at hl 0 rfl) ?_
    refine cg_X9_53 X hS dX9_take_23 ?_
    obtain ⟨v_8, e_v_8, i_7, h⟩ := rd_of h
    refine ca_s204 X hS i_7 e_v_8 dX9_take_26 ?_
    obtain ⟨y_10, u_9, h_u_9, h⟩ := bt_of h
    refine kc_X9_refuse_RX9 hst X  hS h_u_9 (Nat.le_trans (Nat.le_of_ble_eq_true rfl) hF) (Nat.le_trans (Nat.le_of_ble_eq_true rfl) hL) hC hl.1 (Nat.le_of_ble_eq_true rfl) dX9_take_27 (fun r_u_9 hr_u_9 H locs hS => ?_) (fun x9 hn H locs q9 ce hS a1 a2 a3 => by obtain ⟨e2, rfl⟩ := bt_no h hn; exact hX _ e2 _ _ _ _ _ _ _ hS a1 a2 a3)
    replace h := bt_ok h hr_u_9
    exact b_X9_take_30 X hE hst hX hC hF hL  h  hS (lv_sub hl [0] rfl)
def F_X9_take (N : Nat) (l1 : Int32) (u : CSt) : Option ((Sum Nat Int32) × CSt) := B_X9_take_0 N l1 u
set_option maxHeartbeats 4000000 in
theorem k_X9_take (l : Launch) (hst : l.stackTraces = false) (D : va_G) (kA : Nat → ClassId) (V Z : Nat → Nat) (N : Nat) (l1 : Int32) (u : CSt) (sz : Nat) {y : (Sum Nat Int32)} {w : CSt} (h : F_X9_take N l1 u = some (y, w)) : vx_Met l yX9_take (Cond.code yX9_take cX9_take 2 none :: GW) { frames := 7, cells := 1, slots := 6, locals := 122 } (cPc D kA V Z [.ref (Z 202), .int l1] u sz) (cQvx D kA Z u sz y w) (cXc D kA Z u sz y w) 1 6 (va_A (CW kA Z u) sz) := by
  refine vx_ofW (cc := cX9_take) (maxL := 2) (ret := none) (by decide) rfl ?_
  intro p e s m args below meth c s₁ Bd hml hxt hv
  obtain ⟨rfl, hsz, hP, hK, hD0, hE⟩ := hv
  have hts := atoms_spec (ws := Cond.code yX9_take cX9_take 2 none :: GW) Bd.pre
  have hl := lv_entry ([.ref (Z 202), .int l1]) (n := 2) (Nat.le_of_ble_eq_true rfl)
  rw [lg_entry_eq]
  generalize (lg_sl ([.ref (Z 202), .int l1]) ++ List.replicate (2 - (lg_sl ([.ref (Z 202), .int l1])).length) Slot.unset).toArray = ls at hl ⊢
  have hl : lv_has ls 2 [(0, .ref (Z 202)), (1, .int l1)] := hl
  subst hsz
  have X : CC p s m ([.ref (Z 202), .int l1]).toArray c cX9_take 2 (Cond.code yX9_take cX9_take 2 none) RX9 D kA V (va_A (CW kA Z u) s.heap.size) := ⟨⟨Bd.exec, Bd.bytes, hml, findClass_of_methodNamed Bd.named, hts⟩, hK, hE, fun q h => Or.inr h⟩
  refine b_X9_take_0 X (cend_vx X Bd.returns Bd.notSynchronized) hst (cend_X X hxt Bd.notSynchronized) ⟨Nat.le_refl _, Nat.le_refl _⟩ (Nat.le_refl _) (Nat.le_refl _) h  ⟨hP, hD0.self, va_S.rf⟩ (lv_sub hl [0, 1] rfl)
theorem kc_X9_take_RX0 {cc : ByteArray} {pc nL : Nat} {c0 : Cond} {rest : List Value} {l1 : Int32} {u w1 : CSt} {y1 : (Sum Nat Int32)} (hst : l.stackTraces = false) (X : CC p s m args c cc nL c0 RX0 D kA V A)  (hS : CS D kA Z A s u H locs) (h : F_X9_take N l1 u = some (y1, w1)) (hF : 7 + 1 ≤ R.frames) (hL : 8 + (2 + 11) + 122 ≤ R.locals) (hC : 1 ≤ R.cells ∧ 6 ≤ R.slots) (hl : ls.size = nL) (hc : (rest.map fun v => v.category).sum ≤ 8) (hdg : decode cc pc = .ok (.invokevirtual 63, 3)) (kk : ∀ r, y1 = .inr r → ∀ H locs, CS D kA Z A s w1 H locs → W p l e R s m args below meth c H locs 0 0 Q (F0 m (pc + 3) ls (rest))) (kx : ∀ x, y1 = .inl x → ∀ (H : Heap) (locs : List Loc) (q : Addr) (ce : Cell), CS D kA Z A s w1 H locs → H[q]? = some ce → ce.vm = .none → s.vm.findClass (exN x) = some ce.cls → vx_W p l e R s m args below meth c H locs 1 6 Q (F0 m pc ls rest) q) : W p l e R s m args below meth c H locs 0 0 Q (F0 m pc ls (.int l1 :: .ref (Z 202) :: rest)) :=
  ccall_vx (n := 1) X hS (k_X9_take l hst D kA V Z N l1  u H.size h) (gw_V gw_871 gw_872 gw_873 gw_2 gw_874) (by decide +kernel) (va_recv X.2.1 hS.1 (ci := 8) (q0 := 2) rfl (cw_lit rfl)) hF hL hC rfl hl hc rfl hdg kk kx
def B_X9_refuseToken_0 (N : Nat) (u : CSt) : Option ((Sum Nat Int32) × CSt) := bc (F_X9_misfit N u) fun r_2 u_1 => rd (cA u_1 204) 1501 (cI u_1 5) fun v_4 => bt (F_X9_refuse N r_2 v_4 u_1) fun _ u_5 => some (.inr 0, u_5)
set_option maxHeartbeats 4000000 in
theorem b_X9_refuseToken_0 {y : (Sum Nat Int32)} (X : CC p s m args c cX9_refuseToken 1 (Cond.code yX9_refuseToken cX9_refuseToken 1 none) RX9 D kA V A) (hE : CEvx p l e R s m args below meth c cX9_refuseToken D kA Z A Q y w) (hst : l.stackTraces = false) (hX : CX p l e R s m args below meth c D kA Z A Q y w) (hC : 1 ≤ R.cells ∧ 6 ≤ R.slots) (hF : 7 ≤ R.frames) (hL : 122 ≤ R.locals) {u : CSt}  (h : B_X9_refuseToken_0 N u = some (y, w))  (hS : CS D kA Z A s u H locs) (hl : lv_has ls 1 [(0, .ref (Z 202))]) : W p l e R s m args below meth c H locs 0 0 Q (F0 m 0 ls []) := by
  obtain ⟨⟨hx, hb, hml, hown, hts⟩, hK, hEV, hA⟩ := id X
  have hG : ∀ w ∈ GW, w.before args s = true := fun w h => hts w (List.mem_cons_of_mem _ h)
  unfold B_X9_refuseToken_0 at h
  refine lv_aload_n hx hb dX9_refuseToken_0 rfl (lv_at hl 0 rfl) ?_
  refine lv_aload_n hx hb dX9_refuseToken_1 rfl (lv_at hl 0 rfl) ?_
  obtain ⟨r_2, u_1, h_u_1, h⟩ := bc_of h
  refine kc_X9_misfit_RX9 X  hS h_u_1 (Nat.le_trans (Nat.le_of_ble_eq_true rfl) hF) (Nat.le_trans (Nat.le_of_ble_eq_true rfl) hL) hl.1 (Nat.le_of_ble_eq_true rfl) dX9_refuseToken_2 (fun H locs hS => ?_)
  refine lv_aload_n hx hb dX9_refuseToken_5 rfl (lv_at hl 0 rfl) ?_
  refine cg_X9_15 X hS dX9_refuseToken_6 ?_
  refine lv_aload_n hx hb dX9_refuseToken_9 rfl (lv_at hl 0 rfl) ?_
  refine cg_X9_53 X hS dX9_refuseToken_10 ?_
  obtain ⟨v_4, e_v_4, i_3, h⟩ := rd_of h
  refine ca_s204 X hS i_3 e_v_4 dX9_refuseToken_13 ?_
  obtain ⟨y_6, u_5, h_u_5, h⟩ := bt_of h
  refine kc_X9_refuse_RX9 hst X  hS h_u_5 (Nat.le_trans (Nat.le_of_ble_eq_true rfl) hF) (Nat.le_trans (Nat.le_of_ble_eq_true rfl) hL) hC hl.1 (Nat.le_of_ble_eq_true rfl) dX9_refuseToken_14 (fun r_u_5 hr_u_5 H locs hS => ?_) (fun x9 hn H locs q9 ce hS a1 a2 a3 => by obtain ⟨e2, rfl⟩ := bt_no h hn; exact hX _ e2 _ _ _ _ _ _ _ hS a1 a2 a3)
  replace h := bt_ok h hr_u_5
  obtain ⟨e9, rfl⟩ := so9 h
  exact hE _ e9.symm _ _ _ _ hS dX9_refuseToken_17
def F_X9_refuseToken (N : Nat) (u : CSt) : Option ((Sum Nat Int32) × CSt) := B_X9_refuseToken_0 N u
set_option maxHeartbeats 4000000 in
theorem k_X9_refuseToken (l : Launch) (hst : l.stackTraces = false) (D : va_G) (kA : Nat → ClassId) (V Z : Nat → Nat) (N : Nat) (u : CSt) (sz : Nat) {y : (Sum Nat Int32)} {w : CSt} (h : F_X9_refuseToken N u = some (y, w)) : vx_Met l yX9_refuseToken (Cond.code yX9_refuseToken cX9_refuseToken 1 none :: GW) { frames := 7, cells := 1, slots := 6, locals := 122 } (cPc D kA V Z [.ref (Z 202)] u sz) (cQvx D kA Z u sz y w) (cXc D kA Z u sz y w) 1 6 (va_A (CW kA Z u) sz) := by
  refine vx_ofW (cc := cX9_refuseToken) (maxL := 1) (ret := none) (by decide) rfl ?_
  intro p e s m args below meth c s₁ Bd hml hxt hv
  obtain ⟨rfl, hsz, hP, hK, hD0, hE⟩ := hv
  have hts := atoms_spec (ws := Cond.code yX9_refuseToken cX9_refuseToken 1 none :: GW) Bd.pre
  have hl := lv_entry ([.ref (Z 202)]) (n := 1) (Nat.le_of_ble_eq_true rfl)
  rw [lg_entry_eq]
  generalize (lg_sl ([.ref (Z 202)]) ++ List.replicate (1 - (lg_sl ([.ref (Z 202)])).length) Slot.unset).toArray = ls at hl ⊢
  have hl : lv_has ls 1 [(0, .ref (Z 202))] := hl
  subst hsz
  have X : CC p s m ([.ref (Z 202)]).toArray c cX9_refuseToken 1 (Cond.code yX9_refuseToken cX9_refuseToken 1 none) RX9 D kA V (va_A (CW kA Z u) s.heap.size) := ⟨⟨Bd.exec, Bd.bytes, hml, findClass_of_methodNamed Bd.named, hts⟩, hK, hE, fun q h => Or.inr h⟩
  refine b_X9_refuseToken_0 X (cend_vx X Bd.returns Bd.notSynchronized) hst (cend_X X hxt Bd.notSynchronized) ⟨Nat.le_refl _, Nat.le_refl _⟩ (Nat.le_refl _) (Nat.le_refl _) h  ⟨hP, hD0.self, va_S.rf⟩ (lv_sub hl [0] rfl)
theorem kc_X9_refuseToken_RX0 {cc : ByteArray} {pc nL : Nat} {c0 : Cond} {rest : List Value} {u w1 : CSt} {y1 : (Sum Nat Int32)} (hst : l.stackTraces = false) (X : CC p s m args c cc nL c0 RX0 D kA V A)  (hS : CS D kA Z A s u H locs) (h : F_X9_refuseToken N u = some (y1, w1)) (hF : 7 + 1 ≤ R.frames) (hL : 8 + (1 + 11) + 122 ≤ R.locals) (hC : 1 ≤ R.cells ∧ 6 ≤ R.slots) (hl : ls.size = nL) (hc : (rest.map fun v => v.category).sum ≤ 8) (hdg : decode cc pc = .ok (.invokevirtual 53, 3)) (kk : ∀ r, y1 = .inr r → ∀ H locs, CS D kA Z A s w1 H locs → W p l e R s m args below meth c H locs 0 0 Q (F0 m (pc + 3) ls (rest))) (kx : ∀ x, y1 = .inl x → ∀ (H : Heap) (locs : List Loc) (q : Addr) (ce : Cell), CS D kA Z A s w1 H locs → H[q]? = some ce → ce.vm = .none → s.vm.findClass (exN x) = some ce.cls → vx_W p l e R s m args below meth c H locs 1 6 Q (F0 m pc ls rest) q) : W p l e R s m args below meth c H locs 0 0 Q (F0 m pc ls (.ref (Z 202) :: rest)) :=
  ccall_vx (n := 0) X hS (k_X9_refuseToken l hst D kA V Z N   u H.size h) (gw_V gw_785 gw_786 gw_787 gw_2 gw_788) (by decide +kernel) (va_recv X.2.1 hS.1 (ci := 8) (q0 := 2) rfl (cw_lit rfl)) hF hL hC rfl hl hc rfl hdg kk kx
def B_X9_takeNumber_28 (N : Nat) (u : CSt) : Option ((Sum Nat Int64) × CSt) := rd (cB u 205) 1501 (cI u 5) fun v_2 => bc (F_X9_next N u) fun _ u_3 => some (.inr v_2, u_3)
set_option maxHeartbeats 4000000 in
theorem b_X9_takeNumber_28 {y : (Sum Nat Int64)} (X : CC p s m args c cX9_takeNumber 3 (Cond.code yX9_takeNumber cX9_takeNumber 3 (some .long)) RX9 D kA V A) (hE : CElx p l e R s m args below meth c cX9_takeNumber D kA Z A Q y w) (hst : l.stackTraces = false) (hX : CX p l e R s m args below meth c D kA Z A Q y w) (hC : 1 ≤ R.cells ∧ 6 ≤ R.slots) (hF : 7 ≤ R.frames) (hL : 122 ≤ R.locals) {u : CSt}  (h : B_X9_takeNumber_28 N u = some (y, w))  (hS : CS D kA Z A s u H locs) (hl : lv_has ls 3 [(0, .ref (Z 202))]) : W p l e R s m args below meth c H locs 0 0 Q (F0 m 28 ls []) := by
  obtain ⟨⟨hx, hb, hml, hown, hts⟩, hK, hEV, hA⟩ := id X
  have hG : ∀ w ∈ GW, w.before args s = true := fun w h => hts w (List.mem_cons_of_mem _ h)
  unfold B_X9_takeNumber_28 at h
  refine lv_aload_n hx hb dX9_takeNumber_28 rfl (lv_at hl 0 rfl) ?_
  refine cg_X9_18 X hS dX9_takeNumber_29 ?_
  refine lv_aload_n hx hb dX9_takeNumber_32 rfl (lv_at hl 0 rfl) ?_
  refine cg_X9_53 X hS dX9_takeNumber_33 ?_
  obtain ⟨v_2, e_v_2, i_1, h⟩ := rd_of h
  refine ca_s205 X hS i_1 e_v_2 dX9_takeNumber_36 ?_
  refine lv_lstore_n (lv' := [(1, .long v_2), (0, .ref (Z 202))]) hx hb dX9_takeNumber_37 rfl hl (by decide) rfl (fun ls hl => ?_)
  refine lv_aload_n hx hb dX9_takeNumber_38 rfl (lv_at hl 1 rfl) ?_
  obtain ⟨r_u_3, u_3, h_u_3, h⟩ := bc_of h
  refine kc_X9_next_RX9 X  hS h_u_3 (Nat.le_trans (Nat.le_of_ble_eq_true rfl) hF) (Nat.le_trans (Nat.le_of_ble_eq_true rfl) hL) hl.1 (Nat.le_of_ble_eq_true rfl) dX9_takeNumber_39 (fun H locs hS => ?_)
  refine lv_lload_n hx hb dX9_takeNumber_42 rfl (lv_at hl 0 rfl) ?_
  obtain ⟨e9, rfl⟩ := so9 h
  exact hE _ e9.symm _ _ _ _ hS dX9_takeNumber_43
def B_X9_takeNumber_0 (N : Nat) (u : CSt) : Option ((Sum Nat Int64) × CSt) := rd (cA u 206) 1501 (cI u 5) fun v_5 => if (v_5 &&& 2) = (0 : Int32) then (B_X9_takeNumber_28 N u) else (rd (cA u 204) 1501 (cI u 5) fun v_8 => bt (F_X9_refuse N 5 v_8 u) fun _ u_9 => B_X9_takeNumber_28 N u_9)
set_option maxHeartbeats 4000000 in
theorem b_X9_takeNumber_0 {y : (Sum Nat Int64)} (X : CC p s m args c cX9_takeNumber 3 (Cond.code yX9_takeNumber cX9_takeNumber 3 (some .long)) RX9 D kA V A) (hE : CElx p l e R s m args below meth c cX9_takeNumber D kA Z A Q y w) (hst : l.stackTraces = false) (hX : CX p l e R s m args below meth c D kA Z A Q y w) (hC : 1 ≤ R.cells ∧ 6 ≤ R.slots) (hF : 7 ≤ R.frames) (hL : 122 ≤ R.locals) {u : CSt}  (h : B_X9_takeNumber_0 N u = some (y, w))  (hS : CS D kA Z A s u H locs) (hl : lv_has ls 3 [(0, .ref (Z 202))]) : W p l e R s m args below meth c H locs 0 0 Q (F0 m 0 ls []) := by
  obtain ⟨⟨hx, hb, hml, hown, hts⟩, hK, hEV, hA⟩ := id X
  have hG : ∀ w ∈ GW, w.before args s = true := fun w h => hts w (List.mem_cons_of_mem _ h)
  unfold B_X9_takeNumber_0 at h
  refine lv_aload_n hx hb dX9_takeNumber_0 rfl (lv_at hl 0 rfl) ?_
  refine cg_X9_22 X hS dX9_takeNumber_1 ?_
  refine lv_aload_n hx hb dX9_takeNumber_4 rfl (lv_at hl 0 rfl) ?_
  refine cg_X9_53 X hS dX9_takeNumber_5 ?_
  obtain ⟨v_5, e_v_5, i_4, h⟩ := rd_of h
  refine ca_s206 X hS i_4 e_v_5 dX9_takeNumber_8 ?_
  refine lv_iconst (v := 2) hx hb dX9_takeNumber_9 (by decide) ?_
  refine lv_iand hx hb dX9_takeNumber_10 ?_
  refine lv_if_eq (tgt := 28) hx hb dX9_takeNumber_11 (by decide) (fun c_6 => ?_) (fun c_6 => ?_)
  · have h := ip (c_6) h
    exact b_X9_takeNumber_28 X hE hst hX hC hF hL  h  hS (lv_sub hl [0] rfl)
  · have h := im (c_6) h
    refine lv_aload_n hx hb dX9_takeNumber_14 rfl (lv_at hl 0 rfl) ?_
    refine lv_iconst (v := 5) hx hb dX9_takeNumber_15 (by decide) ?_
    refine lv_aload_n hx hb dX9_takeNumber_16 rfl (lv_at hl 0 rfl) ?_
    refine cg_X9_15 X hS dX9_takeNumber_17 ?_
    refine lv_aload_n hx hb dX9_takeNumber_20 rfl (lv_at hl 0 rfl) ?_
    refine cg_X9_53 X hS dX9_takeNumber_21 ?_
    obtain ⟨v_8, e_v_8, i_7, h⟩ := rd_of h
    refine ca_s204 X hS i_7 e_v_8 dX9_takeNumber_24 ?_
    obtain ⟨y_10, u_9, h_u_9, h⟩ := bt_of h
    refine kc_X9_refuse_RX9 hst X  hS h_u_9 (Nat.le_trans (Nat.le_of_ble_eq_true rfl) hF) (Nat.le_trans (Nat.le_of_ble_eq_true rfl) hL) hC hl.1 (Nat.le_of_ble_eq_true rfl) dX9_takeNumber_25 (fun r_u_9 hr_u_9 H locs hS => ?_) (fun x9 hn H locs q9 ce hS a1 a2 a3 => by obtain ⟨e2, rfl⟩ := bt_no h hn; exact hX _ e2 _ _ _ _ _ _ _ hS a1 a2 a3)
    replace h := bt_ok h hr_u_9
    exact b_X9_takeNumber_28 X hE hst hX hC hF hL  h  hS (lv_sub hl [0] rfl)
def F_X9_takeNumber (N : Nat) (u : CSt) : Option ((Sum Nat Int64) × CSt) := B_X9_takeNumber_0 N u
set_option maxHeartbeats 4000000 in
theorem k_X9_takeNumber (l : Launch) (hst : l.stackTraces = false) (D : va_G) (kA : Nat → ClassId) (V Z : Nat → Nat) (N : Nat) (u : CSt) (sz : Nat) {y : (Sum Nat Int64)} {w : CSt} (h : F_X9_takeNumber N u = some (y, w)) : vx_Met l yX9_takeNumber (Cond.code yX9_takeNumber cX9_takeNumber 3 (some .long) :: GW) { frames := 7, cells := 1, slots := 6, locals := 122 } (cPc D kA V Z [.ref (Z 202)] u sz) (cQlx D kA Z u sz y w) (cXc D kA Z u sz y w) 1 6 (va_A (CW kA Z u) sz) := by
  refine vx_ofW (cc := cX9_takeNumber) (maxL := 3) (ret := (some .long)) (by decide) rfl ?_
  intro p e s m args below meth c s₁ Bd hml hxt hv
  obtain ⟨rfl, hsz, hP, hK, hD0, hE⟩ := hv
  have hts := atoms_spec (ws := Cond.code yX9_takeNumber cX9_takeNumber 3 (some .long) :: GW) Bd.pre
  have hl := lv_entry ([.ref (Z 202)]) (n := 3) (Nat.le_of_ble_eq_true rfl)
  rw [lg_entry_eq]
  generalize (lg_sl ([.ref (Z 202)]) ++ List.replicate (3 - (lg_sl ([.ref (Z 202)])).length) Slot.unset).toArray = ls at hl ⊢
  have hl : lv_has ls 3 [(0, .ref (Z 202))] := hl
  subst hsz
  have X : CC p s m ([.ref (Z 202)]).toArray c cX9_takeNumber 3 (Cond.code yX9_takeNumber cX9_takeNumber 3 (some .long)) RX9 D kA V (va_A (CW kA Z u) s.heap.size) := ⟨⟨Bd.exec, Bd.bytes, hml, findClass_of_methodNamed Bd.named, hts⟩, hK, hE, fun q h => Or.inr h⟩
  refine b_X9_takeNumber_0 X (cend_lx X Bd.returns Bd.notSynchronized) hst (cend_X X hxt Bd.notSynchronized) ⟨Nat.le_refl _, Nat.le_refl _⟩ (Nat.le_refl _) (Nat.le_refl _) h  ⟨hP, hD0.self, va_S.rf⟩ (lv_sub hl [0] rfl)
theorem kc_X9_takeNumber_RX3 {cc : ByteArray} {pc nL : Nat} {c0 : Cond} {rest : List Value} {u w1 : CSt} {y1 : (Sum Nat Int64)} (hst : l.stackTraces = false) (X : CC p s m args c cc nL c0 RX3 D kA V A)  (hS : CS D kA Z A s u H locs) (h : F_X9_takeNumber N u = some (y1, w1)) (hF : 7 + 1 ≤ R.frames) (hL : 8 + (3 + 11) + 122 ≤ R.locals) (hC : 1 ≤ R.cells ∧ 6 ≤ R.slots) (hl : ls.size = nL) (hc : (rest.map fun v => v.category).sum ≤ 8) (hdg : decode cc pc = .ok (.invokevirtual 184, 3)) (kk : ∀ r, y1 = .inr r → ∀ H locs, CS D kA Z A s w1 H locs → W p l e R s m args below meth c H locs 0 0 Q (F0 m (pc + 3) ls (.long r :: rest))) (kx : ∀ x, y1 = .inl x → ∀ (H : Heap) (locs : List Loc) (q : Addr) (ce : Cell), CS D kA Z A s w1 H locs → H[q]? = some ce → ce.vm = .none → s.vm.findClass (exN x) = some ce.cls → vx_W p l e R s m args below meth c H locs 1 6 Q (F0 m pc ls rest) q) : W p l e R s m args below meth c H locs 0 0 Q (F0 m pc ls (.ref (Z 202) :: rest)) :=
  ccall_lx (n := 0) X hS (k_X9_takeNumber l hst D kA V Z N   u H.size h) (gw_V gw_1066 gw_1067 gw_1068 gw_2 gw_1069) (by decide +kernel) (va_recv X.2.1 hS.1 (ci := 8) (q0 := 2) rfl (cw_lit rfl)) hF hL hC rfl hl hc rfl hdg kk kx
theorem kc_X9_takeNumber_RX8 {cc : ByteArray} {pc nL : Nat} {c0 : Cond} {rest : List Value} {u w1 : CSt} {y1 : (Sum Nat Int64)} (hst : l.stackTraces = false) (X : CC p s m args c cc nL c0 RX8 D kA V A)  (hS : CS D kA Z A s u H locs) (h : F_X9_takeNumber N u = some (y1, w1)) (hF : 7 + 1 ≤ R.frames) (hL : 8 + (3 + 11) + 122 ≤ R.locals) (hC : 1 ≤ R.cells ∧ 6 ≤ R.slots) (hl : ls.size = nL) (hc : (rest.map fun v => v.category).sum ≤ 8) (hdg : decode cc pc = .ok (.invokevirtual 179, 3)) (kk : ∀ r, y1 = .inr r → ∀ H locs, CS D kA Z A s w1 H locs → W p l e R s m args below meth c H locs 0 0 Q (F0 m (pc + 3) ls (.long r :: rest))) (kx : ∀ x, y1 = .inl x → ∀ (H : Heap) (locs : List Loc) (q : Addr) (ce : Cell), CS D kA Z A s w1 H locs → H[q]? = some ce → ce.vm = .none → s.vm.findClass (exN x) = some ce.cls → vx_W p l e R s m args below meth c H locs 1 6 Q (F0 m pc ls rest) q) : W p l e R s m args below meth c H locs 0 0 Q (F0 m pc ls (.ref (Z 202) :: rest)) :=
  ccall_lx (n := 0) X hS (k_X9_takeNumber l hst D kA V Z N   u H.size h) (gw_V gw_1160 gw_1067 gw_1068 gw_2 gw_1069) (by decide +kernel) (va_recv X.2.1 hS.1 (ci := 8) (q0 := 2) rfl (cw_lit rfl)) hF hL hC rfl hl hc rfl hdg kk kx
def B_X9_takeBounded_53 (N : Nat) (l5 : Int64) (u : CSt) : Option ((Sum Nat Int64) × CSt) := bc (F_X9_next N u) fun _ u_1 => some (.inr l5, u_1)
set_option maxHeartbeats 4000000 in
theorem b_X9_takeBounded_53 {y : (Sum Nat Int64)} (X : CC p s m args c cX9_takeBounded 7 (Cond.code yX9_takeBounded cX9_takeBounded 7 (some .long)) RX9 D kA V A) (hE : CElx p l e R s m args below meth c cX9_takeBounded D kA Z A Q y w) (hst : l.stackTraces = false) (hX : CX p l e R s m args below meth c D kA Z A Q y w) (hC : 1 ≤ R.cells ∧ 6 ≤ R.slots) (hF : 7 ≤ R.frames) (hL : 122 ≤ R.locals) {l5 : Int64} {u : CSt}  (h : B_X9_takeBounded_53 N l5 u = some (y, w))  (hS : CS D kA Z A s u H locs) (hl : lv_has ls 7 [(0, .ref (Z 202)), (5, .long l5)]) : W p l e R s m args below meth c H locs 0 0 Q (F0 m 53 ls []) := by
  obtain ⟨⟨hx, hb, hml, hown, hts⟩, hK, hEV, hA⟩ := id X
  have hG : ∀ w ∈ GW, w.before args s = true := fun w h => hts w (List.mem_cons_of_mem _ h)
  unfold B_X9_takeBounded_53 at h
  refine lv_aload_n hx hb dX9_takeBounded_53 rfl (lv_at hl 0 rfl) ?_
  obtain ⟨r_u_1, u_1, h_u_1, h⟩ := bc_of h
  refine kc_X9_next_RX9 X  hS h_u_1 (Nat.le_trans (Nat.le_of_ble_eq_true rfl) hF) (Nat.le_trans (Nat.le_of_ble_eq_true rfl) hL) hl.1 (Nat.le_of_ble_eq_true rfl) dX9_takeBounded_54 (fun H locs hS => ?_)
  refine lv_lload hx hb dX9_takeBounded_57 (lv_at hl 1 rfl) ?_
  obtain ⟨e9, rfl⟩ := so9 h
  exact hE _ e9.symm _ _ _ _ hS dX9_takeBounded_59
def B_X9_takeBounded_39 (N : Nat) (l5 : Int64) (u : CSt) : Option ((Sum Nat Int64) × CSt) := rd (cA u 204) 1501 (cI u 5) fun v_3 => bt (F_X9_refuse N 5 v_3 u) fun _ u_4 => B_X9_takeBounded_53 N l5 u_4
set_option maxHeartbeats 4000000 in
theorem b_X9_takeBounded_39 {y : (Sum Nat Int64)} (X : CC p s m args c cX9_takeBounded 7 (Cond.code yX9_takeBounded cX9_takeBounded 7 (some .long)) RX9 D kA V A) (hE : CElx p l e R s m args below meth c cX9_takeBounded D kA Z A Q y w) (hst : l.stackTraces = false) (hX : CX p l e R s m args below meth c D kA Z A Q y w) (hC : 1 ≤ R.cells ∧ 6 ≤ R.slots) (hF : 7 ≤ R.frames) (hL : 122 ≤ R.locals) {l5 : Int64} {u : CSt}  (h : B_X9_takeBounded_39 N l5 u = some (y, w))  (hS : CS D kA Z A s u H locs) (hl : lv_has ls 7 [(0, .ref (Z 202)), (5, .long l5)]) : W p l e R s m args below meth c H locs 0 0 Q (F0 m 39 ls []) := by
  obtain ⟨⟨hx, hb, hml, hown, hts⟩, hK, hEV, hA⟩ := id X
  have hG : ∀ w ∈ GW, w.before args s = true := fun w h => hts w (List.mem_cons_of_mem _ h)
  unfold B_X9_takeBounded_39 at h
  refine lv_aload_n hx hb dX9_takeBounded_39 rfl (lv_at hl 0 rfl) ?_
  refine lv_iconst (v := 5) hx hb dX9_takeBounded_40 (by decide) ?_
  refine lv_aload_n hx hb dX9_takeBounded_41 rfl (lv_at hl 0 rfl) ?_
  refine cg_X9_15 X hS dX9_takeBounded_42 ?_
  refine lv_aload_n hx hb dX9_takeBounded_45 rfl (lv_at hl 0 rfl) ?_
  refine cg_X9_53 X hS dX9_takeBounded_46 ?_
  obtain ⟨v_3, e_v_3, i_2, h⟩ := rd_of h
  refine ca_s204 X hS i_2 e_v_3 dX9_takeBounded_49 ?_
  obtain ⟨y_5, u_4, h_u_4, h⟩ := bt_of h
  refine kc_X9_refuse_RX9 hst X  hS h_u_4 (Nat.le_trans (Nat.le_of_ble_eq_true rfl) hF) (Nat.le_trans (Nat.le_of_ble_eq_true rfl) hL) hC hl.1 (Nat.le_of_ble_eq_true rfl) dX9_takeBounded_50 (fun r_u_4 hr_u_4 H locs hS => ?_) (fun x9 hn H locs q9 ce hS a1 a2 a3 => by obtain ⟨e2, rfl⟩ := bt_no h hn; exact hX _ e2 _ _ _ _ _ _ _ hS a1 a2 a3)
  replace h := bt_ok h hr_u_4
  exact b_X9_takeBounded_53 X hE hst hX hC hF hL  h  hS (lv_sub hl [0, 1] rfl)
def B_X9_takeBounded_0 (N : Nat) (l1 : Int64) (l3 : Int64) (u : CSt) : Option ((Sum Nat Int64) × CSt) := rd (cB u 205) 1501 (cI u 5) fun v_7 => rd (cA u 206) 1501 (cI u 5) fun v_9 => if (v_9 &&& 2) = (0 : Int32) then (if v_7 < l1 then (B_X9_takeBounded_39 N v_7 u) else (if v_7 ≤ l3 then (B_X9_takeBounded_53 N v_7 u) else (B_X9_takeBounded_39 N v_7 u))) else (B_X9_takeBounded_39 N v_7 u)
set_option maxHeartbeats 4000000 in
theorem b_X9_takeBounded_0 {y : (Sum Nat Int64)} (X : CC p s m args c cX9_takeBounded 7 (Cond.code yX9_takeBounded cX9_takeBounded 7 (some .long)) RX9 D kA V A) (hE : CElx p l e R s m args below meth c cX9_takeBounded D kA Z A Q y w) (hst : l.stackTraces = false) (hX : CX p l e R s m args below meth c D kA Z A Q y w) (hC : 1 ≤ R.cells ∧ 6 ≤ R.slots) (hF : 7 ≤ R.frames) (hL : 122 ≤ R.locals) {l1 : Int64} {l3 : Int64} {u : CSt}  (h : B_X9_takeBounded_0 N l1 l3 u = some (y, w))  (hS : CS D kA Z A s u H locs) (hl : lv_has ls 7 [(0, .ref (Z 202)), (1, .long l1), (3, .long l3)]) : W p l e R s m args below meth c H locs 0 0 Q (F0 m 0 ls []) := by
  obtain ⟨⟨hx, hb, hml, hown, hts⟩, hK, hEV, hA⟩ := id X
  have hG : ∀ w ∈ GW, w.before args s = true := fun w h => hts w (List.mem_cons_of_mem _ h)
  unfold B_X9_takeBounded_0 at h
  refine lv_aload_n hx hb dX9_takeBounded_0 rfl (lv_at hl 0 rfl) ?_
  refine cg_X9_18 X hS dX9_takeBounded_1 ?_
  refine lv_aload_n hx hb dX9_takeBounded_4 rfl (lv_at hl 0 rfl) ?_
  refine cg_X9_53 X hS dX9_takeBounded_5 ?_
  obtain ⟨v_7, e_v_7, i_6, h⟩ := rd_of h
  refine ca_s205 X hS i_6 e_v_7 dX9_takeBounded_8 ?_
  refine lv_lstore (lv' := [(5, .long v_7), (0, .ref (Z 202)), (1, .long l1), (3, .long l3)]) hx hb dX9_takeBounded_9 hl (by decide) rfl (fun ls hl => ?_)
  refine lv_aload_n hx hb dX9_takeBounded_11 rfl (lv_at hl 1 rfl) ?_
  refine cg_X9_22 X hS dX9_takeBounded_12 ?_
  refine lv_aload_n hx hb dX9_takeBounded_15 rfl (lv_at hl 1 rfl) ?_
  refine cg_X9_53 X hS dX9_takeBounded_16 ?_
  obtain ⟨v_9, e_v_9, i_8, h⟩ := rd_of h
  refine ca_s206 X hS i_8 e_v_9 dX9_takeBounded_19 ?_
  refine lv_iconst (v := 2) hx hb dX9_takeBounded_20 (by decide) ?_
  refine lv_iand hx hb dX9_takeBounded_21 ?_
  refine lv_if_ne (tgt := 39) hx hb dX9_takeBounded_22 (by decide) (fun c_10 => ?_) (fun c_10 => ?_)
  · have h := im (c_10) h
    exact b_X9_takeBounded_39 X hE hst hX hC hF hL  h  hS (lv_sub hl [1, 0] rfl)
  · have h := ip (c_10) h
    refine lv_lload hx hb dX9_takeBounded_25 (lv_at hl 0 rfl) ?_
    refine lv_lload_n hx hb dX9_takeBounded_27 rfl (lv_at hl 2 rfl) ?_
    refine W.lcmp hx hb dX9_takeBounded_28 ?_
    refine lv_if_lt (tgt := 39) hx hb dX9_takeBounded_29 (by decide) (fun c_11 => ?_) (fun c_11 => ?_)
    · have h := ip ((lg_cmp_lt _ _).mp c_11) h
      exact b_X9_takeBounded_39 X hE hst hX hC hF hL  h  hS (lv_sub hl [1, 0] rfl)
    · have h := im (mt (lg_cmp_lt _ _).mpr c_11) h
      refine lv_lload hx hb dX9_takeBounded_32 (lv_at hl 0 rfl) ?_
      refine lv_lload_n hx hb dX9_takeBounded_34 rfl (lv_at hl 3 rfl) ?_
      refine W.lcmp hx hb dX9_takeBounded_35 ?_
      refine lv_if_le (tgt := 53) hx hb dX9_takeBounded_36 (by decide) (fun c_12 => ?_) (fun c_12 => ?_)
      · have h := ip ((lg_cmp_le _ _).mp c_12) h
        exact b_X9_takeBounded_53 X hE hst hX hC hF hL  h  hS (lv_sub hl [1, 0] rfl)
      · have h := im (mt (lg_cmp_le _ _).mpr c_12) h
        exact b_X9_takeBounded_39 X hE hst hX hC hF hL  h  hS (lv_sub hl [1, 0] rfl)
def F_X9_takeBounded (N : Nat) (l1 : Int64) (l3 : Int64) (u : CSt) : Option ((Sum Nat Int64) × CSt) := B_X9_takeBounded_0 N l1 l3 u
set_option maxHeartbeats 4000000 in
theorem k_X9_takeBounded (l : Launch) (hst : l.stackTraces = false) (D : va_G) (kA : Nat → ClassId) (V Z : Nat → Nat) (N : Nat) (l1 : Int64) (l3 : Int64) (u : CSt) (sz : Nat) {y : (Sum Nat Int64)} {w : CSt} (h : F_X9_takeBounded N l1 l3 u = some (y, w)) : vx_Met l yX9_takeBounded (Cond.code yX9_takeBounded cX9_takeBounded 7 (some .long) :: GW) { frames := 7, cells := 1, slots := 6, locals := 122 } (cPc D kA V Z [.ref (Z 202), .long l1, .long l3] u sz) (cQlx D kA Z u sz y w) (cXc D kA Z u sz y w) 1 6 (va_A (CW kA Z u) sz) := by
  refine vx_ofW (cc := cX9_takeBounded) (maxL := 7) (ret := (some .long)) (by decide) rfl ?_
  intro p e s m args below meth c s₁ Bd hml hxt hv
  obtain ⟨rfl, hsz, hP, hK, hD0, hE⟩ := hv
  have hts := atoms_spec (ws := Cond.code yX9_takeBounded cX9_takeBounded 7 (some .long) :: GW) Bd.pre
  have hl := lv_entry ([.ref (Z 202), .long l1, .long l3]) (n := 7) (Nat.le_of_ble_eq_true rfl)
  rw [lg_entry_eq]
  generalize (lg_sl ([.ref (Z 202), .long l1, .long l3]) ++ List.replicate (7 - (lg_sl ([.ref (Z 202), .long l1, .long l3])).length) Slot.unset).toArray = ls at hl ⊢
  have hl : lv_has ls 7 [(0, .ref (Z 202)), (1, .long l1), (3, .long l3)] := hl
  subst hsz
  have X : CC p s m ([.ref (Z 202), .long l1, .long l3]).toArray c cX9_takeBounded 7 (Cond.code yX9_takeBounded cX9_takeBounded 7 (some .long)) RX9 D kA V (va_A (CW kA Z u) s.heap.size) := ⟨⟨Bd.exec, Bd.bytes, hml, findClass_of_methodNamed Bd.named, hts⟩, hK, hE, fun q h => Or.inr h⟩
  refine b_X9_takeBounded_0 X (cend_lx X Bd.returns Bd.notSynchronized) hst (cend_X X hxt Bd.notSynchronized) ⟨Nat.le_refl _, Nat.le_refl _⟩ (Nat.le_refl _) (Nat.le_refl _) h  ⟨hP, hD0.self, va_S.rf⟩ (lv_sub hl [0, 1, 2] rfl)
theorem kc_X9_takeBounded_RX3 {cc : ByteArray} {pc nL : Nat} {c0 : Cond} {rest : List Value} {l1 : Int64} {l3 : Int64} {u w1 : CSt} {y1 : (Sum Nat Int64)} (hst : l.stackTraces = false) (X : CC p s m args c cc nL c0 RX3 D kA V A)  (hS : CS D kA Z A s u H locs) (h : F_X9_takeBounded N l1 l3 u = some (y1, w1)) (hF : 7 + 1 ≤ R.frames) (hL : 8 + (7 + 11) + 122 ≤ R.locals) (hC : 1 ≤ R.cells ∧ 6 ≤ R.slots) (hl : ls.size = nL) (hc : (rest.map fun v => v.category).sum ≤ 8) (hdg : decode cc pc = .ok (.invokevirtual 158, 3)) (kk : ∀ r, y1 = .inr r → ∀ H locs, CS D kA Z A s w1 H locs → W p l e R s m args below meth c H locs 0 0 Q (F0 m (pc + 3) ls (.long r :: rest))) (kx : ∀ x, y1 = .inl x → ∀ (H : Heap) (locs : List Loc) (q : Addr) (ce : Cell), CS D kA Z A s w1 H locs → H[q]? = some ce → ce.vm = .none → s.vm.findClass (exN x) = some ce.cls → vx_W p l e R s m args below meth c H locs 1 6 Q (F0 m pc ls rest) q) : W p l e R s m args below meth c H locs 0 0 Q (F0 m pc ls (.long l3 :: .long l1 :: .ref (Z 202) :: rest)) :=
  ccall_lx (n := 2) X hS (k_X9_takeBounded l hst D kA V Z N l1 l3  u H.size h) (gw_V gw_1054 gw_1055 gw_1056 gw_2 gw_1057) (by decide +kernel) (va_recv X.2.1 hS.1 (ci := 8) (q0 := 2) rfl (cw_lit rfl)) hF hL hC rfl hl hc rfl hdg kk kx
theorem kc_X9_takeBounded_RX8 {cc : ByteArray} {pc nL : Nat} {c0 : Cond} {rest : List Value} {l1 : Int64} {l3 : Int64} {u w1 : CSt} {y1 : (Sum Nat Int64)} (hst : l.stackTraces = false) (X : CC p s m args c cc nL c0 RX8 D kA V A)  (hS : CS D kA Z A s u H locs) (h : F_X9_takeBounded N l1 l3 u = some (y1, w1)) (hF : 7 + 1 ≤ R.frames) (hL : 8 + (7 + 11) + 122 ≤ R.locals) (hC : 1 ≤ R.cells ∧ 6 ≤ R.slots) (hl : ls.size = nL) (hc : (rest.map fun v => v.category).sum ≤ 8) (hdg : decode cc pc = .ok (.invokevirtual 265, 3)) (kk : ∀ r, y1 = .inr r → ∀ H locs, CS D kA Z A s w1 H locs → W p l e R s m args below meth c H locs 0 0 Q (F0 m (pc + 3) ls (.long r :: rest))) (kx : ∀ x, y1 = .inl x → ∀ (H : Heap) (locs : List Loc) (q : Addr) (ce : Cell), CS D kA Z A s w1 H locs → H[q]? = some ce → ce.vm = .none → s.vm.findClass (exN x) = some ce.cls → vx_W p l e R s m args below meth c H locs 1 6 Q (F0 m pc ls rest) q) : W p l e R s m args below meth c H locs 0 0 Q (F0 m pc ls (.long l3 :: .long l1 :: .ref (Z 202) :: rest)) :=
  ccall_lx (n := 2) X hS (k_X9_takeBounded l hst D kA V Z N l1 l3  u H.size h) (gw_V gw_1250 gw_1055 gw_1056 gw_2 gw_1057) (by decide +kernel) (va_recv X.2.1 hS.1 (ci := 8) (q0 := 2) rfl (cw_lit rfl)) hF hL hC rfl hl hc rfl hdg kk kx
def B_X9_takeKind_0 (N : Nat) (u : CSt) : Option (Int32 × CSt) := rd (cA u 203) 1501 (cI u 5) fun v_2 => bc (F_X9_next N u) fun _ u_3 => some (v_2 - 12, u_3)
set_option maxHeartbeats 4000000 in
theorem b_X9_takeKind_0 {r : Int32} (X : CC p s m args c cX9_takeKind 2 (Cond.code yX9_takeKind cX9_takeKind 2 (some .int)) RX9 D kA V A) (hE : CEi p l e R s m args below meth c cX9_takeKind D kA Z A Q r w) (hF : 1 ≤ R.frames) (hL : 20 ≤ R.locals) {u : CSt}  (h : B_X9_takeKind_0 N u = some (r, w))  (hS : CS D kA Z A s u H locs) (hl : lv_has ls 2 [(0, .ref (Z 202))]) : W p l e R s m args below meth c H locs 0 0 Q (F0 m 0 ls []) := by
  obtain ⟨⟨hx, hb, hml, hown, hts⟩, hK, hEV, hA⟩ := id X
  have hG : ∀ w ∈ GW, w.before args s = true := fun w h => hts w (List.mem_cons_of_mem _ h)
  unfold B_X9_takeKind_0 at h
  refine lv_aload_n hx hb dX9_takeKind_0 rfl (lv_at hl 0 rfl) ?_
  refine cg_X9_9 X hS dX9_takeKind_1 ?_
  refine lv_aload_n hx hb dX9_takeKind_4 rfl (lv_at hl 0 rfl) ?_
  refine cg_X9_53 X hS dX9_takeKind_5 ?_
  obtain ⟨v_2, e_v_2, i_1, h⟩ := rd_of h
  refine ca_s203 X hS i_1 e_v_2 dX9_takeKind_8 ?_
  refine lv_bipush (v := 12) hx hb dX9_takeKind_9 (by decide) ?_
  refine lv_isub hx hb dX9_takeKind_11 ?_
  refine lv_istore_n (lv' := [(1, .int (v_2 - 12)), (0, .ref (Z 202))]) hx hb dX9_takeKind_12 rfl hl (by decide) rfl (fun ls hl => ?_)
  refine lv_aload_n hx hb dX9_takeKind_13 rfl (lv_at hl 1 rfl) ?_
  obtain ⟨r_u_3, u_3, h_u_3, h⟩ := bc_of h
  refine kc_X9_next_RX9 X  hS h_u_3 (Nat.le_trans (Nat.le_of_ble_eq_true rfl) hF) (Nat.le_trans (Nat.le_of_ble_eq_true rfl) hL) hl.1 (Nat.le_of_ble_eq_true rfl) dX9_takeKind_14 (fun H locs hS => ?_)
  refine lv_iload_n hx hb dX9_takeKind_17 rfl (lv_at hl 0 rfl) ?_
  obtain ⟨rfl, rfl⟩ := so9 h
  exact hE _ _ _ _ hS dX9_takeKind_18
def F_X9_takeKind (N : Nat) (u : CSt) : Option (Int32 × CSt) := B_X9_takeKind_0 N u
set_option maxHeartbeats 4000000 in
theorem k_X9_takeKind (l : Launch) (D : va_G) (kA : Nat → ClassId) (V Z : Nat → Nat) (N : Nat) (u : CSt) (sz : Nat) {r : Int32} {w : CSt} (h : F_X9_takeKind N u = some (r, w)) : Met l yX9_takeKind (Cond.code yX9_takeKind cX9_takeKind 2 (some .int) :: GW) { frames := 1, cells := 0, slots := 0, locals := 20 } (cPc D kA V Z [.ref (Z 202)] u sz) (cQi D kA Z u sz r w) 0 0 (va_A (CW kA Z u) sz) := by
  refine Met.ofW (cc := cX9_takeKind) (maxL := 2) (ret := (some .int)) (by decide) rfl ?_
  intro p e s m args below meth c s₁ Bd hml hv
  obtain ⟨rfl, hsz, hP, hK, hD0, hE⟩ := hv
  have hts := atoms_spec (ws := Cond.code yX9_takeKind cX9_takeKind 2 (some .int) :: GW) Bd.pre
  have hl := lv_entry ([.ref (Z 202)]) (n := 2) (Nat.le_of_ble_eq_true rfl)
  rw [lg_entry_eq]
  generalize (lg_sl ([.ref (Z 202)]) ++ List.replicate (2 - (lg_sl ([.ref (Z 202)])).length) Slot.unset).toArray = ls at hl ⊢
  have hl : lv_has ls 2 [(0, .ref (Z 202))] := hl
  subst hsz
  have X : CC p s m ([.ref (Z 202)]).toArray c cX9_takeKind 2 (Cond.code yX9_takeKind cX9_takeKind 2 (some .int)) RX9 D kA V (va_A (CW kA Z u) s.heap.size) := ⟨⟨Bd.exec, Bd.bytes, hml, findClass_of_methodNamed Bd.named, hts⟩, hK, hE, fun q h => Or.inr h⟩
  refine b_X9_takeKind_0 X (cend_i X Bd.returns Bd.notSynchronized) (Nat.le_refl _) (Nat.le_refl _) h  ⟨hP, hD0.self, va_S.rf⟩ (lv_sub hl [0] rfl)
theorem kc_X9_takeKind_RX3 {cc : ByteArray} {pc nL : Nat} {c0 : Cond} {rest : List Value} {u w1 : CSt} {r : Int32} (X : CC p s m args c cc nL c0 RX3 D kA V A)  (hS : CS D kA Z A s u H locs) (h : F_X9_takeKind N u = some (r, w1)) (hF : 1 + 1 ≤ R.frames) (hL : 8 + (2 + 11) + 20 ≤ R.locals) (hl : ls.size = nL) (hc : (rest.map fun v => v.category).sum ≤ 8) (hdg : decode cc pc = .ok (.invokevirtual 90, 3)) (kk : ∀ H locs, CS D kA Z A s w1 H locs → W p l e R s m args below meth c H locs 0 0 Q (F0 m (pc + 3) ls (.int r :: rest))) : W p l e R s m args below meth c H locs 0 0 Q (F0 m pc ls (.ref (Z 202) :: rest)) :=
  ccall_i (n := 0) X hS (k_X9_takeKind l D kA V Z N   u H.size h) (gw_V gw_1005 gw_1006 gw_1007 gw_2 gw_1008) (by decide +kernel) (va_recv X.2.1 hS.1 (ci := 8) (q0 := 2) rfl (cw_lit rfl)) hF hL rfl hl hc rfl hdg kk
theorem kc_X9_takeKind_RX8 {cc : ByteArray} {pc nL : Nat} {c0 : Cond} {rest : List Value} {u w1 : CSt} {r : Int32} (X : CC p s m args c cc nL c0 RX8 D kA V A)  (hS : CS D kA Z A s u H locs) (h : F_X9_takeKind N u = some (r, w1)) (hF : 1 + 1 ≤ R.frames) (hL : 8 + (2 + 11) + 20 ≤ R.locals) (hl : ls.size = nL) (hc : (rest.map fun v => v.category).sum ≤ 8) (hdg : decode cc pc = .ok (.invokevirtual 196, 3)) (kk : ∀ H locs, CS D kA Z A s w1 H locs → W p l e R s m args below meth c H locs 0 0 Q (F0 m (pc + 3) ls (.int r :: rest))) : W p l e R s m args below meth c H locs 0 0 Q (F0 m pc ls (.ref (Z 202) :: rest)) :=
  ccall_i (n := 0) X hS (k_X9_takeKind l D kA V Z N   u H.size h) (gw_V gw_1154 gw_1006 gw_1007 gw_2 gw_1008) (by decide +kernel) (va_recv X.2.1 hS.1 (ci := 8) (q0 := 2) rfl (cw_lit rfl)) hF hL rfl hl hc rfl hdg kk
def B_X9_byteAt_0 (N : Nat) (l1 : Int32) (u : CSt) : Option (Int32 × CSt) := if l1 < (0 : Int32) then (some ((-1), u)) else (if (cI u 3) ≤ l1 then (some ((-1), u)) else (if (6000 : Int32) ≤ l1 then (some ((-1), u)) else (rd (cA u 201) 6000 l1 fun v_5 => some (v_5 &&& 255, u))))
set_option maxHeartbeats 4000000 in
theorem b_X9_byteAt_0 {r : Int32} (X : CC p s m args c cX9_byteAt 2 (Cond.code yX9_byteAt cX9_byteAt 2 (some .int)) RX9 D kA V A) (hE : CEi p l e R s m args below meth c cX9_byteAt D kA Z A Q r w) (hF : 0 ≤ R.frames) (hL : 0 ≤ R.locals) {l1 : Int32} {u : CSt}  (h : B_X9_byteAt_0 N l1 u = some (r, w))  (hS : CS D kA Z A s u H locs) (hl : lv_has ls 2 [(0, .ref (Z 202)), (1, .int l1)]) : W p l e R s m args below meth c H locs 0 0 Q (F0 m 0 ls []) := by
  obtain ⟨⟨hx, hb, hml, hown, hts⟩, hK, hEV, hA⟩ := id X
  have hG : ∀ w ∈ GW, w.before args s = true := fun w h => hts w (List.mem_cons_of_mem _ h)
  unfold B_X9_byteAt_0 at h
  refine lv_iload_n hx hb dX9_byteAt_0 rfl (lv_at hl 1 rfl) ?_
  refine lv_if_lt (tgt := 34) hx hb dX9_byteAt_1 (by decide) (fun c_1 => ?_) (fun c_1 => ?_)
  · have h := ip (c_1) h
    refine lv_iconst (v := (-1)) hx hb dX9_byteAt_34 (by decide) ?_
    obtain ⟨rfl, rfl⟩ := so9 h
    exact hE _ _ _ _ hS dX9_byteAt_35
  · have h := im (c_1) h
    refine lv_iload_n hx hb dX9_byteAt_4 rfl (lv_at hl 1 rfl) ?_
    refine lv_aload_n hx hb dX9_byteAt_5 rfl (lv_at hl 0 rfl) ?_
    refine cg_X9_48 X hS dX9_byteAt_6 ?_
    refine lv_icmp_ge (tgt := 34) hx hb dX9_byteAt_9 (by decide) (fun c_2 => ?_) (fun c_2 => ?_)
    · have h := ip (c_2) h
      refine lv_iconst (v := (-1)) hx hb dX9_byteAt_34 (by decide) ?_
      obtain ⟨rfl, rfl⟩ := so9 h
      exact hE _ _ _ _ hS dX9_byteAt_35
    · have h := im (c_2) h
      refine lv_iload_n hx hb dX9_byteAt_12 rfl (lv_at hl 1 rfl) ?_
      refine lv_aload_n hx hb dX9_byteAt_13 rfl (lv_at hl 0 rfl) ?_
      refine cg_X9_28 X hS dX9_byteAt_14 ?_
      refine va_alen (v := 6000) hx hb hK hS.1 1 3 (cw_lit rfl) rfl rfl dX9_byteAt_17 ?_
      refine lv_icmp_ge (tgt := 34) hx hb dX9_byteAt_18 (by decide) (fun c_3 => ?_) (fun c_3 => ?_)
      · have h := ip (c_3) h
        refine lv_iconst (v := (-1)) hx hb dX9_byteAt_34 (by decide) ?_
        obtain ⟨rfl, rfl⟩ := so9 h
        exact hE _ _ _ _ hS dX9_byteAt_35
      · have h := im (c_3) h
        refine lv_aload_n hx hb dX9_byteAt_21 rfl (lv_at hl 0 rfl) ?_
        refine cg_X9_28 X hS dX9_byteAt_22 ?_
        refine lv_iload_n hx hb dX9_byteAt_25 rfl (lv_at hl 1 rfl) ?_
        obtain ⟨v_5, e_v_5, i_4, h⟩ := rd_of h
        refine ca_s201 X hS i_4 e_v_5 dX9_byteAt_26 ?_
        refine lv_sipush (v := 255) hx hb dX9_byteAt_27 (by decide) ?_
        refine lv_iand hx hb dX9_byteAt_30 ?_
        refine lv_goto (tgt := 35) hx hb dX9_byteAt_31 (by decide) ?_
        obtain ⟨rfl, rfl⟩ := so9 h
        exact hE _ _ _ _ hS dX9_byteAt_35
def F_X9_byteAt (N : Nat) (l1 : Int32) (u : CSt) : Option (Int32 × CSt) := B_X9_byteAt_0 N l1 u
set_option maxHeartbeats 4000000 in
theorem k_X9_byteAt (l : Launch) (D : va_G) (kA : Nat → ClassId) (V Z : Nat → Nat) (N : Nat) (l1 : Int32) (u : CSt) (sz : Nat) {r : Int32} {w : CSt} (h : F_X9_byteAt N l1 u = some (r, w)) : Met l yX9_byteAt (Cond.code yX9_byteAt cX9_byteAt 2 (some .int) :: GW) { frames := 0, cells := 0, slots := 0, locals := 0 } (cPc D kA V Z [.ref (Z 202), .int l1] u sz) (cQi D kA Z u sz r w) 0 0 (va_A (CW kA Z u) sz) := by
  refine Met.ofW (cc := cX9_byteAt) (maxL := 2) (ret := (some .int)) (by decide) rfl ?_
  intro p e s m args below meth c s₁ Bd hml hv
  obtain ⟨rfl, hsz, hP, hK, hD0, hE⟩ := hv
  have hts := atoms_spec (ws := Cond.code yX9_byteAt cX9_byteAt 2 (some .int) :: GW) Bd.pre
  have hl := lv_entry ([.ref (Z 202), .int l1]) (n := 2) (Nat.le_of_ble_eq_true rfl)
  rw [lg_entry_eq]
  generalize (lg_sl ([.ref (Z 202), .int l1]) ++ List.replicate (2 - (lg_sl ([.ref (Z 202), .int l1])).length) Slot.unset).toArray = ls at hl ⊢
  have hl : lv_has ls 2 [(0, .ref (Z 202)), (1, .int l1)] := hl
  subst hsz
  have X : CC p s m ([.ref (Z 202), .int l1]).toArray c cX9_byteAt 2 (Cond.code yX9_byteAt cX9_byteAt 2 (some .int)) RX9 D kA V (va_A (CW kA Z u) s.heap.size) := ⟨⟨Bd.exec, Bd.bytes, hml, findClass_of_methodNamed Bd.named, hts⟩, hK, hE, fun q h => Or.inr h⟩
  refine b_X9_byteAt_0 X (cend_i X Bd.returns Bd.notSynchronized) (Nat.le_refl _) (Nat.le_refl _) h  ⟨hP, hD0.self, va_S.rf⟩ (lv_sub hl [0, 1] rfl)
theorem kc_X9_byteAt_RX9 {cc : ByteArray} {pc nL : Nat} {c0 : Cond} {rest : List Value} {l1 : Int32} {u w1 : CSt} {r : Int32} (X : CC p s m args c cc nL c0 RX9 D kA V A)  (hS : CS D kA Z A s u H locs) (h : F_X9_byteAt N l1 u = some (r, w1)) (hF : 0 + 1 ≤ R.frames) (hL : 8 + (2 + 11) + 0 ≤ R.locals) (hl : ls.size = nL) (hc : (rest.map fun v => v.category).sum ≤ 8) (hdg : decode cc pc = .ok (.invokevirtual 86, 3)) (kk : ∀ H locs, CS D kA Z A s w1 H locs → W p l e R s m args below meth c H locs 0 0 Q (F0 m (pc + 3) ls (.int r :: rest))) : W p l e R s m args below meth c H locs 0 0 Q (F0 m pc ls (.int l1 :: .ref (Z 202) :: rest)) :=
  ccall_i (n := 1) X hS (k_X9_byteAt l D kA V Z N l1  u H.size h) (gw_V gw_627 gw_629 gs_1_2 gw_2 gw_630) (by decide +kernel) (va_recv X.2.1 hS.1 (ci := 8) (q0 := 2) rfl (cw_lit rfl)) hF hL rfl hl hc rfl hdg kk
def B_X9_behindGap_93 (N : Nat) (R_4 : Int32 × Int32 × CSt → Option (Int32 × CSt)) (l2 : Int32) (l3 : Int32) (u : CSt) : Option (Int32 × CSt) := R_4 (l2, (l3 + 1), u)
set_option maxHeartbeats 4000000 in
theorem b_X9_behindGap_93 {r : Int32} (X : CC p s m args c cX9_behindGap 5 (Cond.code yX9_behindGap cX9_behindGap 5 (some .int)) RX9 D kA V A) (hE : CEi p l e R s m args below meth c cX9_behindGap D kA Z A Q r w) (hF : 1 ≤ R.frames) (hL : 21 ≤ R.locals) {R_4 : Int32 × Int32 × CSt → Option (Int32 × CSt)} {l2 : Int32} {l3 : Int32} {u : CSt} (hR_4 : ∀ (l2 : Int32) (l3 : Int32) (u : CSt), R_4 (l2, l3, u) = some (r, w) → ∀ (H : Heap) (locs : List Loc) (ls : Array Slot), CS D kA Z A s u H locs → lv_has ls 5 [(0, .ref (Z 202)), (2, .int l2), (3, .int l3)] → W p l e R s m args below meth c H locs 0 0 Q (F0 m 4 ls [])) (h : B_X9_behindGap_93 N R_4 l2 l3 u = some (r, w))  (hS : CS D kA Z A s u H locs) (hl : lv_has ls 5 [(0, .ref (Z 202)), (2, .int l2), (3, .int l3)]) : W p l e R s m args below meth c H locs 0 0 Q (F0 m 93 ls []) := by
  obtain ⟨⟨hx, hb, hml, hown, hts⟩, hK, hEV, hA⟩ := id X
  have hG : ∀ w ∈ GW, w.before args s = true := fun w h => hts w (List.mem_cons_of_mem _ h)
  unfold B_X9_behindGap_93 at h
  refine lv_iinc (v := l3 + 1) (lv' := [(3, .int (l3 + 1)), (0, .ref (Z 202)), (2, .int l2)]) hx hb dX9_behindGap_93 hl (k := 2) rfl rfl (by decide) rfl (fun ls hl => ?_)
  refine lv_goto (tgt := 4) hx hb dX9_behindGap_96 (by decide) ?_
  exact hR_4 _ _ _  h _ _ _ hS (lv_sub hl [1, 2, 0] rfl)
def B_X9_behindGap_35 (N : Nat) (R_4 : Int32 × Int32 × CSt → Option (Int32 × CSt)) (l3 : Int32) (s0 : Int32) (u : CSt) : Option (Int32 × CSt) := B_X9_behindGap_93 N R_4 s0 l3 u
set_option maxHeartbeats 4000000 in
theorem b_X9_behindGap_35 {r : Int32} (X : CC p s m args c cX9_behindGap 5 (Cond.code yX9_behindGap cX9_behindGap 5 (some .int)) RX9 D kA V A) (hE : CEi p l e R s m args below meth c cX9_behindGap D kA Z A Q r w) (hF : 1 ≤ R.frames) (hL : 21 ≤ R.locals) {R_4 : Int32 × Int32 × CSt → Option (Int32 × CSt)} {l3 : Int32} {s0 : Int32} {u : CSt} (hR_4 : ∀ (l2 : Int32) (l3 : Int32) (u : CSt), R_4 (l2, l3, u) = some (r, w) → ∀ (H : Heap) (locs : List Loc) (ls : Array Slot), CS D kA Z A s u H locs → lv_has ls 5 [(0, .ref (Z 202)), (2, .int l2), (3, .int l3)] → W p l e R s m args below meth c H locs 0 0 Q (F0 m 4 ls [])) (h : B_X9_behindGap_35 N R_4 l3 s0 u = some (r, w))  (hS : CS D kA Z A s u H locs) (hl : lv_has ls 5 [(0, .ref (Z 202)), (3, .int l3)]) : W p l e R s m args below meth c H locs 0 0 Q (F0 m 35 ls [.int s0]) := by
  obtain ⟨⟨hx, hb, hml, hown, hts⟩, hK, hEV, hA⟩ := id X
  have hG : ∀ w ∈ GW, w.before args s = true := fun w h => hts w (List.mem_cons_of_mem _ h)
  unfold B_X9_behindGap_35 at h
  refine lv_istore_n (lv' := [(2, .int s0), (0, .ref (Z 202)), (3, .int l3)]) hx hb dX9_behindGap_35 rfl hl (by decide) rfl (fun ls hl => ?_)
  refine lv_goto (tgt := 93) hx hb dX9_behindGap_36 (by decide) ?_
  exact b_X9_behindGap_93 X hE  hF hL hR_4 h  hS (lv_sub hl [1, 0, 2] rfl)
def B_X9_behindGap_63 (N : Nat) (R_4 : Int32 × Int32 × CSt → Option (Int32 × CSt)) (l2 : Int32) (l3 : Int32) (l4 : Int32) (u : CSt) : Option (Int32 × CSt) := if l4 = (9 : Int32) then (B_X9_behindGap_93 N R_4 l2 l3 u) else (if l4 = (10 : Int32) then (B_X9_behindGap_93 N R_4 l2 l3 u) else (if l4 = (13 : Int32) then (B_X9_behindGap_93 N R_4 l2 l3 u) else (if l4 = (32 : Int32) then (B_X9_behindGap_93 N R_4 l2 l3 u) else (some (l3, u)))))
set_option maxHeartbeats 4000000 in
theorem b_X9_behindGap_63 {r : Int32} (X : CC p s m args c cX9_behindGap 5 (Cond.code yX9_behindGap cX9_behindGap 5 (some .int)) RX9 D kA V A) (hE : CEi p l e R s m args below meth c cX9_behindGap D kA Z A Q r w) (hF : 1 ≤ R.frames) (hL : 21 ≤ R.locals) {R_4 : Int32 × Int32 × CSt → Option (Int32 × CSt)} {l2 : Int32} {l3 : Int32} {l4 : Int32} {u : CSt} (hR_4 : ∀ (l2 : Int32) (l3 : Int32) (u : CSt), R_4 (l2, l3, u) = some (r, w) → ∀ (H : Heap) (locs : List Loc) (ls : Array Slot), CS D kA Z A s u H locs → lv_has ls 5 [(0, .ref (Z 202)), (2, .int l2), (3, .int l3)] → W p l e R s m args below meth c H locs 0 0 Q (F0 m 4 ls [])) (h : B_X9_behindGap_63 N R_4 l2 l3 l4 u = some (r, w))  (hS : CS D kA Z A s u H locs) (hl : lv_has ls 5 [(0, .ref (Z 202)), (2, .int l2), (3, .int l3), (4, .int l4)]) : W p l e R s m args below meth c H locs 0 0 Q (F0 m 63 ls []) := by
  obtain ⟨⟨hx, hb, hml, hown, hts⟩, hK, hEV, hA⟩ := id X
  have hG : ∀ w ∈ GW, w.before args s = true := fun w h => hts w (List.mem_cons_of_mem _ h)
  unfold B_X9_behindGap_63 at h
  refine lv_iload hx hb dX9_behindGap_63 (lv_at hl 3 rfl) ?_
  refine lv_bipush (v := 9) hx hb dX9_behindGap_65 (by decide) ?_
  refine lv_icmp_eq (tgt := 93) hx hb dX9_behindGap_67 (by decide) (fun c_1 => ?_) (fun c_1 => ?_)
  · have h := ip (c_1) h
    exact b_X9_behindGap_93 X hE  hF hL hR_4 h  hS (lv_sub hl [0, 1, 2] rfl)
  · have h := im (c_1) h
    refine lv_iload hx hb dX9_behindGap_70 (lv_at hl 3 rfl) ?_
    refine lv_bipush (v := 10) hx hb dX9_behindGap_72 (by decide) ?_
    refine lv_icmp_eq (tgt := 93) hx hb dX9_behindGap_74 (by decide) (fun c_2 => ?_) (fun c_2 => ?_)
    · have h := ip (c_2) h
      exact b_X9_behindGap_93 X hE  hF hL hR_4 h  hS (lv_sub hl [0, 1, 2] rfl)
    · have h := im (c_2) h
      refine lv_iload hx hb dX9_behindGap_77 (lv_at hl 3 rfl) ?_
      refine lv_bipush (v := 13) hx hb dX9_behindGap_79 (by decide) ?_
      refine lv_icmp_eq (tgt := 93) hx hb dX9_behindGap_81 (by decide) (fun c_3 => ?_) (fun c_3 => ?_)
      · have h := ip (c_3) h
        exact b_X9_behindGap_93 X hE  hF hL hR_4 h  hS (lv_sub hl [0, 1, 2] rfl)
      · have h := im (c_3) h
        refine lv_iload hx hb dX9_behindGap_84 (lv_at hl 3 rfl) ?_
        refine lv_bipush (v := 32) hx hb dX9_behindGap_86 (by decide) ?_
        refine lv_icmp_eq (tgt := 93) hx hb dX9_behindGap_88 (by decide) (fun c_4 => ?_) (fun c_4 => ?_)
        · have h := ip (c_4) h
          exact b_X9_behindGap_93 X hE  hF hL hR_4 h  hS (lv_sub hl [0, 1, 2] rfl)
        · have h := im (c_4) h
          refine lv_iload_n hx hb dX9_behindGap_91 rfl (lv_at hl 2 rfl) ?_
          obtain ⟨rfl, rfl⟩ := so9 h
          exact hE _ _ _ _ hS dX9_behindGap_92
def B_X9_behindGap_4 (N : Nat) (R_4 : Int32 × Int32 × CSt → Option (Int32 × CSt)) (l2 : Int32) (l3 : Int32) (u : CSt) : Option (Int32 × CSt) := if (cI u 3) ≤ l3 then (some (cI u 3, u)) else (bc (F_X9_byteAt N l3 u) fun r_7 u_6 => if l2 = (0 : Int32) then (if r_7 = (47 : Int32) then (bc (F_X9_byteAt N (l3 + 1) u_6) fun r_11 u_10 => if r_11 = (47 : Int32) then (B_X9_behindGap_93 N R_4 1 l3 u_10) else (B_X9_behindGap_63 N R_4 l2 l3 r_7 u_10)) else (B_X9_behindGap_63 N R_4 l2 l3 r_7 u_6)) else (if r_7 = (10 : Int32) then (B_X9_behindGap_35 N R_4 l3 0 u_6) else (B_X9_behindGap_35 N R_4 l3 1 u_6)))
set_option maxHeartbeats 4000000 in
theorem b_X9_behindGap_4 {r : Int32} (X : CC p s m args c cX9_behindGap 5 (Cond.code yX9_behindGap cX9_behindGap 5 (some .int)) RX9 D kA V A) (hE : CEi p l e R s m args below meth c cX9_behindGap D kA Z A Q r w) (hF : 1 ≤ R.frames) (hL : 21 ≤ R.locals) {R_4 : Int32 × Int32 × CSt → Option (Int32 × CSt)} {l2 : Int32} {l3 : Int32} {u : CSt} (hR_4 : ∀ (l2 : Int32) (l3 : Int32) (u : CSt), R_4 (l2, l3, u) = some (r, w) → ∀ (H : Heap) (locs : List Loc) (ls : Array Slot), CS D kA Z A s u H locs → lv_has ls 5 [(0, .ref (Z 202)), (2, .int l2), (3, .int l3)] → W p l e R s m args below meth c H locs 0 0 Q (F0 m 4 ls [])) (h : B_X9_behindGap_4 N R_4 l2 l3 u = some (r, w))  (hS : CS D kA Z A s u H locs) (hl : lv_has ls 5 [(0, .ref (Z 202)), (2, .int l2), (3, .int l3)]) : W p l e R s m args below meth c H locs 0 0 Q (F0 m 4 ls []) := by
  obtain ⟨⟨hx, hb, hml, hown, hts⟩, hK, hEV, hA⟩ := id X
  have hG : ∀ w ∈ GW, w.before args s = true := fun w h => hts w (List.mem_cons_of_mem _ h)
  unfold B_X9_behindGap_4 at h
  refine lv_iload_n hx hb dX9_behindGap_4 rfl (lv_at hl 2 rfl) ?_
  refine lv_aload_n hx hb dX9_behindGap_5 rfl (lv_at hl 0 rfl) ?_
  refine cg_X9_48 X hS dX9_behindGap_6 ?_
  refine lv_icmp_ge (tgt := 99) hx hb dX9_behindGap_9 (by decide) (fun c_5 => ?_) (fun c_5 => ?_)
  · have h := ip (c_5) h
    refine lv_aload_n hx hb dX9_behindGap_99 rfl (lv_at hl 0 rfl) ?_
    refine cg_X9_48 X hS dX9_behindGap_100 ?_
    obtain ⟨rfl, rfl⟩ := so9 h
    exact hE _ _ _ _ hS dX9_behindGap_103
  · have h := im (c_5) h
    refine lv_aload_n hx hb dX9_behindGap_12 rfl (lv_at hl 0 rfl) ?_
    refine lv_iload_n hx hb dX9_behindGap_13 rfl (lv_at hl 2 rfl) ?_
    obtain ⟨r_7, u_6, h_u_6, h⟩ := bc_of h
    refine kc_X9_byteAt_RX9 X  hS h_u_6 (Nat.le_trans (Nat.le_of_ble_eq_true rfl) hF) (Nat.le_trans (Nat.le_of_ble_eq_true rfl) hL) hl.1 (Nat.le_of_ble_eq_true rfl) dX9_behindGap_14 (fun H locs hS => ?_)
    refine lv_istore (lv' := [(4, .int r_7), (0, .ref (Z 202)), (2, .int l2), (3, .int l3)]) hx hb dX9_behindGap_17 hl (by decide) rfl (fun ls hl => ?_)
    refine lv_iload_n hx hb dX9_behindGap_19 rfl (lv_at hl 2 rfl) ?_
    refine lv_if_eq (tgt := 39) hx hb dX9_behindGap_20 (by decide) (fun c_8 => ?_) (fun c_8 => ?_)
    · have h := ip (c_8) h
      refine lv_iload hx hb dX9_behindGap_39 (lv_at hl 0 rfl) ?_
      refine lv_bipush (v := 47) hx hb dX9_behindGap_41 (by decide) ?_
      refine lv_icmp_ne (tgt := 63) hx hb dX9_behindGap_43 (by decide) (fun c_9 => ?_) (fun c_9 => ?_)
      · have h := im (c_9) h
        exact b_X9_behindGap_63 X hE  hF hL hR_4 h  hS (lv_sub hl [1, 2, 3, 0] rfl)
      · have h := ip (c_9) h
        refine lv_aload_n hx hb dX9_behindGap_46 rfl (lv_at hl 1 rfl) ?_
        refine lv_iload_n hx hb dX9_behindGap_47 rfl (lv_at hl 3 rfl) ?_
        refine lv_iconst (v := 1) hx hb dX9_behindGap_48 (by decide) ?_
        refine lv_iadd hx hb dX9_behindGap_49 ?_
        obtain ⟨r_11, u_10, h_u_10, h⟩ := bc_of h
        refine kc_X9_byteAt_RX9 X  hS h_u_10 (Nat.le_trans (Nat.le_of_ble_eq_true rfl) hF) (Nat.le_trans (Nat.le_of_ble_eq_true rfl) hL) hl.1 (Nat.le_of_ble_eq_true rfl) dX9_behindGap_50 (fun H locs hS => ?_)
        refine lv_bipush (v := 47) hx hb dX9_behindGap_53 (by decide) ?_
        refine lv_icmp_ne (tgt := 63) hx hb dX9_behindGap_55 (by decide) (fun c_12 => ?_) (fun c_12 => ?_)
        · have h := im (c_12) h
          exact b_X9_behindGap_63 X hE  hF hL hR_4 h  hS (lv_sub hl [1, 2, 3, 0] rfl)
        · have h := ip (c_12) h
          refine lv_iconst (v := 1) hx hb dX9_behindGap_58 (by decide) ?_
          refine lv_istore_n (lv' := [(2, .int 1), (4, .int r_7), (0, .ref (Z 202)), (3, .int l3)]) hx hb dX9_behindGap_59 rfl hl (by decide) rfl (fun ls hl => ?_)
          refine lv_goto (tgt := 93) hx hb dX9_behindGap_60 (by decide) ?_
          exact b_X9_behindGap_93 X hE  hF hL hR_4 h  hS (lv_sub hl [2, 0, 3] rfl)
    · have h := im (c_8) h
      refine lv_iload hx hb dX9_behindGap_23 (lv_at hl 0 rfl) ?_
      refine lv_bipush (v := 10) hx hb dX9_behindGap_25 (by decide) ?_
      refine lv_icmp_eq (tgt := 34) hx hb dX9_behindGap_27 (by decide) (fun c_13 => ?_) (fun c_13 => ?_)
      · have h := ip (c_13) h
        refine lv_iconst (v := 0) hx hb dX9_behindGap_34 (by decide) ?_
        exact b_X9_behindGap_35 X hE  hF hL hR_4 h  hS (lv_sub hl [1, 3] rfl)
      · have h := im (c_13) h
        refine lv_iconst (v := 1) hx hb dX9_behindGap_30 (by decide) ?_
        refine lv_goto (tgt := 35) hx hb dX9_behindGap_31 (by decide) ?_
        exact b_X9_behindGap_35 X hE  hF hL hR_4 h  hS (lv_sub hl [1, 3] rfl)
def LP_X9_behindGap_4 (N : Nat) : Nat → Int32 × Int32 × CSt → Option (Int32 × CSt) := lp (fun R a => B_X9_behindGap_4 N R a.1 a.2.1 a.2.2)
theorem bl_X9_behindGap_4 {r : Int32} (X : CC p s m args c cX9_behindGap 5 (Cond.code yX9_behindGap cX9_behindGap 5 (some .int)) RX9 D kA V A) (hE : CEi p l e R s m args below meth c cX9_behindGap D kA Z A Q r w) (hF : 1 ≤ R.frames) (hL : 21 ≤ R.locals)  : ∀ (n : Nat) (l2 : Int32) (l3 : Int32) (u : CSt), LP_X9_behindGap_4 N n (l2, l3, u) = some (r, w) → ∀ (H : Heap) (locs : List Loc) (ls : Array Slot), CS D kA Z A s u H locs → lv_has ls 5 [(0, .ref (Z 202)), (2, .int l2), (3, .int l3)] → W p l e R s m args below meth c H locs 0 0 Q (F0 m 4 ls []) := by
  intro n
  induction n with
  | zero => intro l2 l3 u h; exact nomatch h
  | succ n ih => intro l2 l3 u h H locs ls hS hl; exact b_X9_behindGap_4 (N := N) (R_4 := LP_X9_behindGap_4 N n) X hE  hF hL  ih h  hS hl
def B_X9_behindGap_0 (N : Nat) (l1 : Int32) (u : CSt) : Option (Int32 × CSt) := LP_X9_behindGap_4 N N (0, l1, u)
set_option maxHeartbeats 4000000 in
theorem b_X9_behindGap_0 {r : Int32} (X : CC p s m args c cX9_behindGap 5 (Cond.code yX9_behindGap cX9_behindGap 5 (some .int)) RX9 D kA V A) (hE : CEi p l e R s m args below meth c cX9_behindGap D kA Z A Q r w) (hF : 1 ≤ R.frames) (hL : 21 ≤ R.locals) {l1 : Int32} {u : CSt}  (h : B_X9_behindGap_0 N l1 u = some (r, w))  (hS : CS D kA Z A s u H locs) (hl : lv_has ls 5 [(0, .ref (Z 202)), (1, .int l1)]) : W p l e R s m args below meth c H locs 0 0 Q (F0 m 0 ls []) := by
  obtain ⟨⟨hx, hb, hml, hown, hts⟩, hK, hEV, hA⟩ := id X
  have hG : ∀ w ∈ GW, w.before args s = true := fun w h => hts w (List.mem_cons_of_mem _ h)
  unfold B_X9_behindGap_0 at h
  refine lv_iconst (v := 0) hx hb dX9_behindGap_0 (by decide) ?_
  refine lv_istore_n (lv' := [(2, .int 0), (0, .ref (Z 202)), (1, .int l1)]) hx hb dX9_behindGap_1 rfl hl (by decide) rfl (fun ls hl => ?_)
  refine lv_iload_n hx hb dX9_behindGap_2 rfl (lv_at hl 2 rfl) ?_
  refine lv_istore_n (lv' := [(3, .int l1), (2, .int 0), (0, .ref (Z 202)), (1, .int l1)]) hx hb dX9_behindGap_3 rfl hl (by decide) rfl (fun ls hl => ?_)
  exact bl_X9_behindGap_4 X hE  hF hL  _ _ _ _  h _ _ _ hS (lv_sub hl [2, 1, 0] rfl)
def F_X9_behindGap (N : Nat) (l1 : Int32) (u : CSt) : Option (Int32 × CSt) := B_X9_behindGap_0 N l1 u
set_option maxHeartbeats 4000000 in
theorem k_X9_behindGap (l : Launch) (D : va_G) (kA : Nat → ClassId) (V Z : Nat → Nat) (N : Nat) (l1 : Int32) (u : CSt) (sz : Nat) {r : Int32} {w : CSt} (h : F_X9_behindGap N l1 u = some (r, w)) : Met l yX9_behindGap (Cond.code yX9_behindGap cX9_behindGap 5 (some .int) :: GW) { frames := 1, cells := 0, slots := 0, locals := 21 } (cPc D kA V Z [.ref (Z 202), .int l1] u sz) (cQi D kA Z u sz r w) 0 0 (va_A (CW kA Z u) sz) := by
  refine Met.ofW (cc := cX9_behindGap) (maxL := 5) (ret := (some .int)) (by decide) rfl ?_
  intro p e s m args below meth c s₁ Bd hml hv
  obtain ⟨rfl, hsz, hP, hK, hD0, hE⟩ := hv
  have hts := atoms_spec (ws := Cond.code yX9_behindGap cX9_behindGap 5 (some .int) :: GW) Bd.pre
  have hl := lv_entry ([.ref (Z 202), .int l1]) (n := 5) (Nat.le_of_ble_eq_true rfl)
  rw [lg_entry_eq]
  generalize (lg_sl ([.ref (Z 202), .int l1]) ++ List.replicate (5 - (lg_sl ([.ref (Z 202), .int l1])).length) Slot.unset).toArray = ls at hl ⊢
  have hl : lv_has ls 5 [(0, .ref (Z 202)), (1, .int l1)] := hl
  subst hsz
  have X : CC p s m ([.ref (Z 202), .int l1]).toArray c cX9_behindGap 5 (Cond.code yX9_behindGap cX9_behindGap 5 (some .int)) RX9 D kA V (va_A (CW kA Z u) s.heap.size) := ⟨⟨Bd.exec, Bd.bytes, hml, findClass_of_methodNamed Bd.named, hts⟩, hK, hE, fun q h => Or.inr h⟩
  refine b_X9_behindGap_0 X (cend_i X Bd.returns Bd.notSynchronized) (Nat.le_refl _) (Nat.le_refl _) h  ⟨hP, hD0.self, va_S.rf⟩ (lv_sub hl [0, 1] rfl)
theorem kc_X9_behindGap_RX9 {cc : ByteArray} {pc nL : Nat} {c0 : Cond} {rest : List Value} {l1 : Int32} {u w1 : CSt} {r : Int32} (X : CC p s m args c cc nL c0 RX9 D kA V A)  (hS : CS D kA Z A s u H locs) (h : F_X9_behindGap N l1 u = some (r, w1)) (hF : 1 + 1 ≤ R.frames) (hL : 8 + (5 + 11) + 21 ≤ R.locals) (hl : ls.size = nL) (hc : (rest.map fun v => v.category).sum ≤ 8) (hdg : decode cc pc = .ok (.invokevirtual 59, 3)) (kk : ∀ H locs, CS D kA Z A s w1 H locs → W p l e R s m args below meth c H locs 0 0 Q (F0 m (pc + 3) ls (.int r :: rest))) : W p l e R s m args below meth c H locs 0 0 Q (F0 m pc ls (.int l1 :: .ref (Z 202) :: rest)) :=
  ccall_i (n := 1) X hS (k_X9_behindGap l D kA V Z N l1  u H.size h) (gw_V gw_623 gw_625 gs_1_1 gw_2 gw_626) (by decide +kernel) (va_recv X.2.1 hS.1 (ci := 8) (q0 := 2) rfl (cw_lit rfl)) hF hL rfl hl hc rfl hdg kk
def B_X9_put_0 (N : Nat) (l1 : Int32) (l2 : Int64) (l4 : Int32) (u : CSt) : Option (Int32 × CSt) := wc 1501 (cI u 4) (xA u 203 (cI u 4).toNatClampNeg l1) fun u_2 => wc 1501 (cI u_2 4) (xB u_2 205 (cI u_2 4).toNatClampNeg l2) fun u_4 => wc 1501 (cI u_4 4) (xA u_4 206 (cI u_4 4).toNatClampNeg l4) fun u_6 => some (0, u_6)
set_option maxHeartbeats 4000000 in
theorem b_X9_put_0 {r : Int32} (X : CC p s m args c cX9_put 5 (Cond.code yX9_put cX9_put 5 none) RX9 D kA V A) (hE : CEv p l e R s m args below meth c cX9_put D kA Z A Q w) (hF : 0 ≤ R.frames) (hL : 0 ≤ R.locals) {l1 : Int32} {l2 : Int64} {l4 : Int32} {u : CSt}  (h : B_X9_put_0 N l1 l2 l4 u = some (r, w))  (hS : CS D kA Z A s u H locs) (hl : lv_has ls 5 [(0, .ref (Z 202)), (1, .int l1), (2, .long l2), (4, .int l4)]) : W p l e R s m args below meth c H locs 0 0 Q (F0 m 0 ls []) := by
  obtain ⟨⟨hx, hb, hml, hown, hts⟩, hK, hEV, hA⟩ := id X
  have hG : ∀ w ∈ GW, w.before args s = true := fun w h => hts w (List.mem_cons_of_mem _ h)
  unfold B_X9_put_0 at h
  refine lv_aload_n hx hb dX9_put_0 rfl (lv_at hl 0 rfl) ?_
  refine cg_X9_9 X hS dX9_put_1 ?_
  refine lv_aload_n hx hb dX9_put_4 rfl (lv_at hl 0 rfl) ?_
  refine cg_X9_50 X hS dX9_put_5 ?_
  refine lv_iload_n hx hb dX9_put_8 rfl (lv_at hl 1 rfl) ?_
  obtain ⟨u_2, e_u_2, i_1, h⟩ := wc_of h
  refine cs_s203 X hS i_1 e_u_2 dX9_put_9 (fun H locs hS => ?_)
  refine lv_aload_n hx hb dX9_put_10 rfl (lv_at hl 0 rfl) ?_
  refine cg_X9_18 X hS dX9_put_11 ?_
  refine lv_aload_n hx hb dX9_put_14 rfl (lv_at hl 0 rfl) ?_
  refine cg_X9_50 X hS dX9_put_15 ?_
  refine lv_lload_n hx hb dX9_put_18 rfl (lv_at hl 2 rfl) ?_
  obtain ⟨u_4, e_u_4, i_3, h⟩ := wc_of h
  refine cs_s205 X hS i_3 e_u_4 dX9_put_19 (fun H locs hS => ?_)
  refine lv_aload_n hx hb dX9_put_20 rfl (lv_at hl 0 rfl) ?_
  refine cg_X9_22 X hS dX9_put_21 ?_
  refine lv_aload_n hx hb dX9_put_24 rfl (lv_at hl 0 rfl) ?_
  refine cg_X9_50 X hS dX9_put_25 ?_
  refine lv_iload hx hb dX9_put_28 (lv_at hl 3 rfl) ?_
  obtain ⟨u_6, e_u_6, i_5, h⟩ := wc_of h
  refine cs_s206 X hS i_5 e_u_6 dX9_put_30 (fun H locs hS => ?_)
  obtain ⟨-, rfl⟩ := so9 h
  exact hE _ _ _ _ hS dX9_put_31
def F_X9_put (N : Nat) (l1 : Int32) (l2 : Int64) (l4 : Int32) (u : CSt) : Option (Int32 × CSt) := B_X9_put_0 N l1 l2 l4 u
set_option maxHeartbeats 4000000 in
theorem k_X9_put (l : Launch) (D : va_G) (kA : Nat → ClassId) (V Z : Nat → Nat) (N : Nat) (l1 : Int32) (l2 : Int64) (l4 : Int32) (u : CSt) (sz : Nat) {r : Int32} {w : CSt} (h : F_X9_put N l1 l2 l4 u = some (r, w)) : Met l yX9_put (Cond.code yX9_put cX9_put 5 none :: GW) { frames := 0, cells := 0, slots := 0, locals := 0 } (cPc D kA V Z [.ref (Z 202), .int l1, .long l2, .int l4] u sz) (cQv D kA Z u sz w) 0 0 (va_A (CW kA Z u) sz) := by
  refine Met.ofW (cc := cX9_put) (maxL := 5) (ret := none) (by decide) rfl ?_
  intro p e s m args below meth c s₁ Bd hml hv
  obtain ⟨rfl, hsz, hP, hK, hD0, hE⟩ := hv
  have hts := atoms_spec (ws := Cond.code yX9_put cX9_put 5 none :: GW) Bd.pre
  have hl := lv_entry ([.ref (Z 202), .int l1, .long l2, .int l4]) (n := 5) (Nat.le_of_ble_eq_true rfl)
  rw [lg_entry_eq]
  generalize (lg_sl ([.ref (Z 202), .int l1, .long l2, .int l4]) ++ List.replicate (5 - (lg_sl ([.ref (Z 202), .int l1, .long l2, .int l4])).length) Slot.unset).toArray = ls at hl ⊢
  have hl : lv_has ls 5 [(0, .ref (Z 202)), (1, .int l1), (2, .long l2), (4, .int l4)] := hl
  subst hsz
  have X : CC p s m ([.ref (Z 202), .int l1, .long l2, .int l4]).toArray c cX9_put 5 (Cond.code yX9_put cX9_put 5 none) RX9 D kA V (va_A (CW kA Z u) s.heap.size) := ⟨⟨Bd.exec, Bd.bytes, hml, findClass_of_methodNamed Bd.named, hts⟩, hK, hE, fun q h => Or.inr h⟩
  refine b_X9_put_0 X (cend_v X Bd.returns Bd.notSynchronized) (Nat.le_refl _) (Nat.le_refl _) h  ⟨hP, hD0.self, va_S.rf⟩ (lv_sub hl [0, 1, 2, 3] rfl)
theorem kc_X9_put_RX9 {cc : ByteArray} {pc nL : Nat} {c0 : Cond} {rest : List Value} {l1 : Int32} {l2 : Int64} {l4 : Int32} {u w1 : CSt} {r : Int32} (X : CC p s m args c cc nL c0 RX9 D kA V A)  (hS : CS D kA Z A s u H locs) (h : F_X9_put N l1 l2 l4 u = some (r, w1)) (hF : 0 + 1 ≤ R.frames) (hL : 8 + (5 + 11) + 0 ≤ R.locals) (hl : ls.size = nL) (hc : (rest.map fun v => v.category).sum ≤ 8) (hdg : decode cc pc = .ok (.invokevirtual 93, 3)) (kk : ∀ H locs, CS D kA Z A s w1 H locs → W p l e R s m args below meth c H locs 0 0 Q (F0 m (pc + 3) ls (rest))) : W p l e R s m args below meth c H locs 0 0 Q (F0 m pc ls (.int l4 :: .long l2 :: .int l1 :: .ref (Z 202) :: rest)) :=
  ccall_v (n := 3) X hS (k_X9_put l D kA V Z N l1 l2 l4  u H.size h) (gw_V gw_649 gw_651 gs_1_6 gw_2 gw_652) (by decide +kernel) (va_recv X.2.1 hS.1 (ci := 8) (q0 := 2) rfl (cw_lit rfl)) hF hL rfl hl hc rfl hdg kk
def B_X9_closeWith_0 (N : Nat) (l1 : Int32) (l2 : Int32) (u : CSt) : Option (Int32 × CSt) := bc (F_X9_put N l1 0 0 u) fun _ u_1 => wc 1501 (cI u_1 4) (xA u_1 204 (cI u_1 4).toNatClampNeg l2) fun u_3 => some (0, u_3)
set_option maxHeartbeats 4000000 in
theorem b_X9_closeWith_0 {r : Int32} (X : CC p s m args c cX9_closeWith 3 (Cond.code yX9_closeWith cX9_closeWith 3 none) RX9 D kA V A) (hE : CEv p l e R s m args below meth c cX9_closeWith D kA Z A Q w) (hF : 1 ≤ R.frames) (hL : 24 ≤ R.locals) {l1 : Int32} {l2 : Int32} {u : CSt}  (h : B_X9_closeWith_0 N l1 l2 u = some (r, w))  (hS : CS D kA Z A s u H locs) (hl : lv_has ls 3 [(0, .ref (Z 202)), (1, .int l1), (2, .int l2)]) : W p l e R s m args below meth c H locs 0 0 Q (F0 m 0 ls []) := by
  obtain ⟨⟨hx, hb, hml, hown, hts⟩, hK, hEV, hA⟩ := id X
  have hG : ∀ w ∈ GW, w.before args s = true := fun w h => hts w (List.mem_cons_of_mem _ h)
  unfold B_X9_closeWith_0 at h
  refine lv_aload_n hx hb dX9_closeWith_0 rfl (lv_at hl 0 rfl) ?_
  refine lv_iload_n hx hb dX9_closeWith_1 rfl (lv_at hl 1 rfl) ?_
  refine lv_lconst (v := 0) hx hb dX9_closeWith_2 (by decide) ?_
  refine lv_iconst (v := 0) hx hb dX9_closeWith_3 (by decide) ?_
  obtain ⟨r_u_1, u_1, h_u_1, h⟩ := bc_of h
  refine kc_X9_put_RX9 X  hS h_u_1 (Nat.le_trans (Nat.le_of_ble_eq_true rfl) hF) (Nat.le_trans (Nat.le_of_ble_eq_true rfl) hL) hl.1 (Nat.le_of_ble_eq_true rfl) dX9_closeWith_4 (fun H locs hS => ?_)
  refine lv_aload_n hx hb dX9_closeWith_7 rfl (lv_at hl 0 rfl) ?_
  refine cg_X9_15 X hS dX9_closeWith_8 ?_
  refine lv_aload_n hx hb dX9_closeWith_11 rfl (lv_at hl 0 rfl) ?_
  refine cg_X9_50 X hS dX9_closeWith_12 ?_
  refine lv_iload_n hx hb dX9_closeWith_15 rfl (lv_at hl 2 rfl) ?_
  obtain ⟨u_3, e_u_3, i_2, h⟩ := wc_of h
  refine cs_s204 X hS i_2 e_u_3 dX9_closeWith_16 (fun H locs hS => ?_)
  obtain ⟨-, rfl⟩ := so9 h
  exact hE _ _ _ _ hS dX9_closeWith_17
def F_X9_closeWith (N : Nat) (l1 : Int32) (l2 : Int32) (u : CSt) : Option (Int32 × CSt) := B_X9_closeWith_0 N l1 l2 u
set_option maxHeartbeats 4000000 in
theorem k_X9_closeWith (l : Launch) (D : va_G) (kA : Nat → ClassId) (V Z : Nat → Nat) (N : Nat) (l1 : Int32) (l2 : Int32) (u : CSt) (sz : Nat) {r : Int32} {w : CSt} (h : F_X9_closeWith N l1 l2 u = some (r, w)) : Met l yX9_closeWith (Cond.code yX9_closeWith cX9_closeWith 3 none :: GW) { frames := 1, cells := 0, slots := 0, locals := 24 } (cPc D kA V Z [.ref (Z 202), .int l1, .int l2] u sz) (cQv D kA Z u sz w) 0 0 (va_A (CW kA Z u) sz) := by
  refine Met.ofW (cc := cX9_closeWith) (maxL := 3) (ret := none) (by decide) rfl ?_
  intro p e s m args below meth c s₁ Bd hml hv
  obtain ⟨rfl, hsz, hP, hK, hD0, hE⟩ := hv
  have hts := atoms_spec (ws := Cond.code yX9_closeWith cX9_closeWith 3 none :: GW) Bd.pre
  have hl := lv_entry ([.ref (Z 202), .int l1, .int l2]) (n := 3) (Nat.le_of_ble_eq_true rfl)
  rw [lg_entry_eq]
  generalize (lg_sl ([.ref (Z 202), .int l1, .int l2]) ++ List.replicate (3 - (lg_sl ([.ref (Z 202), .int l1, .int l2])).length) Slot.unset).toArray = ls at hl ⊢
  have hl : lv_has ls 3 [(0, .ref (Z 202)), (1, .int l1), (2, .int l2)] := hl
  subst hsz
  have X : CC p s m ([.ref (Z 202), .int l1, .int l2]).toArray c cX9_closeWith 3 (Cond.code yX9_closeWith cX9_closeWith 3 none) RX9 D kA V (va_A (CW kA Z u) s.heap.size) := ⟨⟨Bd.exec, Bd.bytes, hml, findClass_of_methodNamed Bd.named, hts⟩, hK, hE, fun q h => Or.inr h⟩
  refine b_X9_closeWith_0 X (cend_v X Bd.returns Bd.notSynchronized) (Nat.le_refl _) (Nat.le_refl _) h  ⟨hP, hD0.self, va_S.rf⟩ (lv_sub hl [0, 1, 2] rfl)
theorem kc_X9_closeWith_RX9 {cc : ByteArray} {pc nL : Nat} {c0 : Cond} {rest : List Value} {l1 : Int32} {l2 : Int32} {u w1 : CSt} {r : Int32} (X : CC p s m args c cc nL c0 RX9 D kA V A)  (hS : CS D kA Z A s u H locs) (h : F_X9_closeWith N l1 l2 u = some (r, w1)) (hF : 1 + 1 ≤ R.frames) (hL : 8 + (3 + 11) + 24 ≤ R.locals) (hl : ls.size = nL) (hc : (rest.map fun v => v.category).sum ≤ 8) (hdg : decode cc pc = .ok (.invokevirtual 66, 3)) (kk : ∀ H locs, CS D kA Z A s w1 H locs → W p l e R s m args below meth c H locs 0 0 Q (F0 m (pc + 3) ls (rest))) : W p l e R s m args below meth c H locs 0 0 Q (F0 m pc ls (.int l2 :: .int l1 :: .ref (Z 202) :: rest)) :=
  ccall_v (n := 2) X hS (k_X9_closeWith l D kA V Z N l1 l2  u H.size h) (gw_V gw_749 gw_751 gs_1_12 gw_2 gw_752) (by decide +kernel) (va_recv X.2.1 hS.1 (ci := 8) (q0 := 2) rfl (cw_lit rfl)) hF hL rfl hl hc rfl hdg kk
def B_X9_isWord_20 (N : Nat) (R_20 : Int32 × Int32 × CSt → Option (Int32 × CSt)) (l1 : Int32) (l2 : Int32) (u : CSt) : Option (Int32 × CSt) := if l1 ≤ l2 then (some (1, u)) else (bc (F_X9_byteAt N l2 u) fun r_3 u_2 => pb (F_X9_isWordByte N r_3) fun r_4 => if r_4 = (0 : Int32) then (some (0, u_2)) else (R_20 (l1, (l2 + 1), u_2)))
set_option maxHeartbeats 4000000 in
theorem b_X9_isWord_20 {r : Int32} (X : CC p s m args c cX9_isWord 3 (Cond.code yX9_isWord cX9_isWord 3 (some .boolean)) RX9 D kA V A) (hE : CEz p l e R s m args below meth c cX9_isWord D kA Z A Q r w) (hF : 1 ≤ R.frames) (hL : 21 ≤ R.locals) {R_20 : Int32 × Int32 × CSt → Option (Int32 × CSt)} {l1 : Int32} {l2 : Int32} {u : CSt} (hR_20 : ∀ (l1 : Int32) (l2 : Int32) (u : CSt), R_20 (l1, l2, u) = some (r, w) → ∀ (H : Heap) (locs : List Loc) (ls : Array Slot), CS D kA Z A s u H locs → lv_has ls 3 [(0, .ref (Z 202)), (1, .int l1), (2, .int l2)] → W p l e R s m args below meth c H locs 0 0 Q (F0 m 20 ls [])) (h : B_X9_isWord_20 N R_20 l1 l2 u = some (r, w))  (hS : CS D kA Z A s u H locs) (hl : lv_has ls 3 [(0, .ref (Z 202)), (1, .int l1), (2, .int l2)]) : W p l e R s m args below meth c H locs 0 0 Q (F0 m 20 ls []) := by
  obtain ⟨⟨hx, hb, hml, hown, hts⟩, hK, hEV, hA⟩ := id X
  have hG : ∀ w ∈ GW, w.before args s = true := fun w h => hts w (List.mem_cons_of_mem _ h)
  unfold B_X9_isWord_20 at h
  refine lv_iload_n hx hb dX9_isWord_20 rfl (lv_at hl 2 rfl) ?_
  refine lv_iload_n hx hb dX9_isWord_21 rfl (lv_at hl 1 rfl) ?_
  refine lv_icmp_ge (tgt := 44) hx hb dX9_isWord_22 (by decide) (fun c_1 => ?_) (fun c_1 => ?_)
  · have h := ip (c_1) h
    refine lv_iconst (v := 1) hx hb dX9_isWord_44 (by decide) ?_
    obtain ⟨rfl, rfl⟩ := so9 h
    exact hE _ _ _ _ hS (Or.inr rfl) dX9_isWord_45
  · have h := im (c_1) h
    refine lv_aload_n hx hb dX9_isWord_25 rfl (lv_at hl 0 rfl) ?_
    refine lv_iload_n hx hb dX9_isWord_26 rfl (lv_at hl 2 rfl) ?_
    obtain ⟨r_3, u_2, h_u_2, h⟩ := bc_of h
    refine kc_X9_byteAt_RX9 X  hS h_u_2 (Nat.le_trans (Nat.le_of_ble_eq_true rfl) hF) (Nat.le_trans (Nat.le_of_ble_eq_true rfl) hL) hl.1 (Nat.le_of_ble_eq_true rfl) dX9_isWord_27 (fun H locs hS => ?_)
    obtain ⟨r_4, e_r_4, h⟩ := pb_of h
    refine vp_callSi (W.runS (As := [.int r_3]) (rest := []) X.1 (k_X9_isWordByte l N r_3 e_r_4) (va_cwS 1 hts (gw_S gw_642 gw_643 gw_2 gw_644) rfl rfl rfl (by decide +kernel) ⟨Nat.le_trans (Nat.le_of_ble_eq_true rfl) hF, Nat.le_trans (Nat.le_of_ble_eq_true rfl) hL⟩) ⟨fun _ _ _ _ q => q, fun _ _ _ => ⟨rfl, trivial⟩⟩ rfl rfl hl.1 rfl (lv_room (Nat.le_of_ble_eq_true rfl)) dX9_isWord_30 ⟨Nat.zero_le _, Nat.zero_le _⟩) (fun r_5 q_6 => ?_)
    rw [q_6]
    refine lv_if_ne (tgt := 38) hx hb dX9_isWord_33 (by decide) (fun c_7 => ?_) (fun c_7 => ?_)
    · have h := im (c_7) h
      refine lv_iinc (v := l2 + 1) (lv' := [(2, .int (l2 + 1)), (0, .ref (Z 202)), (1, .int l1)]) hx hb dX9_isWord_38 hl (k := 2) rfl rfl (by decide) rfl (fun ls hl => ?_)
      refine lv_goto (tgt := 20) hx hb dX9_isWord_41 (by decide) ?_
      exact hR_20 _ _ _  h _ _ _ hS (lv_sub hl [1, 2, 0] rfl)
    · have h := ip (c_7) h
      refine lv_iconst (v := 0) hx hb dX9_isWord_36 (by decide) ?_
      obtain ⟨rfl, rfl⟩ := so9 h
      exact hE _ _ _ _ hS (Or.inl rfl) dX9_isWord_37
def LP_X9_isWord_20 (N : Nat) : Nat → Int32 × Int32 × CSt → Option (Int32 × CSt) := lp (fun R a => B_X9_isWord_20 N R a.1 a.2.1 a.2.2)
theorem bl_X9_isWord_20 {r : Int32} (X : CC p s m args c cX9_isWord 3 (Cond.code yX9_isWord cX9_isWord 3 (some .boolean)) RX9 D kA V A) (hE : CEz p l e R s m args below meth c cX9_isWord D kA Z A Q r w) (hF : 1 ≤ R.frames) (hL : 21 ≤ R.locals)  : ∀ (n : Nat) (l1 : Int32) (l2 : Int32) (u : CSt), LP_X9_isWord_20 N n (l1, l2, u) = some (r, w) → ∀ (H : Heap) (locs : List Loc) (ls : Array Slot), CS D kA Z A s u H locs → lv_has ls 3 [(0, .ref (Z 202)), (1, .int l1), (2, .int l2)] → W p l e R s m args below meth c H locs 0 0 Q (F0 m 20 ls []) := by
  intro n
  induction n with
  | zero => intro l1 l2 u h; exact nomatch h
  | succ n ih => intro l1 l2 u h H locs ls hS hl; exact b_X9_isWord_20 (N := N) (R_20 := LP_X9_isWord_20 N n) X hE  hF hL  ih h  hS hl
def B_X9_isWord_0 (N : Nat) (l1 : Int32) (u : CSt) : Option (Int32 × CSt) := pc (xI u 3 l1) fun u_8 => if l1 < (1 : Int32) then (some (0, u_8)) else (if l1 ≤ (12 : Int32) then (LP_X9_isWord_20 N N (l1, 0, u_8)) else (some (0, u_8)))
set_option maxHeartbeats 4000000 in
theorem b_X9_isWord_0 {r : Int32} (X : CC p s m args c cX9_isWord 3 (Cond.code yX9_isWord cX9_isWord 3 (some .boolean)) RX9 D kA V A) (hE : CEz p l e R s m args below meth c cX9_isWord D kA Z A Q r w) (hF : 1 ≤ R.frames) (hL : 21 ≤ R.locals) {l1 : Int32} {u : CSt}  (h : B_X9_isWord_0 N l1 u = some (r, w))  (hS : CS D kA Z A s u H locs) (hl : lv_has ls 3 [(0, .ref (Z 202)), (1, .int l1)]) : W p l e R s m args below meth c H locs 0 0 Q (F0 m 0 ls []) := by
  obtain ⟨⟨hx, hb, hml, hown, hts⟩, hK, hEV, hA⟩ := id X
  have hG : ∀ w ∈ GW, w.before args s = true := fun w h => hts w (List.mem_cons_of_mem _ h)
  unfold B_X9_isWord_0 at h
  refine lv_aload_n hx hb dX9_isWord_0 rfl (lv_at hl 0 rfl) ?_
  refine lv_iload_n hx hb dX9_isWord_1 rfl (lv_at hl 1 rfl) ?_
  obtain ⟨u_8, e_u_8, h⟩ := pc_of h
  refine cp_X9_48 X hS e_u_8 dX9_isWord_2 (fun H locs hS => ?_)
  refine lv_iload_n hx hb dX9_isWord_5 rfl (lv_at hl 1 rfl) ?_
  refine lv_iconst (v := 1) hx hb dX9_isWord_6 (by decide) ?_
  refine lv_icmp_lt (tgt := 16) hx hb dX9_isWord_7 (by decide) (fun c_9 => ?_) (fun c_9 => ?_)
  · have h := ip (c_9) h
    refine lv_iconst (v := 0) hx hb dX9_isWord_16 (by decide) ?_
    obtain ⟨rfl, rfl⟩ := so9 h
    exact hE _ _ _ _ hS (Or.inl rfl) dX9_isWord_17
  · have h := im (c_9) h
    refine lv_iload_n hx hb dX9_isWord_10 rfl (lv_at hl 1 rfl) ?_
    refine lv_bipush (v := 12) hx hb dX9_isWord_11 (by decide) ?_
    refine lv_icmp_le (tgt := 18) hx hb dX9_isWord_13 (by decide) (fun c_10 => ?_) (fun c_10 => ?_)
    · have h := ip (c_10) h
      refine lv_iconst (v := 0) hx hb dX9_isWord_18 (by decide) ?_
      refine lv_istore_n (lv' := [(2, .int 0), (0, .ref (Z 202)), (1, .int l1)]) hx hb dX9_isWord_19 rfl hl (by decide) rfl (fun ls hl => ?_)
      exact bl_X9_isWord_20 X hE  hF hL  _ _ _ _  h _ _ _ hS (lv_sub hl [1, 2, 0] rfl)
    · have h := im (c_10) h
      refine lv_iconst (v := 0) hx hb dX9_isWord_16 (by decide) ?_
      obtain ⟨rfl, rfl⟩ := so9 h
      exact hE _ _ _ _ hS (Or.inl rfl) dX9_isWord_17
def F_X9_isWord (N : Nat) (l1 : Int32) (u : CSt) : Option (Int32 × CSt) := B_X9_isWord_0 N l1 u
set_option maxHeartbeats 4000000 in
theorem k_X9_isWord (l : Launch) (D : va_G) (kA : Nat → ClassId) (V Z : Nat → Nat) (N : Nat) (l1 : Int32) (u : CSt) (sz : Nat) {r : Int32} {w : CSt} (h : F_X9_isWord N l1 u = some (r, w)) : Met l yX9_isWord (Cond.code yX9_isWord cX9_isWord 3 (some .boolean) :: GW) { frames := 1, cells := 0, slots := 0, locals := 21 } (cPc D kA V Z [.ref (Z 202), .int l1] u sz) (cQi D kA Z u sz r w) 0 0 (va_A (CW kA Z u) sz) := by
  refine Met.ofW (cc := cX9_isWord) (maxL := 3) (ret := (some .boolean)) (by decide) rfl ?_
  intro p e s m args below meth c s₁ Bd hml hv
  obtain ⟨rfl, hsz, hP, hK, hD0, hE⟩ := hv
  have hts := atoms_spec (ws := Cond.code yX9_isWord cX9_isWord 3 (some .boolean) :: GW) Bd.pre
  have hl := lv_entry ([.ref (Z 202), .int l1]) (n := 3) (Nat.le_of_ble_eq_true rfl)
  rw [lg_entry_eq]
  generalize (lg_sl ([.ref (Z 202), .int l1]) ++ List.replicate (3 - (lg_sl ([.ref (Z 202), .int l1])).length) Slot.unset).toArray = ls at hl ⊢
  have hl : lv_has ls 3 [(0, .ref (Z 202)), (1, .int l1)] := hl
  subst hsz
  have X : CC p s m ([.ref (Z 202), .int l1]).toArray c cX9_isWord 3 (Cond.code yX9_isWord cX9_isWord 3 (some .boolean)) RX9 D kA V (va_A (CW kA Z u) s.heap.size) := ⟨⟨Bd.exec, Bd.bytes, hml, findClass_of_methodNamed Bd.named, hts⟩, hK, hE, fun q h => Or.inr h⟩
  refine b_X9_isWord_0 X (cend_z X Bd.returns Bd.notSynchronized) (Nat.le_refl _) (Nat.le_refl _) h  ⟨hP, hD0.self, va_S.rf⟩ (lv_sub hl [0, 1] rfl)
theorem kc_X9_isWord_RX11 {cc : ByteArray} {pc nL : Nat} {c0 : Cond} {rest : List Value} {l1 : Int32} {u w1 : CSt} {r : Int32} (X : CC p s m args c cc nL c0 RX11 D kA V A)  (hS : CS D kA Z A s u H locs) (h : F_X9_isWord N l1 u = some (r, w1)) (hF : 1 + 1 ≤ R.frames) (hL : 8 + (3 + 11) + 21 ≤ R.locals) (hl : ls.size = nL) (hc : (rest.map fun v => v.category).sum ≤ 8) (hdg : decode cc pc = .ok (.invokevirtual 263, 3)) (kk : ∀ H locs, CS D kA Z A s w1 H locs → W p l e R s m args below meth c H locs 0 0 Q (F0 m (pc + 3) ls (.int r :: rest))) : W p l e R s m args below meth c H locs 0 0 Q (F0 m pc ls (.int l1 :: .ref (Z 202) :: rest)) :=
  ccall_i (n := 1) X hS (k_X9_isWord l D kA V Z N l1  u H.size h) (gw_V gw_1776 gw_1777 gw_1778 gw_2 gw_1779) (by decide +kernel) (va_recv X.2.1 hS.1 (ci := 8) (q0 := 2) rfl (cw_lit rfl)) hF hL rfl hl hc rfl hdg kk
def B_X9_wordHead_5 (N : Nat) (R_5 : Int32 × Int32 × Int64 × Int32 × CSt → Option (Int64 × CSt)) (l1 : Int32) (l2 : Int32) (l3 : Int64) (l5 : Int32) (u : CSt) : Option (Int64 × CSt) := if l2 ≤ l5 then (some (l3, u)) else (if (l1 + 8) ≤ l5 then (some (l3, u)) else (bc (F_X9_byteAt N l5 u) fun r_4 u_3 => R_5 (l1, l2, ((l3 <<< ((8 : Int32).toInt64 &&& 63)) ||| r_4.toInt64), (l5 + 1), u_3)))
set_option maxHeartbeats 4000000 in
theorem b_X9_wordHead_5 {r : Int64} (X : CC p s m args c cX9_wordHead 6 (Cond.code yX9_wordHead cX9_wordHead 6 (some .long)) RX9 D kA V A) (hE : CEl p l e R s m args below meth c cX9_wordHead D kA Z A Q r w) (hF : 1 ≤ R.frames) (hL : 21 ≤ R.locals) {R_5 : Int32 × Int32 × Int64 × Int32 × CSt → Option (Int64 × CSt)} {l1 : Int32} {l2 : Int32} {l3 : Int64} {l5 : Int32} {u : CSt} (hR_5 : ∀ (l1 : Int32) (l2 : Int32) (l3 : Int64) (l5 : Int32) (u : CSt), R_5 (l1, l2, l3, l5, u) = some (r, w) → ∀ (H : Heap) (locs : List Loc) (ls : Array Slot), CS D kA Z A s u H locs → lv_has ls 6 [(0, .ref (Z 202)), (1, .int l1), (2, .int l2), (3, .long l3), (5, .int l5)] → W p l e R s m args below meth c H locs 0 0 Q (F0 m 5 ls [])) (h : B_X9_wordHead_5 N R_5 l1 l2 l3 l5 u = some (r, w))  (hS : CS D kA Z A s u H locs) (hl : lv_has ls 6 [(0, .ref (Z 202)), (1, .int l1), (2, .int l2), (3, .long l3), (5, .int l5)]) : W p l e R s m args below meth c H locs 0 0 Q (F0 m 5 ls []) := by
  obtain ⟨⟨hx, hb, hml, hown, hts⟩, hK, hEV, hA⟩ := id X
  have hG : ∀ w ∈ GW, w.before args s = true := fun w h => hts w (List.mem_cons_of_mem _ h)
  unfold B_X9_wordHead_5 at h
  refine lv_iload hx hb dX9_wordHead_5 (lv_at hl 4 rfl) ?_
  refine lv_iload_n hx hb dX9_wordHead_7 rfl (lv_at hl 2 rfl) ?_
  refine lv_icmp_ge (tgt := 39) hx hb dX9_wordHead_8 (by decide) (fun c_1 => ?_) (fun c_1 => ?_)
  · have h := ip (c_1) h
    refine lv_lload_n hx hb dX9_wordHead_39 rfl (lv_at hl 3 rfl) ?_
    obtain ⟨rfl, rfl⟩ := so9 h
    exact hE _ _ _ _ hS dX9_wordHead_40
  · have h := im (c_1) h
    refine lv_iload hx hb dX9_wordHead_11 (lv_at hl 4 rfl) ?_
    refine lv_iload_n hx hb dX9_wordHead_13 rfl (lv_at hl 1 rfl) ?_
    refine lv_bipush (v := 8) hx hb dX9_wordHead_14 (by decide) ?_
    refine lv_iadd hx hb dX9_wordHead_16 ?_
    refine lv_icmp_ge (tgt := 39) hx hb dX9_wordHead_17 (by decide) (fun c_2 => ?_) (fun c_2 => ?_)
    · have h := ip (c_2) h
      refine lv_lload_n hx hb dX9_wordHead_39 rfl (lv_at hl 3 rfl) ?_
      obtain ⟨rfl, rfl⟩ := so9 h
      exact hE _ _ _ _ hS dX9_wordHead_40
    · have h := im (c_2) h
      refine lv_lload_n hx hb dX9_wordHead_20 rfl (lv_at hl 3 rfl) ?_
      refine lv_bipush (v := 8) hx hb dX9_wordHead_21 (by decide) ?_
      refine lv_lshl (v := l3 <<< ((8 : Int32).toInt64 &&& 63)) hx hb dX9_wordHead_23 rfl ?_
      refine lv_aload_n hx hb dX9_wordHead_24 rfl (lv_at hl 0 rfl) ?_
      refine lv_iload hx hb dX9_wordHead_25 (lv_at hl 4 rfl) ?_
      obtain ⟨r_4, u_3, h_u_3, h⟩ := bc_of h
      refine kc_X9_byteAt_RX9 X  hS h_u_3 (Nat.le_trans (Nat.le_of_ble_eq_true rfl) hF) (Nat.le_trans (Nat.le_of_ble_eq_true rfl) hL) hl.1 (Nat.le_of_ble_eq_true rfl) dX9_wordHead_27 (fun H locs hS => ?_)
      refine lv_i2l (v := r_4.toInt64) hx hb dX9_wordHead_30 rfl ?_
      refine lv_lor hx hb dX9_wordHead_31 ?_
      refine lv_lstore_n (lv' := [(3, .long ((l3 <<< ((8 : Int32).toInt64 &&& 63)) ||| r_4.toInt64)), (0, .ref (Z 202)), (1, .int l1), (2, .int l2), (5, .int l5)]) hx hb dX9_wordHead_32 rfl hl (by decide) rfl (fun ls hl => ?_)
      refine lv_iinc (v := l5 + 1) (lv' := [(5, .int (l5 + 1)), (3, .long ((l3 <<< ((8 : Int32).toInt64 &&& 63)) ||| r_4.toInt64)), (0, .ref (Z 202)), (1, .int l1), (2, .int l2)]) hx hb dX9_wordHead_33 hl (k := 4) rfl rfl (by decide) rfl (fun ls hl => ?_)
      refine lv_goto (tgt := 5) hx hb dX9_wordHead_36 (by decide) ?_
      exact hR_5 _ _ _ _ _  h _ _ _ hS (lv_sub hl [2, 3, 4, 1, 0] rfl)
def LP_X9_wordHead_5 (N : Nat) : Nat → Int32 × Int32 × Int64 × Int32 × CSt → Option (Int64 × CSt) := lp (fun R a => B_X9_wordHead_5 N R a.1 a.2.1 a.2.2.1 a.2.2.2.1 a.2.2.2.2)
theorem bl_X9_wordHead_5 {r : Int64} (X : CC p s m args c cX9_wordHead 6 (Cond.code yX9_wordHead cX9_wordHead 6 (some .long)) RX9 D kA V A) (hE : CEl p l e R s m args below meth c cX9_wordHead D kA Z A Q r w) (hF : 1 ≤ R.frames) (hL : 21 ≤ R.locals)  : ∀ (n : Nat) (l1 : Int32) (l2 : Int32) (l3 : Int64) (l5 : Int32) (u : CSt), LP_X9_wordHead_5 N n (l1, l2, l3, l5, u) = some (r, w) → ∀ (H : Heap) (locs : List Loc) (ls : Array Slot), CS D kA Z A s u H locs → lv_has ls 6 [(0, .ref (Z 202)), (1, .int l1), (2, .int l2), (3, .long l3), (5, .int l5)] → W p l e R s m args below meth c H locs 0 0 Q (F0 m 5 ls []) := by
  intro n
  induction n with
  | zero => intro l1 l2 l3 l5 u h; exact nomatch h
  | succ n ih => intro l1 l2 l3 l5 u h H locs ls hS hl; exact b_X9_wordHead_5 (N := N) (R_5 := LP_X9_wordHead_5 N n) X hE  hF hL  ih h  hS hl
def B_X9_wordHead_0 (N : Nat) (l1 : Int32) (l2 : Int32) (u : CSt) : Option (Int64 × CSt) := LP_X9_wordHead_5 N N (l1, l2, 0, l1, u)
set_option maxHeartbeats 4000000 in
theorem b_X9_wordHead_0 {r : Int64} (X : CC p s m args c cX9_wordHead 6 (Cond.code yX9_wordHead cX9_wordHead 6 (some .long)) RX9 D kA V A) (hE : CEl p l e R s m args below meth c cX9_wordHead D kA Z A Q r w) (hF : 1 ≤ R.frames) (hL : 21 ≤ R.locals) {l1 : Int32} {l2 : Int32} {u : CSt}  (h : B_X9_wordHead_0 N l1 l2 u = some (r, w))  (hS : CS D kA Z A s u H locs) (hl : lv_has ls 6 [(0, .ref (Z 202)), (1, .int l1), (2, .int l2)]) : W p l e R s m args below meth c H locs 0 0 Q (F0 m 0 ls []) := by
  obtain ⟨⟨hx, hb, hml, hown, hts⟩, hK, hEV, hA⟩ := id X
  have hG : ∀ w ∈ GW, w.before args s = true := fun w h => hts w (List.mem_cons_of_mem _ h)
  unfold B_X9_wordHead_0 at h
  refine lv_lconst (v := 0) hx hb dX9_wordHead_0 (by decide) ?_
  refine lv_lstore_n (lv' := [(3, .long 0), (0, .ref (Z 202)), (1, .int l1), (2, .int l2)]) hx hb dX9_wordHead_1 rfl hl (by decide) rfl (fun ls hl => ?_)
  refine lv_iload_n hx hb dX9_wordHead_2 rfl (lv_at hl 2 rfl) ?_
  refine lv_istore (lv' := [(5, .int l1), (3, .long 0), (0, .ref (Z 202)), (1, .int l1), (2, .int l2)]) hx hb dX9_wordHead_3 hl (by decide) rfl (fun ls hl => ?_)
  exact bl_X9_wordHead_5 X hE  hF hL  _ _ _ _ _ _  h _ _ _ hS (lv_sub hl [2, 3, 4, 1, 0] rfl)
def F_X9_wordHead (N : Nat) (l1 : Int32) (l2 : Int32) (u : CSt) : Option (Int64 × CSt) := B_X9_wordHead_0 N l1 l2 u
set_option maxHeartbeats 4000000 in
theorem k_X9_wordHead (l : Launch) (D : va_G) (kA : Nat → ClassId) (V Z : Nat → Nat) (N : Nat) (l1 : Int32) (l2 : Int32) (u : CSt) (sz : Nat) {r : Int64} {w : CSt} (h : F_X9_wordHead N l1 l2 u = some (r, w)) : Met l yX9_wordHead (Cond.code yX9_wordHead cX9_wordHead 6 (some .long) :: GW) { frames := 1, cells := 0, slots := 0, locals := 21 } (cPc D kA V Z [.ref (Z 202), .int l1, .int l2] u sz) (cQl D kA Z u sz r w) 0 0 (va_A (CW kA Z u) sz) := by
  refine Met.ofW (cc := cX9_wordHead) (maxL := 6) (ret := (some .long)) (by decide) rfl ?_
  intro p e s m args below meth c s₁ Bd hml hv
  obtain ⟨rfl, hsz, hP, hK, hD0, hE⟩ := hv
  have hts := atoms_spec (ws := Cond.code yX9_wordHead cX9_wordHead 6 (some .long) :: GW) Bd.pre
  have hl := lv_entry ([.ref (Z 202), .int l1, .int l2]) (n := 6) (Nat.le_of_ble_eq_true rfl)
  rw [lg_entry_eq]
  generalize (lg_sl ([.ref (Z 202), .int l1, .int l2]) ++ List.replicate (6 - (lg_sl ([.ref (Z 202), .int l1, .int l2])).length) Slot.unset).toArray = ls at hl ⊢
  have hl : lv_has ls 6 [(0, .ref (Z 202)), (1, .int l1), (2, .int l2)] := hl
  subst hsz
  have X : CC p s m ([.ref (Z 202), .int l1, .int l2]).toArray c cX9_wordHead 6 (Cond.code yX9_wordHead cX9_wordHead 6 (some .long)) RX9 D kA V (va_A (CW kA Z u) s.heap.size) := ⟨⟨Bd.exec, Bd.bytes, hml, findClass_of_methodNamed Bd.named, hts⟩, hK, hE, fun q h => Or.inr h⟩
  refine b_X9_wordHead_0 X (cend_l X Bd.returns Bd.notSynchronized) (Nat.le_refl _) (Nat.le_refl _) h  ⟨hP, hD0.self, va_S.rf⟩ (lv_sub hl [0, 1, 2] rfl)
theorem kc_X9_wordHead_RX9 {cc : ByteArray} {pc nL : Nat} {c0 : Cond} {rest : List Value} {l1 : Int32} {l2 : Int32} {u w1 : CSt} {r : Int64} (X : CC p s m args c cc nL c0 RX9 D kA V A)  (hS : CS D kA Z A s u H locs) (h : F_X9_wordHead N l1 l2 u = some (r, w1)) (hF : 1 + 1 ≤ R.frames) (hL : 8 + (6 + 11) + 21 ≤ R.locals) (hl : ls.size = nL) (hc : (rest.map fun v => v.category).sum ≤ 8) (hdg : decode cc pc = .ok (.invokevirtual 109, 3)) (kk : ∀ H locs, CS D kA Z A s w1 H locs → W p l e R s m args below meth c H locs 0 0 Q (F0 m (pc + 3) ls (.long r :: rest))) : W p l e R s m args below meth c H locs 0 0 Q (F0 m pc ls (.int l2 :: .int l1 :: .ref (Z 202) :: rest)) :=
  ccall_l (n := 2) X hS (k_X9_wordHead l D kA V Z N l1 l2  u H.size h) (gw_V gw_663 gw_664 gw_665 gw_2 gw_666) (by decide +kernel) (va_recv X.2.1 hS.1 (ci := 8) (q0 := 2) rfl (cw_lit rfl)) hF hL rfl hl hc rfl hdg kk
theorem kc_X9_wordHead_RX11 {cc : ByteArray} {pc nL : Nat} {c0 : Cond} {rest : List Value} {l1 : Int32} {l2 : Int32} {u w1 : CSt} {r : Int64} (X : CC p s m args c cc nL c0 RX11 D kA V A)  (hS : CS D kA Z A s u H locs) (h : F_X9_wordHead N l1 l2 u = some (r, w1)) (hF : 1 + 1 ≤ R.frames) (hL : 8 + (6 + 11) + 21 ≤ R.locals) (hl : ls.size = nL) (hc : (rest.map fun v => v.category).sum ≤ 8) (hdg : decode cc pc = .ok (.invokevirtual 267, 3)) (kk : ∀ H locs, CS D kA Z A s w1 H locs → W p l e R s m args below meth c H locs 0 0 Q (F0 m (pc + 3) ls (.long r :: rest))) : W p l e R s m args below meth c H locs 0 0 Q (F0 m pc ls (.int l2 :: .int l1 :: .ref (Z 202) :: rest)) :=
  ccall_l (n := 2) X hS (k_X9_wordHead l D kA V Z N l1 l2  u H.size h) (gw_V gw_1780 gw_664 gw_665 gw_2 gw_666) (by decide +kernel) (va_recv X.2.1 hS.1 (ci := 8) (q0 := 2) rfl (cw_lit rfl)) hF hL rfl hl hc rfl hdg kk
def B_X9_wordTail_8 (N : Nat) (R_8 : Int32 × Int32 × Int32 × CSt → Option (Int32 × CSt)) (l2 : Int32) (l3 : Int32) (l4 : Int32) (u : CSt) : Option (Int32 × CSt) := if l2 ≤ l4 then (some (l3, u)) else (bc (F_X9_byteAt N l4 u) fun r_3 u_2 => R_8 (l2, ((l3 <<< (8 &&& 31)) ||| r_3), (l4 + 1), u_2))
set_option maxHeartbeats 4000000 in
theorem b_X9_wordTail_8 {r : Int32} (X : CC p s m args c cX9_wordTail 5 (Cond.code yX9_wordTail cX9_wordTail 5 (some .int)) RX9 D kA V A) (hE : CEi p l e R s m args below meth c cX9_wordTail D kA Z A Q r w) (hF : 1 ≤ R.frames) (hL : 21 ≤ R.locals) {R_8 : Int32 × Int32 × Int32 × CSt → Option (Int32 × CSt)} {l2 : Int32} {l3 : Int32} {l4 : Int32} {u : CSt} (hR_8 : ∀ (l2 : Int32) (l3 : Int32) (l4 : Int32) (u : CSt), R_8 (l2, l3, l4, u) = some (r, w) → ∀ (H : Heap) (locs : List Loc) (ls : Array Slot), CS D kA Z A s u H locs → lv_has ls 5 [(0, .ref (Z 202)), (2, .int l2), (3, .int l3), (4, .int l4)] → W p l e R s m args below meth c H locs 0 0 Q (F0 m 8 ls [])) (h : B_X9_wordTail_8 N R_8 l2 l3 l4 u = some (r, w))  (hS : CS D kA Z A s u H locs) (hl : lv_has ls 5 [(0, .ref (Z 202)), (2, .int l2), (3, .int l3), (4, .int l4)]) : W p l e R s m args below meth c H locs 0 0 Q (F0 m 8 ls []) := by
  obtain ⟨⟨hx, hb, hml, hown, hts⟩, hK, hEV, hA⟩ := id X
  have hG : ∀ w ∈ GW, w.before args s = true := fun w h => hts w (List.mem_cons_of_mem _ h)
  unfold B_X9_wordTail_8 at h
  refine lv_iload hx hb dX9_wordTail_8 (lv_at hl 3 rfl) ?_
  refine lv_iload_n hx hb dX9_wordTail_10 rfl (lv_at hl 1 rfl) ?_
  refine lv_icmp_ge (tgt := 32) hx hb dX9_wordTail_11 (by decide) (fun c_1 => ?_) (fun c_1 => ?_)
  · have h := ip (c_1) h
    refine lv_iload_n hx hb dX9_wordTail_32 rfl (lv_at hl 2 rfl) ?_
    obtain ⟨rfl, rfl⟩ := so9 h
    exact hE _ _ _ _ hS dX9_wordTail_33
  · have h := im (c_1) h
    refine lv_iload_n hx hb dX9_wordTail_14 rfl (lv_at hl 2 rfl) ?_
    refine lv_bipush (v := 8) hx hb dX9_wordTail_15 (by decide) ?_
    refine lv_ishl hx hb dX9_wordTail_17 ?_
    refine lv_aload_n hx hb dX9_wordTail_18 rfl (lv_at hl 0 rfl) ?_
    refine lv_iload hx hb dX9_wordTail_19 (lv_at hl 3 rfl) ?_
    obtain ⟨r_3, u_2, h_u_2, h⟩ := bc_of h
    refine kc_X9_byteAt_RX9 X  hS h_u_2 (Nat.le_trans (Nat.le_of_ble_eq_true rfl) hF) (Nat.le_trans (Nat.le_of_ble_eq_true rfl) hL) hl.1 (Nat.le_of_ble_eq_true rfl) dX9_wordTail_21 (fun H locs hS => ?_)
    refine lv_ior hx hb dX9_wordTail_24 ?_
    refine lv_istore_n (lv' := [(3, .int ((l3 <<< (8 &&& 31)) ||| r_3)), (0, .ref (Z 202)), (2, .int l2), (4, .int l4)]) hx hb dX9_wordTail_25 rfl hl (by decide) rfl (fun ls hl => ?_)
    refine lv_iinc (v := l4 + 1) (lv' := [(4, .int (l4 + 1)), (3, .int ((l3 <<< (8 &&& 31)) ||| r_3)), (0, .ref (Z 202)), (2, .int l2)]) hx hb dX9_wordTail_26 hl (k := 3) rfl rfl (by decide) rfl (fun ls hl => ?_)
    refine lv_goto (tgt := 8) hx hb dX9_wordTail_29 (by decide) ?_
    exact hR_8 _ _ _ _  h _ _ _ hS (lv_sub hl [2, 3, 1, 0] rfl)
def LP_X9_wordTail_8 (N : Nat) : Nat → Int32 × Int32 × Int32 × CSt → Option (Int32 × CSt) := lp (fun R a => B_X9_wordTail_8 N R a.1 a.2.1 a.2.2.1 a.2.2.2)
theorem bl_X9_wordTail_8 {r : Int32} (X : CC p s m args c cX9_wordTail 5 (Cond.code yX9_wordTail cX9_wordTail 5 (some .int)) RX9 D kA V A) (hE : CEi p l e R s m args below meth c cX9_wordTail D kA Z A Q r w) (hF : 1 ≤ R.frames) (hL : 21 ≤ R.locals)  : ∀ (n : Nat) (l2 : Int32) (l3 : Int32) (l4 : Int32) (u : CSt), LP_X9_wordTail_8 N n (l2, l3, l4, u) = some (r, w) → ∀ (H : Heap) (locs : List Loc) (ls : Array Slot), CS D kA Z A s u H locs → lv_has ls 5 [(0, .ref (Z 202)), (2, .int l2), (3, .int l3), (4, .int l4)] → W p l e R s m args below meth c H locs 0 0 Q (F0 m 8 ls []) := by
  intro n
  induction n with
  | zero => intro l2 l3 l4 u h; exact nomatch h
  | succ n ih => intro l2 l3 l4 u h H locs ls hS hl; exact b_X9_wordTail_8 (N := N) (R_8 := LP_X9_wordTail_8 N n) X hE  hF hL  ih h  hS hl
def B_X9_wordTail_0 (N : Nat) (l1 : Int32) (l2 : Int32) (u : CSt) : Option (Int32 × CSt) := LP_X9_wordTail_8 N N (l2, 0, (l1 + 8), u)
set_option maxHeartbeats 4000000 in
theorem b_X9_wordTail_0 {r : Int32} (X : CC p s m args c cX9_wordTail 5 (Cond.code yX9_wordTail cX9_wordTail 5 (some .int)) RX9 D kA V A) (hE : CEi p l e R s m args below meth c cX9_wordTail D kA Z A Q r w) (hF : 1 ≤ R.frames) (hL : 21 ≤ R.locals) {l1 : Int32} {l2 : Int32} {u : CSt}  (h : B_X9_wordTail_0 N l1 l2 u = some (r, w))  (hS : CS D kA Z A s u H locs) (hl : lv_has ls 5 [(0, .ref (Z 202)), (1, .int l1), (2, .int l2)]) : W p l e R s m args below meth c H locs 0 0 Q (F0 m 0 ls []) := by
  obtain ⟨⟨hx, hb, hml, hown, hts⟩, hK, hEV, hA⟩ := id X
  have hG : ∀ w ∈ GW, w.before args s = true := fun w h => hts w (List.mem_cons_of_mem _ h)
  unfold B_X9_wordTail_0 at h
  refine lv_iconst (v := 0) hx hb dX9_wordTail_0 (by decide) ?_
  refine lv_istore_n (lv' := [(3, .int 0), (0, .ref (Z 202)), (1, .int l1), (2, .int l2)]) hx hb dX9_wordTail_1 rfl hl (by decide) rfl (fun ls hl => ?_)
  refine lv_iload_n hx hb dX9_wordTail_2 rfl (lv_at hl 2 rfl) ?_
  refine lv_bipush (v := 8) hx hb dX9_wordTail_3 (by decide) ?_
  refine lv_iadd hx hb dX9_wordTail_5 ?_
  refine lv_istore (lv' := [(4, .int (l1 + 8)), (3, .int 0), (0, .ref (Z 202)), (1, .int l1), (2, .int l2)]) hx hb dX9_wordTail_6 hl (by decide) rfl (fun ls hl => ?_)
  exact bl_X9_wordTail_8 X hE  hF hL  _ _ _ _ _  h _ _ _ hS (lv_sub hl [2, 4, 1, 0] rfl)
def F_X9_wordTail (N : Nat) (l1 : Int32) (l2 : Int32) (u : CSt) : Option (Int32 × CSt) := B_X9_wordTail_0 N l1 l2 u
set_option maxHeartbeats 4000000 in
theorem k_X9_wordTail (l : Launch) (D : va_G) (kA : Nat → ClassId) (V Z : Nat → Nat) (N : Nat) (l1 : Int32) (l2 : Int32) (u : CSt) (sz : Nat) {r : Int32} {w : CSt} (h : F_X9_wordTail N l1 l2 u = some (r, w)) : Met l yX9_wordTail (Cond.code yX9_wordTail cX9_wordTail 5 (some .int) :: GW) { frames := 1, cells := 0, slots := 0, locals := 21 } (cPc D kA V Z [.ref (Z 202), .int l1, .int l2] u sz) (cQi D kA Z u sz r w) 0 0 (va_A (CW kA Z u) sz) := by
  refine Met.ofW (cc := cX9_wordTail) (maxL := 5) (ret := (some .int)) (by decide) rfl ?_
  intro p e s m args below meth c s₁ Bd hml hv
  obtain ⟨rfl, hsz, hP, hK, hD0, hE⟩ := hv
  have hts := atoms_spec (ws := Cond.code yX9_wordTail cX9_wordTail 5 (some .int) :: GW) Bd.pre
  have hl := lv_entry ([.ref (Z 202), .int l1, .int l2]) (n := 5) (Nat.le_of_ble_eq_true rfl)
  rw [lg_entry_eq]
  generalize (lg_sl ([.ref (Z 202), .int l1, .int l2]) ++ List.replicate (5 - (lg_sl ([.ref (Z 202), .int l1, .int l2])).length) Slot.unset).toArray = ls at hl ⊢
  have hl : lv_has ls 5 [(0, .ref (Z 202)), (1, .int l1), (2, .int l2)] := hl
  subst hsz
  have X : CC p s m ([.ref (Z 202), .int l1, .int l2]).toArray c cX9_wordTail 5 (Cond.code yX9_wordTail cX9_wordTail 5 (some .int)) RX9 D kA V (va_A (CW kA Z u) s.heap.size) := ⟨⟨Bd.exec, Bd.bytes, hml, findClass_of_methodNamed Bd.named, hts⟩, hK, hE, fun q h => Or.inr h⟩
  refine b_X9_wordTail_0 X (cend_i X Bd.returns Bd.notSynchronized) (Nat.le_refl _) (Nat.le_refl _) h  ⟨hP, hD0.self, va_S.rf⟩ (lv_sub hl [0, 1, 2] rfl)
theorem kc_X9_wordTail_RX9 {cc : ByteArray} {pc nL : Nat} {c0 : Cond} {rest : List Value} {l1 : Int32} {l2 : Int32} {u w1 : CSt} {r : Int32} (X : CC p s m args c cc nL c0 RX9 D kA V A)  (hS : CS D kA Z A s u H locs) (h : F_X9_wordTail N l1 l2 u = some (r, w1)) (hF : 1 + 1 ≤ R.frames) (hL : 8 + (5 + 11) + 21 ≤ R.locals) (hl : ls.size = nL) (hc : (rest.map fun v => v.category).sum ≤ 8) (hdg : decode cc pc = .ok (.invokevirtual 113, 3)) (kk : ∀ H locs, CS D kA Z A s w1 H locs → W p l e R s m args below meth c H locs 0 0 Q (F0 m (pc + 3) ls (.int r :: rest))) : W p l e R s m args below meth c H locs 0 0 Q (F0 m pc ls (.int l2 :: .int l1 :: .ref (Z 202) :: rest)) :=
  ccall_i (n := 2) X hS (k_X9_wordTail l D kA V Z N l1 l2  u H.size h) (gw_V gw_667 gw_668 gw_669 gw_2 gw_670) (by decide +kernel) (va_recv X.2.1 hS.1 (ci := 8) (q0 := 2) rfl (cw_lit rfl)) hF hL rfl hl hc rfl hdg kk
theorem kc_X9_wordTail_RX11 {cc : ByteArray} {pc nL : Nat} {c0 : Cond} {rest : List Value} {l1 : Int32} {l2 : Int32} {u w1 : CSt} {r : Int32} (X : CC p s m args c cc nL c0 RX11 D kA V A)  (hS : CS D kA Z A s u H locs) (h : F_X9_wordTail N l1 l2 u = some (r, w1)) (hF : 1 + 1 ≤ R.frames) (hL : 8 + (5 + 11) + 21 ≤ R.locals) (hl : ls.size = nL) (hc : (rest.map fun v => v.category).sum ≤ 8) (hdg : decode cc pc = .ok (.invokevirtual 271, 3)) (kk : ∀ H locs, CS D kA Z A s w1 H locs → W p l e R s m args below meth c H locs 0 0 Q (F0 m (pc + 3) ls (.int r :: rest))) : W p l e R s m args below meth c H locs 0 0 Q (F0 m pc ls (.int l2 :: .int l1 :: .ref (Z 202) :: rest)) :=
  ccall_i (n := 2) X hS (k_X9_wordTail l D kA V Z N l1 l2  u H.size h) (gw_V gw_1781 gw_668 gw_669 gw_2 gw_670) (by decide +kernel) (va_recv X.2.1 hS.1 (ci := 8) (q0 := 2) rfl (cw_lit rfl)) hF hL rfl hl hc rfl hdg kk
def B_X9_wordType_2 (N : Nat) (R_2 : Int64 × Int32 × CSt → Option (Int32 × CSt)) (l1 : Int64) (l3 : Int32) (u : CSt) : Option (Int32 × CSt) := if (29 : Int32) < l3 then (some (128, u)) else (rd (cB u 207) 30 l3 fun v_3 => if v_3 = l1 then (some (l3, u)) else (R_2 (l1, (l3 + 1), u)))
set_option maxHeartbeats 4000000 in
theorem b_X9_wordType_2 {r : Int32} (X : CC p s m args c cX9_wordType 4 (Cond.code yX9_wordType cX9_wordType 4 (some .int)) RX9 D kA V A) (hE : CEi p l e R s m args below meth c cX9_wordType D kA Z A Q r w) (hF : 0 ≤ R.frames) (hL : 0 ≤ R.locals) {R_2 : Int64 × Int32 × CSt → Option (Int32 × CSt)} {l1 : Int64} {l3 : Int32} {u : CSt} (hR_2 : ∀ (l1 : Int64) (l3 : Int32) (u : CSt), R_2 (l1, l3, u) = some (r, w) → ∀ (H : Heap) (locs : List Loc) (ls : Array Slot), CS D kA Z A s u H locs → lv_has ls 4 [(0, .ref (Z 202)), (1, .long l1), (3, .int l3)] → W p l e R s m args below meth c H locs 0 0 Q (F0 m 2 ls [])) (h : B_X9_wordType_2 N R_2 l1 l3 u = some (r, w))  (hS : CS D kA Z A s u H locs) (hl : lv_has ls 4 [(0, .ref (Z 202)), (1, .long l1), (3, .int l3)]) : W p l e R s m args below meth c H locs 0 0 Q (F0 m 2 ls []) := by
  obtain ⟨⟨hx, hb, hml, hown, hts⟩, hK, hEV, hA⟩ := id X
  have hG : ∀ w ∈ GW, w.before args s = true := fun w h => hts w (List.mem_cons_of_mem _ h)
  unfold B_X9_wordType_2 at h
  refine lv_iload_n hx hb dX9_wordType_2 rfl (lv_at hl 2 rfl) ?_
  refine lv_bipush (v := 29) hx hb dX9_wordType_3 (by decide) ?_
  refine lv_icmp_gt (tgt := 27) hx hb dX9_wordType_5 (by decide) (fun c_1 => ?_) (fun c_1 => ?_)
  · have h := ip (c_1) h
    refine lv_sipush (v := 128) hx hb dX9_wordType_27 (by decide) ?_
    obtain ⟨rfl, rfl⟩ := so9 h
    exact hE _ _ _ _ hS dX9_wordType_30
  · have h := im (c_1) h
    refine lv_aload_n hx hb dX9_wordType_8 rfl (lv_at hl 0 rfl) ?_
    refine cg_X9_25 X hS dX9_wordType_9 ?_
    refine lv_iload_n hx hb dX9_wordType_12 rfl (lv_at hl 2 rfl) ?_
    obtain ⟨v_3, e_v_3, i_2, h⟩ := rd_of h
    refine ca_s207 X hS i_2 e_v_3 dX9_wordType_13 ?_
    refine lv_lload_n hx hb dX9_wordType_14 rfl (lv_at hl 1 rfl) ?_
    refine W.lcmp hx hb dX9_wordType_15 ?_
    refine lv_if_ne (tgt := 21) hx hb dX9_wordType_16 (by decide) (fun c_4 => ?_) (fun c_4 => ?_)
    · have h := im (mt (lg_cmp_eq _ _).mpr c_4) h
      refine lv_iinc (v := l3 + 1) (lv' := [(3, .int (l3 + 1)), (0, .ref (Z 202)), (1, .long l1)]) hx hb dX9_wordType_21 hl (k := 2) rfl rfl (by decide) rfl (fun ls hl => ?_)
      refine lv_goto (tgt := 2) hx hb dX9_wordType_24 (by decide) ?_
      exact hR_2 _ _ _  h _ _ _ hS (lv_sub hl [1, 2, 0] rfl)
    · have h := ip ((lg_cmp_eq _ _).mp c_4) h
      refine lv_iload_n hx hb dX9_wordType_19 rfl (lv_at hl 2 rfl) ?_
      obtain ⟨rfl, rfl⟩ := so9 h
      exact hE _ _ _ _ hS dX9_wordType_20
def LP_X9_wordType_2 (N : Nat) : Nat → Int64 × Int32 × CSt → Option (Int32 × CSt) := lp (fun R a => B_X9_wordType_2 N R a.1 a.2.1 a.2.2)
theorem bl_X9_wordType_2 {r : Int32} (X : CC p s m args c cX9_wordType 4 (Cond.code yX9_wordType cX9_wordType 4 (some .int)) RX9 D kA V A) (hE : CEi p l e R s m args below meth c cX9_wordType D kA Z A Q r w) (hF : 0 ≤ R.frames) (hL : 0 ≤ R.locals)  : ∀ (n : Nat) (l1 : Int64) (l3 : Int32) (u : CSt), LP_X9_wordType_2 N n (l1, l3, u) = some (r, w) → ∀ (H : Heap) (locs : List Loc) (ls : Array Slot), CS D kA Z A s u H locs → lv_has ls 4 [(0, .ref (Z 202)), (1, .long l1), (3, .int l3)] → W p l e R s m args below meth c H locs 0 0 Q (F0 m 2 ls []) := by
  intro n
  induction n with
  | zero => intro l1 l3 u h; exact nomatch h
  | succ n ih => intro l1 l3 u h H locs ls hS hl; exact b_X9_wordType_2 (N := N) (R_2 := LP_X9_wordType_2 N n) X hE  hF hL  ih h  hS hl
def B_X9_wordType_0 (N : Nat) (l1 : Int64) (u : CSt) : Option (Int32 × CSt) := LP_X9_wordType_2 N N (l1, 1, u)
set_option maxHeartbeats 4000000 in
theorem b_X9_wordType_0 {r : Int32} (X : CC p s m args c cX9_wordType 4 (Cond.code yX9_wordType cX9_wordType 4 (some .int)) RX9 D kA V A) (hE : CEi p l e R s m args below meth c cX9_wordType D kA Z A Q r w) (hF : 0 ≤ R.frames) (hL : 0 ≤ R.locals) {l1 : Int64} {u : CSt}  (h : B_X9_wordType_0 N l1 u = some (r, w))  (hS : CS D kA Z A s u H locs) (hl : lv_has ls 4 [(0, .ref (Z 202)), (1, .long l1)]) : W p l e R s m args below meth c H locs 0 0 Q (F0 m 0 ls []) := by
  obtain ⟨⟨hx, hb, hml, hown, hts⟩, hK, hEV, hA⟩ := id X
  have hG : ∀ w ∈ GW, w.before args s = true := fun w h => hts w (List.mem_cons_of_mem _ h)
  unfold B_X9_wordType_0 at h
  refine lv_iconst (v := 1) hx hb dX9_wordType_0 (by decide) ?_
  refine lv_istore_n (lv' := [(3, .int 1), (0, .ref (Z 202)), (1, .long l1)]) hx hb dX9_wordType_1 rfl hl (by decide) rfl (fun ls hl => ?_)
  exact bl_X9_wordType_2 X hE  hF hL  _ _ _ _  h _ _ _ hS (lv_sub hl [1, 2, 0] rfl)
def F_X9_wordType (N : Nat) (l1 : Int64) (u : CSt) : Option (Int32 × CSt) := B_X9_wordType_0 N l1 u
set_option maxHeartbeats 4000000 in
theorem k_X9_wordType (l : Launch) (D : va_G) (kA : Nat → ClassId) (V Z : Nat → Nat) (N : Nat) (l1 : Int64) (u : CSt) (sz : Nat) {r : Int32} {w : CSt} (h : F_X9_wordType N l1 u = some (r, w)) : Met l yX9_wordType (Cond.code yX9_wordType cX9_wordType 4 (some .int) :: GW) { frames := 0, cells := 0, slots := 0, locals := 0 } (cPc D kA V Z [.ref (Z 202), .long l1] u sz) (cQi D kA Z u sz r w) 0 0 (va_A (CW kA Z u) sz) := by
  refine Met.ofW (cc := cX9_wordType) (maxL := 4) (ret := (some .int)) (by decide) rfl ?_
  intro p e s m args below meth c s₁ Bd hml hv
  obtain ⟨rfl, hsz, hP, hK, hD0, hE⟩ := hv
  have hts := atoms_spec (ws := Cond.code yX9_wordType cX9_wordType 4 (some .int) :: GW) Bd.pre
  have hl := lv_entry ([.ref (Z 202), .long l1]) (n := 4) (Nat.le_of_ble_eq_true rfl)
  rw [lg_entry_eq]
  generalize (lg_sl ([.ref (Z 202), .long l1]) ++ List.replicate (4 - (lg_sl ([.ref (Z 202), .long l1])).length) Slot.unset).toArray = ls at hl ⊢
  have hl : lv_has ls 4 [(0, .ref (Z 202)), (1, .long l1)] := hl
  subst hsz
  have X : CC p s m ([.ref (Z 202), .long l1]).toArray c cX9_wordType 4 (Cond.code yX9_wordType cX9_wordType 4 (some .int)) RX9 D kA V (va_A (CW kA Z u) s.heap.size) := ⟨⟨Bd.exec, Bd.bytes, hml, findClass_of_methodNamed Bd.named, hts⟩, hK, hE, fun q h => Or.inr h⟩
  refine b_X9_wordType_0 X (cend_i X Bd.returns Bd.notSynchronized) (Nat.le_refl _) (Nat.le_refl _) h  ⟨hP, hD0.self, va_S.rf⟩ (lv_sub hl [0, 1] rfl)
theorem kc_X9_wordType_RX9 {cc : ByteArray} {pc nL : Nat} {c0 : Cond} {rest : List Value} {l1 : Int64} {u w1 : CSt} {r : Int32} (X : CC p s m args c cc nL c0 RX9 D kA V A)  (hS : CS D kA Z A s u H locs) (h : F_X9_wordType N l1 u = some (r, w1)) (hF : 0 + 1 ≤ R.frames) (hL : 8 + (4 + 11) + 0 ≤ R.locals) (hl : ls.size = nL) (hc : (rest.map fun v => v.category).sum ≤ 8) (hdg : decode cc pc = .ok (.invokevirtual 117, 3)) (kk : ∀ H locs, CS D kA Z A s w1 H locs → W p l e R s m args below meth c H locs 0 0 Q (F0 m (pc + 3) ls (.int r :: rest))) : W p l e R s m args below meth c H locs 0 0 Q (F0 m pc ls (.long l1 :: .ref (Z 202) :: rest)) :=
  ccall_i (n := 1) X hS (k_X9_wordType l D kA V Z N l1  u H.size h) (gw_V gw_671 gw_673 gs_1_9 gw_2 gw_674) (by decide +kernel) (va_recv X.2.1 hS.1 (ci := 8) (q0 := 2) rfl (cw_lit rfl)) hF hL rfl hl hc rfl hdg kk
def B_X9_readWord_69 (N : Nat) (l2 : Int32) (l3 : Int64) (l5 : Int32) (s1 : Int32) (u : CSt) : Option (Int32 × CSt) := bc (F_X9_put N s1 l3 l5 u) fun _ u_1 => some (l2, u_1)
set_option maxHeartbeats 4000000 in
theorem b_X9_readWord_69 {r : Int32} (X : CC p s m args c cX9_readWord 6 (Cond.code yX9_readWord cX9_readWord 6 (some .int)) RX9 D kA V A) (hE : CEi p l e R s m args below meth c cX9_readWord D kA Z A Q r w) (hF : 2 ≤ R.frames) (hL : 46 ≤ R.locals) {l2 : Int32} {l3 : Int64} {l5 : Int32} {s1 : Int32} {u : CSt}  (h : B_X9_readWord_69 N l2 l3 l5 s1 u = some (r, w))  (hS : CS D kA Z A s u H locs) (hl : lv_has ls 6 [(2, .int l2), (3, .long l3), (5, .int l5)]) : W p l e R s m args below meth c H locs 0 0 Q (F0 m 69 ls [.int s1, .ref (Z 202)]) := by
  obtain ⟨⟨hx, hb, hml, hown, hts⟩, hK, hEV, hA⟩ := id X
  have hG : ∀ w ∈ GW, w.before args s = true := fun w h => hts w (List.mem_cons_of_mem _ h)
  unfold B_X9_readWord_69 at h
  refine lv_lload_n hx hb dX9_readWord_69 rfl (lv_at hl 1 rfl) ?_
  refine lv_iload hx hb dX9_readWord_70 (lv_at hl 2 rfl) ?_
  obtain ⟨r_u_1, u_1, h_u_1, h⟩ := bc_of h
  refine kc_X9_put_RX9 X  hS h_u_1 (Nat.le_trans (Nat.le_of_ble_eq_true rfl) hF) (Nat.le_trans (Nat.le_of_ble_eq_true rfl) hL) hl.1 (Nat.le_of_ble_eq_true rfl) dX9_readWord_72 (fun H locs hS => ?_)
  refine lv_iload_n hx hb dX9_readWord_75 rfl (lv_at hl 0 rfl) ?_
  obtain ⟨rfl, rfl⟩ := so9 h
  exact hE _ _ _ _ hS dX9_readWord_76
def B_X9_readWord_27 (N : Nat) (l1 : Int32) (l2 : Int32) (u : CSt) : Option (Int32 × CSt) := if (l2 - l1) ≤ (12 : Int32) then (bc (F_X9_wordHead N l1 l2 u) fun r_4 u_3 => bc (F_X9_wordTail N l1 l2 u_3) fun r_6 u_5 => if r_6 = (0 : Int32) then (bc (F_X9_wordType N r_4 u_5) fun r_9 u_8 => B_X9_readWord_69 N l2 r_4 r_6 r_9 u_8) else (B_X9_readWord_69 N l2 r_4 r_6 128 u_5)) else (some ((-1), u))
set_option maxHeartbeats 4000000 in
theorem b_X9_readWord_27 {r : Int32} (X : CC p s m args c cX9_readWord 6 (Cond.code yX9_readWord cX9_readWord 6 (some .int)) RX9 D kA V A) (hE : CEi p l e R s m args below meth c cX9_readWord D kA Z A Q r w) (hF : 2 ≤ R.frames) (hL : 46 ≤ R.locals) {l1 : Int32} {l2 : Int32} {u : CSt}  (h : B_X9_readWord_27 N l1 l2 u = some (r, w))  (hS : CS D kA Z A s u H locs) (hl : lv_has ls 6 [(0, .ref (Z 202)), (1, .int l1), (2, .int l2)]) : W p l e R s m args below meth c H locs 0 0 Q (F0 m 27 ls []) := by
  obtain ⟨⟨hx, hb, hml, hown, hts⟩, hK, hEV, hA⟩ := id X
  have hG : ∀ w ∈ GW, w.before args s = true := fun w h => hts w (List.mem_cons_of_mem _ h)
  unfold B_X9_readWord_27 at h
  refine lv_iload_n hx hb dX9_readWord_27 rfl (lv_at hl 2 rfl) ?_
  refine lv_iload_n hx hb dX9_readWord_28 rfl (lv_at hl 1 rfl) ?_
  refine lv_isub hx hb dX9_readWord_29 ?_
  refine lv_bipush (v := 12) hx hb dX9_readWord_30 (by decide) ?_
  refine lv_icmp_le (tgt := 37) hx hb dX9_readWord_32 (by decide) (fun c_2 => ?_) (fun c_2 => ?_)
  · have h := ip (c_2) h
    refine lv_aload_n hx hb dX9_readWord_37 rfl (lv_at hl 0 rfl) ?_
    refine lv_iload_n hx hb dX9_readWord_38 rfl (lv_at hl 1 rfl) ?_
    refine lv_iload_n hx hb dX9_readWord_39 rfl (lv_at hl 2 rfl) ?_
    obtain ⟨r_4, u_3, h_u_3, h⟩ := bc_of h
    refine kc_X9_wordHead_RX9 X  hS h_u_3 (Nat.le_trans (Nat.le_of_ble_eq_true rfl) hF) (Nat.le_trans (Nat.le_of_ble_eq_true rfl) hL) hl.1 (Nat.le_of_ble_eq_true rfl) dX9_readWord_40 (fun H locs hS => ?_)
    refine lv_lstore_n (lv' := [(3, .long r_4), (0, .ref (Z 202)), (1, .int l1), (2, .int l2)]) hx hb dX9_readWord_43 rfl hl (by decide) rfl (fun ls hl => ?_)
    refine lv_aload_n hx hb dX9_readWord_44 rfl (lv_at hl 1 rfl) ?_
    refine lv_iload_n hx hb dX9_readWord_45 rfl (lv_at hl 2 rfl) ?_
    refine lv_iload_n hx hb dX9_readWord_46 rfl (lv_at hl 3 rfl) ?_
    obtain ⟨r_6, u_5, h_u_5, h⟩ := bc_of h
    refine kc_X9_wordTail_RX9 X  hS h_u_5 (Nat.le_trans (Nat.le_of_ble_eq_true rfl) hF) (Nat.le_trans (Nat.le_of_ble_eq_true rfl) hL) hl.1 (Nat.le_of_ble_eq_true rfl) dX9_readWord_47 (fun H locs hS => ?_)
    refine lv_istore (lv' := [(5, .int r_6), (3, .long r_4), (0, .ref (Z 202)), (1, .int l1), (2, .int l2)]) hx hb dX9_readWord_50 hl (by decide) rfl (fun ls hl => ?_)
    refine lv_aload_n hx hb dX9_readWord_52 rfl (lv_at hl 2 rfl) ?_
    refine lv_iload hx hb dX9_readWord_53 (lv_at hl 0 rfl) ?_
    refine lv_if_ne (tgt := 66) hx hb dX9_readWord_55 (by decide) (fun c_7 => ?_) (fun c_7 => ?_)
    · have h := im (c_7) h
      refine lv_sipush (v := 128) hx hb dX9_readWord_66 (by decide) ?_
      exact b_X9_readWord_69 X hE  hF hL  h  hS (lv_sub hl [4, 1, 0] rfl)
    · have h := ip (c_7) h
      refine lv_aload_n hx hb dX9_readWord_58 rfl (lv_at hl 2 rfl) ?_
      refine lv_lload_n hx hb dX9_readWord_59 rfl (lv_at hl 1 rfl) ?_
      obtain ⟨r_9, u_8, h_u_8, h⟩ := bc_of h
      refine kc_X9_wordType_RX9 X  hS h_u_8 (Nat.le_trans (Nat.le_of_ble_eq_true rfl) hF) (Nat.le_trans (Nat.le_of_ble_eq_true rfl) hL) hl.1 (Nat.le_of_ble_eq_true rfl) dX9_readWord_60 (fun H locs hS => ?_)
      refine lv_goto (tgt := 69) hx hb dX9_readWord_63 (by decide) ?_
      exact b_X9_readWord_69 X hE  hF hL  h  hS (lv_sub hl [4, 1, 0] rfl)
  · have h := im (c_2) h
    refine lv_iconst (v := (-1)) hx hb dX9_readWord_35 (by decide) ?_
    obtain ⟨rfl, rfl⟩ := so9 h
    exact hE _ _ _ _ hS dX9_readWord_36
def B_X9_readWord_2 (N : Nat) (R_2 : Int32 × Int32 × CSt → Option (Int32 × CSt)) (l1 : Int32) (l2 : Int32) (u : CSt) : Option (Int32 × CSt) := if (cI u 3) ≤ l2 then (B_X9_readWord_27 N l1 l2 u) else (bc (F_X9_byteAt N l2 u) fun r_12 u_11 => pb (F_X9_isWordByte N r_12) fun r_13 => if r_13 = (0 : Int32) then (B_X9_readWord_27 N l1 l2 u_11) else (R_2 (l1, (l2 + 1), u_11)))
set_option maxHeartbeats 4000000 in
theorem b_X9_readWord_2 {r : Int32} (X : CC p s m args c cX9_readWord 6 (Cond.code yX9_readWord cX9_readWord 6 (some .int)) RX9 D kA V A) (hE : CEi p l e R s m args below meth c cX9_readWord D kA Z A Q r w) (hF : 2 ≤ R.frames) (hL : 46 ≤ R.locals) {R_2 : Int32 × Int32 × CSt → Option (Int32 × CSt)} {l1 : Int32} {l2 : Int32} {u : CSt} (hR_2 : ∀ (l1 : Int32) (l2 : Int32) (u : CSt), R_2 (l1, l2, u) = some (r, w) → ∀ (H : Heap) (locs : List Loc) (ls : Array Slot), CS D kA Z A s u H locs → lv_has ls 6 [(0, .ref (Z 202)), (1, .int l1), (2, .int l2)] → W p l e R s m args below meth c H locs 0 0 Q (F0 m 2 ls [])) (h : B_X9_readWord_2 N R_2 l1 l2 u = some (r, w))  (hS : CS D kA Z A s u H locs) (hl : lv_has ls 6 [(0, .ref (Z 202)), (1, .int l1), (2, .int l2)]) : W p l e R s m args below meth c H locs 0 0 Q (F0 m 2 ls []) := by
  obtain ⟨⟨hx, hb, hml, hown, hts⟩, hK, hEV, hA⟩ := id X
  have hG : ∀ w ∈ GW, w.before args s = true := fun w h => hts w (List.mem_cons_of_mem _ h)
  unfold B_X9_readWord_2 at h
  refine lv_iload_n hx hb dX9_readWord_2 rfl (lv_at hl 2 rfl) ?_
  refine lv_aload_n hx hb dX9_readWord_3 rfl (lv_at hl 0 rfl) ?_
  refine cg_X9_48 X hS dX9_readWord_4 ?_
  refine lv_icmp_ge (tgt := 27) hx hb dX9_readWord_7 (by decide) (fun c_10 => ?_) (fun c_10 => ?_)
  · have h := ip (c_10) h
    exact b_X9_readWord_27 X hE  hF hL  h  hS (lv_sub hl [0, 1, 2] rfl)
  · have h := im (c_10) h
    refine lv_aload_n hx hb dX9_readWord_10 rfl (lv_at hl 0 rfl) ?_
    refine lv_iload_n hx hb dX9_readWord_11 rfl (lv_at hl 2 rfl) ?_
    obtain ⟨r_12, u_11, h_u_11, h⟩ := bc_of h
    refine kc_X9_byteAt_RX9 X  hS h_u_11 (Nat.le_trans (Nat.le_of_ble_eq_true rfl) hF) (Nat.le_trans (Nat.le_of_ble_eq_true rfl) hL) hl.1 (Nat.le_of_ble_eq_true rfl) dX9_readWord_12 (fun H locs hS => ?_)
    obtain ⟨r_13, e_r_13, h⟩ := pb_of h
    refine vp_callSi (W.runS (As := [.int r_12]) (rest := []) X.1 (k_X9_isWordByte l N r_12 e_r_13) (va_cwS 1 hts (gw_S gw_642 gw_643 gw_2 gw_644) rfl rfl rfl (by decide +kernel) ⟨Nat.le_trans (Nat.le_of_ble_eq_true rfl) hF, Nat.le_trans (Nat.le_of_ble_eq_true rfl) hL⟩) ⟨fun _ _ _ _ q => q, fun _ _ _ => ⟨rfl, trivial⟩⟩ rfl rfl hl.1 rfl (lv_room (Nat.le_of_ble_eq_true rfl)) dX9_readWord_15 ⟨Nat.zero_le _, Nat.zero_le _⟩) (fun r_14 q_15 => ?_)
    rw [q_15]
    refine lv_if_eq (tgt := 27) hx hb dX9_readWord_18 (by decide) (fun c_16 => ?_) (fun c_16 => ?_)
    · have h := ip (c_16) h
      exact b_X9_readWord_27 X hE  hF hL  h  hS (lv_sub hl [0, 1, 2] rfl)
    · have h := im (c_16) h
      refine lv_iinc (v := l2 + 1) (lv' := [(2, .int (l2 + 1)), (0, .ref (Z 202)), (1, .int l1)]) hx hb dX9_readWord_21 hl (k := 2) rfl rfl (by decide) rfl (fun ls hl => ?_)
      refine lv_goto (tgt := 2) hx hb dX9_readWord_24 (by decide) ?_
      exact hR_2 _ _ _  h _ _ _ hS (lv_sub hl [1, 2, 0] rfl)
def LP_X9_readWord_2 (N : Nat) : Nat → Int32 × Int32 × CSt → Option (Int32 × CSt) := lp (fun R a => B_X9_readWord_2 N R a.1 a.2.1 a.2.2)
theorem bl_X9_readWord_2 {r : Int32} (X : CC p s m args c cX9_readWord 6 (Cond.code yX9_readWord cX9_readWord 6 (some .int)) RX9 D kA V A) (hE : CEi p l e R s m args below meth c cX9_readWord D kA Z A Q r w) (hF : 2 ≤ R.frames) (hL : 46 ≤ R.locals)  : ∀ (n : Nat) (l1 : Int32) (l2 : Int32) (u : CSt), LP_X9_readWord_2 N n (l1, l2, u) = some (r, w) → ∀ (H : Heap) (locs : List Loc) (ls : Array Slot), CS D kA Z A s u H locs → lv_has ls 6 [(0, .ref (Z 202)), (1, .int l1), (2, .int l2)] → W p l e R s m args below meth c H locs 0 0 Q (F0 m 2 ls []) := by
  intro n
  induction n with
  | zero => intro l1 l2 u h; exact nomatch h
  | succ n ih => intro l1 l2 u h H locs ls hS hl; exact b_X9_readWord_2 (N := N) (R_2 := LP_X9_readWord_2 N n) X hE  hF hL  ih h  hS hl
def B_X9_readWord_0 (N : Nat) (l1 : Int32) (u : CSt) : Option (Int32 × CSt) := LP_X9_readWord_2 N N (l1, l1, u)
set_option maxHeartbeats 4000000 in
theorem b_X9_readWord_0 {r : Int32} (X : CC p s m args c cX9_readWord 6 (Cond.code yX9_readWord cX9_readWord 6 (some .int)) RX9 D kA V A) (hE : CEi p l e R s m args below meth c cX9_readWord D kA Z A Q r w) (hF : 2 ≤ R.frames) (hL : 46 ≤ R.locals) {l1 : Int32} {u : CSt}  (h : B_X9_readWord_0 N l1 u = some (r, w))  (hS : CS D kA Z A s u H locs) (hl : lv_has ls 6 [(0, .ref (Z 202)), (1, .int l1)]) : W p l e R s m args below meth c H locs 0 0 Q (F0 m 0 ls []) := by
  obtain ⟨⟨hx, hb, hml, hown, hts⟩, hK, hEV, hA⟩ := id X
  have hG : ∀ w ∈ GW, w.before args s = true := fun w h => hts w (List.mem_cons_of_mem _ h)
  unfold B_X9_readWord_0 at h
  refine lv_iload_n hx hb dX9_readWord_0 rfl (lv_at hl 1 rfl) ?_
  refine lv_istore_n (lv' := [(2, .int l1), (0, .ref (Z 202)), (1, .int l1)]) hx hb dX9_readWord_1 rfl hl (by decide) rfl (fun ls hl => ?_)
  exact bl_X9_readWord_2 X hE  hF hL  _ _ _ _  h _ _ _ hS (lv_sub hl [1, 2, 0] rfl)
def F_X9_readWord (N : Nat) (l1 : Int32) (u : CSt) : Option (Int32 × CSt) := B_X9_readWord_0 N l1 u
set_option maxHeartbeats 4000000 in
theorem k_X9_readWord (l : Launch) (D : va_G) (kA : Nat → ClassId) (V Z : Nat → Nat) (N : Nat) (l1 : Int32) (u : CSt) (sz : Nat) {r : Int32} {w : CSt} (h : F_X9_readWord N l1 u = some (r, w)) : Met l yX9_readWord (Cond.code yX9_readWord cX9_readWord 6 (some .int) :: GW) { frames := 2, cells := 0, slots := 0, locals := 46 } (cPc D kA V Z [.ref (Z 202), .int l1] u sz) (cQi D kA Z u sz r w) 0 0 (va_A (CW kA Z u) sz) := by
  refine Met.ofW (cc := cX9_readWord) (maxL := 6) (ret := (some .int)) (by decide) rfl ?_
  intro p e s m args below meth c s₁ Bd hml hv
  obtain ⟨rfl, hsz, hP, hK, hD0, hE⟩ := hv
  have hts := atoms_spec (ws := Cond.code yX9_readWord cX9_readWord 6 (some .int) :: GW) Bd.pre
  have hl := lv_entry ([.ref (Z 202), .int l1]) (n := 6) (Nat.le_of_ble_eq_true rfl)
  rw [lg_entry_eq]
  generalize (lg_sl ([.ref (Z 202), .int l1]) ++ List.replicate (6 - (lg_sl ([.ref (Z 202), .int l1])).length) Slot.unset).toArray = ls at hl ⊢
  have hl : lv_has ls 6 [(0, .ref (Z 202)), (1, .int l1)] := hl
  subst hsz
  have X : CC p s m ([.ref (Z 202), .int l1]).toArray c cX9_readWord 6 (Cond.code yX9_readWord cX9_readWord 6 (some .int)) RX9 D kA V (va_A (CW kA Z u) s.heap.size) := ⟨⟨Bd.exec, Bd.bytes, hml, findClass_of_methodNamed Bd.named, hts⟩, hK, hE, fun q h => Or.inr h⟩
  refine b_X9_readWord_0 X (cend_i X Bd.returns Bd.notSynchronized) (Nat.le_refl _) (Nat.le_refl _) h  ⟨hP, hD0.self, va_S.rf⟩ (lv_sub hl [0, 1] rfl)
theorem kc_X9_readWord_RX9 {cc : ByteArray} {pc nL : Nat} {c0 : Cond} {rest : List Value} {l1 : Int32} {u w1 : CSt} {r : Int32} (X : CC p s m args c cc nL c0 RX9 D kA V A)  (hS : CS D kA Z A s u H locs) (h : F_X9_readWord N l1 u = some (r, w1)) (hF : 2 + 1 ≤ R.frames) (hL : 8 + (6 + 11) + 46 ≤ R.locals) (hl : ls.size = nL) (hc : (rest.map fun v => v.category).sum ≤ 8) (hdg : decode cc pc = .ok (.invokevirtual 100, 3)) (kk : ∀ H locs, CS D kA Z A s w1 H locs → W p l e R s m args below meth c H locs 0 0 Q (F0 m (pc + 3) ls (.int r :: rest))) : W p l e R s m args below meth c H locs 0 0 Q (F0 m pc ls (.int l1 :: .ref (Z 202) :: rest)) :=
  ccall_i (n := 1) X hS (k_X9_readWord l D kA V Z N l1  u H.size h) (gw_V gw_659 gw_661 gs_1_8 gw_2 gw_662) (by decide +kernel) (va_recv X.2.1 hS.1 (ci := 8) (q0 := 2) rfl (cw_lit rfl)) hF hL rfl hl hc rfl hdg kk
def B_X9_hexBits_5 (N : Nat) (R_5 : Int32 × Int64 × Int32 × CSt → Option (Int64 × CSt)) (l2 : Int32) (l3 : Int64) (l5 : Int32) (u : CSt) : Option (Int64 × CSt) := if l2 ≤ l5 then (some (l3, u)) else (bc (F_X9_byteAt N l5 u) fun r_3 u_2 => pb (F_X9_digit N r_3 1) fun r_4 => R_5 (l2, ((l3 <<< ((4 : Int32).toInt64 &&& 63)) ||| r_4.toInt64), (l5 + 1), u_2))
set_option maxHeartbeats 4000000 in
theorem b_X9_hexBits_5 {r : Int64} (X : CC p s m args c cX9_hexBits 6 (Cond.code yX9_hexBits cX9_hexBits 6 (some .long)) RX9 D kA V A) (hE : CEl p l e R s m args below meth c cX9_hexBits D kA Z A Q r w) (hF : 1 ≤ R.frames) (hL : 21 ≤ R.locals) {R_5 : Int32 × Int64 × Int32 × CSt → Option (Int64 × CSt)} {l2 : Int32} {l3 : Int64} {l5 : Int32} {u : CSt} (hR_5 : ∀ (l2 : Int32) (l3 : Int64) (l5 : Int32) (u : CSt), R_5 (l2, l3, l5, u) = some (r, w) → ∀ (H : Heap) (locs : List Loc) (ls : Array Slot), CS D kA Z A s u H locs → lv_has ls 6 [(0, .ref (Z 202)), (2, .int l2), (3, .long l3), (5, .int l5)] → W p l e R s m args below meth c H locs 0 0 Q (F0 m 5 ls [])) (h : B_X9_hexBits_5 N R_5 l2 l3 l5 u = some (r, w))  (hS : CS D kA Z A s u H locs) (hl : lv_has ls 6 [(0, .ref (Z 202)), (2, .int l2), (3, .long l3), (5, .int l5)]) : W p l e R s m args below meth c H locs 0 0 Q (F0 m 5 ls []) := by
  obtain ⟨⟨hx, hb, hml, hown, hts⟩, hK, hEV, hA⟩ := id X
  have hG : ∀ w ∈ GW, w.before args s = true := fun w h => hts w (List.mem_cons_of_mem _ h)
  unfold B_X9_hexBits_5 at h
  refine lv_iload hx hb dX9_hexBits_5 (lv_at hl 3 rfl) ?_
  refine lv_iload_n hx hb dX9_hexBits_7 rfl (lv_at hl 1 rfl) ?_
  refine lv_icmp_ge (tgt := 33) hx hb dX9_hexBits_8 (by decide) (fun c_1 => ?_) (fun c_1 => ?_)
  · have h := ip (c_1) h
    refine lv_lload_n hx hb dX9_hexBits_33 rfl (lv_at hl 2 rfl) ?_
    obtain ⟨rfl, rfl⟩ := so9 h
    exact hE _ _ _ _ hS dX9_hexBits_34
  · have h := im (c_1) h
    refine lv_lload_n hx hb dX9_hexBits_11 rfl (lv_at hl 2 rfl) ?_
    refine lv_iconst (v := 4) hx hb dX9_hexBits_12 (by decide) ?_
    refine lv_lshl (v := l3 <<< ((4 : Int32).toInt64 &&& 63)) hx hb dX9_hexBits_13 rfl ?_
    refine lv_aload_n hx hb dX9_hexBits_14 rfl (lv_at hl 0 rfl) ?_
    refine lv_iload hx hb dX9_hexBits_15 (lv_at hl 3 rfl) ?_
    obtain ⟨r_3, u_2, h_u_2, h⟩ := bc_of h
    refine kc_X9_byteAt_RX9 X  hS h_u_2 (Nat.le_trans (Nat.le_of_ble_eq_true rfl) hF) (Nat.le_trans (Nat.le_of_ble_eq_true rfl) hL) hl.1 (Nat.le_of_ble_eq_true rfl) dX9_hexBits_17 (fun H locs hS => ?_)
    refine lv_iconst (v := 1) hx hb dX9_hexBits_20 (by decide) ?_
    obtain ⟨r_4, e_r_4, h⟩ := pb_of h
    refine vp_callSi (W.runS (As := [.int r_3, .int 1]) (rest := [.long (l3 <<< ((4 : Int32).toInt64 &&& 63))]) X.1 (k_X9_digit l N r_3 1 e_r_4) (va_cwS 2 hts (gw_S gw_639 gw_640 gw_2 gw_641) rfl rfl rfl (by decide +kernel) ⟨Nat.le_trans (Nat.le_of_ble_eq_true rfl) hF, Nat.le_trans (Nat.le_of_ble_eq_true rfl) hL⟩) ⟨fun _ _ _ _ q => q, fun _ _ _ => ⟨rfl, trivial⟩⟩ rfl rfl hl.1 rfl (lv_room (Nat.le_of_ble_eq_true rfl)) dX9_hexBits_21 ⟨Nat.zero_le _, Nat.zero_le _⟩) (fun r_5 q_6 => ?_)
    rw [q_6]
    refine lv_i2l (v := r_4.toInt64) hx hb dX9_hexBits_24 rfl ?_
    refine lv_lor hx hb dX9_hexBits_25 ?_
    refine lv_lstore_n (lv' := [(3, .long ((l3 <<< ((4 : Int32).toInt64 &&& 63)) ||| r_4.toInt64)), (0, .ref (Z 202)), (2, .int l2), (5, .int l5)]) hx hb dX9_hexBits_26 rfl hl (by decide) rfl (fun ls hl => ?_)
    refine lv_iinc (v := l5 + 1) (lv' := [(5, .int (l5 + 1)), (3, .long ((l3 <<< ((4 : Int32).toInt64 &&& 63)) ||| r_4.toInt64)), (0, .ref (Z 202)), (2, .int l2)]) hx hb dX9_hexBits_27 hl (k := 3) rfl rfl (by decide) rfl (fun ls hl => ?_)
    refine lv_goto (tgt := 5) hx hb dX9_hexBits_30 (by decide) ?_
    exact hR_5 _ _ _ _  h _ _ _ hS (lv_sub hl [2, 3, 1, 0] rfl)
def LP_X9_hexBits_5 (N : Nat) : Nat → Int32 × Int64 × Int32 × CSt → Option (Int64 × CSt) := lp (fun R a => B_X9_hexBits_5 N R a.1 a.2.1 a.2.2.1 a.2.2.2)
theorem bl_X9_hexBits_5 {r : Int64} (X : CC p s m args c cX9_hexBits 6 (Cond.code yX9_hexBits cX9_hexBits 6 (some .long)) RX9 D kA V A) (hE : CEl p l e R s m args below meth c cX9_hexBits D kA Z A Q r w) (hF : 1 ≤ R.frames) (hL : 21 ≤ R.locals)  : ∀ (n : Nat) (l2 : Int32) (l3 : Int64) (l5 : Int32) (u : CSt), LP_X9_hexBits_5 N n (l2, l3, l5, u) = some (r, w) → ∀ (H : Heap) (locs : List Loc) (ls : Array Slot), CS D kA Z A s u H locs → lv_has ls 6 [(0, .ref (Z 202)), (2, .int l2), (3, .long l3), (5, .int l5)] → W p l e R s m args below meth c H locs 0 0 Q (F0 m 5 ls []) := by
  intro n
  induction n with
  | zero => intro l2 l3 l5 u h; exact nomatch h
  | succ n ih => intro l2 l3 l5 u h H locs ls hS hl; exact b_X9_hexBits_5 (N := N) (R_5 := LP_X9_hexBits_5 N n) X hE  hF hL  ih h  hS hl
def B_X9_hexBits_0 (N : Nat) (l1 : Int32) (l2 : Int32) (u : CSt) : Option (Int64 × CSt) := LP_X9_hexBits_5 N N (l2, 0, l1, u)
set_option maxHeartbeats 4000000 in
theorem b_X9_hexBits_0 {r : Int64} (X : CC p s m args c cX9_hexBits 6 (Cond.code yX9_hexBits cX9_hexBits 6 (some .long)) RX9 D kA V A) (hE : CEl p l e R s m args below meth c cX9_hexBits D kA Z A Q r w) (hF : 1 ≤ R.frames) (hL : 21 ≤ R.locals) {l1 : Int32} {l2 : Int32} {u : CSt}  (h : B_X9_hexBits_0 N l1 l2 u = some (r, w))  (hS : CS D kA Z A s u H locs) (hl : lv_has ls 6 [(0, .ref (Z 202)), (1, .int l1), (2, .int l2)]) : W p l e R s m args below meth c H locs 0 0 Q (F0 m 0 ls []) := by
  obtain ⟨⟨hx, hb, hml, hown, hts⟩, hK, hEV, hA⟩ := id X
  have hG : ∀ w ∈ GW, w.before args s = true := fun w h => hts w (List.mem_cons_of_mem _ h)
  unfold B_X9_hexBits_0 at h
  refine lv_lconst (v := 0) hx hb dX9_hexBits_0 (by decide) ?_
  refine lv_lstore_n (lv' := [(3, .long 0), (0, .ref (Z 202)), (1, .int l1), (2, .int l2)]) hx hb dX9_hexBits_1 rfl hl (by decide) rfl (fun ls hl => ?_)
  refine lv_iload_n hx hb dX9_hexBits_2 rfl (lv_at hl 2 rfl) ?_
  refine lv_istore (lv' := [(5, .int l1), (3, .long 0), (0, .ref (Z 202)), (1, .int l1), (2, .int l2)]) hx hb dX9_hexBits_3 hl (by decide) rfl (fun ls hl => ?_)
  exact bl_X9_hexBits_5 X hE  hF hL  _ _ _ _ _  h _ _ _ hS (lv_sub hl [2, 4, 1, 0] rfl)
def F_X9_hexBits (N : Nat) (l1 : Int32) (l2 : Int32) (u : CSt) : Option (Int64 × CSt) := B_X9_hexBits_0 N l1 l2 u
set_option maxHeartbeats 4000000 in
theorem k_X9_hexBits (l : Launch) (D : va_G) (kA : Nat → ClassId) (V Z : Nat → Nat) (N : Nat) (l1 : Int32) (l2 : Int32) (u : CSt) (sz : Nat) {r : Int64} {w : CSt} (h : F_X9_hexBits N l1 l2 u = some (r, w)) : Met l yX9_hexBits (Cond.code yX9_hexBits cX9_hexBits 6 (some .long) :: GW) { frames := 1, cells := 0, slots := 0, locals := 21 } (cPc D kA V Z [.ref (Z 202), .int l1, .int l2] u sz) (cQl D kA Z u sz r w) 0 0 (va_A (CW kA Z u) sz) := by
  refine Met.ofW (cc := cX9_hexBits) (maxL := 6) (ret := (some .long)) (by decide) rfl ?_
  intro p e s m args below meth c s₁ Bd hml hv
  obtain ⟨rfl, hsz, hP, hK, hD0, hE⟩ := hv
  have hts := atoms_spec (ws := Cond.code yX9_hexBits cX9_hexBits 6 (some .long) :: GW) Bd.pre
  have hl := lv_entry ([.ref (Z 202), .int l1, .int l2]) (n := 6) (Nat.le_of_ble_eq_true rfl)
  rw [lg_entry_eq]
  generalize (lg_sl ([.ref (Z 202), .int l1, .int l2]) ++ List.replicate (6 - (lg_sl ([.ref (Z 202), .int l1, .int l2])).length) Slot.unset).toArray = ls at hl ⊢
  have hl : lv_has ls 6 [(0, .ref (Z 202)), (1, .int l1), (2, .int l2)] := hl
  subst hsz
  have X : CC p s m ([.ref (Z 202), .int l1, .int l2]).toArray c cX9_hexBits 6 (Cond.code yX9_hexBits cX9_hexBits 6 (some .long)) RX9 D kA V (va_A (CW kA Z u) s.heap.size) := ⟨⟨Bd.exec, Bd.bytes, hml, findClass_of_methodNamed Bd.named, hts⟩, hK, hE, fun q h => Or.inr h⟩
  refine b_X9_hexBits_0 X (cend_l X Bd.returns Bd.notSynchronized) (Nat.le_refl _) (Nat.le_refl _) h  ⟨hP, hD0.self, va_S.rf⟩ (lv_sub hl [0, 1, 2] rfl)
theorem kc_X9_hexBits_RX9 {cc : ByteArray} {pc nL : Nat} {c0 : Cond} {rest : List Value} {l1 : Int32} {l2 : Int32} {u w1 : CSt} {r : Int64} (X : CC p s m args c cc nL c0 RX9 D kA V A)  (hS : CS D kA Z A s u H locs) (h : F_X9_hexBits N l1 l2 u = some (r, w1)) (hF : 1 + 1 ≤ R.frames) (hL : 8 + (6 + 11) + 21 ≤ R.locals) (hl : ls.size = nL) (hc : (rest.map fun v => v.category).sum ≤ 8) (hdg : decode cc pc = .ok (.invokevirtual 125, 3)) (kk : ∀ H locs, CS D kA Z A s w1 H locs → W p l e R s m args below meth c H locs 0 0 Q (F0 m (pc + 3) ls (.long r :: rest))) : W p l e R s m args below meth c H locs 0 0 Q (F0 m pc ls (.int l2 :: .int l1 :: .ref (Z 202) :: rest)) :=
  ccall_l (n := 2) X hS (k_X9_hexBits l D kA V Z N l1 l2  u H.size h) (gw_V gw_645 gw_647 gs_1_5 gw_2 gw_648) (by decide +kernel) (va_recv X.2.1 hS.1 (ci := 8) (q0 := 2) rfl (cw_lit rfl)) hF hL rfl hl hc rfl hdg kk
def B_X9_decimal_5 (N : Nat) (R_5 : Int32 × Int64 × Int32 × CSt → Option (Int64 × CSt)) (l2 : Int32) (l3 : Int64) (l5 : Int32) (u : CSt) : Option (Int64 × CSt) := if l2 ≤ l5 then (some (l3, u)) else (bc (F_X9_byteAt N l5 u) fun r_3 u_2 => pb (F_X9_digit N r_3 0) fun r_4 => R_5 (l2, ((10 * l3) + r_4.toInt64), (l5 + 1), u_2))
set_option maxHeartbeats 4000000 in
theorem b_X9_decimal_5 {r : Int64} (X : CC p s m args c cX9_decimal 6 (Cond.code yX9_decimal cX9_decimal 6 (some .long)) RX9 D kA V A) (hE : CEl p l e R s m args below meth c cX9_decimal D kA Z A Q r w) (hF : 1 ≤ R.frames) (hL : 21 ≤ R.locals) {R_5 : Int32 × Int64 × Int32 × CSt → Option (Int64 × CSt)} {l2 : Int32} {l3 : Int64} {l5 : Int32} {u : CSt} (hR_5 : ∀ (l2 : Int32) (l3 : Int64) (l5 : Int32) (u : CSt), R_5 (l2, l3, l5, u) = some (r, w) → ∀ (H : Heap) (locs : List Loc) (ls : Array Slot), CS D kA Z A s u H locs → lv_has ls 6 [(0, .ref (Z 202)), (2, .int l2), (3, .long l3), (5, .int l5)] → W p l e R s m args below meth c H locs 0 0 Q (F0 m 5 ls [])) (h : B_X9_decimal_5 N R_5 l2 l3 l5 u = some (r, w))  (hS : CS D kA Z A s u H locs) (hl : lv_has ls 6 [(0, .ref (Z 202)), (2, .int l2), (3, .long l3), (5, .int l5)]) : W p l e R s m args below meth c H locs 0 0 Q (F0 m 5 ls []) := by
  obtain ⟨⟨hx, hb, hml, hown, hts⟩, hK, hEV, hA⟩ := id X
  have hG : ∀ w ∈ GW, w.before args s = true := fun w h => hts w (List.mem_cons_of_mem _ h)
  unfold B_X9_decimal_5 at h
  refine lv_iload hx hb dX9_decimal_5 (lv_at hl 3 rfl) ?_
  refine lv_iload_n hx hb dX9_decimal_7 rfl (lv_at hl 1 rfl) ?_
  refine lv_icmp_ge (tgt := 35) hx hb dX9_decimal_8 (by decide) (fun c_1 => ?_) (fun c_1 => ?_)
  · have h := ip (c_1) h
    refine lv_lload_n hx hb dX9_decimal_35 rfl (lv_at hl 2 rfl) ?_
    obtain ⟨rfl, rfl⟩ := so9 h
    exact hE _ _ _ _ hS dX9_decimal_36
  · have h := im (c_1) h
    refine lv_ldc2 (v := 10) hx hb hown (hG _ gw_657) dX9_decimal_11 ?_
    refine lv_lload_n hx hb dX9_decimal_14 rfl (lv_at hl 2 rfl) ?_
    refine lv_lmul hx hb dX9_decimal_15 ?_
    refine lv_aload_n hx hb dX9_decimal_16 rfl (lv_at hl 0 rfl) ?_
    refine lv_iload hx hb dX9_decimal_17 (lv_at hl 3 rfl) ?_
    obtain ⟨r_3, u_2, h_u_2, h⟩ := bc_of h
    refine kc_X9_byteAt_RX9 X  hS h_u_2 (Nat.le_trans (Nat.le_of_ble_eq_true rfl) hF) (Nat.le_trans (Nat.le_of_ble_eq_true rfl) hL) hl.1 (Nat.le_of_ble_eq_true rfl) dX9_decimal_19 (fun H locs hS => ?_)
    refine lv_iconst (v := 0) hx hb dX9_decimal_22 (by decide) ?_
    obtain ⟨r_4, e_r_4, h⟩ := pb_of h
    refine vp_callSi (W.runS (As := [.int r_3, .int 0]) (rest := [.long (10 * l3)]) X.1 (k_X9_digit l N r_3 0 e_r_4) (va_cwS 2 hts (gw_S gw_639 gw_640 gw_2 gw_641) rfl rfl rfl (by decide +kernel) ⟨Nat.le_trans (Nat.le_of_ble_eq_true rfl) hF, Nat.le_trans (Nat.le_of_ble_eq_true rfl) hL⟩) ⟨fun _ _ _ _ q => q, fun _ _ _ => ⟨rfl, trivial⟩⟩ rfl rfl hl.1 rfl (lv_room (Nat.le_of_ble_eq_true rfl)) dX9_decimal_23 ⟨Nat.zero_le _, Nat.zero_le _⟩) (fun r_5 q_6 => ?_)
    rw [q_6]
    refine lv_i2l (v := r_4.toInt64) hx hb dX9_decimal_26 rfl ?_
    refine lv_ladd hx hb dX9_decimal_27 ?_
    refine lv_lstore_n (lv' := [(3, .long ((10 * l3) + r_4.toInt64)), (0, .ref (Z 202)), (2, .int l2), (5, .int l5)]) hx hb dX9_decimal_28 rfl hl (by decide) rfl (fun ls hl => ?_)
    refine lv_iinc (v := l5 + 1) (lv' := [(5, .int (l5 + 1)), (3, .long ((10 * l3) + r_4.toInt64)), (0, .ref (Z 202)), (2, .int l2)]) hx hb dX9_decimal_29 hl (k := 3) rfl rfl (by decide) rfl (fun ls hl => ?_)
    refine lv_goto (tgt := 5) hx hb dX9_decimal_32 (by decide) ?_
    exact hR_5 _ _ _ _  h _ _ _ hS (lv_sub hl [2, 3, 1, 0] rfl)
def LP_X9_decimal_5 (N : Nat) : Nat → Int32 × Int64 × Int32 × CSt → Option (Int64 × CSt) := lp (fun R a => B_X9_decimal_5 N R a.1 a.2.1 a.2.2.1 a.2.2.2)
theorem bl_X9_decimal_5 {r : Int64} (X : CC p s m args c cX9_decimal 6 (Cond.code yX9_decimal cX9_decimal 6 (some .long)) RX9 D kA V A) (hE : CEl p l e R s m args below meth c cX9_decimal D kA Z A Q r w) (hF : 1 ≤ R.frames) (hL : 21 ≤ R.locals)  : ∀ (n : Nat) (l2 : Int32) (l3 : Int64) (l5 : Int32) (u : CSt), LP_X9_decimal_5 N n (l2, l3, l5, u) = some (r, w) → ∀ (H : Heap) (locs : List Loc) (ls : Array Slot), CS D kA Z A s u H locs → lv_has ls 6 [(0, .ref (Z 202)), (2, .int l2), (3, .long l3), (5, .int l5)] → W p l e R s m args below meth c H locs 0 0 Q (F0 m 5 ls []) := by
  intro n
  induction n with
  | zero => intro l2 l3 l5 u h; exact nomatch h
  | succ n ih => intro l2 l3 l5 u h H locs ls hS hl; exact b_X9_decimal_5 (N := N) (R_5 := LP_X9_decimal_5 N n) X hE  hF hL  ih h  hS hl
def B_X9_decimal_0 (N : Nat) (l1 : Int32) (l2 : Int32) (u : CSt) : Option (Int64 × CSt) := LP_X9_decimal_5 N N (l2, 0, l1, u)
set_option maxHeartbeats 4000000 in
theorem b_X9_decimal_0 {r : Int64} (X : CC p s m args c cX9_decimal 6 (Cond.code yX9_decimal cX9_decimal 6 (some .long)) RX9 D kA V A) (hE : CEl p l e R s m args below meth c cX9_decimal D kA Z A Q r w) (hF : 1 ≤ R.frames) (hL : 21 ≤ R.locals) {l1 : Int32} {l2 : Int32} {u : CSt}  (h : B_X9_decimal_0 N l1 l2 u = some (r, w))  (hS : CS D kA Z A s u H locs) (hl : lv_has ls 6 [(0, .ref (Z 202)), (1, .int l1), (2, .int l2)]) : W p l e R s m args below meth c H locs 0 0 Q (F0 m 0 ls []) := by
  obtain ⟨⟨hx, hb, hml, hown, hts⟩, hK, hEV, hA⟩ := id X
  have hG : ∀ w ∈ GW, w.before args s = true := fun w h => hts w (List.mem_cons_of_mem _ h)
  unfold B_X9_decimal_0 at h
  refine lv_lconst (v := 0) hx hb dX9_decimal_0 (by decide) ?_
  refine lv_lstore_n (lv' := [(3, .long 0), (0, .ref (Z 202)), (1, .int l1), (2, .int l2)]) hx hb dX9_decimal_1 rfl hl (by decide) rfl (fun ls hl => ?_)
  refine lv_iload_n hx hb dX9_decimal_2 rfl (lv_at hl 2 rfl) ?_
  refine lv_istore (lv' := [(5, .int l1), (3, .long 0), (0, .ref (Z 202)), (1, .int l1), (2, .int l2)]) hx hb dX9_decimal_3 hl (by decide) rfl (fun ls hl => ?_)
  exact bl_X9_decimal_5 X hE  hF hL  _ _ _ _ _  h _ _ _ hS (lv_sub hl [2, 4, 1, 0] rfl)
def F_X9_decimal (N : Nat) (l1 : Int32) (l2 : Int32) (u : CSt) : Option (Int64 × CSt) := B_X9_decimal_0 N l1 l2 u
set_option maxHeartbeats 4000000 in
theorem k_X9_decimal (l : Launch) (D : va_G) (kA : Nat → ClassId) (V Z : Nat → Nat) (N : Nat) (l1 : Int32) (l2 : Int32) (u : CSt) (sz : Nat) {r : Int64} {w : CSt} (h : F_X9_decimal N l1 l2 u = some (r, w)) : Met l yX9_decimal (Cond.code yX9_decimal cX9_decimal 6 (some .long) :: GW) { frames := 1, cells := 0, slots := 0, locals := 21 } (cPc D kA V Z [.ref (Z 202), .int l1, .int l2] u sz) (cQl D kA Z u sz r w) 0 0 (va_A (CW kA Z u) sz) := by
  refine Met.ofW (cc := cX9_decimal) (maxL := 6) (ret := (some .long)) (by decide) rfl ?_
  intro p e s m args below meth c s₁ Bd hml hv
  obtain ⟨rfl, hsz, hP, hK, hD0, hE⟩ := hv
  have hts := atoms_spec (ws := Cond.code yX9_decimal cX9_decimal 6 (some .long) :: GW) Bd.pre
  have hl := lv_entry ([.ref (Z 202), .int l1, .int l2]) (n := 6) (Nat.le_of_ble_eq_true rfl)
  rw [lg_entry_eq]
  generalize (lg_sl ([.ref (Z 202), .int l1, .int l2]) ++ List.replicate (6 - (lg_sl ([.ref (Z 202), .int l1, .int l2])).length) Slot.unset).toArray = ls at hl ⊢
  have hl : lv_has ls 6 [(0, .ref (Z 202)), (1, .int l1), (2, .int l2)] := hl
  subst hsz
  have X : CC p s m ([.ref (Z 202), .int l1, .int l2]).toArray c cX9_decimal 6 (Cond.code yX9_decimal cX9_decimal 6 (some .long)) RX9 D kA V (va_A (CW kA Z u) s.heap.size) := ⟨⟨Bd.exec, Bd.bytes, hml, findClass_of_methodNamed Bd.named, hts⟩, hK, hE, fun q h => Or.inr h⟩
  refine b_X9_decimal_0 X (cend_l X Bd.returns Bd.notSynchronized) (Nat.le_refl _) (Nat.le_refl _) h  ⟨hP, hD0.self, va_S.rf⟩ (lv_sub hl [0, 1, 2] rfl)
theorem kc_X9_decimal_RX9 {cc : ByteArray} {pc nL : Nat} {c0 : Cond} {rest : List Value} {l1 : Int32} {l2 : Int32} {u w1 : CSt} {r : Int64} (X : CC p s m args c cc nL c0 RX9 D kA V A)  (hS : CS D kA Z A s u H locs) (h : F_X9_decimal N l1 l2 u = some (r, w1)) (hF : 1 + 1 ≤ R.frames) (hL : 8 + (6 + 11) + 21 ≤ R.locals) (hl : ls.size = nL) (hc : (rest.map fun v => v.category).sum ≤ 8) (hdg : decode cc pc = .ok (.invokevirtual 128, 3)) (kk : ∀ H locs, CS D kA Z A s w1 H locs → W p l e R s m args below meth c H locs 0 0 Q (F0 m (pc + 3) ls (.long r :: rest))) : W p l e R s m args below meth c H locs 0 0 Q (F0 m pc ls (.int l2 :: .int l1 :: .ref (Z 202) :: rest)) :=
  ccall_l (n := 2) X hS (k_X9_decimal l D kA V Z N l1 l2  u H.size h) (gw_V gw_653 gw_655 gs_1_7 gw_2 gw_656) (by decide +kernel) (va_recv X.2.1 hS.1 (ci := 8) (q0 := 2) rfl (cw_lit rfl)) hF hL rfl hl hc rfl hdg kk
def B_X9_readNumber_211 (N : Nat) (l6 : Int32) (l8 : Int32) (s1 : Int32) (s2 : Int64) (u : CSt) : Option (Int32 × CSt) := bc (F_X9_put N s1 s2 l8 u) fun _ u_1 => some (l6, u_1)
set_option maxHeartbeats 4000000 in
theorem b_X9_readNumber_211 {r : Int32} (X : CC p s m args c cX9_readNumber 12 (Cond.code yX9_readNumber cX9_readNumber 12 (some .int)) RX9 D kA V A) (hE : CEi p l e R s m args below meth c cX9_readNumber D kA Z A Q r w) (hF : 2 ≤ R.frames) (hL : 46 ≤ R.locals) {l6 : Int32} {l8 : Int32} {s1 : Int32} {s2 : Int64} {u : CSt}  (h : B_X9_readNumber_211 N l6 l8 s1 s2 u = some (r, w))  (hS : CS D kA Z A s u H locs) (hl : lv_has ls 12 [(6, .int l6), (8, .int l8)]) : W p l e R s m args below meth c H locs 0 0 Q (F0 m 211 ls [.long s2, .int s1, .ref (Z 202)]) := by
  obtain ⟨⟨hx, hb, hml, hown, hts⟩, hK, hEV, hA⟩ := id X
  have hG : ∀ w ∈ GW, w.before args s = true := fun w h => hts w (List.mem_cons_of_mem _ h)
  unfold B_X9_readNumber_211 at h
  refine lv_iload hx hb dX9_readNumber_211 (lv_at hl 1 rfl) ?_
  obtain ⟨r_u_1, u_1, h_u_1, h⟩ := bc_of h
  refine kc_X9_put_RX9 X  hS h_u_1 (Nat.le_trans (Nat.le_of_ble_eq_true rfl) hF) (Nat.le_trans (Nat.le_of_ble_eq_true rfl) hL) hl.1 (Nat.le_of_ble_eq_true rfl) dX9_readNumber_213 (fun H locs hS => ?_)
  refine lv_iload hx hb dX9_readNumber_216 (lv_at hl 0 rfl) ?_
  obtain ⟨rfl, rfl⟩ := so9 h
  exact hE _ _ _ _ hS dX9_readNumber_218
def B_X9_readNumber_276 (N : Nat) (l6 : Int32) (s1 : Int32) (s2 : Int64) (s3 : Int32) (u : CSt) : Option (Int32 × CSt) := bc (F_X9_put N s1 s2 s3 u) fun _ u_2 => some (l6, u_2)
set_option maxHeartbeats 4000000 in
theorem b_X9_readNumber_276 {r : Int32} (X : CC p s m args c cX9_readNumber 12 (Cond.code yX9_readNumber cX9_readNumber 12 (some .int)) RX9 D kA V A) (hE : CEi p l e R s m args below meth c cX9_readNumber D kA Z A Q r w) (hF : 2 ≤ R.frames) (hL : 46 ≤ R.locals) {l6 : Int32} {s1 : Int32} {s2 : Int64} {s3 : Int32} {u : CSt}  (h : B_X9_readNumber_276 N l6 s1 s2 s3 u = some (r, w))  (hS : CS D kA Z A s u H locs) (hl : lv_has ls 12 [(6, .int l6)]) : W p l e R s m args below meth c H locs 0 0 Q (F0 m 276 ls [.int s3, .long s2, .int s1, .ref (Z 202)]) := by
  obtain ⟨⟨hx, hb, hml, hown, hts⟩, hK, hEV, hA⟩ := id X
  have hG : ∀ w ∈ GW, w.before args s = true := fun w h => hts w (List.mem_cons_of_mem _ h)
  unfold B_X9_readNumber_276 at h
  obtain ⟨r_u_2, u_2, h_u_2, h⟩ := bc_of h
  refine kc_X9_put_RX9 X  hS h_u_2 (Nat.le_trans (Nat.le_of_ble_eq_true rfl) hF) (Nat.le_trans (Nat.le_of_ble_eq_true rfl) hL) hl.1 (Nat.le_of_ble_eq_true rfl) dX9_readNumber_276 (fun H locs hS => ?_)
  refine lv_iload hx hb dX9_readNumber_279 (lv_at hl 0 rfl) ?_
  obtain ⟨rfl, rfl⟩ := so9 h
  exact hE _ _ _ _ hS dX9_readNumber_281
def B_X9_readNumber_254 (N : Nat) (l6 : Int32) (l8 : Int32) (l9 : Int64) (s0 : Int32) (u : CSt) : Option (Int32 × CSt) := if s0 = (0 : Int32) then (B_X9_readNumber_276 N l6 129 l9 l8 u) else (B_X9_readNumber_276 N l6 129 l9 (l8 ||| 2) u)
set_option maxHeartbeats 4000000 in
theorem b_X9_readNumber_254 {r : Int32} (X : CC p s m args c cX9_readNumber 12 (Cond.code yX9_readNumber cX9_readNumber 12 (some .int)) RX9 D kA V A) (hE : CEi p l e R s m args below meth c cX9_readNumber D kA Z A Q r w) (hF : 2 ≤ R.frames) (hL : 46 ≤ R.locals) {l6 : Int32} {l8 : Int32} {l9 : Int64} {s0 : Int32} {u : CSt}  (h : B_X9_readNumber_254 N l6 l8 l9 s0 u = some (r, w))  (hS : CS D kA Z A s u H locs) (hl : lv_has ls 12 [(0, .ref (Z 202)), (6, .int l6), (8, .int l8), (9, .long l9)]) : W p l e R s m args below meth c H locs 0 0 Q (F0 m 254 ls [.int s0]) := by
  obtain ⟨⟨hx, hb, hml, hown, hts⟩, hK, hEV, hA⟩ := id X
  have hG : ∀ w ∈ GW, w.before args s = true := fun w h => hts w (List.mem_cons_of_mem _ h)
  unfold B_X9_readNumber_254 at h
  refine lv_istore (lv' := [(11, .int s0), (0, .ref (Z 202)), (6, .int l6), (8, .int l8), (9, .long l9)]) hx hb dX9_readNumber_254 hl (by decide) rfl (fun ls hl => ?_)
  refine lv_aload_n hx hb dX9_readNumber_256 rfl (lv_at hl 1 rfl) ?_
  refine lv_sipush (v := 129) hx hb dX9_readNumber_257 (by decide) ?_
  refine lv_lload hx hb dX9_readNumber_260 (lv_at hl 4 rfl) ?_
  refine lv_iload hx hb dX9_readNumber_262 (lv_at hl 0 rfl) ?_
  refine lv_if_eq (tgt := 274) hx hb dX9_readNumber_264 (by decide) (fun c_3 => ?_) (fun c_3 => ?_)
  · have h := ip (c_3) h
    refine lv_iload hx hb dX9_readNumber_274 (lv_at hl 3 rfl) ?_
    exact b_X9_readNumber_276 X hE  hF hL  h  hS (lv_sub hl [2] rfl)
  · have h := im (c_3) h
    refine lv_iload hx hb dX9_readNumber_267 (lv_at hl 3 rfl) ?_
    refine lv_iconst (v := 2) hx hb dX9_readNumber_269 (by decide) ?_
    refine lv_ior hx hb dX9_readNumber_270 ?_
    refine lv_goto (tgt := 276) hx hb dX9_readNumber_271 (by decide) ?_
    exact b_X9_readNumber_276 X hE  hF hL  h  hS (lv_sub hl [2] rfl)
def B_X9_readNumber_249 (N : Nat) (l6 : Int32) (l8 : Int32) (l9 : Int64) (u : CSt) : Option (Int32 × CSt) := B_X9_readNumber_254 N l6 l8 l9 1 u
set_option maxHeartbeats 4000000 in
theorem b_X9_readNumber_249 {r : Int32} (X : CC p s m args c cX9_readNumber 12 (Cond.code yX9_readNumber cX9_readNumber 12 (some .int)) RX9 D kA V A) (hE : CEi p l e R s m args below meth c cX9_readNumber D kA Z A Q r w) (hF : 2 ≤ R.frames) (hL : 46 ≤ R.locals) {l6 : Int32} {l8 : Int32} {l9 : Int64} {u : CSt}  (h : B_X9_readNumber_249 N l6 l8 l9 u = some (r, w))  (hS : CS D kA Z A s u H locs) (hl : lv_has ls 12 [(0, .ref (Z 202)), (6, .int l6), (8, .int l8), (9, .long l9)]) : W p l e R s m args below meth c H locs 0 0 Q (F0 m 249 ls []) := by
  obtain ⟨⟨hx, hb, hml, hown, hts⟩, hK, hEV, hA⟩ := id X
  have hG : ∀ w ∈ GW, w.before args s = true := fun w h => hts w (List.mem_cons_of_mem _ h)
  unfold B_X9_readNumber_249 at h
  refine lv_iconst (v := 1) hx hb dX9_readNumber_249 (by decide) ?_
  refine lv_goto (tgt := 254) hx hb dX9_readNumber_250 (by decide) ?_
  exact b_X9_readNumber_254 X hE  hF hL  h  hS (lv_sub hl [0, 1, 2, 3] rfl)
def B_X9_readNumber_253 (N : Nat) (l6 : Int32) (l8 : Int32) (l9 : Int64) (u : CSt) : Option (Int32 × CSt) := B_X9_readNumber_254 N l6 l8 l9 0 u
set_option maxHeartbeats 4000000 in
theorem b_X9_readNumber_253 {r : Int32} (X : CC p s m args c cX9_readNumber 12 (Cond.code yX9_readNumber cX9_readNumber 12 (some .int)) RX9 D kA V A) (hE : CEi p l e R s m args below meth c cX9_readNumber D kA Z A Q r w) (hF : 2 ≤ R.frames) (hL : 46 ≤ R.locals) {l6 : Int32} {l8 : Int32} {l9 : Int64} {u : CSt}  (h : B_X9_readNumber_253 N l6 l8 l9 u = some (r, w))  (hS : CS D kA Z A s u H locs) (hl : lv_has ls 12 [(0, .ref (Z 202)), (6, .int l6), (8, .int l8), (9, .long l9)]) : W p l e R s m args below meth c H locs 0 0 Q (F0 m 253 ls []) := by
  obtain ⟨⟨hx, hb, hml, hown, hts⟩, hK, hEV, hA⟩ := id X
  have hG : ∀ w ∈ GW, w.before args s = true := fun w h => hts w (List.mem_cons_of_mem _ h)
  unfold B_X9_readNumber_253 at h
  refine lv_iconst (v := 0) hx hb dX9_readNumber_253 (by decide) ?_
  exact b_X9_readNumber_254 X hE  hF hL  h  hS (lv_sub hl [0, 1, 2, 3] rfl)
def B_X9_readNumber_178 (N : Nat) (l2 : Int32) (l3 : Int32) (l4 : Int32) (l5 : Int32) (l6 : Int32) (s0 : Int32) (u : CSt) : Option (Int32 × CSt) := if l2 = (0 : Int32) then (bc (F_X9_decimal N l3 l4 u) fun r_6 u_5 => if r_6 < (0 : Int64) then (B_X9_readNumber_249 N l6 s0 r_6 u_5) else (if l5 = (0 : Int32) then (if r_6 ≤ (2147483647 : Int64) then (B_X9_readNumber_253 N l6 s0 r_6 u_5) else (B_X9_readNumber_249 N l6 s0 r_6 u_5)) else (B_X9_readNumber_253 N l6 s0 r_6 u_5))) else (bc (F_X9_hexBits N l3 l4 u) fun r_11 u_10 => if l5 = (0 : Int32) then (B_X9_readNumber_211 N l6 s0 129 r_11.toInt32.toInt64 u_10) else (B_X9_readNumber_211 N l6 s0 129 r_11 u_10))
set_option maxHeartbeats 4000000 in
theorem b_X9_readNumber_178 {r : Int32} (X : CC p s m args c cX9_readNumber 12 (Cond.code yX9_readNumber cX9_readNumber 12 (some .int)) RX9 D kA V A) (hE : CEi p l e R s m args below meth c cX9_readNumber D kA Z A Q r w) (hF : 2 ≤ R.frames) (hL : 46 ≤ R.locals) {l2 : Int32} {l3 : Int32} {l4 : Int32} {l5 : Int32} {l6 : Int32} {s0 : Int32} {u : CSt}  (h : B_X9_readNumber_178 N l2 l3 l4 l5 l6 s0 u = some (r, w))  (hS : CS D kA Z A s u H locs) (hl : lv_has ls 12 [(0, .ref (Z 202)), (2, .int l2), (3, .int l3), (4, .int l4), (5, .int l5), (6, .int l6)]) : W p l e R s m args below meth c H locs 0 0 Q (F0 m 178 ls [.int s0]) := by
  obtain ⟨⟨hx, hb, hml, hown, hts⟩, hK, hEV, hA⟩ := id X
  have hG : ∀ w ∈ GW, w.before args s = true := fun w h => hts w (List.mem_cons_of_mem _ h)
  unfold B_X9_readNumber_178 at h
  refine lv_istore (lv' := [(8, .int s0), (0, .ref (Z 202)), (2, .int l2), (3, .int l3), (4, .int l4), (5, .int l5), (6, .int l6)]) hx hb dX9_readNumber_178 hl (by decide) rfl (fun ls hl => ?_)
  refine lv_iload_n hx hb dX9_readNumber_180 rfl (lv_at hl 2 rfl) ?_
  refine lv_if_eq (tgt := 219) hx hb dX9_readNumber_181 (by decide) (fun c_4 => ?_) (fun c_4 => ?_)
  · have h := ip (c_4) h
    refine lv_aload_n hx hb dX9_readNumber_219 rfl (lv_at hl 1 rfl) ?_
    refine lv_iload_n hx hb dX9_readNumber_220 rfl (lv_at hl 3 rfl) ?_
    refine lv_iload hx hb dX9_readNumber_221 (lv_at hl 4 rfl) ?_
    obtain ⟨r_6, u_5, h_u_5, h⟩ := bc_of h
    refine kc_X9_decimal_RX9 X  hS h_u_5 (Nat.le_trans (Nat.le_of_ble_eq_true rfl) hF) (Nat.le_trans (Nat.le_of_ble_eq_true rfl) hL) hl.1 (Nat.le_of_ble_eq_true rfl) dX9_readNumber_223 (fun H locs hS => ?_)
    refine lv_lstore (lv' := [(9, .long r_6), (8, .int s0), (0, .ref (Z 202)), (2, .int l2), (3, .int l3), (4, .int l4), (5, .int l5), (6, .int l6)]) hx hb dX9_readNumber_226 hl (by decide) rfl (fun ls hl => ?_)
    refine lv_lload hx hb dX9_readNumber_228 (lv_at hl 0 rfl) ?_
    refine lv_lconst (v := 0) hx hb dX9_readNumber_230 (by decide) ?_
    refine W.lcmp hx hb dX9_readNumber_231 ?_
    refine lv_if_lt (tgt := 249) hx hb dX9_readNumber_232 (by decide) (fun c_7 => ?_) (fun c_7 => ?_)
    · have h := ip ((lg_cmp_lt _ _).mp c_7) h
      exact b_X9_readNumber_249 X hE  hF hL  h  hS (lv_sub hl [2, 7, 1, 0] rfl)
    · have h := im (mt (lg_cmp_lt _ _).mpr c_7) h
      refine lv_iload hx hb dX9_readNumber_235 (lv_at hl 6 rfl) ?_
      refine lv_if_ne (tgt := 253) hx hb dX9_readNumber_237 (by decide) (fun c_8 => ?_) (fun c_8 => ?_)
      · have h := im (c_8) h
        exact b_X9_readNumber_253 X hE  hF hL  h  hS (lv_sub hl [2, 7, 1, 0] rfl)
      · have h := ip (c_8) h
        refine lv_lload hx hb dX9_readNumber_240 (lv_at hl 0 rfl) ?_
        refine lv_ldc2 (v := 2147483647) hx hb hown (hG _ gw_658) dX9_readNumber_242 ?_
        refine W.lcmp hx hb dX9_readNumber_245 ?_
        refine lv_if_le (tgt := 253) hx hb dX9_readNumber_246 (by decide) (fun c_9 => ?_) (fun c_9 => ?_)
        · have h := ip ((lg_cmp_le _ _).mp c_9) h
          exact b_X9_readNumber_253 X hE  hF hL  h  hS (lv_sub hl [2, 7, 1, 0] rfl)
        · have h := im (mt (lg_cmp_le _ _).mpr c_9) h
          exact b_X9_readNumber_249 X hE  hF hL  h  hS (lv_sub hl [2, 7, 1, 0] rfl)
  · have h := im (c_4) h
    refine lv_aload_n hx hb dX9_readNumber_184 rfl (lv_at hl 1 rfl) ?_
    refine lv_iload_n hx hb dX9_readNumber_185 rfl (lv_at hl 3 rfl) ?_
    refine lv_iload hx hb dX9_readNumber_186 (lv_at hl 4 rfl) ?_
    obtain ⟨r_11, u_10, h_u_10, h⟩ := bc_of h
    refine kc_X9_hexBits_RX9 X  hS h_u_10 (Nat.le_trans (Nat.le_of_ble_eq_true rfl) hF) (Nat.le_trans (Nat.le_of_ble_eq_true rfl) hL) hl.1 (Nat.le_of_ble_eq_true rfl) dX9_readNumber_188 (fun H locs hS => ?_)
    refine lv_lstore (lv' := [(9, .long r_11), (8, .int s0), (0, .ref (Z 202)), (2, .int l2), (3, .int l3), (4, .int l4), (5, .int l5), (6, .int l6)]) hx hb dX9_readNumber_191 hl (by decide) rfl (fun ls hl => ?_)
    refine lv_aload_n hx hb dX9_readNumber_193 rfl (lv_at hl 2 rfl) ?_
    refine lv_sipush (v := 129) hx hb dX9_readNumber_194 (by decide) ?_
    refine lv_iload hx hb dX9_readNumber_197 (lv_at hl 6 rfl) ?_
    refine lv_if_eq (tgt := 207) hx hb dX9_readNumber_199 (by decide) (fun c_12 => ?_) (fun c_12 => ?_)
    · have h := ip (c_12) h
      refine lv_lload hx hb dX9_readNumber_207 (lv_at hl 0 rfl) ?_
      refine lv_l2i (v := r_11.toInt32) hx hb dX9_readNumber_209 rfl ?_
      refine lv_i2l (v := r_11.toInt32.toInt64) hx hb dX9_readNumber_210 rfl ?_
      exact b_X9_readNumber_211 X hE  hF hL  h  hS (lv_sub hl [7, 1] rfl)
    · have h := im (c_12) h
      refine lv_lload hx hb dX9_readNumber_202 (lv_at hl 0 rfl) ?_
      refine lv_goto (tgt := 211) hx hb dX9_readNumber_204 (by decide) ?_
      exact b_X9_readNumber_211 X hE  hF hL  h  hS (lv_sub hl [7, 1] rfl)
def B_X9_readNumber_137 (N : Nat) (l2 : Int32) (l3 : Int32) (l4 : Int32) (l5 : Int32) (l6 : Int32) (s0 : Int32) (u : CSt) : Option (Int32 × CSt) := if l4 = l3 then (some ((-1), u)) else (if s0 < (l4 - l3) then (some ((-1), u)) else (bc (F_X9_byteAt N l6 u) fun r_16 u_15 => pb (F_X9_isWordByte N r_16) fun r_17 => if r_17 = (0 : Int32) then (if l5 = (0 : Int32) then (B_X9_readNumber_178 N l2 l3 l4 l5 l6 0 u_15) else (B_X9_readNumber_178 N l2 l3 l4 l5 l6 1 u_15)) else (some ((-1), u_15))))
set_option maxHeartbeats 4000000 in
theorem b_X9_readNumber_137 {r : Int32} (X : CC p s m args c cX9_readNumber 12 (Cond.code yX9_readNumber cX9_readNumber 12 (some .int)) RX9 D kA V A) (hE : CEi p l e R s m args below meth c cX9_readNumber D kA Z A Q r w) (hF : 2 ≤ R.frames) (hL : 46 ≤ R.locals) {l2 : Int32} {l3 : Int32} {l4 : Int32} {l5 : Int32} {l6 : Int32} {s0 : Int32} {u : CSt}  (h : B_X9_readNumber_137 N l2 l3 l4 l5 l6 s0 u = some (r, w))  (hS : CS D kA Z A s u H locs) (hl : lv_has ls 12 [(0, .ref (Z 202)), (2, .int l2), (3, .int l3), (4, .int l4), (5, .int l5), (6, .int l6)]) : W p l e R s m args below meth c H locs 0 0 Q (F0 m 137 ls [.int s0]) := by
  obtain ⟨⟨hx, hb, hml, hown, hts⟩, hK, hEV, hA⟩ := id X
  have hG : ∀ w ∈ GW, w.before args s = true := fun w h => hts w (List.mem_cons_of_mem _ h)
  unfold B_X9_readNumber_137 at h
  refine lv_istore (lv' := [(7, .int s0), (0, .ref (Z 202)), (2, .int l2), (3, .int l3), (4, .int l4), (5, .int l5), (6, .int l6)]) hx hb dX9_readNumber_137 hl (by decide) rfl (fun ls hl => ?_)
  refine lv_iload hx hb dX9_readNumber_139 (lv_at hl 4 rfl) ?_
  refine lv_iload_n hx hb dX9_readNumber_141 rfl (lv_at hl 3 rfl) ?_
  refine lv_icmp_eq (tgt := 166) hx hb dX9_readNumber_142 (by decide) (fun c_13 => ?_) (fun c_13 => ?_)
  · have h := ip (c_13) h
    refine lv_iconst (v := (-1)) hx hb dX9_readNumber_166 (by decide) ?_
    obtain ⟨rfl, rfl⟩ := so9 h
    exact hE _ _ _ _ hS dX9_readNumber_167
  · have h := im (c_13) h
    refine lv_iload hx hb dX9_readNumber_145 (lv_at hl 4 rfl) ?_
    refine lv_iload_n hx hb dX9_readNumber_147 rfl (lv_at hl 3 rfl) ?_
    refine lv_isub hx hb dX9_readNumber_148 ?_
    refine lv_iload hx hb dX9_readNumber_149 (lv_at hl 0 rfl) ?_
    refine lv_icmp_gt (tgt := 166) hx hb dX9_readNumber_151 (by decide) (fun c_14 => ?_) (fun c_14 => ?_)
    · have h := ip (c_14) h
      refine lv_iconst (v := (-1)) hx hb dX9_readNumber_166 (by decide) ?_
      obtain ⟨rfl, rfl⟩ := so9 h
      exact hE _ _ _ _ hS dX9_readNumber_167
    · have h := im (c_14) h
      refine lv_aload_n hx hb dX9_readNumber_154 rfl (lv_at hl 1 rfl) ?_
      refine lv_iload hx hb dX9_readNumber_155 (lv_at hl 6 rfl) ?_
      obtain ⟨r_16, u_15, h_u_15, h⟩ := bc_of h
      refine kc_X9_byteAt_RX9 X  hS h_u_15 (Nat.le_trans (Nat.le_of_ble_eq_true rfl) hF) (Nat.le_trans (Nat.le_of_ble_eq_true rfl) hL) hl.1 (Nat.le_of_ble_eq_true rfl) dX9_readNumber_157 (fun H locs hS => ?_)
      obtain ⟨r_17, e_r_17, h⟩ := pb_of h
      refine vp_callSi (W.runS (As := [.int r_16]) (rest := []) X.1 (k_X9_isWordByte l N r_16 e_r_17) (va_cwS 1 hts (gw_S gw_642 gw_643 gw_2 gw_644) rfl rfl rfl (by decide +kernel) ⟨Nat.le_trans (Nat.le_of_ble_eq_true rfl) hF, Nat.le_trans (Nat.le_of_ble_eq_true rfl) hL⟩) ⟨fun _ _ _ _ q => q, fun _ _ _ => ⟨rfl, trivial⟩⟩ rfl rfl hl.1 rfl (lv_room (Nat.le_of_ble_eq_true rfl)) dX9_readNumber_160 ⟨Nat.zero_le _, Nat.zero_le _⟩) (fun r_18 q_19 => ?_)
      rw [q_19]
      refine lv_if_eq (tgt := 168) hx hb dX9_readNumber_163 (by decide) (fun c_20 => ?_) (fun c_20 => ?_)
      · have h := ip (c_20) h
        refine lv_iload hx hb dX9_readNumber_168 (lv_at hl 5 rfl) ?_
        refine lv_if_eq (tgt := 177) hx hb dX9_readNumber_170 (by decide) (fun c_21 => ?_) (fun c_21 => ?_)
        · have h := ip (c_21) h
          refine lv_iconst (v := 0) hx hb dX9_readNumber_177 (by decide) ?_
          exact b_X9_readNumber_178 X hE  hF hL  h  hS (lv_sub hl [1, 2, 3, 4, 5, 6] rfl)
        · have h := im (c_21) h
          refine lv_iconst (v := 1) hx hb dX9_readNumber_173 (by decide) ?_
          refine lv_goto (tgt := 178) hx hb dX9_readNumber_174 (by decide) ?_
          exact b_X9_readNumber_178 X hE  hF hL  h  hS (lv_sub hl [1, 2, 3, 4, 5, 6] rfl)
      · have h := im (c_20) h
        refine lv_iconst (v := (-1)) hx hb dX9_readNumber_166 (by decide) ?_
        obtain ⟨rfl, rfl⟩ := so9 h
        exact hE _ _ _ _ hS dX9_readNumber_167
def B_X9_readNumber_104 (N : Nat) (l2 : Int32) (l3 : Int32) (l4 : Int32) (l5 : Int32) (s0 : Int32) (u : CSt) : Option (Int32 × CSt) := if l2 = (0 : Int32) then (if l5 = (0 : Int32) then (B_X9_readNumber_137 N l2 l3 l4 l5 s0 10 u) else (B_X9_readNumber_137 N l2 l3 l4 l5 s0 19 u)) else (if l5 = (0 : Int32) then (B_X9_readNumber_137 N l2 l3 l4 l5 s0 8 u) else (B_X9_readNumber_137 N l2 l3 l4 l5 s0 16 u))
set_option maxHeartbeats 4000000 in
theorem b_X9_readNumber_104 {r : Int32} (X : CC p s m args c cX9_readNumber 12 (Cond.code yX9_readNumber cX9_readNumber 12 (some .int)) RX9 D kA V A) (hE : CEi p l e R s m args below meth c cX9_readNumber D kA Z A Q r w) (hF : 2 ≤ R.frames) (hL : 46 ≤ R.locals) {l2 : Int32} {l3 : Int32} {l4 : Int32} {l5 : Int32} {s0 : Int32} {u : CSt}  (h : B_X9_readNumber_104 N l2 l3 l4 l5 s0 u = some (r, w))  (hS : CS D kA Z A s u H locs) (hl : lv_has ls 12 [(0, .ref (Z 202)), (2, .int l2), (3, .int l3), (4, .int l4), (5, .int l5)]) : W p l e R s m args below meth c H locs 0 0 Q (F0 m 104 ls [.int s0]) := by
  obtain ⟨⟨hx, hb, hml, hown, hts⟩, hK, hEV, hA⟩ := id X
  have hG : ∀ w ∈ GW, w.before args s = true := fun w h => hts w (List.mem_cons_of_mem _ h)
  unfold B_X9_readNumber_104 at h
  refine lv_istore (lv' := [(6, .int s0), (0, .ref (Z 202)), (2, .int l2), (3, .int l3), (4, .int l4), (5, .int l5)]) hx hb dX9_readNumber_104 hl (by decide) rfl (fun ls hl => ?_)
  refine lv_iload_n hx hb dX9_readNumber_106 rfl (lv_at hl 2 rfl) ?_
  refine lv_if_eq (tgt := 125) hx hb dX9_readNumber_107 (by decide) (fun c_22 => ?_) (fun c_22 => ?_)
  · have h := ip (c_22) h
    refine lv_iload hx hb dX9_readNumber_125 (lv_at hl 5 rfl) ?_
    refine lv_if_eq (tgt := 135) hx hb dX9_readNumber_127 (by decide) (fun c_23 => ?_) (fun c_23 => ?_)
    · have h := ip (c_23) h
      refine lv_bipush (v := 10) hx hb dX9_readNumber_135 (by decide) ?_
      exact b_X9_readNumber_137 X hE  hF hL  h  hS (lv_sub hl [1, 2, 3, 4, 5, 0] rfl)
    · have h := im (c_23) h
      refine lv_bipush (v := 19) hx hb dX9_readNumber_130 (by decide) ?_
      refine lv_goto (tgt := 137) hx hb dX9_readNumber_132 (by decide) ?_
      exact b_X9_readNumber_137 X hE  hF hL  h  hS (lv_sub hl [1, 2, 3, 4, 5, 0] rfl)
  · have h := im (c_22) h
    refine lv_iload hx hb dX9_readNumber_110 (lv_at hl 5 rfl) ?_
    refine lv_if_eq (tgt := 120) hx hb dX9_readNumber_112 (by decide) (fun c_24 => ?_) (fun c_24 => ?_)
    · have h := ip (c_24) h
      refine lv_bipush (v := 8) hx hb dX9_readNumber_120 (by decide) ?_
      refine lv_goto (tgt := 137) hx hb dX9_readNumber_122 (by decide) ?_
      exact b_X9_readNumber_137 X hE  hF hL  h  hS (lv_sub hl [1, 2, 3, 4, 5, 0] rfl)
    · have h := im (c_24) h
      refine lv_bipush (v := 16) hx hb dX9_readNumber_115 (by decide) ?_
      refine lv_goto (tgt := 137) hx hb dX9_readNumber_117 (by decide) ?_
      exact b_X9_readNumber_137 X hE  hF hL  h  hS (lv_sub hl [1, 2, 3, 4, 5, 0] rfl)
def B_X9_readNumber_88 (N : Nat) (l2 : Int32) (l3 : Int32) (l4 : Int32) (s0 : Int32) (u : CSt) : Option (Int32 × CSt) := if s0 = (0 : Int32) then (B_X9_readNumber_104 N l2 l3 l4 s0 l4 u) else (B_X9_readNumber_104 N l2 l3 l4 s0 (l4 + 1) u)
set_option maxHeartbeats 4000000 in
theorem b_X9_readNumber_88 {r : Int32} (X : CC p s m args c cX9_readNumber 12 (Cond.code yX9_readNumber cX9_readNumber 12 (some .int)) RX9 D kA V A) (hE : CEi p l e R s m args below meth c cX9_readNumber D kA Z A Q r w) (hF : 2 ≤ R.frames) (hL : 46 ≤ R.locals) {l2 : Int32} {l3 : Int32} {l4 : Int32} {s0 : Int32} {u : CSt}  (h : B_X9_readNumber_88 N l2 l3 l4 s0 u = some (r, w))  (hS : CS D kA Z A s u H locs) (hl : lv_has ls 12 [(0, .ref (Z 202)), (2, .int l2), (3, .int l3), (4, .int l4)]) : W p l e R s m args below meth c H locs 0 0 Q (F0 m 88 ls [.int s0]) := by
  obtain ⟨⟨hx, hb, hml, hown, hts⟩, hK, hEV, hA⟩ := id X
  have hG : ∀ w ∈ GW, w.before args s = true := fun w h => hts w (List.mem_cons_of_mem _ h)
  unfold B_X9_readNumber_88 at h
  refine lv_istore (lv' := [(5, .int s0), (0, .ref (Z 202)), (2, .int l2), (3, .int l3), (4, .int l4)]) hx hb dX9_readNumber_88 hl (by decide) rfl (fun ls hl => ?_)
  refine lv_iload hx hb dX9_readNumber_90 (lv_at hl 0 rfl) ?_
  refine lv_if_eq (tgt := 102) hx hb dX9_readNumber_92 (by decide) (fun c_25 => ?_) (fun c_25 => ?_)
  · have h := ip (c_25) h
    refine lv_iload hx hb dX9_readNumber_102 (lv_at hl 4 rfl) ?_
    exact b_X9_readNumber_104 X hE  hF hL  h  hS (lv_sub hl [1, 2, 3, 4, 0] rfl)
  · have h := im (c_25) h
    refine lv_iload hx hb dX9_readNumber_95 (lv_at hl 4 rfl) ?_
    refine lv_iconst (v := 1) hx hb dX9_readNumber_97 (by decide) ?_
    refine lv_iadd hx hb dX9_readNumber_98 ?_
    refine lv_goto (tgt := 104) hx hb dX9_readNumber_99 (by decide) ?_
    exact b_X9_readNumber_104 X hE  hF hL  h  hS (lv_sub hl [1, 2, 3, 4, 0] rfl)
def B_X9_readNumber_72 (N : Nat) (l2 : Int32) (l3 : Int32) (l4 : Int32) (u : CSt) : Option (Int32 × CSt) := bc (F_X9_byteAt N l4 u) fun r_27 u_26 => if r_27 = (76 : Int32) then (B_X9_readNumber_88 N l2 l3 l4 1 u_26) else (B_X9_readNumber_88 N l2 l3 l4 0 u_26)
set_option maxHeartbeats 4000000 in
theorem b_X9_readNumber_72 {r : Int32} (X : CC p s m args c cX9_readNumber 12 (Cond.code yX9_readNumber cX9_readNumber 12 (some .int)) RX9 D kA V A) (hE : CEi p l e R s m args below meth c cX9_readNumber D kA Z A Q r w) (hF : 2 ≤ R.frames) (hL : 46 ≤ R.locals) {l2 : Int32} {l3 : Int32} {l4 : Int32} {u : CSt}  (h : B_X9_readNumber_72 N l2 l3 l4 u = some (r, w))  (hS : CS D kA Z A s u H locs) (hl : lv_has ls 12 [(0, .ref (Z 202)), (2, .int l2), (3, .int l3), (4, .int l4)]) : W p l e R s m args below meth c H locs 0 0 Q (F0 m 72 ls []) := by
  obtain ⟨⟨hx, hb, hml, hown, hts⟩, hK, hEV, hA⟩ := id X
  have hG : ∀ w ∈ GW, w.before args s = true := fun w h => hts w (List.mem_cons_of_mem _ h)
  unfold B_X9_readNumber_72 at h
  refine lv_aload_n hx hb dX9_readNumber_72 rfl (lv_at hl 0 rfl) ?_
  refine lv_iload hx hb dX9_readNumber_73 (lv_at hl 3 rfl) ?_
  obtain ⟨r_27, u_26, h_u_26, h⟩ := bc_of h
  refine kc_X9_byteAt_RX9 X  hS h_u_26 (Nat.le_trans (Nat.le_of_ble_eq_true rfl) hF) (Nat.le_trans (Nat.le_of_ble_eq_true rfl) hL) hl.1 (Nat.le_of_ble_eq_true rfl) dX9_readNumber_75 (fun H locs hS => ?_)
  refine lv_bipush (v := 76) hx hb dX9_readNumber_78 (by decide) ?_
  refine lv_icmp_ne (tgt := 87) hx hb dX9_readNumber_80 (by decide) (fun c_28 => ?_) (fun c_28 => ?_)
  · have h := im (c_28) h
    refine lv_iconst (v := 0) hx hb dX9_readNumber_87 (by decide) ?_
    exact b_X9_readNumber_88 X hE  hF hL  h  hS (lv_sub hl [0, 1, 2, 3] rfl)
  · have h := ip (c_28) h
    refine lv_iconst (v := 1) hx hb dX9_readNumber_83 (by decide) ?_
    refine lv_goto (tgt := 88) hx hb dX9_readNumber_84 (by decide) ?_
    exact b_X9_readNumber_88 X hE  hF hL  h  hS (lv_sub hl [0, 1, 2, 3] rfl)
def B_X9_readNumber_43 (N : Nat) (R_43 : Int32 × Int32 × Int32 × CSt → Option (Int32 × CSt)) (l2 : Int32) (l3 : Int32) (l4 : Int32) (u : CSt) : Option (Int32 × CSt) := if (cI u 3) ≤ l4 then (B_X9_readNumber_72 N l2 l3 l4 u) else (bc (F_X9_byteAt N l4 u) fun r_31 u_30 => pb (F_X9_digit N r_31 l2) fun r_32 => if r_32 = ((-1) : Int32) then (B_X9_readNumber_72 N l2 l3 l4 u_30) else (R_43 (l2, l3, (l4 + 1), u_30)))
set_option maxHeartbeats 4000000 in
theorem b_X9_readNumber_43 {r : Int32} (X : CC p s m args c cX9_readNumber 12 (Cond.code yX9_readNumber cX9_readNumber 12 (some .int)) RX9 D kA V A) (hE : CEi p l e R s m args below meth c cX9_readNumber D kA Z A Q r w) (hF : 2 ≤ R.frames) (hL : 46 ≤ R.locals) {R_43 : Int32 × Int32 × Int32 × CSt → Option (Int32 × CSt)} {l2 : Int32} {l3 : Int32} {l4 : Int32} {u : CSt} (hR_43 : ∀ (l2 : Int32) (l3 : Int32) (l4 : Int32) (u : CSt), R_43 (l2, l3, l4, u) = some (r, w) → ∀ (H : Heap) (locs : List Loc) (ls : Array Slot), CS D kA Z A s u H locs → lv_has ls 12 [(0, .ref (Z 202)), (2, .int l2), (3, .int l3), (4, .int l4)] → W p l e R s m args below meth c H locs 0 0 Q (F0 m 43 ls [])) (h : B_X9_readNumber_43 N R_43 l2 l3 l4 u = some (r, w))  (hS : CS D kA Z A s u H locs) (hl : lv_has ls 12 [(0, .ref (Z 202)), (2, .int l2), (3, .int l3), (4, .int l4)]) : W p l e R s m args below meth c H locs 0 0 Q (F0 m 43 ls []) := by
  obtain ⟨⟨hx, hb, hml, hown, hts⟩, hK, hEV, hA⟩ := id X
  have hG : ∀ w ∈ GW, w.before args s = true := fun w h => hts w (List.mem_cons_of_mem _ h)
  unfold B_X9_readNumber_43 at h
  refine lv_iload hx hb dX9_readNumber_43 (lv_at hl 3 rfl) ?_
  refine lv_aload_n hx hb dX9_readNumber_45 rfl (lv_at hl 0 rfl) ?_
  refine cg_X9_48 X hS dX9_readNumber_46 ?_
  refine lv_icmp_ge (tgt := 72) hx hb dX9_readNumber_49 (by decide) (fun c_29 => ?_) (fun c_29 => ?_)
  · have h := ip (c_29) h
    exact b_X9_readNumber_72 X hE  hF hL  h  hS (lv_sub hl [0, 1, 2, 3] rfl)
  · have h := im (c_29) h
    refine lv_aload_n hx hb dX9_readNumber_52 rfl (lv_at hl 0 rfl) ?_
    refine lv_iload hx hb dX9_readNumber_53 (lv_at hl 3 rfl) ?_
    obtain ⟨r_31, u_30, h_u_30, h⟩ := bc_of h
    refine kc_X9_byteAt_RX9 X  hS h_u_30 (Nat.le_trans (Nat.le_of_ble_eq_true rfl) hF) (Nat.le_trans (Nat.le_of_ble_eq_true rfl) hL) hl.1 (Nat.le_of_ble_eq_true rfl) dX9_readNumber_55 (fun H locs hS => ?_)
    refine lv_iload_n hx hb dX9_readNumber_58 rfl (lv_at hl 1 rfl) ?_
    obtain ⟨r_32, e_r_32, h⟩ := pb_of h
    refine vp_callSi (W.runS (As := [.int r_31, .int l2]) (rest := []) X.1 (k_X9_digit l N r_31 l2 e_r_32) (va_cwS 2 hts (gw_S gw_639 gw_640 gw_2 gw_641) rfl rfl rfl (by decide +kernel) ⟨Nat.le_trans (Nat.le_of_ble_eq_true rfl) hF, Nat.le_trans (Nat.le_of_ble_eq_true rfl) hL⟩) ⟨fun _ _ _ _ q => q, fun _ _ _ => ⟨rfl, trivial⟩⟩ rfl rfl hl.1 rfl (lv_room (Nat.le_of_ble_eq_true rfl)) dX9_readNumber_59 ⟨Nat.zero_le _, Nat.zero_le _⟩) (fun r_33 q_34 => ?_)
    rw [q_34]
    refine lv_iconst (v := (-1)) hx hb dX9_readNumber_62 (by decide) ?_
    refine lv_icmp_eq (tgt := 72) hx hb dX9_readNumber_63 (by decide) (fun c_35 => ?_) (fun c_35 => ?_)
    · have h := ip (c_35) h
      exact b_X9_readNumber_72 X hE  hF hL  h  hS (lv_sub hl [0, 1, 2, 3] rfl)
    · have h := im (c_35) h
      refine lv_iinc (v := l4 + 1) (lv' := [(4, .int (l4 + 1)), (0, .ref (Z 202)), (2, .int l2), (3, .int l3)]) hx hb dX9_readNumber_66 hl (k := 3) rfl rfl (by decide) rfl (fun ls hl => ?_)
      refine lv_goto (tgt := 43) hx hb dX9_readNumber_69 (by decide) ?_
      exact hR_43 _ _ _ _  h _ _ _ hS (lv_sub hl [1, 2, 3, 0] rfl)
def LP_X9_readNumber_43 (N : Nat) : Nat → Int32 × Int32 × Int32 × CSt → Option (Int32 × CSt) := lp (fun R a => B_X9_readNumber_43 N R a.1 a.2.1 a.2.2.1 a.2.2.2)
theorem bl_X9_readNumber_43 {r : Int32} (X : CC p s m args c cX9_readNumber 12 (Cond.code yX9_readNumber cX9_readNumber 12 (some .int)) RX9 D kA V A) (hE : CEi p l e R s m args below meth c cX9_readNumber D kA Z A Q r w) (hF : 2 ≤ R.frames) (hL : 46 ≤ R.locals)  : ∀ (n : Nat) (l2 : Int32) (l3 : Int32) (l4 : Int32) (u : CSt), LP_X9_readNumber_43 N n (l2, l3, l4, u) = some (r, w) → ∀ (H : Heap) (locs : List Loc) (ls : Array Slot), CS D kA Z A s u H locs → lv_has ls 12 [(0, .ref (Z 202)), (2, .int l2), (3, .int l3), (4, .int l4)] → W p l e R s m args below meth c H locs 0 0 Q (F0 m 43 ls []) := by
  intro n
  induction n with
  | zero => intro l2 l3 l4 u h; exact nomatch h
  | succ n ih => intro l2 l3 l4 u h H locs ls hS hl; exact b_X9_readNumber_43 (N := N) (R_43 := LP_X9_readNumber_43 N n) X hE  hF hL  ih h  hS hl
def B_X9_readNumber_39 (N : Nat) (l2 : Int32) (s0 : Int32) (u : CSt) : Option (Int32 × CSt) := LP_X9_readNumber_43 N N (l2, s0, s0, u)
set_option maxHeartbeats 4000000 in
theorem b_X9_readNumber_39 {r : Int32} (X : CC p s m args c cX9_readNumber 12 (Cond.code yX9_readNumber cX9_readNumber 12 (some .int)) RX9 D kA V A) (hE : CEi p l e R s m args below meth c cX9_readNumber D kA Z A Q r w) (hF : 2 ≤ R.frames) (hL : 46 ≤ R.locals) {l2 : Int32} {s0 : Int32} {u : CSt}  (h : B_X9_readNumber_39 N l2 s0 u = some (r, w))  (hS : CS D kA Z A s u H locs) (hl : lv_has ls 12 [(0, .ref (Z 202)), (2, .int l2)]) : W p l e R s m args below meth c H locs 0 0 Q (F0 m 39 ls [.int s0]) := by
  obtain ⟨⟨hx, hb, hml, hown, hts⟩, hK, hEV, hA⟩ := id X
  have hG : ∀ w ∈ GW, w.before args s = true := fun w h => hts w (List.mem_cons_of_mem _ h)
  unfold B_X9_readNumber_39 at h
  refine lv_istore_n (lv' := [(3, .int s0), (0, .ref (Z 202)), (2, .int l2)]) hx hb dX9_readNumber_39 rfl hl (by decide) rfl (fun ls hl => ?_)
  refine lv_iload_n hx hb dX9_readNumber_40 rfl (lv_at hl 0 rfl) ?_
  refine lv_istore (lv' := [(4, .int s0), (3, .int s0), (0, .ref (Z 202)), (2, .int l2)]) hx hb dX9_readNumber_41 hl (by decide) rfl (fun ls hl => ?_)
  exact bl_X9_readNumber_43 X hE  hF hL  _ _ _ _ _  h _ _ _ hS (lv_sub hl [2, 3, 1, 0] rfl)
def B_X9_readNumber_27 (N : Nat) (l1 : Int32) (s0 : Int32) (u : CSt) : Option (Int32 × CSt) := if s0 = (0 : Int32) then (B_X9_readNumber_39 N s0 l1 u) else (B_X9_readNumber_39 N s0 (l1 + 2) u)
set_option maxHeartbeats 4000000 in
theorem b_X9_readNumber_27 {r : Int32} (X : CC p s m args c cX9_readNumber 12 (Cond.code yX9_readNumber cX9_readNumber 12 (some .int)) RX9 D kA V A) (hE : CEi p l e R s m args below meth c cX9_readNumber D kA Z A Q r w) (hF : 2 ≤ R.frames) (hL : 46 ≤ R.locals) {l1 : Int32} {s0 : Int32} {u : CSt}  (h : B_X9_readNumber_27 N l1 s0 u = some (r, w))  (hS : CS D kA Z A s u H locs) (hl : lv_has ls 12 [(0, .ref (Z 202)), (1, .int l1)]) : W p l e R s m args below meth c H locs 0 0 Q (F0 m 27 ls [.int s0]) := by
  obtain ⟨⟨hx, hb, hml, hown, hts⟩, hK, hEV, hA⟩ := id X
  have hG : ∀ w ∈ GW, w.before args s = true := fun w h => hts w (List.mem_cons_of_mem _ h)
  unfold B_X9_readNumber_27 at h
  refine lv_istore_n (lv' := [(2, .int s0), (0, .ref (Z 202)), (1, .int l1)]) hx hb dX9_readNumber_27 rfl hl (by decide) rfl (fun ls hl => ?_)
  refine lv_iload_n hx hb dX9_readNumber_28 rfl (lv_at hl 0 rfl) ?_
  refine lv_if_eq (tgt := 38) hx hb dX9_readNumber_29 (by decide) (fun c_36 => ?_) (fun c_36 => ?_)
  · have h := ip (c_36) h
    refine lv_iload_n hx hb dX9_readNumber_38 rfl (lv_at hl 2 rfl) ?_
    exact b_X9_readNumber_39 X hE  hF hL  h  hS (lv_sub hl [1, 0] rfl)
  · have h := im (c_36) h
    refine lv_iload_n hx hb dX9_readNumber_32 rfl (lv_at hl 2 rfl) ?_
    refine lv_iconst (v := 2) hx hb dX9_readNumber_33 (by decide) ?_
    refine lv_iadd hx hb dX9_readNumber_34 ?_
    refine lv_goto (tgt := 39) hx hb dX9_readNumber_35 (by decide) ?_
    exact b_X9_readNumber_39 X hE  hF hL  h  hS (lv_sub hl [1, 0] rfl)
def B_X9_readNumber_26 (N : Nat) (l1 : Int32) (u : CSt) : Option (Int32 × CSt) := B_X9_readNumber_27 N l1 0 u
set_option maxHeartbeats 4000000 in
theorem b_X9_readNumber_26 {r : Int32} (X : CC p s m args c cX9_readNumber 12 (Cond.code yX9_readNumber cX9_readNumber 12 (some .int)) RX9 D kA V A) (hE : CEi p l e R s m args below meth c cX9_readNumber D kA Z A Q r w) (hF : 2 ≤ R.frames) (hL : 46 ≤ R.locals) {l1 : Int32} {u : CSt}  (h : B_X9_readNumber_26 N l1 u = some (r, w))  (hS : CS D kA Z A s u H locs) (hl : lv_has ls 12 [(0, .ref (Z 202)), (1, .int l1)]) : W p l e R s m args below meth c H locs 0 0 Q (F0 m 26 ls []) := by
  obtain ⟨⟨hx, hb, hml, hown, hts⟩, hK, hEV, hA⟩ := id X
  have hG : ∀ w ∈ GW, w.before args s = true := fun w h => hts w (List.mem_cons_of_mem _ h)
  unfold B_X9_readNumber_26 at h
  refine lv_iconst (v := 0) hx hb dX9_readNumber_26 (by decide) ?_
  exact b_X9_readNumber_27 X hE  hF hL  h  hS (lv_sub hl [0, 1] rfl)
def B_X9_readNumber_0 (N : Nat) (l1 : Int32) (u : CSt) : Option (Int32 × CSt) := bc (F_X9_byteAt N l1 u) fun r_38 u_37 => if r_38 = (48 : Int32) then (bc (F_X9_byteAt N (l1 + 1) u_37) fun r_41 u_40 => if r_41 = (120 : Int32) then (B_X9_readNumber_27 N l1 1 u_40) else (B_X9_readNumber_26 N l1 u_40)) else (B_X9_readNumber_26 N l1 u_37)
set_option maxHeartbeats 4000000 in
theorem b_X9_readNumber_0 {r : Int32} (X : CC p s m args c cX9_readNumber 12 (Cond.code yX9_readNumber cX9_readNumber 12 (some .int)) RX9 D kA V A) (hE : CEi p l e R s m args below meth c cX9_readNumber D kA Z A Q r w) (hF : 2 ≤ R.frames) (hL : 46 ≤ R.locals) {l1 : Int32} {u : CSt}  (h : B_X9_readNumber_0 N l1 u = some (r, w))  (hS : CS D kA Z A s u H locs) (hl : lv_has ls 12 [(0, .ref (Z 202)), (1, .int l1)]) : W p l e R s m args below meth c H locs 0 0 Q (F0 m 0 ls []) := by
  obtain ⟨⟨hx, hb, hml, hown, hts⟩, hK, hEV, hA⟩ := id X
  have hG : ∀ w ∈ GW, w.before args s = true := fun w h => hts w (List.mem_cons_of_mem _ h)
  unfold B_X9_readNumber_0 at h
  refine lv_aload_n hx hb dX9_readNumber_0 rfl (lv_at hl 0 rfl) ?_
  refine lv_iload_n hx hb dX9_readNumber_1 rfl (lv_at hl 1 rfl) ?_
  obtain ⟨r_38, u_37, h_u_37, h⟩ := bc_of h
  refine kc_X9_byteAt_RX9 X  hS h_u_37 (Nat.le_trans (Nat.le_of_ble_eq_true rfl) hF) (Nat.le_trans (Nat.le_of_ble_eq_true rfl) hL) hl.1 (Nat.le_of_ble_eq_true rfl) dX9_readNumber_2 (fun H locs hS => ?_)
  refine lv_bipush (v := 48) hx hb dX9_readNumber_5 (by decide) ?_
  refine lv_icmp_ne (tgt := 26) hx hb dX9_readNumber_7 (by decide) (fun c_39 => ?_) (fun c_39 => ?_)
  · have h := im (c_39) h
    exact b_X9_readNumber_26 X hE  hF hL  h  hS (lv_sub hl [0, 1] rfl)
  · have h := ip (c_39) h
    refine lv_aload_n hx hb dX9_readNumber_10 rfl (lv_at hl 0 rfl) ?_
    refine lv_iload_n hx hb dX9_readNumber_11 rfl (lv_at hl 1 rfl) ?_
    refine lv_iconst (v := 1) hx hb dX9_readNumber_12 (by decide) ?_
    refine lv_iadd hx hb dX9_readNumber_13 ?_
    obtain ⟨r_41, u_40, h_u_40, h⟩ := bc_of h
    refine kc_X9_byteAt_RX9 X  hS h_u_40 (Nat.le_trans (Nat.le_of_ble_eq_true rfl) hF) (Nat.le_trans (Nat.le_of_ble_eq_true rfl) hL) hl.1 (Nat.le_of_ble_eq_true rfl) dX9_readNumber_14 (fun H locs hS => ?_)
    refine lv_bipush (v := 120) hx hb dX9_readNumber_17 (by decide) ?_
    refine lv_icmp_ne (tgt := 26) hx hb dX9_readNumber_19 (by decide) (fun c_42 => ?_) (fun c_42 => ?_)
    · have h := im (c_42) h
      exact b_X9_readNumber_26 X hE  hF hL  h  hS (lv_sub hl [0, 1] rfl)
    · have h := ip (c_42) h
      refine lv_iconst (v := 1) hx hb dX9_readNumber_22 (by decide) ?_
      refine lv_goto (tgt := 27) hx hb dX9_readNumber_23 (by decide) ?_
      exact b_X9_readNumber_27 X hE  hF hL  h  hS (lv_sub hl [0, 1] rfl)
def F_X9_readNumber (N : Nat) (l1 : Int32) (u : CSt) : Option (Int32 × CSt) := B_X9_readNumber_0 N l1 u
set_option maxHeartbeats 4000000 in
theorem k_X9_readNumber (l : Launch) (D : va_G) (kA : Nat → ClassId) (V Z : Nat → Nat) (N : Nat) (l1 : Int32) (u : CSt) (sz : Nat) {r : Int32} {w : CSt} (h : F_X9_readNumber N l1 u = some (r, w)) : Met l yX9_readNumber (Cond.code yX9_readNumber cX9_readNumber 12 (some .int) :: GW) { frames := 2, cells := 0, slots := 0, locals := 46 } (cPc D kA V Z [.ref (Z 202), .int l1] u sz) (cQi D kA Z u sz r w) 0 0 (va_A (CW kA Z u) sz) := by
  refine Met.ofW (cc := cX9_readNumber) (maxL := 12) (ret := (some .int)) (by decide) rfl ?_
  intro p e s m args below meth c s₁ Bd hml hv
  obtain ⟨rfl, hsz, hP, hK, hD0, hE⟩ := hv
  have hts := atoms_spec (ws := Cond.code yX9_readNumber cX9_readNumber 12 (some .int) :: GW) Bd.pre
  have hl := lv_entry ([.ref (Z 202), .int l1]) (n := 12) (Nat.le_of_ble_eq_true rfl)
  rw [lg_entry_eq]
  generalize (lg_sl ([.ref (Z 202), .int l1]) ++ List.replicate (12 - (lg_sl ([.ref (Z 202), .int l1])).length) Slot.unset).toArray = ls at hl ⊢
  have hl : lv_has ls 12 [(0, .ref (Z 202)), (1, .int l1)] := hl
  subst hsz
  have X : CC p s m ([.ref (Z 202), .int l1]).toArray c cX9_readNumber 12 (Cond.code yX9_readNumber cX9_readNumber 12 (some .int)) RX9 D kA V (va_A (CW kA Z u) s.heap.size) := ⟨⟨Bd.exec, Bd.bytes, hml, findClass_of_methodNamed Bd.named, hts⟩, hK, hE, fun q h => Or.inr h⟩
  refine b_X9_readNumber_0 X (cend_i X Bd.returns Bd.notSynchronized) (Nat.le_refl _) (Nat.le_refl _) h  ⟨hP, hD0.self, va_S.rf⟩ (lv_sub hl [0, 1] rfl)
theorem kc_X9_readNumber_RX9 {cc : ByteArray} {pc nL : Nat} {c0 : Cond} {rest : List Value} {l1 : Int32} {u w1 : CSt} {r : Int32} (X : CC p s m args c cc nL c0 RX9 D kA V A)  (hS : CS D kA Z A s u H locs) (h : F_X9_readNumber N l1 u = some (r, w1)) (hF : 2 + 1 ≤ R.frames) (hL : 8 + (12 + 11) + 46 ≤ R.locals) (hl : ls.size = nL) (hc : (rest.map fun v => v.category).sum ≤ 8) (hdg : decode cc pc = .ok (.invokevirtual 97, 3)) (kk : ∀ H locs, CS D kA Z A s w1 H locs → W p l e R s m args below meth c H locs 0 0 Q (F0 m (pc + 3) ls (.int r :: rest))) : W p l e R s m args below meth c H locs 0 0 Q (F0 m pc ls (.int l1 :: .ref (Z 202) :: rest)) :=
  ccall_i (n := 1) X hS (k_X9_readNumber l D kA V Z N l1  u H.size h) (gw_V gw_635 gw_637 gs_1_4 gw_2 gw_638) (by decide +kernel) (va_recv X.2.1 hS.1 (ci := 8) (q0 := 2) rfl (cw_lit rfl)) hF hL rfl hl hc rfl hdg kk
def B_X9_readCharacter_0 (N : Nat) (l1 : Int32) (u : CSt) : Option (Int32 × CSt) := bc (F_X9_byteAt N (l1 + 1) u) fun r_2 u_1 => if r_2 < (32 : Int32) then (some ((-1), u_1)) else (if (126 : Int32) < r_2 then (some ((-1), u_1)) else (bc (F_X9_byteAt N (l1 + 2) u_1) fun r_6 u_5 => if r_6 = (39 : Int32) then (bc (F_X9_put N 130 r_2.toInt64 0 u_5) fun _ u_8 => some (l1 + 3, u_8)) else (some ((-1), u_5))))
set_option maxHeartbeats 4000000 in
theorem b_X9_readCharacter_0 {r : Int32} (X : CC p s m args c cX9_readCharacter 3 (Cond.code yX9_readCharacter cX9_readCharacter 3 (some .int)) RX9 D kA V A) (hE : CEi p l e R s m args below meth c cX9_readCharacter D kA Z A Q r w) (hF : 1 ≤ R.frames) (hL : 24 ≤ R.locals) {l1 : Int32} {u : CSt}  (h : B_X9_readCharacter_0 N l1 u = some (r, w))  (hS : CS D kA Z A s u H locs) (hl : lv_has ls 3 [(0, .ref (Z 202)), (1, .int l1)]) : W p l e R s m args below meth c H locs 0 0 Q (F0 m 0 ls []) := by
  obtain ⟨⟨hx, hb, hml, hown, hts⟩, hK, hEV, hA⟩ := id X
  have hG : ∀ w ∈ GW, w.before args s = true := fun w h => hts w (List.mem_cons_of_mem _ h)
  unfold B_X9_readCharacter_0 at h
  refine lv_aload_n hx hb dX9_readCharacter_0 rfl (lv_at hl 0 rfl) ?_
  refine lv_iload_n hx hb dX9_readCharacter_1 rfl (lv_at hl 1 rfl) ?_
  refine lv_iconst (v := 1) hx hb dX9_readCharacter_2 (by decide) ?_
  refine lv_iadd hx hb dX9_readCharacter_3 ?_
  obtain ⟨r_2, u_1, h_u_1, h⟩ := bc_of h
  refine kc_X9_byteAt_RX9 X  hS h_u_1 (Nat.le_trans (Nat.le_of_ble_eq_true rfl) hF) (Nat.le_trans (Nat.le_of_ble_eq_true rfl) hL) hl.1 (Nat.le_of_ble_eq_true rfl) dX9_readCharacter_4 (fun H locs hS => ?_)
  refine lv_istore_n (lv' := [(2, .int r_2), (0, .ref (Z 202)), (1, .int l1)]) hx hb dX9_readCharacter_7 rfl hl (by decide) rfl (fun ls hl => ?_)
  refine lv_iload_n hx hb dX9_readCharacter_8 rfl (lv_at hl 0 rfl) ?_
  refine lv_bipush (v := 32) hx hb dX9_readCharacter_9 (by decide) ?_
  refine lv_icmp_lt (tgt := 32) hx hb dX9_readCharacter_11 (by decide) (fun c_3 => ?_) (fun c_3 => ?_)
  · have h := ip (c_3) h
    refine lv_iconst (v := (-1)) hx hb dX9_readCharacter_32 (by decide) ?_
    obtain ⟨rfl, rfl⟩ := so9 h
    exact hE _ _ _ _ hS dX9_readCharacter_33
  · have h := im (c_3) h
    refine lv_iload_n hx hb dX9_readCharacter_14 rfl (lv_at hl 0 rfl) ?_
    refine lv_bipush (v := 126) hx hb dX9_readCharacter_15 (by decide) ?_
    refine lv_icmp_gt (tgt := 32) hx hb dX9_readCharacter_17 (by decide) (fun c_4 => ?_) (fun c_4 => ?_)
    · have h := ip (c_4) h
      refine lv_iconst (v := (-1)) hx hb dX9_readCharacter_32 (by decide) ?_
      obtain ⟨rfl, rfl⟩ := so9 h
      exact hE _ _ _ _ hS dX9_readCharacter_33
    · have h := im (c_4) h
      refine lv_aload_n hx hb dX9_readCharacter_20 rfl (lv_at hl 1 rfl) ?_
      refine lv_iload_n hx hb dX9_readCharacter_21 rfl (lv_at hl 2 rfl) ?_
      refine lv_iconst (v := 2) hx hb dX9_readCharacter_22 (by decide) ?_
      refine lv_iadd hx hb dX9_readCharacter_23 ?_
      obtain ⟨r_6, u_5, h_u_5, h⟩ := bc_of h
      refine kc_X9_byteAt_RX9 X  hS h_u_5 (Nat.le_trans (Nat.le_of_ble_eq_true rfl) hF) (Nat.le_trans (Nat.le_of_ble_eq_true rfl) hL) hl.1 (Nat.le_of_ble_eq_true rfl) dX9_readCharacter_24 (fun H locs hS => ?_)
      refine lv_bipush (v := 39) hx hb dX9_readCharacter_27 (by decide) ?_
      refine lv_icmp_eq (tgt := 34) hx hb dX9_readCharacter_29 (by decide) (fun c_7 => ?_) (fun c_7 => ?_)
      · have h := ip (c_7) h
        refine lv_aload_n hx hb dX9_readCharacter_34 rfl (lv_at hl 1 rfl) ?_
        refine lv_sipush (v := 130) hx hb dX9_readCharacter_35 (by decide) ?_
        refine lv_iload_n hx hb dX9_readCharacter_38 rfl (lv_at hl 0 rfl) ?_
        refine lv_i2l (v := r_2.toInt64) hx hb dX9_readCharacter_39 rfl ?_
        refine lv_iconst (v := 0) hx hb dX9_readCharacter_40 (by decide) ?_
        obtain ⟨r_u_8, u_8, h_u_8, h⟩ := bc_of h
        refine kc_X9_put_RX9 X  hS h_u_8 (Nat.le_trans (Nat.le_of_ble_eq_true rfl) hF) (Nat.le_trans (Nat.le_of_ble_eq_true rfl) hL) hl.1 (Nat.le_of_ble_eq_true rfl) dX9_readCharacter_41 (fun H locs hS => ?_)
        refine lv_iload_n hx hb dX9_readCharacter_44 rfl (lv_at hl 2 rfl) ?_
        refine lv_iconst (v := 3) hx hb dX9_readCharacter_45 (by decide) ?_
        refine lv_iadd hx hb dX9_readCharacter_46 ?_
        obtain ⟨rfl, rfl⟩ := so9 h
        exact hE _ _ _ _ hS dX9_readCharacter_47
      · have h := im (c_7) h
        refine lv_iconst (v := (-1)) hx hb dX9_readCharacter_32 (by decide) ?_
        obtain ⟨rfl, rfl⟩ := so9 h
        exact hE _ _ _ _ hS dX9_readCharacter_33
def F_X9_readCharacter (N : Nat) (l1 : Int32) (u : CSt) : Option (Int32 × CSt) := B_X9_readCharacter_0 N l1 u
set_option maxHeartbeats 4000000 in
theorem k_X9_readCharacter (l : Launch) (D : va_G) (kA : Nat → ClassId) (V Z : Nat → Nat) (N : Nat) (l1 : Int32) (u : CSt) (sz : Nat) {r : Int32} {w : CSt} (h : F_X9_readCharacter N l1 u = some (r, w)) : Met l yX9_readCharacter (Cond.code yX9_readCharacter cX9_readCharacter 3 (some .int) :: GW) { frames := 1, cells := 0, slots := 0, locals := 24 } (cPc D kA V Z [.ref (Z 202), .int l1] u sz) (cQi D kA Z u sz r w) 0 0 (va_A (CW kA Z u) sz) := by
  refine Met.ofW (cc := cX9_readCharacter) (maxL := 3) (ret := (some .int)) (by decide) rfl ?_
  intro p e s m args below meth c s₁ Bd hml hv
  obtain ⟨rfl, hsz, hP, hK, hD0, hE⟩ := hv
  have hts := atoms_spec (ws := Cond.code yX9_readCharacter cX9_readCharacter 3 (some .int) :: GW) Bd.pre
  have hl := lv_entry ([.ref (Z 202), .int l1]) (n := 3) (Nat.le_of_ble_eq_true rfl)
  rw [lg_entry_eq]
  generalize (lg_sl ([.ref (Z 202), .int l1]) ++ List.replicate (3 - (lg_sl ([.ref (Z 202), .int l1])).length) Slot.unset).toArray = ls at hl ⊢
  have hl : lv_has ls 3 [(0, .ref (Z 202)), (1, .int l1)] := hl
  subst hsz
  have X : CC p s m ([.ref (Z 202), .int l1]).toArray c cX9_readCharacter 3 (Cond.code yX9_readCharacter cX9_readCharacter 3 (some .int)) RX9 D kA V (va_A (CW kA Z u) s.heap.size) := ⟨⟨Bd.exec, Bd.bytes, hml, findClass_of_methodNamed Bd.named, hts⟩, hK, hE, fun q h => Or.inr h⟩
  refine b_X9_readCharacter_0 X (cend_i X Bd.returns Bd.notSynchronized) (Nat.le_refl _) (Nat.le_refl _) h  ⟨hP, hD0.self, va_S.rf⟩ (lv_sub hl [0, 1] rfl)
theorem kc_X9_readCharacter_RX9 {cc : ByteArray} {pc nL : Nat} {c0 : Cond} {rest : List Value} {l1 : Int32} {u w1 : CSt} {r : Int32} (X : CC p s m args c cc nL c0 RX9 D kA V A)  (hS : CS D kA Z A s u H locs) (h : F_X9_readCharacter N l1 u = some (r, w1)) (hF : 1 + 1 ≤ R.frames) (hL : 8 + (3 + 11) + 24 ≤ R.locals) (hl : ls.size = nL) (hc : (rest.map fun v => v.category).sum ≤ 8) (hdg : decode cc pc = .ok (.invokevirtual 103, 3)) (kk : ∀ H locs, CS D kA Z A s w1 H locs → W p l e R s m args below meth c H locs 0 0 Q (F0 m (pc + 3) ls (.int r :: rest))) : W p l e R s m args below meth c H locs 0 0 Q (F0 m pc ls (.int l1 :: .ref (Z 202) :: rest)) :=
  ccall_i (n := 1) X hS (k_X9_readCharacter l D kA V Z N l1  u H.size h) (gw_V gw_675 gw_677 gs_1_10 gw_2 gw_678) (by decide +kernel) (va_recv X.2.1 hS.1 (ci := 8) (q0 := 2) rfl (cw_lit rfl)) hF hL rfl hl hc rfl hdg kk
def B_X9_readSign_98 (N : Nat) (l1 : Int32) (l3 : Int32) (l4 : Int32) (u : CSt) : Option (Int32 × CSt) := bc (F_X9_put N l3 0 0 u) fun _ u_1 => some (l1 + l4, u_1)
set_option maxHeartbeats 4000000 in
theorem b_X9_readSign_98 {r : Int32} (X : CC p s m args c cX9_readSign 6 (Cond.code yX9_readSign cX9_readSign 6 (some .int)) RX9 D kA V A) (hE : CEi p l e R s m args below meth c cX9_readSign D kA Z A Q r w) (hF : 4 ≤ R.frames) (hL : 91 ≤ R.locals) {l1 : Int32} {l3 : Int32} {l4 : Int32} {u : CSt}  (h : B_X9_readSign_98 N l1 l3 l4 u = some (r, w))  (hS : CS D kA Z A s u H locs) (hl : lv_has ls 6 [(0, .ref (Z 202)), (1, .int l1), (3, .int l3), (4, .int l4)]) : W p l e R s m args below meth c H locs 0 0 Q (F0 m 98 ls []) := by
  obtain ⟨⟨hx, hb, hml, hown, hts⟩, hK, hEV, hA⟩ := id X
  have hG : ∀ w ∈ GW, w.before args s = true := fun w h => hts w (List.mem_cons_of_mem _ h)
  unfold B_X9_readSign_98 at h
  refine lv_aload_n hx hb dX9_readSign_98 rfl (lv_at hl 0 rfl) ?_
  refine lv_iload_n hx hb dX9_readSign_99 rfl (lv_at hl 2 rfl) ?_
  refine lv_lconst (v := 0) hx hb dX9_readSign_100 (by decide) ?_
  refine lv_iconst (v := 0) hx hb dX9_readSign_101 (by decide) ?_
  obtain ⟨r_u_1, u_1, h_u_1, h⟩ := bc_of h
  refine kc_X9_put_RX9 X  hS h_u_1 (Nat.le_trans (Nat.le_of_ble_eq_true rfl) hF) (Nat.le_trans (Nat.le_of_ble_eq_true rfl) hL) hl.1 (Nat.le_of_ble_eq_true rfl) dX9_readSign_102 (fun H locs hS => ?_)
  refine lv_iload_n hx hb dX9_readSign_105 rfl (lv_at hl 1 rfl) ?_
  refine lv_iload hx hb dX9_readSign_106 (lv_at hl 3 rfl) ?_
  refine lv_iadd hx hb dX9_readSign_108 ?_
  obtain ⟨rfl, rfl⟩ := so9 h
  exact hE _ _ _ _ hS dX9_readSign_109
def B_X9_readSign_65 (N : Nat) (l1 : Int32) (l2 : Int32) (l3 : Int32) (l4 : Int32) (u : CSt) : Option (Int32 × CSt) := bc (F_X9_byteAt N (l1 + l4) u) fun r_3 u_2 => if r_3 = (61 : Int32) then (pb (F_X9_takesEquals N l2 l4) fun r_5 => if r_5 = (0 : Int32) then (B_X9_readSign_98 N l1 l3 l4 u_2) else (B_X9_readSign_98 N l1 ((l3 <<< (8 &&& 31)) ||| 61) (l4 + 1) u_2)) else (B_X9_readSign_98 N l1 l3 l4 u_2)
set_option maxHeartbeats 4000000 in
theorem b_X9_readSign_65 {r : Int32} (X : CC p s m args c cX9_readSign 6 (Cond.code yX9_readSign cX9_readSign 6 (some .int)) RX9 D kA V A) (hE : CEi p l e R s m args below meth c cX9_readSign D kA Z A Q r w) (hF : 4 ≤ R.frames) (hL : 91 ≤ R.locals) {l1 : Int32} {l2 : Int32} {l3 : Int32} {l4 : Int32} {u : CSt}  (h : B_X9_readSign_65 N l1 l2 l3 l4 u = some (r, w))  (hS : CS D kA Z A s u H locs) (hl : lv_has ls 6 [(0, .ref (Z 202)), (1, .int l1), (2, .int l2), (3, .int l3), (4, .int l4)]) : W p l e R s m args below meth c H locs 0 0 Q (F0 m 65 ls []) := by
  obtain ⟨⟨hx, hb, hml, hown, hts⟩, hK, hEV, hA⟩ := id X
  have hG : ∀ w ∈ GW, w.before args s = true := fun w h => hts w (List.mem_cons_of_mem _ h)
  unfold B_X9_readSign_65 at h
  refine lv_aload_n hx hb dX9_readSign_65 rfl (lv_at hl 0 rfl) ?_
  refine lv_iload_n hx hb dX9_readSign_66 rfl (lv_at hl 1 rfl) ?_
  refine lv_iload hx hb dX9_readSign_67 (lv_at hl 4 rfl) ?_
  refine lv_iadd hx hb dX9_readSign_69 ?_
  obtain ⟨r_3, u_2, h_u_2, h⟩ := bc_of h
  refine kc_X9_byteAt_RX9 X  hS h_u_2 (Nat.le_trans (Nat.le_of_ble_eq_true rfl) hF) (Nat.le_trans (Nat.le_of_ble_eq_true rfl) hL) hl.1 (Nat.le_of_ble_eq_true rfl) dX9_readSign_70 (fun H locs hS => ?_)
  refine lv_bipush (v := 61) hx hb dX9_readSign_73 (by decide) ?_
  refine lv_icmp_ne (tgt := 98) hx hb dX9_readSign_75 (by decide) (fun c_4 => ?_) (fun c_4 => ?_)
  · have h := im (c_4) h
    exact b_X9_readSign_98 X hE  hF hL  h  hS (lv_sub hl [0, 1, 3, 4] rfl)
  · have h := ip (c_4) h
    refine lv_iload_n hx hb dX9_readSign_78 rfl (lv_at hl 2 rfl) ?_
    refine lv_iload hx hb dX9_readSign_79 (lv_at hl 4 rfl) ?_
    obtain ⟨r_5, e_r_5, h⟩ := pb_of h
    refine vp_callSi (W.runS (As := [.int l2, .int l4]) (rest := []) X.1 (k_X9_takesEquals l N l2 l4 e_r_5) (va_cwS 2 hts (gw_S gw_746 gw_747 gw_2 gw_748) rfl rfl rfl (by decide +kernel) ⟨Nat.le_trans (Nat.le_of_ble_eq_true rfl) hF, Nat.le_trans (Nat.le_of_ble_eq_true rfl) hL⟩) ⟨fun _ _ _ _ q => q, fun _ _ _ => ⟨rfl, trivial⟩⟩ rfl rfl hl.1 rfl (lv_room (Nat.le_of_ble_eq_true rfl)) dX9_readSign_81 ⟨Nat.zero_le _, Nat.zero_le _⟩) (fun r_6 q_7 => ?_)
    rw [q_7]
    refine lv_if_eq (tgt := 98) hx hb dX9_readSign_84 (by decide) (fun c_8 => ?_) (fun c_8 => ?_)
    · have h := ip (c_8) h
      exact b_X9_readSign_98 X hE  hF hL  h  hS (lv_sub hl [0, 1, 3, 4] rfl)
    · have h := im (c_8) h
      refine lv_iload_n hx hb dX9_readSign_87 rfl (lv_at hl 3 rfl) ?_
      refine lv_bipush (v := 8) hx hb dX9_readSign_88 (by decide) ?_
      refine lv_ishl hx hb dX9_readSign_90 ?_
      refine lv_bipush (v := 61) hx hb dX9_readSign_91 (by decide) ?_
      refine lv_ior hx hb dX9_readSign_93 ?_
      refine lv_istore_n (lv' := [(3, .int ((l3 <<< (8 &&& 31)) ||| 61)), (0, .ref (Z 202)), (1, .int l1), (2, .int l2), (4, .int l4)]) hx hb dX9_readSign_94 rfl hl (by decide) rfl (fun ls hl => ?_)
      refine lv_iinc (v := l4 + 1) (lv' := [(4, .int (l4 + 1)), (3, .int ((l3 <<< (8 &&& 31)) ||| 61)), (0, .ref (Z 202)), (1, .int l1), (2, .int l2)]) hx hb dX9_readSign_95 hl (k := 4) rfl rfl (by decide) rfl (fun ls hl => ?_)
      exact b_X9_readSign_98 X hE  hF hL  h  hS (lv_sub hl [2, 3, 1, 0] rfl)
def B_X9_readSign_33 (N : Nat) (R_33 : Int32 × Int32 × Int32 × Int32 × Int32 × CSt → Option (Int32 × CSt)) (l1 : Int32) (l2 : Int32) (l3 : Int32) (l4 : Int32) (l5 : Int32) (u : CSt) : Option (Int32 × CSt) := if l5 ≤ l4 then (B_X9_readSign_65 N l1 l2 l3 l4 u) else (bc (F_X9_byteAt N (l1 + l4) u) fun r_11 u_10 => if r_11 = l2 then (R_33 (l1, l2, ((l3 <<< (8 &&& 31)) ||| l2), (l4 + 1), l5, u_10)) else (B_X9_readSign_65 N l1 l2 l3 l4 u_10))
set_option maxHeartbeats 4000000 in
theorem b_X9_readSign_33 {r : Int32} (X : CC p s m args c cX9_readSign 6 (Cond.code yX9_readSign cX9_readSign 6 (some .int)) RX9 D kA V A) (hE : CEi p l e R s m args below meth c cX9_readSign D kA Z A Q r w) (hF : 4 ≤ R.frames) (hL : 91 ≤ R.locals) {R_33 : Int32 × Int32 × Int32 × Int32 × Int32 × CSt → Option (Int32 × CSt)} {l1 : Int32} {l2 : Int32} {l3 : Int32} {l4 : Int32} {l5 : Int32} {u : CSt} (hR_33 : ∀ (l1 : Int32) (l2 : Int32) (l3 : Int32) (l4 : Int32) (l5 : Int32) (u : CSt), R_33 (l1, l2, l3, l4, l5, u) = some (r, w) → ∀ (H : Heap) (locs : List Loc) (ls : Array Slot), CS D kA Z A s u H locs → lv_has ls 6 [(0, .ref (Z 202)), (1, .int l1), (2, .int l2), (3, .int l3), (4, .int l4), (5, .int l5)] → W p l e R s m args below meth c H locs 0 0 Q (F0 m 33 ls [])) (h : B_X9_readSign_33 N R_33 l1 l2 l3 l4 l5 u = some (r, w))  (hS : CS D kA Z A s u H locs) (hl : lv_has ls 6 [(0, .ref (Z 202)), (1, .int l1), (2, .int l2), (3, .int l3), (4, .int l4), (5, .int l5)]) : W p l e R s m args below meth c H locs 0 0 Q (F0 m 33 ls []) := by
  obtain ⟨⟨hx, hb, hml, hown, hts⟩, hK, hEV, hA⟩ := id X
  have hG : ∀ w ∈ GW, w.before args s = true := fun w h => hts w (List.mem_cons_of_mem _ h)
  unfold B_X9_readSign_33 at h
  refine lv_iload hx hb dX9_readSign_33 (lv_at hl 4 rfl) ?_
  refine lv_iload hx hb dX9_readSign_35 (lv_at hl 5 rfl) ?_
  refine lv_icmp_ge (tgt := 65) hx hb dX9_readSign_37 (by decide) (fun c_9 => ?_) (fun c_9 => ?_)
  · have h := ip (c_9) h
    exact b_X9_readSign_65 X hE  hF hL  h  hS (lv_sub hl [0, 1, 2, 3, 4] rfl)
  · have h := im (c_9) h
    refine lv_aload_n hx hb dX9_readSign_40 rfl (lv_at hl 0 rfl) ?_
    refine lv_iload_n hx hb dX9_readSign_41 rfl (lv_at hl 1 rfl) ?_
    refine lv_iload hx hb dX9_readSign_42 (lv_at hl 4 rfl) ?_
    refine lv_iadd hx hb dX9_readSign_44 ?_
    obtain ⟨r_11, u_10, h_u_10, h⟩ := bc_of h
    refine kc_X9_byteAt_RX9 X  hS h_u_10 (Nat.le_trans (Nat.le_of_ble_eq_true rfl) hF) (Nat.le_trans (Nat.le_of_ble_eq_true rfl) hL) hl.1 (Nat.le_of_ble_eq_true rfl) dX9_readSign_45 (fun H locs hS => ?_)
    refine lv_iload_n hx hb dX9_readSign_48 rfl (lv_at hl 2 rfl) ?_
    refine lv_icmp_ne (tgt := 65) hx hb dX9_readSign_49 (by decide) (fun c_12 => ?_) (fun c_12 => ?_)
    · have h := im (c_12) h
      exact b_X9_readSign_65 X hE  hF hL  h  hS (lv_sub hl [0, 1, 2, 3, 4] rfl)
    · have h := ip (c_12) h
      refine lv_iload_n hx hb dX9_readSign_52 rfl (lv_at hl 3 rfl) ?_
      refine lv_bipush (v := 8) hx hb dX9_readSign_53 (by decide) ?_
      refine lv_ishl hx hb dX9_readSign_55 ?_
      refine lv_iload_n hx hb dX9_readSign_56 rfl (lv_at hl 2 rfl) ?_
      refine lv_ior hx hb dX9_readSign_57 ?_
      refine lv_istore_n (lv' := [(3, .int ((l3 <<< (8 &&& 31)) ||| l2)), (0, .ref (Z 202)), (1, .int l1), (2, .int l2), (4, .int l4), (5, .int l5)]) hx hb dX9_readSign_58 rfl hl (by decide) rfl (fun ls hl => ?_)
      refine lv_iinc (v := l4 + 1) (lv' := [(4, .int (l4 + 1)), (3, .int ((l3 <<< (8 &&& 31)) ||| l2)), (0, .ref (Z 202)), (1, .int l1), (2, .int l2), (5, .int l5)]) hx hb dX9_readSign_59 hl (k := 4) rfl rfl (by decide) rfl (fun ls hl => ?_)
      refine lv_goto (tgt := 33) hx hb dX9_readSign_62 (by decide) ?_
      exact hR_33 _ _ _ _ _ _  h _ _ _ hS (lv_sub hl [2, 3, 4, 1, 0, 5] rfl)
def LP_X9_readSign_33 (N : Nat) : Nat → Int32 × Int32 × Int32 × Int32 × Int32 × CSt → Option (Int32 × CSt) := lp (fun R a => B_X9_readSign_33 N R a.1 a.2.1 a.2.2.1 a.2.2.2.1 a.2.2.2.2.1 a.2.2.2.2.2)
theorem bl_X9_readSign_33 {r : Int32} (X : CC p s m args c cX9_readSign 6 (Cond.code yX9_readSign cX9_readSign 6 (some .int)) RX9 D kA V A) (hE : CEi p l e R s m args below meth c cX9_readSign D kA Z A Q r w) (hF : 4 ≤ R.frames) (hL : 91 ≤ R.locals)  : ∀ (n : Nat) (l1 : Int32) (l2 : Int32) (l3 : Int32) (l4 : Int32) (l5 : Int32) (u : CSt), LP_X9_readSign_33 N n (l1, l2, l3, l4, l5, u) = some (r, w) → ∀ (H : Heap) (locs : List Loc) (ls : Array Slot), CS D kA Z A s u H locs → lv_has ls 6 [(0, .ref (Z 202)), (1, .int l1), (2, .int l2), (3, .int l3), (4, .int l4), (5, .int l5)] → W p l e R s m args below meth c H locs 0 0 Q (F0 m 33 ls []) := by
  intro n
  induction n with
  | zero => intro l1 l2 l3 l4 l5 u h; exact nomatch h
  | succ n ih => intro l1 l2 l3 l4 l5 u h H locs ls hS hl; exact b_X9_readSign_33 (N := N) (R_33 := LP_X9_readSign_33 N n) X hE  hF hL  ih h  hS hl
def B_X9_readSign_0 (N : Nat) (l1 : Int32) (u : CSt) : Option (Int32 × CSt) := bc (F_X9_byteAt N l1 u) fun r_14 u_13 => if r_14 < (0 : Int32) then (some ((-1), u_13)) else (if (0 : Int32) ≤ (six ((r_14.toUInt32 % 65536).toInt32)) then (pb (F_X9_mostRepeats N r_14) fun r_17 => LP_X9_readSign_33 N N (l1, r_14, r_14, 1, r_17, u_13)) else (some ((-1), u_13)))
set_option maxHeartbeats 4000000 in
theorem b_X9_readSign_0 {r : Int32} (X : CC p s m args c cX9_readSign 6 (Cond.code yX9_readSign cX9_readSign 6 (some .int)) RX9 D kA V A) (hE : CEi p l e R s m args below meth c cX9_readSign D kA Z A Q r w) (hF : 4 ≤ R.frames) (hL : 91 ≤ R.locals) {l1 : Int32} {u : CSt}  (h : B_X9_readSign_0 N l1 u = some (r, w))  (hS : CS D kA Z A s u H locs) (hl : lv_has ls 6 [(0, .ref (Z 202)), (1, .int l1)]) : W p l e R s m args below meth c H locs 0 0 Q (F0 m 0 ls []) := by
  obtain ⟨⟨hx, hb, hml, hown, hts⟩, hK, hEV, hA⟩ := id X
  have hG : ∀ w ∈ GW, w.before args s = true := fun w h => hts w (List.mem_cons_of_mem _ h)
  unfold B_X9_readSign_0 at h
  refine lv_aload_n hx hb dX9_readSign_0 rfl (lv_at hl 0 rfl) ?_
  refine lv_iload_n hx hb dX9_readSign_1 rfl (lv_at hl 1 rfl) ?_
  obtain ⟨r_14, u_13, h_u_13, h⟩ := bc_of h
  refine kc_X9_byteAt_RX9 X  hS h_u_13 (Nat.le_trans (Nat.le_of_ble_eq_true rfl) hF) (Nat.le_trans (Nat.le_of_ble_eq_true rfl) hL) hl.1 (Nat.le_of_ble_eq_true rfl) dX9_readSign_2 (fun H locs hS => ?_)
  refine lv_istore_n (lv' := [(2, .int r_14), (0, .ref (Z 202)), (1, .int l1)]) hx hb dX9_readSign_5 rfl hl (by decide) rfl (fun ls hl => ?_)
  refine lv_iload_n hx hb dX9_readSign_6 rfl (lv_at hl 0 rfl) ?_
  refine lv_if_lt (tgt := 20) hx hb dX9_readSign_7 (by decide) (fun c_15 => ?_) (fun c_15 => ?_)
  · have h := ip (c_15) h
    refine lv_iconst (v := (-1)) hx hb dX9_readSign_20 (by decide) ?_
    obtain ⟨rfl, rfl⟩ := so9 h
    exact hE _ _ _ _ hS dX9_readSign_21
  · have h := im (c_15) h
    refine va_ldcS hx hb hown (hEV.2.2.2.2.2.2.2.2.2.2.2.2.2.2.2.2.2.1).1 dX9_readSign_10 ?_
    refine lv_iload_n hx hb dX9_readSign_12 rfl (lv_at hl 0 rfl) ?_
    refine lv_i2c (v := (r_14.toUInt32 % 65536).toInt32) hx hb dX9_readSign_13 rfl ?_
    refine kc_six X hS (Nat.le_trans (Nat.le_of_ble_eq_true rfl) hF) (Nat.le_trans (Nat.le_of_ble_eq_true rfl) hL) hl.1 (Nat.le_of_ble_eq_true rfl) dX9_readSign_14 (fun H locs hS => ?_)
    refine lv_if_ge (tgt := 22) hx hb dX9_readSign_17 (by decide) (fun c_16 => ?_) (fun c_16 => ?_)
    · have h := ip (c_16) h
      refine lv_iload_n hx hb dX9_readSign_22 rfl (lv_at hl 0 rfl) ?_
      refine lv_istore_n (lv' := [(3, .int r_14), (2, .int r_14), (0, .ref (Z 202)), (1, .int l1)]) hx hb dX9_readSign_23 rfl hl (by decide) rfl (fun ls hl => ?_)
      refine lv_iconst (v := 1) hx hb dX9_readSign_24 (by decide) ?_
      refine lv_istore (lv' := [(4, .int 1), (3, .int r_14), (2, .int r_14), (0, .ref (Z 202)), (1, .int l1)]) hx hb dX9_readSign_25 hl (by decide) rfl (fun ls hl => ?_)
      refine lv_iload_n hx hb dX9_readSign_27 rfl (lv_at hl 2 rfl) ?_
      obtain ⟨r_17, e_r_17, h⟩ := pb_of h
      refine vp_callSi (W.runS (As := [.int r_14]) (rest := []) X.1 (k_X9_mostRepeats l N r_14 e_r_17) (va_cwS 1 hts (gw_S gw_743 gw_744 gw_2 gw_745) rfl rfl rfl (by decide +kernel) ⟨Nat.le_trans (Nat.le_of_ble_eq_true rfl) hF, Nat.le_trans (Nat.le_of_ble_eq_true rfl) hL⟩) ⟨fun _ _ _ _ q => q, fun _ _ _ => ⟨rfl, trivial⟩⟩ rfl rfl hl.1 rfl (lv_room (Nat.le_of_ble_eq_true rfl)) dX9_readSign_28 ⟨Nat.zero_le _, Nat.zero_le _⟩) (fun r_18 q_19 => ?_)
      rw [q_19]
      refine lv_istore (lv' := [(5, .int r_17), (4, .int 1), (3, .int r_14), (2, .int r_14), (0, .ref (Z 202)), (1, .int l1)]) hx hb dX9_readSign_31 hl (by decide) rfl (fun ls hl => ?_)
      exact bl_X9_readSign_33 X hE  hF hL  _ _ _ _ _ _ _  h _ _ _ hS (lv_sub hl [4, 5, 3, 2, 1, 0] rfl)
    · have h := im (c_16) h
      refine lv_iconst (v := (-1)) hx hb dX9_readSign_20 (by decide) ?_
      obtain ⟨rfl, rfl⟩ := so9 h
      exact hE _ _ _ _ hS dX9_readSign_21
def F_X9_readSign (N : Nat) (l1 : Int32) (u : CSt) : Option (Int32 × CSt) := B_X9_readSign_0 N l1 u
set_option maxHeartbeats 4000000 in
theorem k_X9_readSign (l : Launch) (D : va_G) (kA : Nat → ClassId) (V Z : Nat → Nat) (N : Nat) (l1 : Int32) (u : CSt) (sz : Nat) {r : Int32} {w : CSt} (h : F_X9_readSign N l1 u = some (r, w)) : Met l yX9_readSign (Cond.code yX9_readSign cX9_readSign 6 (some .int) :: GW) { frames := 4, cells := 0, slots := 0, locals := 91 } (cPc D kA V Z [.ref (Z 202), .int l1] u sz) (cQi D kA Z u sz r w) 0 0 (va_A (CW kA Z u) sz) := by
  refine Met.ofW (cc := cX9_readSign) (maxL := 6) (ret := (some .int)) (by decide) rfl ?_
  intro p e s m args below meth c s₁ Bd hml hv
  obtain ⟨rfl, hsz, hP, hK, hD0, hE⟩ := hv
  have hts := atoms_spec (ws := Cond.code yX9_readSign cX9_readSign 6 (some .int) :: GW) Bd.pre
  have hl := lv_entry ([.ref (Z 202), .int l1]) (n := 6) (Nat.le_of_ble_eq_true rfl)
  rw [lg_entry_eq]
  generalize (lg_sl ([.ref (Z 202), .int l1]) ++ List.replicate (6 - (lg_sl ([.ref (Z 202), .int l1])).length) Slot.unset).toArray = ls at hl ⊢
  have hl : lv_has ls 6 [(0, .ref (Z 202)), (1, .int l1)] := hl
  subst hsz
  have X : CC p s m ([.ref (Z 202), .int l1]).toArray c cX9_readSign 6 (Cond.code yX9_readSign cX9_readSign 6 (some .int)) RX9 D kA V (va_A (CW kA Z u) s.heap.size) := ⟨⟨Bd.exec, Bd.bytes, hml, findClass_of_methodNamed Bd.named, hts⟩, hK, hE, fun q h => Or.inr h⟩
  refine b_X9_readSign_0 X (cend_i X Bd.returns Bd.notSynchronized) (Nat.le_refl _) (Nat.le_refl _) h  ⟨hP, hD0.self, va_S.rf⟩ (lv_sub hl [0, 1] rfl)
theorem kc_X9_readSign_RX9 {cc : ByteArray} {pc nL : Nat} {c0 : Cond} {rest : List Value} {l1 : Int32} {u w1 : CSt} {r : Int32} (X : CC p s m args c cc nL c0 RX9 D kA V A)  (hS : CS D kA Z A s u H locs) (h : F_X9_readSign N l1 u = some (r, w1)) (hF : 4 + 1 ≤ R.frames) (hL : 8 + (6 + 11) + 91 ≤ R.locals) (hl : ls.size = nL) (hc : (rest.map fun v => v.category).sum ≤ 8) (hdg : decode cc pc = .ok (.invokevirtual 106, 3)) (kk : ∀ H locs, CS D kA Z A s w1 H locs → W p l e R s m args below meth c H locs 0 0 Q (F0 m (pc + 3) ls (.int r :: rest))) : W p l e R s m args below meth c H locs 0 0 Q (F0 m pc ls (.int l1 :: .ref (Z 202) :: rest)) :=
  ccall_i (n := 1) X hS (k_X9_readSign l D kA V Z N l1  u H.size h) (gw_V gw_679 gw_681 gs_1_11 gw_2 gw_682) (by decide +kernel) (va_recv X.2.1 hS.1 (ci := 8) (q0 := 2) rfl (cw_lit rfl)) hF hL rfl hl hc rfl hdg kk
def B_X9_readToken_34 (N : Nat) (l1 : Int32) (l2 : Int32) (u : CSt) : Option (Int32 × CSt) := pb (F_X9_isWordByte N l2) fun r_1 => if r_1 = (0 : Int32) then (if l2 = (39 : Int32) then (bc (F_X9_readCharacter N l1 u) fun r_9 u_8 => some (r_9, u_8)) else (bc (F_X9_readSign N l1 u) fun r_7 u_6 => some (r_7, u_6))) else (bc (F_X9_readWord N l1 u) fun r_11 u_10 => some (r_11, u_10))
set_option maxHeartbeats 4000000 in
theorem b_X9_readToken_34 {r : Int32} (X : CC p s m args c cX9_readToken 3 (Cond.code yX9_readToken cX9_readToken 3 (some .int)) RX9 D kA V A) (hE : CEi p l e R s m args below meth c cX9_readToken D kA Z A Q r w) (hF : 5 ≤ R.frames) (hL : 116 ≤ R.locals) {l1 : Int32} {l2 : Int32} {u : CSt}  (h : B_X9_readToken_34 N l1 l2 u = some (r, w))  (hS : CS D kA Z A s u H locs) (hl : lv_has ls 3 [(0, .ref (Z 202)), (1, .int l1), (2, .int l2)]) : W p l e R s m args below meth c H locs 0 0 Q (F0 m 34 ls []) := by
  obtain ⟨⟨hx, hb, hml, hown, hts⟩, hK, hEV, hA⟩ := id X
  have hG : ∀ w ∈ GW, w.before args s = true := fun w h => hts w (List.mem_cons_of_mem _ h)
  unfold B_X9_readToken_34 at h
  refine lv_iload_n hx hb dX9_readToken_34 rfl (lv_at hl 2 rfl) ?_
  obtain ⟨r_1, e_r_1, h⟩ := pb_of h
  refine vp_callSi (W.runS (As := [.int l2]) (rest := []) X.1 (k_X9_isWordByte l N l2 e_r_1) (va_cwS 1 hts (gw_S gw_642 gw_643 gw_2 gw_644) rfl rfl rfl (by decide +kernel) ⟨Nat.le_trans (Nat.le_of_ble_eq_true rfl) hF, Nat.le_trans (Nat.le_of_ble_eq_true rfl) hL⟩) ⟨fun _ _ _ _ q => q, fun _ _ _ => ⟨rfl, trivial⟩⟩ rfl rfl hl.1 rfl (lv_room (Nat.le_of_ble_eq_true rfl)) dX9_readToken_35 ⟨Nat.zero_le _, Nat.zero_le _⟩) (fun r_2 q_3 => ?_)
  rw [q_3]
  refine lv_if_eq (tgt := 47) hx hb dX9_readToken_38 (by decide) (fun c_4 => ?_) (fun c_4 => ?_)
  · have h := ip (c_4) h
    refine lv_iload_n hx hb dX9_readToken_47 rfl (lv_at hl 2 rfl) ?_
    refine lv_bipush (v := 39) hx hb dX9_readToken_48 (by decide) ?_
    refine lv_icmp_ne (tgt := 61) hx hb dX9_readToken_50 (by decide) (fun c_5 => ?_) (fun c_5 => ?_)
    · have h := im (c_5) h
      refine lv_aload_n hx hb dX9_readToken_61 rfl (lv_at hl 0 rfl) ?_
      refine lv_iload_n hx hb dX9_readToken_62 rfl (lv_at hl 1 rfl) ?_
      obtain ⟨r_7, u_6, h_u_6, h⟩ := bc_of h
      refine kc_X9_readSign_RX9 X  hS h_u_6 (Nat.le_trans (Nat.le_of_ble_eq_true rfl) hF) (Nat.le_trans (Nat.le_of_ble_eq_true rfl) hL) hl.1 (Nat.le_of_ble_eq_true rfl) dX9_readToken_63 (fun H locs hS => ?_)
      obtain ⟨rfl, rfl⟩ := so9 h
      exact hE _ _ _ _ hS dX9_readToken_66
    · have h := ip (c_5) h
      refine lv_aload_n hx hb dX9_readToken_53 rfl (lv_at hl 0 rfl) ?_
      refine lv_iload_n hx hb dX9_readToken_54 rfl (lv_at hl 1 rfl) ?_
      obtain ⟨r_9, u_8, h_u_8, h⟩ := bc_of h
      refine kc_X9_readCharacter_RX9 X  hS h_u_8 (Nat.le_trans (Nat.le_of_ble_eq_true rfl) hF) (Nat.le_trans (Nat.le_of_ble_eq_true rfl) hL) hl.1 (Nat.le_of_ble_eq_true rfl) dX9_readToken_55 (fun H locs hS => ?_)
      refine lv_goto (tgt := 66) hx hb dX9_readToken_58 (by decide) ?_
      obtain ⟨rfl, rfl⟩ := so9 h
      exact hE _ _ _ _ hS dX9_readToken_66
  · have h := im (c_4) h
    refine lv_aload_n hx hb dX9_readToken_41 rfl (lv_at hl 0 rfl) ?_
    refine lv_iload_n hx hb dX9_readToken_42 rfl (lv_at hl 1 rfl) ?_
    obtain ⟨r_11, u_10, h_u_10, h⟩ := bc_of h
    refine kc_X9_readWord_RX9 X  hS h_u_10 (Nat.le_trans (Nat.le_of_ble_eq_true rfl) hF) (Nat.le_trans (Nat.le_of_ble_eq_true rfl) hL) hl.1 (Nat.le_of_ble_eq_true rfl) dX9_readToken_43 (fun H locs hS => ?_)
    obtain ⟨rfl, rfl⟩ := so9 h
    exact hE _ _ _ _ hS dX9_readToken_46
def B_X9_readToken_0 (N : Nat) (l1 : Int32) (u : CSt) : Option (Int32 × CSt) := bc (F_X9_byteAt N l1 u) fun r_13 u_12 => wc 1501 (cI u_12 4) (xA u_12 204 (cI u_12 4).toNatClampNeg l1) fun u_15 => if r_13 < (48 : Int32) then (B_X9_readToken_34 N l1 r_13 u_15) else (if (57 : Int32) < r_13 then (B_X9_readToken_34 N l1 r_13 u_15) else (bc (F_X9_readNumber N l1 u_15) fun r_19 u_18 => some (r_19, u_18)))
set_option maxHeartbeats 4000000 in
theorem b_X9_readToken_0 {r : Int32} (X : CC p s m args c cX9_readToken 3 (Cond.code yX9_readToken cX9_readToken 3 (some .int)) RX9 D kA V A) (hE : CEi p l e R s m args below meth c cX9_readToken D kA Z A Q r w) (hF : 5 ≤ R.frames) (hL : 116 ≤ R.locals) {l1 : Int32} {u : CSt}  (h : B_X9_readToken_0 N l1 u = some (r, w))  (hS : CS D kA Z A s u H locs) (hl : lv_has ls 3 [(0, .ref (Z 202)), (1, .int l1)]) : W p l e R s m args below meth c H locs 0 0 Q (F0 m 0 ls []) := by
  obtain ⟨⟨hx, hb, hml, hown, hts⟩, hK, hEV, hA⟩ := id X
  have hG : ∀ w ∈ GW, w.before args s = true := fun w h => hts w (List.mem_cons_of_mem _ h)
  unfold B_X9_readToken_0 at h
  refine lv_aload_n hx hb dX9_readToken_0 rfl (lv_at hl 0 rfl) ?_
  refine lv_iload_n hx hb dX9_readToken_1 rfl (lv_at hl 1 rfl) ?_
  obtain ⟨r_13, u_12, h_u_12, h⟩ := bc_of h
  refine kc_X9_byteAt_RX9 X  hS h_u_12 (Nat.le_trans (Nat.le_of_ble_eq_true rfl) hF) (Nat.le_trans (Nat.le_of_ble_eq_true rfl) hL) hl.1 (Nat.le_of_ble_eq_true rfl) dX9_readToken_2 (fun H locs hS => ?_)
  refine lv_istore_n (lv' := [(2, .int r_13), (0, .ref (Z 202)), (1, .int l1)]) hx hb dX9_readToken_5 rfl hl (by decide) rfl (fun ls hl => ?_)
  refine lv_aload_n hx hb dX9_readToken_6 rfl (lv_at hl 1 rfl) ?_
  refine cg_X9_15 X hS dX9_readToken_7 ?_
  refine lv_aload_n hx hb dX9_readToken_10 rfl (lv_at hl 1 rfl) ?_
  refine cg_X9_50 X hS dX9_readToken_11 ?_
  refine lv_iload_n hx hb dX9_readToken_14 rfl (lv_at hl 2 rfl) ?_
  obtain ⟨u_15, e_u_15, i_14, h⟩ := wc_of h
  refine cs_s204 X hS i_14 e_u_15 dX9_readToken_15 (fun H locs hS => ?_)
  refine lv_iload_n hx hb dX9_readToken_16 rfl (lv_at hl 0 rfl) ?_
  refine lv_bipush (v := 48) hx hb dX9_readToken_17 (by decide) ?_
  refine lv_icmp_lt (tgt := 34) hx hb dX9_readToken_19 (by decide) (fun c_16 => ?_) (fun c_16 => ?_)
  · have h := ip (c_16) h
    exact b_X9_readToken_34 X hE  hF hL  h  hS (lv_sub hl [1, 2, 0] rfl)
  · have h := im (c_16) h
    refine lv_iload_n hx hb dX9_readToken_22 rfl (lv_at hl 0 rfl) ?_
    refine lv_bipush (v := 57) hx hb dX9_readToken_23 (by decide) ?_
    refine lv_icmp_gt (tgt := 34) hx hb dX9_readToken_25 (by decide) (fun c_17 => ?_) (fun c_17 => ?_)
    · have h := ip (c_17) h
      exact b_X9_readToken_34 X hE  hF hL  h  hS (lv_sub hl [1, 2, 0] rfl)
    · have h := im (c_17) h
      refine lv_aload_n hx hb dX9_readToken_28 rfl (lv_at hl 1 rfl) ?_
      refine lv_iload_n hx hb dX9_readToken_29 rfl (lv_at hl 2 rfl) ?_
      obtain ⟨r_19, u_18, h_u_18, h⟩ := bc_of h
      refine kc_X9_readNumber_RX9 X  hS h_u_18 (Nat.le_trans (Nat.le_of_ble_eq_true rfl) hF) (Nat.le_trans (Nat.le_of_ble_eq_true rfl) hL) hl.1 (Nat.le_of_ble_eq_true rfl) dX9_readToken_30 (fun H locs hS => ?_)
      obtain ⟨rfl, rfl⟩ := so9 h
      exact hE _ _ _ _ hS dX9_readToken_33
def F_X9_readToken (N : Nat) (l1 : Int32) (u : CSt) : Option (Int32 × CSt) := B_X9_readToken_0 N l1 u
set_option maxHeartbeats 4000000 in
theorem k_X9_readToken (l : Launch) (D : va_G) (kA : Nat → ClassId) (V Z : Nat → Nat) (N : Nat) (l1 : Int32) (u : CSt) (sz : Nat) {r : Int32} {w : CSt} (h : F_X9_readToken N l1 u = some (r, w)) : Met l yX9_readToken (Cond.code yX9_readToken cX9_readToken 3 (some .int) :: GW) { frames := 5, cells := 0, slots := 0, locals := 116 } (cPc D kA V Z [.ref (Z 202), .int l1] u sz) (cQi D kA Z u sz r w) 0 0 (va_A (CW kA Z u) sz) := by
  refine Met.ofW (cc := cX9_readToken) (maxL := 3) (ret := (some .int)) (by decide) rfl ?_
  intro p e s m args below meth c s₁ Bd hml hv
  obtain ⟨rfl, hsz, hP, hK, hD0, hE⟩ := hv
  have hts := atoms_spec (ws := Cond.code yX9_readToken cX9_readToken 3 (some .int) :: GW) Bd.pre
  have hl := lv_entry ([.ref (Z 202), .int l1]) (n := 3) (Nat.le_of_ble_eq_true rfl)
  rw [lg_entry_eq]
  generalize (lg_sl ([.ref (Z 202), .int l1]) ++ List.replicate (3 - (lg_sl ([.ref (Z 202), .int l1])).length) Slot.unset).toArray = ls at hl ⊢
  have hl : lv_has ls 3 [(0, .ref (Z 202)), (1, .int l1)] := hl
  subst hsz
  have X : CC p s m ([.ref (Z 202), .int l1]).toArray c cX9_readToken 3 (Cond.code yX9_readToken cX9_readToken 3 (some .int)) RX9 D kA V (va_A (CW kA Z u) s.heap.size) := ⟨⟨Bd.exec, Bd.bytes, hml, findClass_of_methodNamed Bd.named, hts⟩, hK, hE, fun q h => Or.inr h⟩
  refine b_X9_readToken_0 X (cend_i X Bd.returns Bd.notSynchronized) (Nat.le_refl _) (Nat.le_refl _) h  ⟨hP, hD0.self, va_S.rf⟩ (lv_sub hl [0, 1] rfl)
theorem kc_X9_readToken_RX9 {cc : ByteArray} {pc nL : Nat} {c0 : Cond} {rest : List Value} {l1 : Int32} {u w1 : CSt} {r : Int32} (X : CC p s m args c cc nL c0 RX9 D kA V A)  (hS : CS D kA Z A s u H locs) (h : F_X9_readToken N l1 u = some (r, w1)) (hF : 5 + 1 ≤ R.frames) (hL : 8 + (3 + 11) + 116 ≤ R.locals) (hl : ls.size = nL) (hc : (rest.map fun v => v.category).sum ≤ 8) (hdg : decode cc pc = .ok (.invokevirtual 63, 3)) (kk : ∀ H locs, CS D kA Z A s w1 H locs → W p l e R s m args below meth c H locs 0 0 Q (F0 m (pc + 3) ls (.int r :: rest))) : W p l e R s m args below meth c H locs 0 0 Q (F0 m pc ls (.int l1 :: .ref (Z 202) :: rest)) :=
  ccall_i (n := 1) X hS (k_X9_readToken l D kA V Z N l1  u H.size h) (gw_V gw_631 gw_633 gs_1_3 gw_2 gw_634) (by decide +kernel) (va_recv X.2.1 hS.1 (ci := 8) (q0 := 2) rfl (cw_lit rfl)) hF hL rfl hl hc rfl hdg kk
def B_X9_read_132 (N : Nat) (l2 : Int32) (s1 : Int32) (u : CSt) : Option (Int32 × CSt) := bc (F_X9_closeWith N s1 l2 u) fun _ u_1 => some (0, u_1)
set_option maxHeartbeats 4000000 in
theorem b_X9_read_132 {r : Int32} (X : CC p s m args c cX9_read 5 (Cond.code yX9_read cX9_read 5 none) RX9 D kA V A) (hE : CEv p l e R s m args below meth c cX9_read D kA Z A Q w) (hF : 6 ≤ R.frames) (hL : 138 ≤ R.locals) {l2 : Int32} {s1 : Int32} {u : CSt}  (h : B_X9_read_132 N l2 s1 u = some (r, w))  (hS : CS D kA Z A s u H locs) (hl : lv_has ls 5 [(2, .int l2)]) : W p l e R s m args below meth c H locs 0 0 Q (F0 m 132 ls [.int s1, .ref (Z 202)]) := by
  obtain ⟨⟨hx, hb, hml, hown, hts⟩, hK, hEV, hA⟩ := id X
  have hG : ∀ w ∈ GW, w.before args s = true := fun w h => hts w (List.mem_cons_of_mem _ h)
  unfold B_X9_read_132 at h
  refine lv_iload_n hx hb dX9_read_132 rfl (lv_at hl 0 rfl) ?_
  obtain ⟨r_u_1, u_1, h_u_1, h⟩ := bc_of h
  refine kc_X9_closeWith_RX9 X  hS h_u_1 (Nat.le_trans (Nat.le_of_ble_eq_true rfl) hF) (Nat.le_trans (Nat.le_of_ble_eq_true rfl) hL) hl.1 (Nat.le_of_ble_eq_true rfl) dX9_read_133 (fun H locs hS => ?_)
  obtain ⟨-, rfl⟩ := so9 h
  exact hE _ _ _ _ hS dX9_read_136
def B_X9_read_93 (N : Nat) (l2 : Int32) (u : CSt) : Option (Int32 × CSt) := if l2 < (cI u 3) then (bc (F_X9_readToken N l2 u) fun r_4 u_3 => if r_4 ≤ l2 then (B_X9_read_132 N l2 131 u_3) else (B_X9_read_132 N l2 132 u_3)) else (bc (F_X9_closeWith N 0 (cI u 3) u) fun _ u_6 => some (0, u_6))
set_option maxHeartbeats 4000000 in
theorem b_X9_read_93 {r : Int32} (X : CC p s m args c cX9_read 5 (Cond.code yX9_read cX9_read 5 none) RX9 D kA V A) (hE : CEv p l e R s m args below meth c cX9_read D kA Z A Q w) (hF : 6 ≤ R.frames) (hL : 138 ≤ R.locals) {l2 : Int32} {u : CSt}  (h : B_X9_read_93 N l2 u = some (r, w))  (hS : CS D kA Z A s u H locs) (hl : lv_has ls 5 [(0, .ref (Z 202)), (2, .int l2)]) : W p l e R s m args below meth c H locs 0 0 Q (F0 m 93 ls []) := by
  obtain ⟨⟨hx, hb, hml, hown, hts⟩, hK, hEV, hA⟩ := id X
  have hG : ∀ w ∈ GW, w.before args s = true := fun w h => hts w (List.mem_cons_of_mem _ h)
  unfold B_X9_read_93 at h
  refine lv_iload_n hx hb dX9_read_93 rfl (lv_at hl 1 rfl) ?_
  refine lv_aload_n hx hb dX9_read_94 rfl (lv_at hl 0 rfl) ?_
  refine cg_X9_48 X hS dX9_read_95 ?_
  refine lv_icmp_lt (tgt := 113) hx hb dX9_read_98 (by decide) (fun c_2 => ?_) (fun c_2 => ?_)
  · have h := ip (c_2) h
    refine lv_aload_n hx hb dX9_read_113 rfl (lv_at hl 0 rfl) ?_
    refine lv_aload_n hx hb dX9_read_114 rfl (lv_at hl 0 rfl) ?_
    refine lv_iload_n hx hb dX9_read_115 rfl (lv_at hl 1 rfl) ?_
    obtain ⟨r_4, u_3, h_u_3, h⟩ := bc_of h
    refine kc_X9_readToken_RX9 X  hS h_u_3 (Nat.le_trans (Nat.le_of_ble_eq_true rfl) hF) (Nat.le_trans (Nat.le_of_ble_eq_true rfl) hL) hl.1 (Nat.le_of_ble_eq_true rfl) dX9_read_116 (fun H locs hS => ?_)
    refine lv_iload_n hx hb dX9_read_119 rfl (lv_at hl 1 rfl) ?_
    refine lv_icmp_le (tgt := 129) hx hb dX9_read_120 (by decide) (fun c_5 => ?_) (fun c_5 => ?_)
    · have h := ip (c_5) h
      refine lv_sipush (v := 131) hx hb dX9_read_129 (by decide) ?_
      exact b_X9_read_132 X hE  hF hL  h  hS (lv_sub hl [1] rfl)
    · have h := im (c_5) h
      refine lv_sipush (v := 132) hx hb dX9_read_123 (by decide) ?_
      refine lv_goto (tgt := 132) hx hb dX9_read_126 (by decide) ?_
      exact b_X9_read_132 X hE  hF hL  h  hS (lv_sub hl [1] rfl)
  · have h := im (c_2) h
    refine lv_aload_n hx hb dX9_read_101 rfl (lv_at hl 0 rfl) ?_
    refine lv_iconst (v := 0) hx hb dX9_read_102 (by decide) ?_
    refine lv_aload_n hx hb dX9_read_103 rfl (lv_at hl 0 rfl) ?_
    refine cg_X9_48 X hS dX9_read_104 ?_
    obtain ⟨r_u_6, u_6, h_u_6, h⟩ := bc_of h
    refine kc_X9_closeWith_RX9 X  hS h_u_6 (Nat.le_trans (Nat.le_of_ble_eq_true rfl) hF) (Nat.le_trans (Nat.le_of_ble_eq_true rfl) hL) hl.1 (Nat.le_of_ble_eq_true rfl) dX9_read_107 (fun H locs hS => ?_)
    refine lv_goto (tgt := 136) hx hb dX9_read_110 (by decide) ?_
    obtain ⟨-, rfl⟩ := so9 h
    exact hE _ _ _ _ hS dX9_read_136
def B_X9_read_33 (N : Nat) (R_33 : Int32 × Int32 × CSt → Option (Int32 × CSt)) (l2 : Int32) (l3 : Int32) (u : CSt) : Option (Int32 × CSt) := if (1500 : Int32) ≤ l3 then (B_X9_read_93 N l2 u) else (if (cI u 3) ≤ l2 then (B_X9_read_93 N l2 u) else (bc (F_X9_readToken N l2 u) fun r_10 u_9 => if l2 < r_10 then (pc (xI u_9 4 ((cI u_9 4) + 1)) fun u_12 => bc (F_X9_behindGap N r_10 u_12) fun r_14 u_13 => R_33 (r_14, (l3 + 1), u_13)) else (bc (F_X9_closeWith N 131 l2 u_9) fun _ u_15 => some (0, u_15))))
set_option maxHeartbeats 4000000 in
theorem b_X9_read_33 {r : Int32} (X : CC p s m args c cX9_read 5 (Cond.code yX9_read cX9_read 5 none) RX9 D kA V A) (hE : CEv p l e R s m args below meth c cX9_read D kA Z A Q w) (hF : 6 ≤ R.frames) (hL : 138 ≤ R.locals) {R_33 : Int32 × Int32 × CSt → Option (Int32 × CSt)} {l2 : Int32} {l3 : Int32} {u : CSt} (hR_33 : ∀ (l2 : Int32) (l3 : Int32) (u : CSt), R_33 (l2, l3, u) = some (r, w) → ∀ (H : Heap) (locs : List Loc) (ls : Array Slot), CS D kA Z A s u H locs → lv_has ls 5 [(0, .ref (Z 202)), (2, .int l2), (3, .int l3)] → W p l e R s m args below meth c H locs 0 0 Q (F0 m 33 ls [])) (h : B_X9_read_33 N R_33 l2 l3 u = some (r, w))  (hS : CS D kA Z A s u H locs) (hl : lv_has ls 5 [(0, .ref (Z 202)), (2, .int l2), (3, .int l3)]) : W p l e R s m args below meth c H locs 0 0 Q (F0 m 33 ls []) := by
  obtain ⟨⟨hx, hb, hml, hown, hts⟩, hK, hEV, hA⟩ := id X
  have hG : ∀ w ∈ GW, w.before args s = true := fun w h => hts w (List.mem_cons_of_mem _ h)
  unfold B_X9_read_33 at h
  refine lv_iload_n hx hb dX9_read_33 rfl (lv_at hl 2 rfl) ?_
  refine lv_sipush (v := 1500) hx hb dX9_read_34 (by decide) ?_
  refine lv_icmp_ge (tgt := 93) hx hb dX9_read_37 (by decide) (fun c_7 => ?_) (fun c_7 => ?_)
  · have h := ip (c_7) h
    exact b_X9_read_93 X hE  hF hL  h  hS (lv_sub hl [0, 1] rfl)
  · have h := im (c_7) h
    refine lv_iload_n hx hb dX9_read_40 rfl (lv_at hl 1 rfl) ?_
    refine lv_aload_n hx hb dX9_read_41 rfl (lv_at hl 0 rfl) ?_
    refine cg_X9_48 X hS dX9_read_42 ?_
    refine lv_icmp_ge (tgt := 93) hx hb dX9_read_45 (by decide) (fun c_8 => ?_) (fun c_8 => ?_)
    · have h := ip (c_8) h
      exact b_X9_read_93 X hE  hF hL  h  hS (lv_sub hl [0, 1] rfl)
    · have h := im (c_8) h
      refine lv_aload_n hx hb dX9_read_48 rfl (lv_at hl 0 rfl) ?_
      refine lv_iload_n hx hb dX9_read_49 rfl (lv_at hl 1 rfl) ?_
      obtain ⟨r_10, u_9, h_u_9, h⟩ := bc_of h
      refine kc_X9_readToken_RX9 X  hS h_u_9 (Nat.le_trans (Nat.le_of_ble_eq_true rfl) hF) (Nat.le_trans (Nat.le_of_ble_eq_true rfl) hL) hl.1 (Nat.le_of_ble_eq_true rfl) dX9_read_50 (fun H locs hS => ?_)
      refine lv_istore (lv' := [(4, .int r_10), (0, .ref (Z 202)), (2, .int l2), (3, .int l3)]) hx hb dX9_read_53 hl (by decide) rfl (fun ls hl => ?_)
      refine lv_iload hx hb dX9_read_55 (lv_at hl 0 rfl) ?_
      refine lv_iload_n hx hb dX9_read_57 rfl (lv_at hl 2 rfl) ?_
      refine lv_icmp_gt (tgt := 70) hx hb dX9_read_58 (by decide) (fun c_11 => ?_) (fun c_11 => ?_)
      · have h := ip (c_11) h
        refine lv_aload_n hx hb dX9_read_70 rfl (lv_at hl 1 rfl) ?_
        refine lv_dup hx hb dX9_read_71 rfl ?_
        refine cg_X9_50 X hS dX9_read_72 ?_
        refine lv_iconst (v := 1) hx hb dX9_read_75 (by decide) ?_
        refine lv_iadd hx hb dX9_read_76 ?_
        obtain ⟨u_12, e_u_12, h⟩ := pc_of h
        refine cp_X9_50 X hS e_u_12 dX9_read_77 (fun H locs hS => ?_)
        refine lv_aload_n hx hb dX9_read_80 rfl (lv_at hl 1 rfl) ?_
        refine lv_iload hx hb dX9_read_81 (lv_at hl 0 rfl) ?_
        obtain ⟨r_14, u_13, h_u_13, h⟩ := bc_of h
        refine kc_X9_behindGap_RX9 X  hS h_u_13 (Nat.le_trans (Nat.le_of_ble_eq_true rfl) hF) (Nat.le_trans (Nat.le_of_ble_eq_true rfl) hL) hl.1 (Nat.le_of_ble_eq_true rfl) dX9_read_83 (fun H locs hS => ?_)
        refine lv_istore_n (lv' := [(2, .int r_14), (4, .int r_10), (0, .ref (Z 202)), (3, .int l3)]) hx hb dX9_read_86 rfl hl (by decide) rfl (fun ls hl => ?_)
        refine lv_iinc (v := l3 + 1) (lv' := [(3, .int (l3 + 1)), (2, .int r_14), (4, .int r_10), (0, .ref (Z 202))]) hx hb dX9_read_87 hl (k := 3) rfl rfl (by decide) rfl (fun ls hl => ?_)
        refine lv_goto (tgt := 33) hx hb dX9_read_90 (by decide) ?_
        exact hR_33 _ _ _  h _ _ _ hS (lv_sub hl [3, 1, 0] rfl)
      · have h := im (c_11) h
        refine lv_aload_n hx hb dX9_read_61 rfl (lv_at hl 1 rfl) ?_
        refine lv_sipush (v := 131) hx hb dX9_read_62 (by decide) ?_
        refine lv_iload_n hx hb dX9_read_65 rfl (lv_at hl 2 rfl) ?_
        obtain ⟨r_u_15, u_15, h_u_15, h⟩ := bc_of h
        refine kc_X9_closeWith_RX9 X  hS h_u_15 (Nat.le_trans (Nat.le_of_ble_eq_true rfl) hF) (Nat.le_trans (Nat.le_of_ble_eq_true rfl) hL) hl.1 (Nat.le_of_ble_eq_true rfl) dX9_read_66 (fun H locs hS => ?_)
        obtain ⟨-, rfl⟩ := so9 h
        exact hE _ _ _ _ hS dX9_read_69
def LP_X9_read_33 (N : Nat) : Nat → Int32 × Int32 × CSt → Option (Int32 × CSt) := lp (fun R a => B_X9_read_33 N R a.1 a.2.1 a.2.2)
theorem bl_X9_read_33 {r : Int32} (X : CC p s m args c cX9_read 5 (Cond.code yX9_read cX9_read 5 none) RX9 D kA V A) (hE : CEv p l e R s m args below meth c cX9_read D kA Z A Q w) (hF : 6 ≤ R.frames) (hL : 138 ≤ R.locals)  : ∀ (n : Nat) (l2 : Int32) (l3 : Int32) (u : CSt), LP_X9_read_33 N n (l2, l3, u) = some (r, w) → ∀ (H : Heap) (locs : List Loc) (ls : Array Slot), CS D kA Z A s u H locs → lv_has ls 5 [(0, .ref (Z 202)), (2, .int l2), (3, .int l3)] → W p l e R s m args below meth c H locs 0 0 Q (F0 m 33 ls []) := by
  intro n
  induction n with
  | zero => intro l2 l3 u h; exact nomatch h
  | succ n ih => intro l2 l3 u h H locs ls hS hl; exact b_X9_read_33 (N := N) (R_33 := LP_X9_read_33 N n) X hE  hF hL  ih h  hS hl
def B_X9_read_0 (N : Nat) (l1 : Int32) (u : CSt) : Option (Int32 × CSt) := pc (xI u 3 l1) fun u_16 => pc (xI u_16 4 0) fun u_17 => pc (xI u_17 5 0) fun u_18 => pc (xI u_18 6 0) fun u_19 => pc (xI u_19 7 (-1)) fun u_20 => bc (F_X9_behindGap N 0 u_20) fun r_22 u_21 => LP_X9_read_33 N N (r_22, 0, u_21)
set_option maxHeartbeats 4000000 in
theorem b_X9_read_0 {r : Int32} (X : CC p s m args c cX9_read 5 (Cond.code yX9_read cX9_read 5 none) RX9 D kA V A) (hE : CEv p l e R s m args below meth c cX9_read D kA Z A Q w) (hF : 6 ≤ R.frames) (hL : 138 ≤ R.locals) {l1 : Int32} {u : CSt}  (h : B_X9_read_0 N l1 u = some (r, w))  (hS : CS D kA Z A s u H locs) (hl : lv_has ls 5 [(0, .ref (Z 202)), (1, .int l1)]) : W p l e R s m args below meth c H locs 0 0 Q (F0 m 0 ls []) := by
  obtain ⟨⟨hx, hb, hml, hown, hts⟩, hK, hEV, hA⟩ := id X
  have hG : ∀ w ∈ GW, w.before args s = true := fun w h => hts w (List.mem_cons_of_mem _ h)
  unfold B_X9_read_0 at h
  refine lv_aload_n hx hb dX9_read_0 rfl (lv_at hl 0 rfl) ?_
  refine lv_iload_n hx hb dX9_read_1 rfl (lv_at hl 1 rfl) ?_
  obtain ⟨u_16, e_u_16, h⟩ := pc_of h
  refine cp_X9_48 X hS e_u_16 dX9_read_2 (fun H locs hS => ?_)
  refine lv_aload_n hx hb dX9_read_5 rfl (lv_at hl 0 rfl) ?_
  refine lv_iconst (v := 0) hx hb dX9_read_6 (by decide) ?_
  obtain ⟨u_17, e_u_17, h⟩ := pc_of h
  refine cp_X9_50 X hS e_u_17 dX9_read_7 (fun H locs hS => ?_)
  refine lv_aload_n hx hb dX9_read_10 rfl (lv_at hl 0 rfl) ?_
  refine lv_iconst (v := 0) hx hb dX9_read_11 (by decide) ?_
  obtain ⟨u_18, e_u_18, h⟩ := pc_of h
  refine cp_X9_53 X hS e_u_18 dX9_read_12 (fun H locs hS => ?_)
  refine lv_aload_n hx hb dX9_read_15 rfl (lv_at hl 0 rfl) ?_
  refine lv_iconst (v := 0) hx hb dX9_read_16 (by decide) ?_
  obtain ⟨u_19, e_u_19, h⟩ := pc_of h
  refine cp_X9_56 X hS e_u_19 dX9_read_17 (fun H locs hS => ?_)
  refine lv_aload_n hx hb dX9_read_20 rfl (lv_at hl 0 rfl) ?_
  refine lv_iconst (v := (-1)) hx hb dX9_read_21 (by decide) ?_
  obtain ⟨u_20, e_u_20, h⟩ := pc_of h
  refine cp_X9_32 X hS e_u_20 dX9_read_22 (fun H locs hS => ?_)
  refine lv_aload_n hx hb dX9_read_25 rfl (lv_at hl 0 rfl) ?_
  refine lv_iconst (v := 0) hx hb dX9_read_26 (by decide) ?_
  obtain ⟨r_22, u_21, h_u_21, h⟩ := bc_of h
  refine kc_X9_behindGap_RX9 X  hS h_u_21 (Nat.le_trans (Nat.le_of_ble_eq_true rfl) hF) (Nat.le_trans (Nat.le_of_ble_eq_true rfl) hL) hl.1 (Nat.le_of_ble_eq_true rfl) dX9_read_27 (fun H locs hS => ?_)
  refine lv_istore_n (lv' := [(2, .int r_22), (0, .ref (Z 202)), (1, .int l1)]) hx hb dX9_read_30 rfl hl (by decide) rfl (fun ls hl => ?_)
  refine lv_iconst (v := 0) hx hb dX9_read_31 (by decide) ?_
  refine lv_istore_n (lv' := [(3, .int 0), (2, .int r_22), (0, .ref (Z 202)), (1, .int l1)]) hx hb dX9_read_32 rfl hl (by decide) rfl (fun ls hl => ?_)
  exact bl_X9_read_33 X hE  hF hL  _ _ _ _  h _ _ _ hS (lv_sub hl [2, 1, 0] rfl)
def F_X9_read (N : Nat) (l1 : Int32) (u : CSt) : Option (Int32 × CSt) := B_X9_read_0 N l1 u
set_option maxHeartbeats 4000000 in
theorem k_X9_read (l : Launch) (D : va_G) (kA : Nat → ClassId) (V Z : Nat → Nat) (N : Nat) (l1 : Int32) (u : CSt) (sz : Nat) {r : Int32} {w : CSt} (h : F_X9_read N l1 u = some (r, w)) : Met l yX9_read (Cond.code yX9_read cX9_read 5 none :: GW) { frames := 6, cells := 0, slots := 0, locals := 138 } (cPc D kA V Z [.ref (Z 202), .int l1] u sz) (cQv D kA Z u sz w) 0 0 (va_A (CW kA Z u) sz) := by
  refine Met.ofW (cc := cX9_read) (maxL := 5) (ret := none) (by decide) rfl ?_
  intro p e s m args below meth c s₁ Bd hml hv
  obtain ⟨rfl, hsz, hP, hK, hD0, hE⟩ := hv
  have hts := atoms_spec (ws := Cond.code yX9_read cX9_read 5 none :: GW) Bd.pre
  have hl := lv_entry ([.ref (Z 202), .int l1]) (n := 5) (Nat.le_of_ble_eq_true rfl)
  rw [lg_entry_eq]
  generalize (lg_sl ([.ref (Z 202), .int l1]) ++ List.replicate (5 - (lg_sl ([.ref (Z 202), .int l1])).length) Slot.unset).toArray = ls at hl ⊢
  have hl : lv_has ls 5 [(0, .ref (Z 202)), (1, .int l1)] := hl
  subst hsz
  have X : CC p s m ([.ref (Z 202), .int l1]).toArray c cX9_read 5 (Cond.code yX9_read cX9_read 5 none) RX9 D kA V (va_A (CW kA Z u) s.heap.size) := ⟨⟨Bd.exec, Bd.bytes, hml, findClass_of_methodNamed Bd.named, hts⟩, hK, hE, fun q h => Or.inr h⟩
  refine b_X9_read_0 X (cend_v X Bd.returns Bd.notSynchronized) (Nat.le_refl _) (Nat.le_refl _) h  ⟨hP, hD0.self, va_S.rf⟩ (lv_sub hl [0, 1] rfl)
theorem kc_X9_read_RX11 {cc : ByteArray} {pc nL : Nat} {c0 : Cond} {rest : List Value} {l1 : Int32} {u w1 : CSt} {r : Int32} (X : CC p s m args c cc nL c0 RX11 D kA V A)  (hS : CS D kA Z A s u H locs) (h : F_X9_read N l1 u = some (r, w1)) (hF : 6 + 1 ≤ R.frames) (hL : 8 + (5 + 11) + 138 ≤ R.locals) (hl : ls.size = nL) (hc : (rest.map fun v => v.category).sum ≤ 8) (hdg : decode cc pc = .ok (.invokevirtual 84, 3)) (kk : ∀ H locs, CS D kA Z A s w1 H locs → W p l e R s m args below meth c H locs 0 0 Q (F0 m (pc + 3) ls (rest))) : W p l e R s m args below meth c H locs 0 0 Q (F0 m pc ls (.int l1 :: .ref (Z 202) :: rest)) :=
  ccall_v (n := 1) X hS (k_X9_read l D kA V Z N l1  u H.size h) (gw_V gw_619 gw_620 gw_621 gw_2 gw_622) (by decide +kernel) (va_recv X.2.1 hS.1 (ci := 8) (q0 := 2) rfl (cw_lit rfl)) hF hL rfl hl hc rfl hdg kk
end C34tokens
