abbrev cX12_see : ByteArray := prog_14_method_2_code
def yX12_see : MethodName := ⟨RX12, "see", "(I)I"⟩
theorem dX12_see_0 : decode cX12_see 0 = .ok (.iload_n 1, 1) := by decide +kernel
theorem dX12_see_1 : decode cX12_see 1 = .ok (.aload_n 0, 1) := by decide +kernel
theorem dX12_see_2 : decode cX12_see 2 = .ok (.getfield 7, 3) := by decide +kernel
theorem dX12_see_5 : decode cX12_see 5 = .ok (.if_icmp .ge 12, 3) := by decide +kernel
theorem dX12_see_8 : decode cX12_see 8 = .ok (.aload_n 0, 1) := by decide +kernel
theorem dX12_see_9 : decode cX12_see 9 = .ok (.getfield 10, 3) := by decide +kernel
theorem dX12_see_12 : decode cX12_see 12 = .ok (.iload_n 1, 1) := by decide +kernel
theorem dX12_see_13 : decode cX12_see 13 = .ok (.iaload, 1) := by decide +kernel
theorem dX12_see_14 : decode cX12_see 14 = .ok (.goto 4, 3) := by decide +kernel
theorem dX12_see_17 : decode cX12_see 17 = .ok (.iconst (-1), 1) := by decide +kernel
theorem dX12_see_18 : decode cX12_see 18 = .ok (.ireturn, 1) := by decide +kernel
abbrev cX12_bad : ByteArray := prog_14_method_14_code
def yX12_bad : MethodName := ⟨RX12, "bad", "(II)V"⟩
theorem dX12_bad_0 : decode cX12_bad 0 = .ok (.aload_n 0, 1) := by decide +kernel
theorem dX12_bad_1 : decode cX12_bad 1 = .ok (.getfield 95, 3) := by decide +kernel
theorem dX12_bad_4 : decode cX12_bad 4 = .ok (.ifCond .eq 4, 3) := by decide +kernel
theorem dX12_bad_7 : decode cX12_bad 7 = .ok (.return_, 1) := by decide +kernel
theorem dX12_bad_8 : decode cX12_bad 8 = .ok (.aload_n 0, 1) := by decide +kernel
theorem dX12_bad_9 : decode cX12_bad 9 = .ok (.iload_n 1, 1) := by decide +kernel
theorem dX12_bad_10 : decode cX12_bad 10 = .ok (.putfield 95, 3) := by decide +kernel
theorem dX12_bad_13 : decode cX12_bad 13 = .ok (.aload_n 0, 1) := by decide +kernel
theorem dX12_bad_14 : decode cX12_bad 14 = .ok (.iload_n 2, 1) := by decide +kernel
theorem dX12_bad_15 : decode cX12_bad 15 = .ok (.putfield 98, 3) := by decide +kernel
theorem dX12_bad_18 : decode cX12_bad 18 = .ok (.return_, 1) := by decide +kernel
abbrev cX12_wrong : ByteArray := prog_14_method_15_code
def yX12_wrong : MethodName := ⟨RX12, "wrong", "(ZII)V"⟩
theorem dX12_wrong_0 : decode cX12_wrong 0 = .ok (.iload_n 1, 1) := by decide +kernel
theorem dX12_wrong_1 : decode cX12_wrong 1 = .ok (.ifCond .eq 16, 3) := by decide +kernel
theorem dX12_wrong_4 : decode cX12_wrong 4 = .ok (.aload_n 0, 1) := by decide +kernel
theorem dX12_wrong_5 : decode cX12_wrong 5 = .ok (.getfield 101, 3) := by decide +kernel
theorem dX12_wrong_8 : decode cX12_wrong 8 = .ok (.ifCond .eq 9, 3) := by decide +kernel
theorem dX12_wrong_11 : decode cX12_wrong 11 = .ok (.aload_n 0, 1) := by decide +kernel
theorem dX12_wrong_12 : decode cX12_wrong 12 = .ok (.iload_n 2, 1) := by decide +kernel
theorem dX12_wrong_13 : decode cX12_wrong 13 = .ok (.iload_n 3, 1) := by decide +kernel
theorem dX12_wrong_14 : decode cX12_wrong 14 = .ok (.invokevirtual 105, 3) := by decide +kernel
theorem dX12_wrong_17 : decode cX12_wrong 17 = .ok (.return_, 1) := by decide +kernel
abbrev cX12_is : ByteArray := prog_14_method_16_code
def yX12_is : MethodName := ⟨RX12, "is", "(I)Z"⟩
theorem dX12_is_0 : decode cX12_is 0 = .ok (.aload_n 0, 1) := by decide +kernel
theorem dX12_is_1 : decode cX12_is 1 = .ok (.getfield 95, 3) := by decide +kernel
theorem dX12_is_4 : decode cX12_is 4 = .ok (.ifCond .ne 20, 3) := by decide +kernel
theorem dX12_is_7 : decode cX12_is 7 = .ok (.aload_n 0, 1) := by decide +kernel
theorem dX12_is_8 : decode cX12_is 8 = .ok (.getfield 38, 3) := by decide +kernel
theorem dX12_is_11 : decode cX12_is 11 = .ok (.aload_n 0, 1) := by decide +kernel
theorem dX12_is_12 : decode cX12_is 12 = .ok (.getfield 109, 3) := by decide +kernel
theorem dX12_is_15 : decode cX12_is 15 = .ok (.iaload, 1) := by decide +kernel
theorem dX12_is_16 : decode cX12_is 16 = .ok (.iload_n 1, 1) := by decide +kernel
theorem dX12_is_17 : decode cX12_is 17 = .ok (.if_icmp .ne 7, 3) := by decide +kernel
theorem dX12_is_20 : decode cX12_is 20 = .ok (.iconst 1, 1) := by decide +kernel
theorem dX12_is_21 : decode cX12_is 21 = .ok (.goto 4, 3) := by decide +kernel
theorem dX12_is_24 : decode cX12_is 24 = .ok (.iconst 0, 1) := by decide +kernel
theorem dX12_is_25 : decode cX12_is 25 = .ok (.ireturn, 1) := by decide +kernel
abbrev cX12_isNext : ByteArray := prog_14_method_17_code
def yX12_isNext : MethodName := ⟨RX12, "isNext", "(I)Z"⟩
theorem dX12_isNext_0 : decode cX12_isNext 0 = .ok (.aload_n 0, 1) := by decide +kernel
theorem dX12_isNext_1 : decode cX12_isNext 1 = .ok (.getfield 95, 3) := by decide +kernel
theorem dX12_isNext_4 : decode cX12_isNext 4 = .ok (.ifCond .ne 35, 3) := by decide +kernel
theorem dX12_isNext_7 : decode cX12_isNext 7 = .ok (.aload_n 0, 1) := by decide +kernel
theorem dX12_isNext_8 : decode cX12_isNext 8 = .ok (.getfield 38, 3) := by decide +kernel
theorem dX12_isNext_11 : decode cX12_isNext 11 = .ok (.aload_n 0, 1) := by decide +kernel
theorem dX12_isNext_12 : decode cX12_isNext 12 = .ok (.getfield 109, 3) := by decide +kernel
theorem dX12_isNext_15 : decode cX12_isNext 15 = .ok (.iaload, 1) := by decide +kernel
theorem dX12_isNext_16 : decode cX12_isNext 16 = .ok (.iconst 5, 1) := by decide +kernel
theorem dX12_isNext_17 : decode cX12_isNext 17 = .ok (.if_icmp .eq 22, 3) := by decide +kernel
theorem dX12_isNext_20 : decode cX12_isNext 20 = .ok (.aload_n 0, 1) := by decide +kernel
theorem dX12_isNext_21 : decode cX12_isNext 21 = .ok (.getfield 38, 3) := by decide +kernel
theorem dX12_isNext_24 : decode cX12_isNext 24 = .ok (.aload_n 0, 1) := by decide +kernel
theorem dX12_isNext_25 : decode cX12_isNext 25 = .ok (.getfield 109, 3) := by decide +kernel
theorem dX12_isNext_28 : decode cX12_isNext 28 = .ok (.iconst 1, 1) := by decide +kernel
theorem dX12_isNext_29 : decode cX12_isNext 29 = .ok (.iadd, 1) := by decide +kernel
theorem dX12_isNext_30 : decode cX12_isNext 30 = .ok (.iaload, 1) := by decide +kernel
theorem dX12_isNext_31 : decode cX12_isNext 31 = .ok (.iload_n 1, 1) := by decide +kernel
theorem dX12_isNext_32 : decode cX12_isNext 32 = .ok (.if_icmp .ne 7, 3) := by decide +kernel
theorem dX12_isNext_35 : decode cX12_isNext 35 = .ok (.iconst 1, 1) := by decide +kernel
theorem dX12_isNext_36 : decode cX12_isNext 36 = .ok (.goto 4, 3) := by decide +kernel
theorem dX12_isNext_39 : decode cX12_isNext 39 = .ok (.iconst 0, 1) := by decide +kernel
theorem dX12_isNext_40 : decode cX12_isNext 40 = .ok (.ireturn, 1) := by decide +kernel
abbrev cX12_stuck : ByteArray := prog_14_method_18_code
def yX12_stuck : MethodName := ⟨RX12, "stuck", "()V"⟩
theorem dX12_stuck_0 : decode cX12_stuck 0 = .ok (.aload_n 0, 1) := by decide +kernel
theorem dX12_stuck_1 : decode cX12_stuck 1 = .ok (.aload_n 0, 1) := by decide +kernel
theorem dX12_stuck_2 : decode cX12_stuck 2 = .ok (.getfield 38, 3) := by decide +kernel
theorem dX12_stuck_5 : decode cX12_stuck 5 = .ok (.aload_n 0, 1) := by decide +kernel
theorem dX12_stuck_6 : decode cX12_stuck 6 = .ok (.getfield 109, 3) := by decide +kernel
theorem dX12_stuck_9 : decode cX12_stuck 9 = .ok (.iaload, 1) := by decide +kernel
theorem dX12_stuck_10 : decode cX12_stuck 10 = .ok (.ifCond .ne 7, 3) := by decide +kernel
theorem dX12_stuck_13 : decode cX12_stuck 13 = .ok (.iconst 1, 1) := by decide +kernel
theorem dX12_stuck_14 : decode cX12_stuck 14 = .ok (.goto 4, 3) := by decide +kernel
theorem dX12_stuck_17 : decode cX12_stuck 17 = .ok (.iconst 2, 1) := by decide +kernel
theorem dX12_stuck_18 : decode cX12_stuck 18 = .ok (.aload_n 0, 1) := by decide +kernel
theorem dX12_stuck_19 : decode cX12_stuck 19 = .ok (.getfield 35, 3) := by decide +kernel
theorem dX12_stuck_22 : decode cX12_stuck 22 = .ok (.aload_n 0, 1) := by decide +kernel
theorem dX12_stuck_23 : decode cX12_stuck 23 = .ok (.getfield 109, 3) := by decide +kernel
theorem dX12_stuck_26 : decode cX12_stuck 26 = .ok (.iaload, 1) := by decide +kernel
theorem dX12_stuck_27 : decode cX12_stuck 27 = .ok (.invokevirtual 105, 3) := by decide +kernel
theorem dX12_stuck_30 : decode cX12_stuck 30 = .ok (.return_, 1) := by decide +kernel
abbrev cX12_take : ByteArray := prog_14_method_19_code
def yX12_take : MethodName := ⟨RX12, "take", "(I)V"⟩
theorem dX12_take_0 : decode cX12_take 0 = .ok (.aload_n 0, 1) := by decide +kernel
theorem dX12_take_1 : decode cX12_take 1 = .ok (.iload_n 1, 1) := by decide +kernel
theorem dX12_take_2 : decode cX12_take 2 = .ok (.invokevirtual 112, 3) := by decide +kernel
theorem dX12_take_5 : decode cX12_take 5 = .ok (.ifCond .eq 16, 3) := by decide +kernel
theorem dX12_take_8 : decode cX12_take 8 = .ok (.aload_n 0, 1) := by decide +kernel
theorem dX12_take_9 : decode cX12_take 9 = .ok (.dup, 1) := by decide +kernel
theorem dX12_take_10 : decode cX12_take 10 = .ok (.getfield 109, 3) := by decide +kernel
theorem dX12_take_13 : decode cX12_take 13 = .ok (.iconst 1, 1) := by decide +kernel
theorem dX12_take_14 : decode cX12_take 14 = .ok (.iadd, 1) := by decide +kernel
theorem dX12_take_15 : decode cX12_take 15 = .ok (.putfield 109, 3) := by decide +kernel
theorem dX12_take_18 : decode cX12_take 18 = .ok (.goto 7, 3) := by decide +kernel
theorem dX12_take_21 : decode cX12_take 21 = .ok (.aload_n 0, 1) := by decide +kernel
theorem dX12_take_22 : decode cX12_take 22 = .ok (.invokevirtual 115, 3) := by decide +kernel
theorem dX12_take_25 : decode cX12_take 25 = .ok (.return_, 1) := by decide +kernel
abbrev cX12_has : ByteArray := prog_14_method_20_code
def yX12_has : MethodName := ⟨RX12, "has", "(I)Z"⟩
theorem dX12_has_0 : decode cX12_has 0 = .ok (.aload_n 0, 1) := by decide +kernel
theorem dX12_has_1 : decode cX12_has 1 = .ok (.iload_n 1, 1) := by decide +kernel
theorem dX12_has_2 : decode cX12_has 2 = .ok (.invokevirtual 112, 3) := by decide +kernel
theorem dX12_has_5 : decode cX12_has 5 = .ok (.istore_n 2, 1) := by decide +kernel
theorem dX12_has_6 : decode cX12_has 6 = .ok (.iload_n 2, 1) := by decide +kernel
theorem dX12_has_7 : decode cX12_has 7 = .ok (.ifCond .eq 13, 3) := by decide +kernel
theorem dX12_has_10 : decode cX12_has 10 = .ok (.aload_n 0, 1) := by decide +kernel
theorem dX12_has_11 : decode cX12_has 11 = .ok (.dup, 1) := by decide +kernel
theorem dX12_has_12 : decode cX12_has 12 = .ok (.getfield 109, 3) := by decide +kernel
theorem dX12_has_15 : decode cX12_has 15 = .ok (.iconst 1, 1) := by decide +kernel
theorem dX12_has_16 : decode cX12_has 16 = .ok (.iadd, 1) := by decide +kernel
theorem dX12_has_17 : decode cX12_has 17 = .ok (.putfield 109, 3) := by decide +kernel
theorem dX12_has_20 : decode cX12_has 20 = .ok (.iload_n 2, 1) := by decide +kernel
theorem dX12_has_21 : decode cX12_has 21 = .ok (.ireturn, 1) := by decide +kernel
abbrev cX12_opens : ByteArray := prog_14_method_21_code
def yX12_opens : MethodName := ⟨RX12, "opens", "()V"⟩
theorem dX12_opens_0 : decode cX12_opens 0 = .ok (.aload_n 0, 1) := by decide +kernel
theorem dX12_opens_1 : decode cX12_opens 1 = .ok (.dup, 1) := by decide +kernel
theorem dX12_opens_2 : decode cX12_opens 2 = .ok (.getfield 119, 3) := by decide +kernel
theorem dX12_opens_5 : decode cX12_opens 5 = .ok (.iconst 1, 1) := by decide +kernel
theorem dX12_opens_6 : decode cX12_opens 6 = .ok (.iadd, 1) := by decide +kernel
theorem dX12_opens_7 : decode cX12_opens 7 = .ok (.putfield 119, 3) := by decide +kernel
theorem dX12_opens_10 : decode cX12_opens 10 = .ok (.aload_n 0, 1) := by decide +kernel
theorem dX12_opens_11 : decode cX12_opens 11 = .ok (.getfield 119, 3) := by decide +kernel
theorem dX12_opens_14 : decode cX12_opens 14 = .ok (.bipush 24, 2) := by decide +kernel
theorem dX12_opens_16 : decode cX12_opens 16 = .ok (.if_icmp .le 17, 3) := by decide +kernel
theorem dX12_opens_19 : decode cX12_opens 19 = .ok (.aload_n 0, 1) := by decide +kernel
theorem dX12_opens_20 : decode cX12_opens 20 = .ok (.iconst 2, 1) := by decide +kernel
theorem dX12_opens_21 : decode cX12_opens 21 = .ok (.aload_n 0, 1) := by decide +kernel
theorem dX12_opens_22 : decode cX12_opens 22 = .ok (.getfield 35, 3) := by decide +kernel
theorem dX12_opens_25 : decode cX12_opens 25 = .ok (.aload_n 0, 1) := by decide +kernel
theorem dX12_opens_26 : decode cX12_opens 26 = .ok (.getfield 109, 3) := by decide +kernel
theorem dX12_opens_29 : decode cX12_opens 29 = .ok (.iaload, 1) := by decide +kernel
theorem dX12_opens_30 : decode cX12_opens 30 = .ok (.invokevirtual 105, 3) := by decide +kernel
theorem dX12_opens_33 : decode cX12_opens 33 = .ok (.return_, 1) := by decide +kernel
abbrev cX12_begins : ByteArray := prog_14_method_22_code
def yX12_begins : MethodName := ⟨RX12, "begins", "(I)V"⟩
theorem dX12_begins_0 : decode cX12_begins 0 = .ok (.aload_n 0, 1) := by decide +kernel
theorem dX12_begins_1 : decode cX12_begins 1 = .ok (.iload_n 1, 1) := by decide +kernel
theorem dX12_begins_2 : decode cX12_begins 2 = .ok (.invokevirtual 112, 3) := by decide +kernel
theorem dX12_begins_5 : decode cX12_begins 5 = .ok (.ifCond .ne 8, 3) := by decide +kernel
theorem dX12_begins_8 : decode cX12_begins 8 = .ok (.aload_n 0, 1) := by decide +kernel
theorem dX12_begins_9 : decode cX12_begins 9 = .ok (.invokevirtual 115, 3) := by decide +kernel
theorem dX12_begins_12 : decode cX12_begins 12 = .ok (.return_, 1) := by decide +kernel
theorem dX12_begins_13 : decode cX12_begins 13 = .ok (.aload_n 0, 1) := by decide +kernel
theorem dX12_begins_14 : decode cX12_begins 14 = .ok (.invokevirtual 122, 3) := by decide +kernel
theorem dX12_begins_17 : decode cX12_begins 17 = .ok (.aload_n 0, 1) := by decide +kernel
theorem dX12_begins_18 : decode cX12_begins 18 = .ok (.getfield 95, 3) := by decide +kernel
theorem dX12_begins_21 : decode cX12_begins 21 = .ok (.ifCond .ne 13, 3) := by decide +kernel
theorem dX12_begins_24 : decode cX12_begins 24 = .ok (.aload_n 0, 1) := by decide +kernel
theorem dX12_begins_25 : decode cX12_begins 25 = .ok (.dup, 1) := by decide +kernel
theorem dX12_begins_26 : decode cX12_begins 26 = .ok (.getfield 109, 3) := by decide +kernel
theorem dX12_begins_29 : decode cX12_begins 29 = .ok (.iconst 1, 1) := by decide +kernel
theorem dX12_begins_30 : decode cX12_begins 30 = .ok (.iadd, 1) := by decide +kernel
theorem dX12_begins_31 : decode cX12_begins 31 = .ok (.putfield 109, 3) := by decide +kernel
theorem dX12_begins_34 : decode cX12_begins 34 = .ok (.return_, 1) := by decide +kernel
abbrev cX12_ends : ByteArray := prog_14_method_23_code
def yX12_ends : MethodName := ⟨RX12, "ends", "(I)V"⟩
theorem dX12_ends_0 : decode cX12_ends 0 = .ok (.aload_n 0, 1) := by decide +kernel
theorem dX12_ends_1 : decode cX12_ends 1 = .ok (.iload_n 1, 1) := by decide +kernel
theorem dX12_ends_2 : decode cX12_ends 2 = .ok (.invokevirtual 125, 3) := by decide +kernel
theorem dX12_ends_5 : decode cX12_ends 5 = .ok (.aload_n 0, 1) := by decide +kernel
theorem dX12_ends_6 : decode cX12_ends 6 = .ok (.dup, 1) := by decide +kernel
theorem dX12_ends_7 : decode cX12_ends 7 = .ok (.getfield 119, 3) := by decide +kernel
theorem dX12_ends_10 : decode cX12_ends 10 = .ok (.iconst 1, 1) := by decide +kernel
theorem dX12_ends_11 : decode cX12_ends 11 = .ok (.isub, 1) := by decide +kernel
theorem dX12_ends_12 : decode cX12_ends 12 = .ok (.putfield 119, 3) := by decide +kernel
theorem dX12_ends_15 : decode cX12_ends 15 = .ok (.return_, 1) := by decide +kernel
abbrev cX12_isNumber : ByteArray := prog_14_method_24_code
def yX12_isNumber : MethodName := ⟨RX12, "isNumber", "()Z"⟩
theorem dX12_isNumber_0 : decode cX12_isNumber 0 = .ok (.aload_n 0, 1) := by decide +kernel
theorem dX12_isNumber_1 : decode cX12_isNumber 1 = .ok (.iconst 2, 1) := by decide +kernel
theorem dX12_isNumber_2 : decode cX12_isNumber 2 = .ok (.invokevirtual 112, 3) := by decide +kernel
theorem dX12_isNumber_5 : decode cX12_isNumber 5 = .ok (.ifCond .ne 11, 3) := by decide +kernel
theorem dX12_isNumber_8 : decode cX12_isNumber 8 = .ok (.aload_n 0, 1) := by decide +kernel
theorem dX12_isNumber_9 : decode cX12_isNumber 9 = .ok (.iconst 3, 1) := by decide +kernel
theorem dX12_isNumber_10 : decode cX12_isNumber 10 = .ok (.invokevirtual 112, 3) := by decide +kernel
theorem dX12_isNumber_13 : decode cX12_isNumber 13 = .ok (.ifCond .eq 7, 3) := by decide +kernel
theorem dX12_isNumber_16 : decode cX12_isNumber 16 = .ok (.iconst 1, 1) := by decide +kernel
theorem dX12_isNumber_17 : decode cX12_isNumber 17 = .ok (.goto 4, 3) := by decide +kernel
theorem dX12_isNumber_20 : decode cX12_isNumber 20 = .ok (.iconst 0, 1) := by decide +kernel
theorem dX12_isNumber_21 : decode cX12_isNumber 21 = .ok (.ireturn, 1) := by decide +kernel
abbrev cX12_emit : ByteArray := prog_14_method_25_code
def yX12_emit : MethodName := ⟨RX12, "emit", "(III)I"⟩
theorem dX12_emit_0 : decode cX12_emit 0 = .ok (.aload_n 0, 1) := by decide +kernel
theorem dX12_emit_1 : decode cX12_emit 1 = .ok (.getfield 101, 3) := by decide +kernel
theorem dX12_emit_4 : decode cX12_emit 4 = .ok (.ifCond .eq 10, 3) := by decide +kernel
theorem dX12_emit_7 : decode cX12_emit 7 = .ok (.aload_n 0, 1) := by decide +kernel
theorem dX12_emit_8 : decode cX12_emit 8 = .ok (.getfield 95, 3) := by decide +kernel
theorem dX12_emit_11 : decode cX12_emit 11 = .ok (.ifCond .eq 5, 3) := by decide +kernel
theorem dX12_emit_14 : decode cX12_emit 14 = .ok (.iconst 0, 1) := by decide +kernel
theorem dX12_emit_15 : decode cX12_emit 15 = .ok (.ireturn, 1) := by decide +kernel
theorem dX12_emit_16 : decode cX12_emit 16 = .ok (.sipush 8000, 3) := by decide +kernel
theorem dX12_emit_19 : decode cX12_emit 19 = .ok (.aload_n 0, 1) := by decide +kernel
theorem dX12_emit_20 : decode cX12_emit 20 = .ok (.getfield 129, 3) := by decide +kernel
theorem dX12_emit_23 : decode cX12_emit 23 = .ok (.imul, 1) := by decide +kernel
theorem dX12_emit_24 : decode cX12_emit 24 = .ok (.aload_n 0, 1) := by decide +kernel
theorem dX12_emit_25 : decode cX12_emit 25 = .ok (.getfield 132, 3) := by decide +kernel
theorem dX12_emit_28 : decode cX12_emit 28 = .ok (.aload_n 0, 1) := by decide +kernel
theorem dX12_emit_29 : decode cX12_emit 29 = .ok (.getfield 129, 3) := by decide +kernel
theorem dX12_emit_32 : decode cX12_emit 32 = .ok (.iaload, 1) := by decide +kernel
theorem dX12_emit_33 : decode cX12_emit 33 = .ok (.iadd, 1) := by decide +kernel
theorem dX12_emit_34 : decode cX12_emit 34 = .ok (.istore 4, 2) := by decide +kernel
theorem dX12_emit_36 : decode cX12_emit 36 = .ok (.aload_n 0, 1) := by decide +kernel
theorem dX12_emit_37 : decode cX12_emit 37 = .ok (.getfield 132, 3) := by decide +kernel
theorem dX12_emit_40 : decode cX12_emit 40 = .ok (.aload_n 0, 1) := by decide +kernel
theorem dX12_emit_41 : decode cX12_emit 41 = .ok (.getfield 129, 3) := by decide +kernel
theorem dX12_emit_44 : decode cX12_emit 44 = .ok (.dup2, 1) := by decide +kernel
theorem dX12_emit_45 : decode cX12_emit 45 = .ok (.iaload, 1) := by decide +kernel
theorem dX12_emit_46 : decode cX12_emit 46 = .ok (.iconst 1, 1) := by decide +kernel
theorem dX12_emit_47 : decode cX12_emit 47 = .ok (.iadd, 1) := by decide +kernel
theorem dX12_emit_48 : decode cX12_emit 48 = .ok (.iastore, 1) := by decide +kernel
theorem dX12_emit_49 : decode cX12_emit 49 = .ok (.aload_n 0, 1) := by decide +kernel
theorem dX12_emit_50 : decode cX12_emit 50 = .ok (.getfield 135, 3) := by decide +kernel
theorem dX12_emit_53 : decode cX12_emit 53 = .ok (.iload 4, 2) := by decide +kernel
theorem dX12_emit_55 : decode cX12_emit 55 = .ok (.iload_n 1, 1) := by decide +kernel
theorem dX12_emit_56 : decode cX12_emit 56 = .ok (.iastore, 1) := by decide +kernel
theorem dX12_emit_57 : decode cX12_emit 57 = .ok (.aload_n 0, 1) := by decide +kernel
theorem dX12_emit_58 : decode cX12_emit 58 = .ok (.getfield 138, 3) := by decide +kernel
theorem dX12_emit_61 : decode cX12_emit 61 = .ok (.iload 4, 2) := by decide +kernel
theorem dX12_emit_63 : decode cX12_emit 63 = .ok (.iload_n 2, 1) := by decide +kernel
theorem dX12_emit_64 : decode cX12_emit 64 = .ok (.iastore, 1) := by decide +kernel
theorem dX12_emit_65 : decode cX12_emit 65 = .ok (.aload_n 0, 1) := by decide +kernel
theorem dX12_emit_66 : decode cX12_emit 66 = .ok (.getfield 141, 3) := by decide +kernel
theorem dX12_emit_69 : decode cX12_emit 69 = .ok (.iload 4, 2) := by decide +kernel
theorem dX12_emit_71 : decode cX12_emit 71 = .ok (.iload_n 3, 1) := by decide +kernel
theorem dX12_emit_72 : decode cX12_emit 72 = .ok (.iastore, 1) := by decide +kernel
theorem dX12_emit_73 : decode cX12_emit 73 = .ok (.iload 4, 2) := by decide +kernel
theorem dX12_emit_75 : decode cX12_emit 75 = .ok (.ireturn, 1) := by decide +kernel
abbrev cX12_cost : ByteArray := prog_14_method_26_code
def yX12_cost : MethodName := ⟨RX12, "cost", "(I)V"⟩
theorem dX12_cost_0 : decode cX12_cost 0 = .ok (.aload_n 0, 1) := by decide +kernel
theorem dX12_cost_1 : decode cX12_cost 1 = .ok (.iconst 1, 1) := by decide +kernel
theorem dX12_cost_2 : decode cX12_cost 2 = .ok (.iconst 0, 1) := by decide +kernel
theorem dX12_cost_3 : decode cX12_cost 3 = .ok (.iload_n 1, 1) := by decide +kernel
theorem dX12_cost_4 : decode cX12_cost 4 = .ok (.invokevirtual 144, 3) := by decide +kernel
theorem dX12_cost_7 : decode cX12_cost 7 = .ok (.pop, 1) := by decide +kernel
theorem dX12_cost_8 : decode cX12_cost 8 = .ok (.return_, 1) := by decide +kernel
abbrev cX12_push : ByteArray := prog_14_method_27_code
def yX12_push : MethodName := ⟨RX12, "push", "(J)V"⟩
theorem dX12_push_0 : decode cX12_push 0 = .ok (.aload_n 0, 1) := by decide +kernel
theorem dX12_push_1 : decode cX12_push 1 = .ok (.iconst 2, 1) := by decide +kernel
theorem dX12_push_2 : decode cX12_push 2 = .ok (.iconst 0, 1) := by decide +kernel
theorem dX12_push_3 : decode cX12_push 3 = .ok (.iconst 0, 1) := by decide +kernel
theorem dX12_push_4 : decode cX12_push 4 = .ok (.invokevirtual 144, 3) := by decide +kernel
theorem dX12_push_7 : decode cX12_push 7 = .ok (.istore_n 3, 1) := by decide +kernel
theorem dX12_push_8 : decode cX12_push 8 = .ok (.aload_n 0, 1) := by decide +kernel
theorem dX12_push_9 : decode cX12_push 9 = .ok (.getfield 101, 3) := by decide +kernel
theorem dX12_push_12 : decode cX12_push 12 = .ok (.ifCond .eq 17, 3) := by decide +kernel
theorem dX12_push_15 : decode cX12_push 15 = .ok (.aload_n 0, 1) := by decide +kernel
theorem dX12_push_16 : decode cX12_push 16 = .ok (.getfield 95, 3) := by decide +kernel
theorem dX12_push_19 : decode cX12_push 19 = .ok (.ifCond .ne 10, 3) := by decide +kernel
theorem dX12_push_22 : decode cX12_push 22 = .ok (.aload_n 0, 1) := by decide +kernel
theorem dX12_push_23 : decode cX12_push 23 = .ok (.getfield 148, 3) := by decide +kernel
theorem dX12_push_26 : decode cX12_push 26 = .ok (.iload_n 3, 1) := by decide +kernel
theorem dX12_push_27 : decode cX12_push 27 = .ok (.lload_n 1, 1) := by decide +kernel
theorem dX12_push_28 : decode cX12_push 28 = .ok (.lastore, 1) := by decide +kernel
theorem dX12_push_29 : decode cX12_push 29 = .ok (.return_, 1) := by decide +kernel
abbrev cX12_here : ByteArray := prog_14_method_28_code
def yX12_here : MethodName := ⟨RX12, "here", "()I"⟩
theorem dX12_here_0 : decode cX12_here 0 = .ok (.sipush 8000, 3) := by decide +kernel
theorem dX12_here_3 : decode cX12_here 3 = .ok (.aload_n 0, 1) := by decide +kernel
theorem dX12_here_4 : decode cX12_here 4 = .ok (.getfield 129, 3) := by decide +kernel
theorem dX12_here_7 : decode cX12_here 7 = .ok (.imul, 1) := by decide +kernel
theorem dX12_here_8 : decode cX12_here 8 = .ok (.aload_n 0, 1) := by decide +kernel
theorem dX12_here_9 : decode cX12_here 9 = .ok (.getfield 132, 3) := by decide +kernel
theorem dX12_here_12 : decode cX12_here 12 = .ok (.aload_n 0, 1) := by decide +kernel
theorem dX12_here_13 : decode cX12_here 13 = .ok (.getfield 129, 3) := by decide +kernel
theorem dX12_here_16 : decode cX12_here 16 = .ok (.iaload, 1) := by decide +kernel
theorem dX12_here_17 : decode cX12_here 17 = .ok (.iadd, 1) := by decide +kernel
theorem dX12_here_18 : decode cX12_here 18 = .ok (.ireturn, 1) := by decide +kernel
abbrev cX12_lead : ByteArray := prog_14_method_29_code
def yX12_lead : MethodName := ⟨RX12, "lead", "(I)V"⟩
theorem dX12_lead_0 : decode cX12_lead 0 = .ok (.aload_n 0, 1) := by decide +kernel
theorem dX12_lead_1 : decode cX12_lead 1 = .ok (.getfield 101, 3) := by decide +kernel
theorem dX12_lead_4 : decode cX12_lead 4 = .ok (.ifCond .eq 20, 3) := by decide +kernel
theorem dX12_lead_7 : decode cX12_lead 7 = .ok (.aload_n 0, 1) := by decide +kernel
theorem dX12_lead_8 : decode cX12_lead 8 = .ok (.getfield 95, 3) := by decide +kernel
theorem dX12_lead_11 : decode cX12_lead 11 = .ok (.ifCond .ne 13, 3) := by decide +kernel
theorem dX12_lead_14 : decode cX12_lead 14 = .ok (.aload_n 0, 1) := by decide +kernel
theorem dX12_lead_15 : decode cX12_lead 15 = .ok (.getfield 138, 3) := by decide +kernel
theorem dX12_lead_18 : decode cX12_lead 18 = .ok (.iload_n 1, 1) := by decide +kernel
theorem dX12_lead_19 : decode cX12_lead 19 = .ok (.aload_n 0, 1) := by decide +kernel
theorem dX12_lead_20 : decode cX12_lead 20 = .ok (.invokevirtual 151, 3) := by decide +kernel
theorem dX12_lead_23 : decode cX12_lead 23 = .ok (.iastore, 1) := by decide +kernel
theorem dX12_lead_24 : decode cX12_lead 24 = .ok (.return_, 1) := by decide +kernel
abbrev cX12_kind : ByteArray := prog_14_method_30_code
def yX12_kind : MethodName := ⟨RX12, "kind", "()I"⟩
theorem dX12_kind_0 : decode cX12_kind 0 = .ok (.aload_n 0, 1) := by decide +kernel
theorem dX12_kind_1 : decode cX12_kind 1 = .ok (.getfield 95, 3) := by decide +kernel
theorem dX12_kind_4 : decode cX12_kind 4 = .ok (.ifCond .ne 18, 3) := by decide +kernel
theorem dX12_kind_7 : decode cX12_kind 7 = .ok (.aload_n 0, 1) := by decide +kernel
theorem dX12_kind_8 : decode cX12_kind 8 = .ok (.getfield 38, 3) := by decide +kernel
theorem dX12_kind_11 : decode cX12_kind 11 = .ok (.aload_n 0, 1) := by decide +kernel
theorem dX12_kind_12 : decode cX12_kind 12 = .ok (.getfield 109, 3) := by decide +kernel
theorem dX12_kind_15 : decode cX12_kind 15 = .ok (.iaload, 1) := by decide +kernel
theorem dX12_kind_16 : decode cX12_kind 16 = .ok (.bipush 111, 2) := by decide +kernel
theorem dX12_kind_18 : decode cX12_kind 18 = .ok (.isub, 1) := by decide +kernel
theorem dX12_kind_19 : decode cX12_kind 19 = .ok (.goto 4, 3) := by decide +kernel
theorem dX12_kind_22 : decode cX12_kind 22 = .ok (.iconst (-1), 1) := by decide +kernel
theorem dX12_kind_23 : decode cX12_kind 23 = .ok (.istore_n 1, 1) := by decide +kernel
theorem dX12_kind_24 : decode cX12_kind 24 = .ok (.iload_n 1, 1) := by decide +kernel
theorem dX12_kind_25 : decode cX12_kind 25 = .ok (.ifCond .lt 8, 3) := by decide +kernel
theorem dX12_kind_28 : decode cX12_kind 28 = .ok (.iload_n 1, 1) := by decide +kernel
theorem dX12_kind_29 : decode cX12_kind 29 = .ok (.iconst 4, 1) := by decide +kernel
theorem dX12_kind_30 : decode cX12_kind 30 = .ok (.if_icmp .le 9, 3) := by decide +kernel
theorem dX12_kind_33 : decode cX12_kind 33 = .ok (.aload_n 0, 1) := by decide +kernel
theorem dX12_kind_34 : decode cX12_kind 34 = .ok (.invokevirtual 115, 3) := by decide +kernel
theorem dX12_kind_37 : decode cX12_kind 37 = .ok (.iconst 0, 1) := by decide +kernel
theorem dX12_kind_38 : decode cX12_kind 38 = .ok (.ireturn, 1) := by decide +kernel
theorem dX12_kind_39 : decode cX12_kind 39 = .ok (.aload_n 0, 1) := by decide +kernel
theorem dX12_kind_40 : decode cX12_kind 40 = .ok (.dup, 1) := by decide +kernel
theorem dX12_kind_41 : decode cX12_kind 41 = .ok (.getfield 109, 3) := by decide +kernel
theorem dX12_kind_44 : decode cX12_kind 44 = .ok (.iconst 1, 1) := by decide +kernel
theorem dX12_kind_45 : decode cX12_kind 45 = .ok (.iadd, 1) := by decide +kernel
theorem dX12_kind_46 : decode cX12_kind 46 = .ok (.putfield 109, 3) := by decide +kernel
theorem dX12_kind_49 : decode cX12_kind 49 = .ok (.iload_n 1, 1) := by decide +kernel
theorem dX12_kind_50 : decode cX12_kind 50 = .ok (.ireturn, 1) := by decide +kernel
abbrev cX12_isKind : ByteArray := prog_14_method_31_code
def yX12_isKind : MethodName := ⟨RX12, "isKind", "(I)Z"⟩
theorem dX12_isKind_0 : decode cX12_isKind 0 = .ok (.aload_n 0, 1) := by decide +kernel
theorem dX12_isKind_1 : decode cX12_isKind 1 = .ok (.getfield 38, 3) := by decide +kernel
theorem dX12_isKind_4 : decode cX12_isKind 4 = .ok (.iload_n 1, 1) := by decide +kernel
theorem dX12_isKind_5 : decode cX12_isKind 5 = .ok (.iaload, 1) := by decide +kernel
theorem dX12_isKind_6 : decode cX12_isKind 6 = .ok (.bipush 111, 2) := by decide +kernel
theorem dX12_isKind_8 : decode cX12_isKind 8 = .ok (.if_icmp .lt 18, 3) := by decide +kernel
theorem dX12_isKind_11 : decode cX12_isKind 11 = .ok (.aload_n 0, 1) := by decide +kernel
theorem dX12_isKind_12 : decode cX12_isKind 12 = .ok (.getfield 38, 3) := by decide +kernel
theorem dX12_isKind_15 : decode cX12_isKind 15 = .ok (.iload_n 1, 1) := by decide +kernel
theorem dX12_isKind_16 : decode cX12_isKind 16 = .ok (.iaload, 1) := by decide +kernel
theorem dX12_isKind_17 : decode cX12_isKind 17 = .ok (.bipush 116, 2) := by decide +kernel
theorem dX12_isKind_19 : decode cX12_isKind 19 = .ok (.if_icmp .ge 7, 3) := by decide +kernel
theorem dX12_isKind_22 : decode cX12_isKind 22 = .ok (.iconst 1, 1) := by decide +kernel
theorem dX12_isKind_23 : decode cX12_isKind 23 = .ok (.goto 4, 3) := by decide +kernel
theorem dX12_isKind_26 : decode cX12_isKind 26 = .ok (.iconst 0, 1) := by decide +kernel
theorem dX12_isKind_27 : decode cX12_isKind 27 = .ok (.ireturn, 1) := by decide +kernel
abbrev cX12_named : ByteArray := prog_14_method_36_code
def yX12_named : MethodName := ⟨RX12, "named", "(JJ)I"⟩
theorem dX12_named_0 : decode cX12_named 0 = .ok (.iconst 0, 1) := by decide +kernel
theorem dX12_named_1 : decode cX12_named 1 = .ok (.istore 5, 2) := by decide +kernel
theorem dX12_named_3 : decode cX12_named 3 = .ok (.iload 5, 2) := by decide +kernel
theorem dX12_named_5 : decode cX12_named 5 = .ok (.aload_n 0, 1) := by decide +kernel
theorem dX12_named_6 : decode cX12_named 6 = .ok (.getfield 174, 3) := by decide +kernel
theorem dX12_named_9 : decode cX12_named 9 = .ok (.if_icmp .ge 36, 3) := by decide +kernel
theorem dX12_named_12 : decode cX12_named 12 = .ok (.aload_n 0, 1) := by decide +kernel
theorem dX12_named_13 : decode cX12_named 13 = .ok (.getfield 177, 3) := by decide +kernel
theorem dX12_named_16 : decode cX12_named 16 = .ok (.iload 5, 2) := by decide +kernel
theorem dX12_named_18 : decode cX12_named 18 = .ok (.laload, 1) := by decide +kernel
theorem dX12_named_19 : decode cX12_named 19 = .ok (.lload_n 1, 1) := by decide +kernel
theorem dX12_named_20 : decode cX12_named 20 = .ok (.lcmp, 1) := by decide +kernel
theorem dX12_named_21 : decode cX12_named 21 = .ok (.ifCond .ne 18, 3) := by decide +kernel
theorem dX12_named_24 : decode cX12_named 24 = .ok (.aload_n 0, 1) := by decide +kernel
theorem dX12_named_25 : decode cX12_named 25 = .ok (.getfield 180, 3) := by decide +kernel
theorem dX12_named_28 : decode cX12_named 28 = .ok (.iload 5, 2) := by decide +kernel
theorem dX12_named_30 : decode cX12_named 30 = .ok (.laload, 1) := by decide +kernel
theorem dX12_named_31 : decode cX12_named 31 = .ok (.lload_n 3, 1) := by decide +kernel
theorem dX12_named_32 : decode cX12_named 32 = .ok (.lcmp, 1) := by decide +kernel
theorem dX12_named_33 : decode cX12_named 33 = .ok (.ifCond .ne 6, 3) := by decide +kernel
theorem dX12_named_36 : decode cX12_named 36 = .ok (.iload 5, 2) := by decide +kernel
theorem dX12_named_38 : decode cX12_named 38 = .ok (.ireturn, 1) := by decide +kernel
theorem dX12_named_39 : decode cX12_named 39 = .ok (.iinc 5 1, 3) := by decide +kernel
theorem dX12_named_42 : decode cX12_named 42 = .ok (.goto (-39), 3) := by decide +kernel
theorem dX12_named_45 : decode cX12_named 45 = .ok (.iconst (-1), 1) := by decide +kernel
theorem dX12_named_46 : decode cX12_named 46 = .ok (.ireturn, 1) := by decide +kernel
abbrev cX12_slotOf : ByteArray := prog_14_method_37_code
def yX12_slotOf : MethodName := ⟨RX12, "slotOf", "(JJ)I"⟩
theorem dX12_slotOf_0 : decode cX12_slotOf 0 = .ok (.aload_n 0, 1) := by decide +kernel
theorem dX12_slotOf_1 : decode cX12_slotOf 1 = .ok (.getfield 183, 3) := by decide +kernel
theorem dX12_slotOf_4 : decode cX12_slotOf 4 = .ok (.istore 5, 2) := by decide +kernel
theorem dX12_slotOf_6 : decode cX12_slotOf 6 = .ok (.aload_n 0, 1) := by decide +kernel
theorem dX12_slotOf_7 : decode cX12_slotOf 7 = .ok (.getfield 186, 3) := by decide +kernel
theorem dX12_slotOf_10 : decode cX12_slotOf 10 = .ok (.iconst 1, 1) := by decide +kernel
theorem dX12_slotOf_11 : decode cX12_slotOf 11 = .ok (.if_icmp .le 77, 3) := by decide +kernel
theorem dX12_slotOf_14 : decode cX12_slotOf 14 = .ok (.iload 5, 2) := by decide +kernel
theorem dX12_slotOf_16 : decode cX12_slotOf 16 = .ok (.aload_n 0, 1) := by decide +kernel
theorem dX12_slotOf_17 : decode cX12_slotOf 17 = .ok (.getfield 189, 3) := by decide +kernel
theorem dX12_slotOf_20 : decode cX12_slotOf 20 = .ok (.aload_n 0, 1) := by decide +kernel
theorem dX12_slotOf_21 : decode cX12_slotOf 21 = .ok (.getfield 129, 3) := by decide +kernel
theorem dX12_slotOf_24 : decode cX12_slotOf 24 = .ok (.iaload, 1) := by decide +kernel
theorem dX12_slotOf_25 : decode cX12_slotOf 25 = .ok (.if_icmp .ge 63, 3) := by decide +kernel
theorem dX12_slotOf_28 : decode cX12_slotOf 28 = .ok (.aload_n 0, 1) := by decide +kernel
theorem dX12_slotOf_29 : decode cX12_slotOf 29 = .ok (.getfield 192, 3) := by decide +kernel
theorem dX12_slotOf_32 : decode cX12_slotOf 32 = .ok (.sipush 160, 3) := by decide +kernel
theorem dX12_slotOf_35 : decode cX12_slotOf 35 = .ok (.aload_n 0, 1) := by decide +kernel
theorem dX12_slotOf_36 : decode cX12_slotOf 36 = .ok (.getfield 129, 3) := by decide +kernel
theorem dX12_slotOf_39 : decode cX12_slotOf 39 = .ok (.imul, 1) := by decide +kernel
theorem dX12_slotOf_40 : decode cX12_slotOf 40 = .ok (.iload 5, 2) := by decide +kernel
theorem dX12_slotOf_42 : decode cX12_slotOf 42 = .ok (.iadd, 1) := by decide +kernel
theorem dX12_slotOf_43 : decode cX12_slotOf 43 = .ok (.laload, 1) := by decide +kernel
theorem dX12_slotOf_44 : decode cX12_slotOf 44 = .ok (.lload_n 1, 1) := by decide +kernel
theorem dX12_slotOf_45 : decode cX12_slotOf 45 = .ok (.lcmp, 1) := by decide +kernel
theorem dX12_slotOf_46 : decode cX12_slotOf 46 = .ok (.ifCond .ne 36, 3) := by decide +kernel
theorem dX12_slotOf_49 : decode cX12_slotOf 49 = .ok (.aload_n 0, 1) := by decide +kernel
theorem dX12_slotOf_50 : decode cX12_slotOf 50 = .ok (.getfield 195, 3) := by decide +kernel
theorem dX12_slotOf_53 : decode cX12_slotOf 53 = .ok (.sipush 160, 3) := by decide +kernel
theorem dX12_slotOf_56 : decode cX12_slotOf 56 = .ok (.aload_n 0, 1) := by decide +kernel
theorem dX12_slotOf_57 : decode cX12_slotOf 57 = .ok (.getfield 129, 3) := by decide +kernel
theorem dX12_slotOf_60 : decode cX12_slotOf 60 = .ok (.imul, 1) := by decide +kernel
theorem dX12_slotOf_61 : decode cX12_slotOf 61 = .ok (.iload 5, 2) := by decide +kernel
theorem dX12_slotOf_63 : decode cX12_slotOf 63 = .ok (.iadd, 1) := by decide +kernel
theorem dX12_slotOf_64 : decode cX12_slotOf 64 = .ok (.laload, 1) := by decide +kernel
theorem dX12_slotOf_65 : decode cX12_slotOf 65 = .ok (.lload_n 3, 1) := by decide +kernel
theorem dX12_slotOf_66 : decode cX12_slotOf 66 = .ok (.lcmp, 1) := by decide +kernel
theorem dX12_slotOf_67 : decode cX12_slotOf 67 = .ok (.ifCond .ne 15, 3) := by decide +kernel
theorem dX12_slotOf_70 : decode cX12_slotOf 70 = .ok (.sipush 160, 3) := by decide +kernel
theorem dX12_slotOf_73 : decode cX12_slotOf 73 = .ok (.aload_n 0, 1) := by decide +kernel
theorem dX12_slotOf_74 : decode cX12_slotOf 74 = .ok (.getfield 129, 3) := by decide +kernel
theorem dX12_slotOf_77 : decode cX12_slotOf 77 = .ok (.imul, 1) := by decide +kernel
theorem dX12_slotOf_78 : decode cX12_slotOf 78 = .ok (.iload 5, 2) := by decide +kernel
theorem dX12_slotOf_80 : decode cX12_slotOf 80 = .ok (.iadd, 1) := by decide +kernel
theorem dX12_slotOf_81 : decode cX12_slotOf 81 = .ok (.ireturn, 1) := by decide +kernel
theorem dX12_slotOf_82 : decode cX12_slotOf 82 = .ok (.iinc 5 1, 3) := by decide +kernel
theorem dX12_slotOf_85 : decode cX12_slotOf 85 = .ok (.goto (-79), 3) := by decide +kernel
theorem dX12_slotOf_88 : decode cX12_slotOf 88 = .ok (.iconst (-1), 1) := by decide +kernel
theorem dX12_slotOf_89 : decode cX12_slotOf 89 = .ok (.ireturn, 1) := by decide +kernel
theorem gs_10_12 : Cond.selects "SoftControllerModel" ⟨"SoftControllerModel", "lead", "(I)V"⟩ ⟨"SoftControllerModel", "lead", "(I)V"⟩ ∈ GW := gw_s (List.mem_map.mpr ⟨_, pin_10 _ (List.mem_of_getElem? (i := 12) rfl), rfl⟩) rfl
theorem gs_10_3 : Cond.selects "SoftControllerModel" ⟨"SoftControllerModel", "isKind", "(I)Z"⟩ ⟨"SoftControllerModel", "isKind", "(I)Z"⟩ ∈ GW := gw_s (List.mem_map.mpr ⟨_, pin_10 _ (List.mem_of_getElem? (i := 3) rfl), rfl⟩) rfl
theorem gs_10_5 : Cond.selects "SoftControllerModel" ⟨"SoftControllerModel", "push", "(J)V"⟩ ⟨"SoftControllerModel", "push", "(J)V"⟩ ∈ GW := gw_s (List.mem_map.mpr ⟨_, pin_10 _ (List.mem_of_getElem? (i := 5) rfl), rfl⟩) rfl
theorem gs_7_8 : Cond.selects "SoftControllerModel" ⟨"SoftControllerModel", "see", "(I)I"⟩ ⟨"SoftControllerModel", "see", "(I)I"⟩ ∈ GW := gw_s (List.mem_map.mpr ⟨_, pin_7 _ (List.mem_of_getElem? (i := 8) rfl), rfl⟩) rfl
theorem gs_8_0 : Cond.selects "SoftControllerModel" ⟨"SoftControllerModel", "is", "(I)Z"⟩ ⟨"SoftControllerModel", "is", "(I)Z"⟩ ∈ GW := gw_s (List.mem_map.mpr ⟨_, pin_8 _ (List.mem_of_getElem? (i := 0) rfl), rfl⟩) rfl
theorem gs_8_10 : Cond.selects "SoftControllerModel" ⟨"SoftControllerModel", "named", "(JJ)I"⟩ ⟨"SoftControllerModel", "named", "(JJ)I"⟩ ∈ GW := gw_s (List.mem_map.mpr ⟨_, pin_8 _ (List.mem_of_getElem? (i := 10) rfl), rfl⟩) rfl
theorem gs_8_11 : Cond.selects "SoftControllerModel" ⟨"SoftControllerModel", "begins", "(I)V"⟩ ⟨"SoftControllerModel", "begins", "(I)V"⟩ ∈ GW := gw_s (List.mem_map.mpr ⟨_, pin_8 _ (List.mem_of_getElem? (i := 11) rfl), rfl⟩) rfl
theorem gs_8_12 : Cond.selects "SoftControllerModel" ⟨"SoftControllerModel", "opens", "()V"⟩ ⟨"SoftControllerModel", "opens", "()V"⟩ ∈ GW := gw_s (List.mem_map.mpr ⟨_, pin_8 _ (List.mem_of_getElem? (i := 12) rfl), rfl⟩) rfl
theorem gs_8_14 : Cond.selects "SoftControllerModel" ⟨"SoftControllerModel", "isNumber", "()Z"⟩ ⟨"SoftControllerModel", "isNumber", "()Z"⟩ ∈ GW := gw_s (List.mem_map.mpr ⟨_, pin_8 _ (List.mem_of_getElem? (i := 14) rfl), rfl⟩) rfl
theorem gs_8_15 : Cond.selects "SoftControllerModel" ⟨"SoftControllerModel", "ends", "(I)V"⟩ ⟨"SoftControllerModel", "ends", "(I)V"⟩ ∈ GW := gw_s (List.mem_map.mpr ⟨_, pin_8 _ (List.mem_of_getElem? (i := 15) rfl), rfl⟩) rfl
theorem gs_8_2 : Cond.selects "SoftControllerModel" ⟨"SoftControllerModel", "kind", "()I"⟩ ⟨"SoftControllerModel", "kind", "()I"⟩ ∈ GW := gw_s (List.mem_map.mpr ⟨_, pin_8 _ (List.mem_of_getElem? (i := 2) rfl), rfl⟩) rfl
theorem gs_8_3 : Cond.selects "SoftControllerModel" ⟨"SoftControllerModel", "stuck", "()V"⟩ ⟨"SoftControllerModel", "stuck", "()V"⟩ ∈ GW := gw_s (List.mem_map.mpr ⟨_, pin_8 _ (List.mem_of_getElem? (i := 3) rfl), rfl⟩) rfl
theorem gs_8_4 : Cond.selects "SoftControllerModel" ⟨"SoftControllerModel", "bad", "(II)V"⟩ ⟨"SoftControllerModel", "bad", "(II)V"⟩ ∈ GW := gw_s (List.mem_map.mpr ⟨_, pin_8 _ (List.mem_of_getElem? (i := 4) rfl), rfl⟩) rfl
theorem gs_8_7 : Cond.selects "SoftControllerModel" ⟨"SoftControllerModel", "slotOf", "(JJ)I"⟩ ⟨"SoftControllerModel", "slotOf", "(JJ)I"⟩ ∈ GW := gw_s (List.mem_map.mpr ⟨_, pin_8 _ (List.mem_of_getElem? (i := 7) rfl), rfl⟩) rfl
theorem gs_8_8 : Cond.selects "SoftControllerModel" ⟨"SoftControllerModel", "wrong", "(ZII)V"⟩ ⟨"SoftControllerModel", "wrong", "(ZII)V"⟩ ∈ GW := gw_s (List.mem_map.mpr ⟨_, pin_8 _ (List.mem_of_getElem? (i := 8) rfl), rfl⟩) rfl
theorem gs_9_0 : Cond.selects "SoftControllerModel" ⟨"SoftControllerModel", "take", "(I)V"⟩ ⟨"SoftControllerModel", "take", "(I)V"⟩ ∈ GW := gw_s (List.mem_map.mpr ⟨_, pin_9 _ (List.mem_of_getElem? (i := 0) rfl), rfl⟩) rfl
theorem gs_9_1 : Cond.selects "SoftControllerModel" ⟨"SoftControllerModel", "has", "(I)Z"⟩ ⟨"SoftControllerModel", "has", "(I)Z"⟩ ∈ GW := gw_s (List.mem_map.mpr ⟨_, pin_9 _ (List.mem_of_getElem? (i := 1) rfl), rfl⟩) rfl
theorem gs_9_10 : Cond.selects "SoftControllerModel" ⟨"SoftControllerModel", "cost", "(I)V"⟩ ⟨"SoftControllerModel", "cost", "(I)V"⟩ ∈ GW := gw_s (List.mem_map.mpr ⟨_, pin_9 _ (List.mem_of_getElem? (i := 10) rfl), rfl⟩) rfl
theorem gs_9_11 : Cond.selects "SoftControllerModel" ⟨"SoftControllerModel", "emit", "(III)I"⟩ ⟨"SoftControllerModel", "emit", "(III)I"⟩ ∈ GW := gw_s (List.mem_map.mpr ⟨_, pin_9 _ (List.mem_of_getElem? (i := 11) rfl), rfl⟩) rfl
theorem gs_9_12 : Cond.selects "SoftControllerModel" ⟨"SoftControllerModel", "isNext", "(I)Z"⟩ ⟨"SoftControllerModel", "isNext", "(I)Z"⟩ ∈ GW := gw_s (List.mem_map.mpr ⟨_, pin_9 _ (List.mem_of_getElem? (i := 12) rfl), rfl⟩) rfl
theorem gs_9_8 : Cond.selects "SoftControllerModel" ⟨"SoftControllerModel", "here", "()I"⟩ ⟨"SoftControllerModel", "here", "()I"⟩ ∈ GW := gw_s (List.mem_map.mpr ⟨_, pin_9 _ (List.mem_of_getElem? (i := 8) rfl), rfl⟩) rfl
theorem gw_16 : (Jvm.Cond.initialized "SoftControllerModel") ∈ GW := gw_t (tin_1 _ (List.mem_of_getElem? (i := 16) rfl)) rfl
theorem gw_2266 : (Jvm.Cond.methodLink "SoftControllerModel" (28 : Nat) ({ cls := "SoftControllerModel", name := "see", desc := "(I)I" } : Jvm.MethodName)) ∈ GW := gw_t (tin_10 _ (List.mem_of_getElem? (i := 106) rfl)) rfl
theorem gw_2268 : (Jvm.Cond.instanceMethod ({ cls := "SoftControllerModel", name := "see", desc := "(I)I" } : Jvm.MethodName)) ∈ GW := gw_t (tin_10 _ (List.mem_of_getElem? (i := 108) rfl)) rfl
theorem gw_2269 : (Jvm.Cond.code ({ cls := "SoftControllerModel", name := "see", desc := "(I)I" } : Jvm.MethodName) prog_14_method_2_code (2 : Nat) (Option.some Jvm.ClassFile.FieldType.int)) ∈ GW := gw_t (tin_10 _ (List.mem_of_getElem? (i := 109) rfl)) rfl
theorem gw_2320 : (Jvm.Cond.methodLink "SoftControllerModel" (112 : Nat) ({ cls := "SoftControllerModel", name := "is", desc := "(I)Z" } : Jvm.MethodName)) ∈ GW := gw_t (tin_10 _ (List.mem_of_getElem? (i := 160) rfl)) rfl
theorem gw_2322 : (Jvm.Cond.instanceMethod ({ cls := "SoftControllerModel", name := "is", desc := "(I)Z" } : Jvm.MethodName)) ∈ GW := gw_t (tin_10 _ (List.mem_of_getElem? (i := 162) rfl)) rfl
theorem gw_2323 : (Jvm.Cond.code ({ cls := "SoftControllerModel", name := "is", desc := "(I)Z" } : Jvm.MethodName) prog_14_method_16_code (2 : Nat) (Option.some Jvm.ClassFile.FieldType.boolean)) ∈ GW := gw_t (tin_10 _ (List.mem_of_getElem? (i := 163) rfl)) rfl
theorem gw_2328 : (Jvm.Cond.methodLink "SoftControllerModel" (331 : Nat) ({ cls := "SoftControllerModel", name := "kind", desc := "()I" } : Jvm.MethodName)) ∈ GW := gw_t (tin_10 _ (List.mem_of_getElem? (i := 168) rfl)) rfl
theorem gw_2330 : (Jvm.Cond.instanceMethod ({ cls := "SoftControllerModel", name := "kind", desc := "()I" } : Jvm.MethodName)) ∈ GW := gw_t (tin_10 _ (List.mem_of_getElem? (i := 170) rfl)) rfl
theorem gw_2331 : (Jvm.Cond.code ({ cls := "SoftControllerModel", name := "kind", desc := "()I" } : Jvm.MethodName) prog_14_method_30_code (2 : Nat) (Option.some Jvm.ClassFile.FieldType.int)) ∈ GW := gw_t (tin_10 _ (List.mem_of_getElem? (i := 171) rfl)) rfl
theorem gw_2332 : (Jvm.Cond.methodLink "SoftControllerModel" (115 : Nat) ({ cls := "SoftControllerModel", name := "stuck", desc := "()V" } : Jvm.MethodName)) ∈ GW := gw_t (tin_10 _ (List.mem_of_getElem? (i := 172) rfl)) rfl
theorem gw_2334 : (Jvm.Cond.instanceMethod ({ cls := "SoftControllerModel", name := "stuck", desc := "()V" } : Jvm.MethodName)) ∈ GW := gw_t (tin_10 _ (List.mem_of_getElem? (i := 174) rfl)) rfl
theorem gw_2335 : (Jvm.Cond.code ({ cls := "SoftControllerModel", name := "stuck", desc := "()V" } : Jvm.MethodName) prog_14_method_18_code (1 : Nat) (Option.none : Option Jvm.ClassFile.FieldType)) ∈ GW := gw_t (tin_10 _ (List.mem_of_getElem? (i := 175) rfl)) rfl
theorem gw_2336 : (Jvm.Cond.methodLink "SoftControllerModel" (105 : Nat) ({ cls := "SoftControllerModel", name := "bad", desc := "(II)V" } : Jvm.MethodName)) ∈ GW := gw_t (tin_10 _ (List.mem_of_getElem? (i := 176) rfl)) rfl
theorem gw_2338 : (Jvm.Cond.instanceMethod ({ cls := "SoftControllerModel", name := "bad", desc := "(II)V" } : Jvm.MethodName)) ∈ GW := gw_t (tin_10 _ (List.mem_of_getElem? (i := 178) rfl)) rfl
theorem gw_2339 : (Jvm.Cond.code ({ cls := "SoftControllerModel", name := "bad", desc := "(II)V" } : Jvm.MethodName) prog_14_method_14_code (3 : Nat) (Option.none : Option Jvm.ClassFile.FieldType)) ∈ GW := gw_t (tin_10 _ (List.mem_of_getElem? (i := 179) rfl)) rfl
theorem gw_2348 : (Jvm.Cond.methodLink "SoftControllerModel" (215 : Nat) ({ cls := "SoftControllerModel", name := "slotOf", desc := "(JJ)I" } : Jvm.MethodName)) ∈ GW := gw_t (tin_10 _ (List.mem_of_getElem? (i := 188) rfl)) rfl
theorem gw_2350 : (Jvm.Cond.instanceMethod ({ cls := "SoftControllerModel", name := "slotOf", desc := "(JJ)I" } : Jvm.MethodName)) ∈ GW := gw_t (tin_10 _ (List.mem_of_getElem? (i := 190) rfl)) rfl
theorem gw_2351 : (Jvm.Cond.code ({ cls := "SoftControllerModel", name := "slotOf", desc := "(JJ)I" } : Jvm.MethodName) prog_14_method_37_code (6 : Nat) (Option.some Jvm.ClassFile.FieldType.int)) ∈ GW := gw_t (tin_10 _ (List.mem_of_getElem? (i := 191) rfl)) rfl
theorem gw_2352 : (Jvm.Cond.methodLink "SoftControllerModel" (202 : Nat) ({ cls := "SoftControllerModel", name := "wrong", desc := "(ZII)V" } : Jvm.MethodName)) ∈ GW := gw_t (tin_10 _ (List.mem_of_getElem? (i := 192) rfl)) rfl
theorem gw_2354 : (Jvm.Cond.instanceMethod ({ cls := "SoftControllerModel", name := "wrong", desc := "(ZII)V" } : Jvm.MethodName)) ∈ GW := gw_t (tin_10 _ (List.mem_of_getElem? (i := 194) rfl)) rfl
theorem gw_2355 : (Jvm.Cond.code ({ cls := "SoftControllerModel", name := "wrong", desc := "(ZII)V" } : Jvm.MethodName) prog_14_method_15_code (4 : Nat) (Option.none : Option Jvm.ClassFile.FieldType)) ∈ GW := gw_t (tin_10 _ (List.mem_of_getElem? (i := 195) rfl)) rfl
theorem gw_2360 : (Jvm.Cond.methodLink "SoftControllerModel" (198 : Nat) ({ cls := "SoftControllerModel", name := "named", desc := "(JJ)I" } : Jvm.MethodName)) ∈ GW := gw_t (tin_10 _ (List.mem_of_getElem? (i := 200) rfl)) rfl
theorem gw_2362 : (Jvm.Cond.instanceMethod ({ cls := "SoftControllerModel", name := "named", desc := "(JJ)I" } : Jvm.MethodName)) ∈ GW := gw_t (tin_10 _ (List.mem_of_getElem? (i := 202) rfl)) rfl
theorem gw_2363 : (Jvm.Cond.code ({ cls := "SoftControllerModel", name := "named", desc := "(JJ)I" } : Jvm.MethodName) prog_14_method_36_code (6 : Nat) (Option.some Jvm.ClassFile.FieldType.int)) ∈ GW := gw_t (tin_10 _ (List.mem_of_getElem? (i := 203) rfl)) rfl
theorem gw_2364 : (Jvm.Cond.methodLink "SoftControllerModel" (307 : Nat) ({ cls := "SoftControllerModel", name := "begins", desc := "(I)V" } : Jvm.MethodName)) ∈ GW := gw_t (tin_10 _ (List.mem_of_getElem? (i := 204) rfl)) rfl
theorem gw_2366 : (Jvm.Cond.instanceMethod ({ cls := "SoftControllerModel", name := "begins", desc := "(I)V" } : Jvm.MethodName)) ∈ GW := gw_t (tin_10 _ (List.mem_of_getElem? (i := 206) rfl)) rfl
theorem gw_2367 : (Jvm.Cond.code ({ cls := "SoftControllerModel", name := "begins", desc := "(I)V" } : Jvm.MethodName) prog_14_method_22_code (2 : Nat) (Option.none : Option Jvm.ClassFile.FieldType)) ∈ GW := gw_t (tin_10 _ (List.mem_of_getElem? (i := 207) rfl)) rfl
theorem gw_2368 : (Jvm.Cond.methodLink "SoftControllerModel" (122 : Nat) ({ cls := "SoftControllerModel", name := "opens", desc := "()V" } : Jvm.MethodName)) ∈ GW := gw_t (tin_10 _ (List.mem_of_getElem? (i := 208) rfl)) rfl
theorem gw_2370 : (Jvm.Cond.instanceMethod ({ cls := "SoftControllerModel", name := "opens", desc := "()V" } : Jvm.MethodName)) ∈ GW := gw_t (tin_10 _ (List.mem_of_getElem? (i := 210) rfl)) rfl
theorem gw_2371 : (Jvm.Cond.code ({ cls := "SoftControllerModel", name := "opens", desc := "()V" } : Jvm.MethodName) prog_14_method_21_code (1 : Nat) (Option.none : Option Jvm.ClassFile.FieldType)) ∈ GW := gw_t (tin_10 _ (List.mem_of_getElem? (i := 211) rfl)) rfl
theorem gw_2376 : (Jvm.Cond.methodLink "SoftControllerModel" (221 : Nat) ({ cls := "SoftControllerModel", name := "isNumber", desc := "()Z" } : Jvm.MethodName)) ∈ GW := gw_t (tin_10 _ (List.mem_of_getElem? (i := 216) rfl)) rfl
theorem gw_2378 : (Jvm.Cond.instanceMethod ({ cls := "SoftControllerModel", name := "isNumber", desc := "()Z" } : Jvm.MethodName)) ∈ GW := gw_t (tin_10 _ (List.mem_of_getElem? (i := 218) rfl)) rfl
theorem gw_2379 : (Jvm.Cond.code ({ cls := "SoftControllerModel", name := "isNumber", desc := "()Z" } : Jvm.MethodName) prog_14_method_24_code (1 : Nat) (Option.some Jvm.ClassFile.FieldType.boolean)) ∈ GW := gw_t (tin_10 _ (List.mem_of_getElem? (i := 219) rfl)) rfl
theorem gw_2380 : (Jvm.Cond.methodLink "SoftControllerModel" (314 : Nat) ({ cls := "SoftControllerModel", name := "ends", desc := "(I)V" } : Jvm.MethodName)) ∈ GW := gw_t (tin_10 _ (List.mem_of_getElem? (i := 220) rfl)) rfl
theorem gw_2382 : (Jvm.Cond.instanceMethod ({ cls := "SoftControllerModel", name := "ends", desc := "(I)V" } : Jvm.MethodName)) ∈ GW := gw_t (tin_10 _ (List.mem_of_getElem? (i := 222) rfl)) rfl
theorem gw_2383 : (Jvm.Cond.code ({ cls := "SoftControllerModel", name := "ends", desc := "(I)V" } : Jvm.MethodName) prog_14_method_23_code (2 : Nat) (Option.none : Option Jvm.ClassFile.FieldType)) ∈ GW := gw_t (tin_10 _ (List.mem_of_getElem? (i := 223) rfl)) rfl
theorem gw_2384 : (Jvm.Cond.methodLink "SoftControllerModel" (125 : Nat) ({ cls := "SoftControllerModel", name := "take", desc := "(I)V" } : Jvm.MethodName)) ∈ GW := gw_t (tin_10 _ (List.mem_of_getElem? (i := 224) rfl)) rfl
theorem gw_2386 : (Jvm.Cond.instanceMethod ({ cls := "SoftControllerModel", name := "take", desc := "(I)V" } : Jvm.MethodName)) ∈ GW := gw_t (tin_10 _ (List.mem_of_getElem? (i := 226) rfl)) rfl
theorem gw_2387 : (Jvm.Cond.code ({ cls := "SoftControllerModel", name := "take", desc := "(I)V" } : Jvm.MethodName) prog_14_method_19_code (2 : Nat) (Option.none : Option Jvm.ClassFile.FieldType)) ∈ GW := gw_t (tin_10 _ (List.mem_of_getElem? (i := 227) rfl)) rfl
theorem gw_2388 : (Jvm.Cond.methodLink "SoftControllerModel" (218 : Nat) ({ cls := "SoftControllerModel", name := "has", desc := "(I)Z" } : Jvm.MethodName)) ∈ GW := gw_t (tin_10 _ (List.mem_of_getElem? (i := 228) rfl)) rfl
theorem gw_2390 : (Jvm.Cond.instanceMethod ({ cls := "SoftControllerModel", name := "has", desc := "(I)Z" } : Jvm.MethodName)) ∈ GW := gw_t (tin_10 _ (List.mem_of_getElem? (i := 230) rfl)) rfl
theorem gw_2391 : (Jvm.Cond.code ({ cls := "SoftControllerModel", name := "has", desc := "(I)Z" } : Jvm.MethodName) prog_14_method_20_code (3 : Nat) (Option.some Jvm.ClassFile.FieldType.boolean)) ∈ GW := gw_t (tin_10 _ (List.mem_of_getElem? (i := 231) rfl)) rfl
theorem gw_2436 : (Jvm.Cond.methodLink "SoftControllerModel" (151 : Nat) ({ cls := "SoftControllerModel", name := "here", desc := "()I" } : Jvm.MethodName)) ∈ GW := gw_t (tin_11 _ (List.mem_of_getElem? (i := 36) rfl)) rfl
theorem gw_2438 : (Jvm.Cond.instanceMethod ({ cls := "SoftControllerModel", name := "here", desc := "()I" } : Jvm.MethodName)) ∈ GW := gw_t (tin_11 _ (List.mem_of_getElem? (i := 38) rfl)) rfl
theorem gw_2439 : (Jvm.Cond.code ({ cls := "SoftControllerModel", name := "here", desc := "()I" } : Jvm.MethodName) prog_14_method_28_code (1 : Nat) (Option.some Jvm.ClassFile.FieldType.int)) ∈ GW := gw_t (tin_11 _ (List.mem_of_getElem? (i := 39) rfl)) rfl
theorem gw_2444 : (Jvm.Cond.methodLink "SoftControllerModel" (441 : Nat) ({ cls := "SoftControllerModel", name := "cost", desc := "(I)V" } : Jvm.MethodName)) ∈ GW := gw_t (tin_11 _ (List.mem_of_getElem? (i := 44) rfl)) rfl
theorem gw_2446 : (Jvm.Cond.instanceMethod ({ cls := "SoftControllerModel", name := "cost", desc := "(I)V" } : Jvm.MethodName)) ∈ GW := gw_t (tin_11 _ (List.mem_of_getElem? (i := 46) rfl)) rfl
theorem gw_2447 : (Jvm.Cond.code ({ cls := "SoftControllerModel", name := "cost", desc := "(I)V" } : Jvm.MethodName) prog_14_method_26_code (2 : Nat) (Option.none : Option Jvm.ClassFile.FieldType)) ∈ GW := gw_t (tin_11 _ (List.mem_of_getElem? (i := 47) rfl)) rfl
theorem gw_2448 : (Jvm.Cond.methodLink "SoftControllerModel" (144 : Nat) ({ cls := "SoftControllerModel", name := "emit", desc := "(III)I" } : Jvm.MethodName)) ∈ GW := gw_t (tin_11 _ (List.mem_of_getElem? (i := 48) rfl)) rfl
theorem gw_2450 : (Jvm.Cond.instanceMethod ({ cls := "SoftControllerModel", name := "emit", desc := "(III)I" } : Jvm.MethodName)) ∈ GW := gw_t (tin_11 _ (List.mem_of_getElem? (i := 50) rfl)) rfl
theorem gw_2451 : (Jvm.Cond.code ({ cls := "SoftControllerModel", name := "emit", desc := "(III)I" } : Jvm.MethodName) prog_14_method_25_code (5 : Nat) (Option.some Jvm.ClassFile.FieldType.int)) ∈ GW := gw_t (tin_11 _ (List.mem_of_getElem? (i := 51) rfl)) rfl
theorem gw_2452 : (Jvm.Cond.methodLink "SoftControllerModel" (469 : Nat) ({ cls := "SoftControllerModel", name := "isNext", desc := "(I)Z" } : Jvm.MethodName)) ∈ GW := gw_t (tin_11 _ (List.mem_of_getElem? (i := 52) rfl)) rfl
theorem gw_2454 : (Jvm.Cond.instanceMethod ({ cls := "SoftControllerModel", name := "isNext", desc := "(I)Z" } : Jvm.MethodName)) ∈ GW := gw_t (tin_11 _ (List.mem_of_getElem? (i := 54) rfl)) rfl
theorem gw_2455 : (Jvm.Cond.code ({ cls := "SoftControllerModel", name := "isNext", desc := "(I)Z" } : Jvm.MethodName) prog_14_method_17_code (2 : Nat) (Option.some Jvm.ClassFile.FieldType.boolean)) ∈ GW := gw_t (tin_11 _ (List.mem_of_getElem? (i := 55) rfl)) rfl
theorem gw_2480 : (Jvm.Cond.methodLink "SoftControllerModel" (463 : Nat) ({ cls := "SoftControllerModel", name := "isKind", desc := "(I)Z" } : Jvm.MethodName)) ∈ GW := gw_t (tin_11 _ (List.mem_of_getElem? (i := 80) rfl)) rfl
theorem gw_2482 : (Jvm.Cond.instanceMethod ({ cls := "SoftControllerModel", name := "isKind", desc := "(I)Z" } : Jvm.MethodName)) ∈ GW := gw_t (tin_11 _ (List.mem_of_getElem? (i := 82) rfl)) rfl
theorem gw_2483 : (Jvm.Cond.code ({ cls := "SoftControllerModel", name := "isKind", desc := "(I)Z" } : Jvm.MethodName) prog_14_method_31_code (2 : Nat) (Option.some Jvm.ClassFile.FieldType.boolean)) ∈ GW := gw_t (tin_11 _ (List.mem_of_getElem? (i := 83) rfl)) rfl
theorem gw_2488 : (Jvm.Cond.methodLink "SoftControllerModel" (374 : Nat) ({ cls := "SoftControllerModel", name := "push", desc := "(J)V" } : Jvm.MethodName)) ∈ GW := gw_t (tin_11 _ (List.mem_of_getElem? (i := 88) rfl)) rfl
theorem gw_2490 : (Jvm.Cond.instanceMethod ({ cls := "SoftControllerModel", name := "push", desc := "(J)V" } : Jvm.MethodName)) ∈ GW := gw_t (tin_11 _ (List.mem_of_getElem? (i := 90) rfl)) rfl
theorem gw_2491 : (Jvm.Cond.code ({ cls := "SoftControllerModel", name := "push", desc := "(J)V" } : Jvm.MethodName) prog_14_method_27_code (4 : Nat) (Option.none : Option Jvm.ClassFile.FieldType)) ∈ GW := gw_t (tin_11 _ (List.mem_of_getElem? (i := 91) rfl)) rfl
theorem gw_2516 : (Jvm.Cond.methodLink "SoftControllerModel" (447 : Nat) ({ cls := "SoftControllerModel", name := "lead", desc := "(I)V" } : Jvm.MethodName)) ∈ GW := gw_t (tin_11 _ (List.mem_of_getElem? (i := 116) rfl)) rfl
theorem gw_2518 : (Jvm.Cond.instanceMethod ({ cls := "SoftControllerModel", name := "lead", desc := "(I)V" } : Jvm.MethodName)) ∈ GW := gw_t (tin_11 _ (List.mem_of_getElem? (i := 118) rfl)) rfl
theorem gw_2519 : (Jvm.Cond.code ({ cls := "SoftControllerModel", name := "lead", desc := "(I)V" } : Jvm.MethodName) prog_14_method_29_code (2 : Nat) (Option.none : Option Jvm.ClassFile.FieldType)) ∈ GW := gw_t (tin_11 _ (List.mem_of_getElem? (i := 119) rfl)) rfl
section LeafRows
variable {p : Program} {l : Launch} {e : Env} {R : Room} {s : State} {m : MethodId} {args : Array Value} {below : List Frame} {meth : Method} {c : Code} {H : Heap} {locs : List Loc} {Q : State → Prop}
variable {ls : Array Slot} {D : va_G} {kA : Nat → ClassId} {V Z : Nat → Nat} {A : Nat → Prop} {N d : Nat} {w : RSt}
def B_see_0 (N : Nat) (l1 : Int32) (u : RSt) : Option (Int32 × RSt) := if (u.1 1) ≤ l1 then (some ((-1), u)) else (rd (u.2.2.1 0) 6000 l1 fun v_2 => some (v_2, u))
set_option maxHeartbeats 4000000 in
theorem b_see_0 {r : Int32} (X : RC p s m args c cX12_see 2 (Cond.code yX12_see cX12_see 2 (some .int)) D kA V A) (hE : REi p l e R s m args below meth c cX12_see D kA Z A Q r w) (hF : 0 ≤ R.frames) (hL : 0 ≤ R.locals) {l1 : Int32}  {u : RSt} (h : B_see_0 N l1 u = some (r, w)) (hS : RS D kA Z A s u H locs) (hl : lv_has ls 2 [(0, .ref (Z 200)), (1, .int l1)]) : W p l e R s m args below meth c H locs 0 0 Q (F0 m 0 ls []) := by
  obtain ⟨⟨hx, hb, hml, hown, hts⟩, hK, hEV, hA⟩ := id X
  have hG : ∀ w ∈ GW, w.before args s = true := fun w h => hts w (List.mem_cons_of_mem _ h)
  unfold B_see_0 at h
  refine lv_iload_n hx hb dX12_see_0 rfl (lv_at hl 1 rfl) ?_
  refine lv_aload_n hx hb dX12_see_1 rfl (lv_at hl 0 rfl) ?_
  refine rg_1 X hS dX12_see_2 ?_
  refine lv_icmp_ge (tgt := 17) hx hb dX12_see_5 (by decide) (fun c_1 => ?_) (fun c_1 => ?_)
  · have h := ip (c_1) h
    refine lv_iconst (v := (-1)) hx hb dX12_see_17 (by decide) ?_
    obtain ⟨rfl, rfl⟩ := so h
    exact hE _ _ _ _ hS dX12_see_18
  · have h := im (c_1) h
    refine lv_aload_n hx hb dX12_see_8 rfl (lv_at hl 0 rfl) ?_
    refine rg_0 X hS dX12_see_9 ?_
    refine lv_iload_n hx hb dX12_see_12 rfl (lv_at hl 1 rfl) ?_
    obtain ⟨v_2, e_v_2, i_3, h⟩ := rd_of h
    refine ra_0 X hS i_3 e_v_2 dX12_see_13 ?_
    refine lv_goto (tgt := 18) hx hb dX12_see_14 (by decide) ?_
    obtain ⟨rfl, rfl⟩ := so h
    exact hE _ _ _ _ hS dX12_see_18
def F_see (N : Nat) (l1 : Int32) (u : RSt) : Option (Int32 × RSt) := B_see_0 N l1 u
set_option maxHeartbeats 4000000 in
theorem k_see (l : Launch) (D : va_G) (kA : Nat → ClassId) (V Z : Nat → Nat) (N : Nat) (l1 : Int32) (u : RSt) (sz : Nat) {r : Int32} {w : RSt} (h : F_see N l1 u = some (r, w)) : Met l yX12_see (Cond.code yX12_see cX12_see 2 (some .int) :: GW) { frames := 0, cells := 0, slots := 0, locals := 0 } (rPc D kA V Z [.int l1] u sz) (rQi D kA Z u sz r w) 0 0 (va_A (RW kA Z u) sz) := by
  refine Met.ofW (cc := cX12_see) (maxL := 2) (ret := (some .int)) (by decide) rfl ?_
  intro p e s m args below meth c s₁ Bd hml hv
  obtain ⟨rfl, hsz, hP, hK, hD0, hE⟩ := hv
  have hts := atoms_spec (ws := Cond.code yX12_see cX12_see 2 (some .int) :: GW) Bd.pre
  have hl := lv_entry (.ref (Z 200) :: [.int l1]) (n := 2) (Nat.le_of_ble_eq_true rfl)
  rw [lg_entry_eq]
  generalize (lg_sl (.ref (Z 200) :: [.int l1]) ++ List.replicate (2 - (lg_sl (.ref (Z 200) :: [.int l1])).length) Slot.unset).toArray = ls at hl ⊢
  have hl : lv_has ls 2 [(0, .ref (Z 200)), (1, .int l1)] := hl
  subst hsz
  have X : RC p s m (.ref (Z 200) :: [.int l1]).toArray c cX12_see 2 (Cond.code yX12_see cX12_see 2 (some .int)) D kA V (va_A (RW kA Z u) s.heap.size) := ⟨⟨Bd.exec, Bd.bytes, hml, findClass_of_methodNamed Bd.named, hts⟩, hK, hE, fun q h => Or.inr h⟩
  exact b_see_0 X (rend_i (cy := cX12_see) X Bd.returns Bd.notSynchronized) (Nat.le_refl _) (Nat.le_refl _) h ⟨hP, hD0.self, va_S.rf⟩ (lv_sub hl [0, 1] rfl)
theorem kc_see {r : Int32} {cc : ByteArray} {pc nL : Nat} {c0 : Cond} {rest : List Value} {l1 : Int32} {u : RSt} (X : RC p s m args c cc nL c0 D kA V A) (hS : RS D kA Z A s u H locs) (h : F_see N l1 u = some (r, w)) (hF : 0 + 1 ≤ R.frames) (hL : 8 + (2 + 11) + 0 ≤ R.locals) (hl : ls.size = nL) (hc : (rest.map fun v => v.category).sum ≤ 8) (hdg : decode cc pc = .ok (.invokevirtual 28, 3)) (kk : ∀ H locs, RS D kA Z A s w H locs → W p l e R s m args below meth c H locs 0 0 Q (F0 m (pc + 3) ls (.int r :: rest))) : W p l e R s m args below meth c H locs 0 0 Q (F0 m pc ls (.int l1 :: .ref (Z 200) :: rest)) :=
  rcall_i (n := 1) X hS (k_see l D kA V Z N l1 u H.size h) (gw_V gw_2266 gw_2268 gs_7_8 gw_16 gw_2269) (by decide +kernel) hF hL rfl hl hc rfl hdg kk
def B_bad_0 (N : Nat) (l1 : Int32) (l2 : Int32) (u : RSt) : Option (Int32 × RSt) := if (u.1 67) = (0 : Int32) then (pu (sI u 67 l1) fun u_2 => pu (sI u_2 68 l2) fun u_3 => some (0, u_3)) else (some (0, u))
set_option maxHeartbeats 4000000 in
theorem b_bad_0 {r : Int32} (X : RC p s m args c cX12_bad 3 (Cond.code yX12_bad cX12_bad 3 none) D kA V A) (hE : REv p l e R s m args below meth c cX12_bad D kA Z A Q w) (hF : 0 ≤ R.frames) (hL : 0 ≤ R.locals) {l1 : Int32} {l2 : Int32}  {u : RSt} (h : B_bad_0 N l1 l2 u = some (r, w)) (hS : RS D kA Z A s u H locs) (hl : lv_has ls 3 [(0, .ref (Z 200)), (1, .int l1), (2, .int l2)]) : W p l e R s m args below meth c H locs 0 0 Q (F0 m 0 ls []) := by
  obtain ⟨⟨hx, hb, hml, hown, hts⟩, hK, hEV, hA⟩ := id X
  have hG : ∀ w ∈ GW, w.before args s = true := fun w h => hts w (List.mem_cons_of_mem _ h)
  unfold B_bad_0 at h
  refine lv_aload_n hx hb dX12_bad_0 rfl (lv_at hl 0 rfl) ?_
  refine rg_67 X hS dX12_bad_1 ?_
  refine lv_if_eq (tgt := 8) hx hb dX12_bad_4 (by decide) (fun c_1 => ?_) (fun c_1 => ?_)
  · have h := ip (c_1) h
    refine lv_aload_n hx hb dX12_bad_8 rfl (lv_at hl 0 rfl) ?_
    refine lv_iload_n hx hb dX12_bad_9 rfl (lv_at hl 1 rfl) ?_
    obtain ⟨u_2, e_u_2, h⟩ := pu_of h
    refine rp_67 X hS e_u_2 dX12_bad_10 (fun H locs hS => ?_)
    refine lv_aload_n hx hb dX12_bad_13 rfl (lv_at hl 0 rfl) ?_
    refine lv_iload_n hx hb dX12_bad_14 rfl (lv_at hl 2 rfl) ?_
    obtain ⟨u_3, e_u_3, h⟩ := pu_of h
    refine rp_68 X hS e_u_3 dX12_bad_15 (fun H locs hS => ?_)
    obtain ⟨-, rfl⟩ := so h
    exact hE _ _ _ _ hS dX12_bad_18
  · have h := im (c_1) h
    obtain ⟨-, rfl⟩ := so h
    exact hE _ _ _ _ hS dX12_bad_7
def F_bad (N : Nat) (l1 : Int32) (l2 : Int32) (u : RSt) : Option (Int32 × RSt) := B_bad_0 N l1 l2 u
set_option maxHeartbeats 4000000 in
theorem k_bad (l : Launch) (D : va_G) (kA : Nat → ClassId) (V Z : Nat → Nat) (N : Nat) (l1 : Int32) (l2 : Int32) (u : RSt) (sz : Nat) {r : Int32} {w : RSt} (h : F_bad N l1 l2 u = some (r, w)) : Met l yX12_bad (Cond.code yX12_bad cX12_bad 3 none :: GW) { frames := 0, cells := 0, slots := 0, locals := 0 } (rPc D kA V Z [.int l1, .int l2] u sz) (rQv D kA Z u sz w) 0 0 (va_A (RW kA Z u) sz) := by
  refine Met.ofW (cc := cX12_bad) (maxL := 3) (ret := none) (by decide) rfl ?_
  intro p e s m args below meth c s₁ Bd hml hv
  obtain ⟨rfl, hsz, hP, hK, hD0, hE⟩ := hv
  have hts := atoms_spec (ws := Cond.code yX12_bad cX12_bad 3 none :: GW) Bd.pre
  have hl := lv_entry (.ref (Z 200) :: [.int l1, .int l2]) (n := 3) (Nat.le_of_ble_eq_true rfl)
  rw [lg_entry_eq]
  generalize (lg_sl (.ref (Z 200) :: [.int l1, .int l2]) ++ List.replicate (3 - (lg_sl (.ref (Z 200) :: [.int l1, .int l2])).length) Slot.unset).toArray = ls at hl ⊢
  have hl : lv_has ls 3 [(0, .ref (Z 200)), (1, .int l1), (2, .int l2)] := hl
  subst hsz
  have X : RC p s m (.ref (Z 200) :: [.int l1, .int l2]).toArray c cX12_bad 3 (Cond.code yX12_bad cX12_bad 3 none) D kA V (va_A (RW kA Z u) s.heap.size) := ⟨⟨Bd.exec, Bd.bytes, hml, findClass_of_methodNamed Bd.named, hts⟩, hK, hE, fun q h => Or.inr h⟩
  exact b_bad_0 X (rend_v (cy := cX12_bad) X Bd.returns Bd.notSynchronized) (Nat.le_refl _) (Nat.le_refl _) h ⟨hP, hD0.self, va_S.rf⟩ (lv_sub hl [0, 1, 2] rfl)
theorem kc_bad {r : Int32} {cc : ByteArray} {pc nL : Nat} {c0 : Cond} {rest : List Value} {l1 : Int32} {l2 : Int32} {u : RSt} (X : RC p s m args c cc nL c0 D kA V A) (hS : RS D kA Z A s u H locs) (h : F_bad N l1 l2 u = some (r, w)) (hF : 0 + 1 ≤ R.frames) (hL : 8 + (3 + 11) + 0 ≤ R.locals) (hl : ls.size = nL) (hc : (rest.map fun v => v.category).sum ≤ 8) (hdg : decode cc pc = .ok (.invokevirtual 105, 3)) (kk : ∀ H locs, RS D kA Z A s w H locs → W p l e R s m args below meth c H locs 0 0 Q (F0 m (pc + 3) ls (rest))) : W p l e R s m args below meth c H locs 0 0 Q (F0 m pc ls (.int l2 :: .int l1 :: .ref (Z 200) :: rest)) :=
  rcall_v (n := 2) X hS (k_bad l D kA V Z N l1 l2 u H.size h) (gw_V gw_2336 gw_2338 gs_8_4 gw_16 gw_2339) (by decide +kernel) hF hL rfl hl hc rfl hdg kk
def B_wrong_0 (N : Nat) (l1 : Int32) (l2 : Int32) (l3 : Int32) (u : RSt) : Option (Int32 × RSt) := if l1 = (0 : Int32) then (some (0, u)) else (if (u.1 69) = (0 : Int32) then (some (0, u)) else (bn (F_bad N l2 l3 u) fun _ u_3 => some (0, u_3)))
set_option maxHeartbeats 4000000 in
theorem b_wrong_0 {r : Int32} (X : RC p s m args c cX12_wrong 4 (Cond.code yX12_wrong cX12_wrong 4 none) D kA V A) (hE : REv p l e R s m args below meth c cX12_wrong D kA Z A Q w) (hF : 1 ≤ R.frames) (hL : 22 ≤ R.locals) {l1 : Int32} {l2 : Int32} {l3 : Int32}  {u : RSt} (h : B_wrong_0 N l1 l2 l3 u = some (r, w)) (hS : RS D kA Z A s u H locs) (hl : lv_has ls 4 [(0, .ref (Z 200)), (1, .int l1), (2, .int l2), (3, .int l3)]) : W p l e R s m args below meth c H locs 0 0 Q (F0 m 0 ls []) := by
  obtain ⟨⟨hx, hb, hml, hown, hts⟩, hK, hEV, hA⟩ := id X
  have hG : ∀ w ∈ GW, w.before args s = true := fun w h => hts w (List.mem_cons_of_mem _ h)
  unfold B_wrong_0 at h
  refine lv_iload_n hx hb dX12_wrong_0 rfl (lv_at hl 1 rfl) ?_
  refine lv_if_eq (tgt := 17) hx hb dX12_wrong_1 (by decide) (fun c_1 => ?_) (fun c_1 => ?_)
  · have h := ip (c_1) h
    obtain ⟨-, rfl⟩ := so h
    exact hE _ _ _ _ hS dX12_wrong_17
  · have h := im (c_1) h
    refine lv_aload_n hx hb dX12_wrong_4 rfl (lv_at hl 0 rfl) ?_
    refine rg_69 X hS dX12_wrong_5 ?_
    refine lv_if_eq (tgt := 17) hx hb dX12_wrong_8 (by decide) (fun c_2 => ?_) (fun c_2 => ?_)
    · have h := ip (c_2) h
      obtain ⟨-, rfl⟩ := so h
      exact hE _ _ _ _ hS dX12_wrong_17
    · have h := im (c_2) h
      refine lv_aload_n hx hb dX12_wrong_11 rfl (lv_at hl 0 rfl) ?_
      refine lv_iload_n hx hb dX12_wrong_12 rfl (lv_at hl 2 rfl) ?_
      refine lv_iload_n hx hb dX12_wrong_13 rfl (lv_at hl 3 rfl) ?_
      obtain ⟨r_u_3, u_3, h_u_3, h⟩ := bn_of h
      refine kc_bad X hS h_u_3 (Nat.le_trans (Nat.le_of_ble_eq_true rfl) hF) (Nat.le_trans (Nat.le_of_ble_eq_true rfl) hL) hl.1 (Nat.le_of_ble_eq_true rfl) dX12_wrong_14 (fun H locs hS => ?_)
      obtain ⟨-, rfl⟩ := so h
      exact hE _ _ _ _ hS dX12_wrong_17
def F_wrong (N : Nat) (l1 : Int32) (l2 : Int32) (l3 : Int32) (u : RSt) : Option (Int32 × RSt) := B_wrong_0 N l1 l2 l3 u
set_option maxHeartbeats 4000000 in
theorem k_wrong (l : Launch) (D : va_G) (kA : Nat → ClassId) (V Z : Nat → Nat) (N : Nat) (l1 : Int32) (l2 : Int32) (l3 : Int32) (u : RSt) (sz : Nat) {r : Int32} {w : RSt} (h : F_wrong N l1 l2 l3 u = some (r, w)) : Met l yX12_wrong (Cond.code yX12_wrong cX12_wrong 4 none :: GW) { frames := 1, cells := 0, slots := 0, locals := 22 } (rPc D kA V Z [.int l1, .int l2, .int l3] u sz) (rQv D kA Z u sz w) 0 0 (va_A (RW kA Z u) sz) := by
  refine Met.ofW (cc := cX12_wrong) (maxL := 4) (ret := none) (by decide) rfl ?_
  intro p e s m args below meth c s₁ Bd hml hv
  obtain ⟨rfl, hsz, hP, hK, hD0, hE⟩ := hv
  have hts := atoms_spec (ws := Cond.code yX12_wrong cX12_wrong 4 none :: GW) Bd.pre
  have hl := lv_entry (.ref (Z 200) :: [.int l1, .int l2, .int l3]) (n := 4) (Nat.le_of_ble_eq_true rfl)
  rw [lg_entry_eq]
  generalize (lg_sl (.ref (Z 200) :: [.int l1, .int l2, .int l3]) ++ List.replicate (4 - (lg_sl (.ref (Z 200) :: [.int l1, .int l2, .int l3])).length) Slot.unset).toArray = ls at hl ⊢
  have hl : lv_has ls 4 [(0, .ref (Z 200)), (1, .int l1), (2, .int l2), (3, .int l3)] := hl
  subst hsz
  have X : RC p s m (.ref (Z 200) :: [.int l1, .int l2, .int l3]).toArray c cX12_wrong 4 (Cond.code yX12_wrong cX12_wrong 4 none) D kA V (va_A (RW kA Z u) s.heap.size) := ⟨⟨Bd.exec, Bd.bytes, hml, findClass_of_methodNamed Bd.named, hts⟩, hK, hE, fun q h => Or.inr h⟩
  exact b_wrong_0 X (rend_v (cy := cX12_wrong) X Bd.returns Bd.notSynchronized) (Nat.le_refl _) (Nat.le_refl _) h ⟨hP, hD0.self, va_S.rf⟩ (lv_sub hl [0, 1, 2, 3] rfl)
theorem kc_wrong {r : Int32} {cc : ByteArray} {pc nL : Nat} {c0 : Cond} {rest : List Value} {l1 : Int32} {l2 : Int32} {l3 : Int32} {u : RSt} (X : RC p s m args c cc nL c0 D kA V A) (hS : RS D kA Z A s u H locs) (h : F_wrong N l1 l2 l3 u = some (r, w)) (hF : 1 + 1 ≤ R.frames) (hL : 8 + (4 + 11) + 22 ≤ R.locals) (hl : ls.size = nL) (hc : (rest.map fun v => v.category).sum ≤ 8) (hdg : decode cc pc = .ok (.invokevirtual 202, 3)) (kk : ∀ H locs, RS D kA Z A s w H locs → W p l e R s m args below meth c H locs 0 0 Q (F0 m (pc + 3) ls (rest))) : W p l e R s m args below meth c H locs 0 0 Q (F0 m pc ls (.int l3 :: .int l2 :: .int l1 :: .ref (Z 200) :: rest)) :=
  rcall_v (n := 3) X hS (k_wrong l D kA V Z N l1 l2 l3 u H.size h) (gw_V gw_2352 gw_2354 gs_8_8 gw_16 gw_2355) (by decide +kernel) hF hL rfl hl hc rfl hdg kk
def B_is_0 (N : Nat) (l1 : Int32) (u : RSt) : Option (Int32 × RSt) := if (u.1 67) = (0 : Int32) then (rd (u.2.2.1 2) 1502 (u.1 65) fun v_2 => if v_2 = l1 then (some (1, u)) else (some (0, u))) else (some (0, u))
set_option maxHeartbeats 4000000 in
theorem b_is_0 {r : Int32} (X : RC p s m args c cX12_is 2 (Cond.code yX12_is cX12_is 2 (some .boolean)) D kA V A) (hE : REz p l e R s m args below meth c cX12_is D kA Z A Q r w) (hF : 0 ≤ R.frames) (hL : 0 ≤ R.locals) {l1 : Int32}  {u : RSt} (h : B_is_0 N l1 u = some (r, w)) (hS : RS D kA Z A s u H locs) (hl : lv_has ls 2 [(0, .ref (Z 200)), (1, .int l1)]) : W p l e R s m args below meth c H locs 0 0 Q (F0 m 0 ls []) := by
  obtain ⟨⟨hx, hb, hml, hown, hts⟩, hK, hEV, hA⟩ := id X
  have hG : ∀ w ∈ GW, w.before args s = true := fun w h => hts w (List.mem_cons_of_mem _ h)
  unfold B_is_0 at h
  refine lv_aload_n hx hb dX12_is_0 rfl (lv_at hl 0 rfl) ?_
  refine rg_67 X hS dX12_is_1 ?_
  refine lv_if_ne (tgt := 24) hx hb dX12_is_4 (by decide) (fun c_1 => ?_) (fun c_1 => ?_)
  · have h := im (c_1) h
    refine lv_iconst (v := 0) hx hb dX12_is_24 (by decide) ?_
    obtain ⟨rfl, rfl⟩ := so h
    exact hE _ _ _ _ hS (Or.inl rfl) dX12_is_25
  · have h := ip (c_1) h
    refine lv_aload_n hx hb dX12_is_7 rfl (lv_at hl 0 rfl) ?_
    refine rg_2 X hS dX12_is_8 ?_
    refine lv_aload_n hx hb dX12_is_11 rfl (lv_at hl 0 rfl) ?_
    refine rg_65 X hS dX12_is_12 ?_
    obtain ⟨v_2, e_v_2, i_3, h⟩ := rd_of h
    refine ra_2 X hS i_3 e_v_2 dX12_is_15 ?_
    refine lv_iload_n hx hb dX12_is_16 rfl (lv_at hl 1 rfl) ?_
    refine lv_icmp_ne (tgt := 24) hx hb dX12_is_17 (by decide) (fun c_4 => ?_) (fun c_4 => ?_)
    · have h := im (c_4) h
      refine lv_iconst (v := 0) hx hb dX12_is_24 (by decide) ?_
      obtain ⟨rfl, rfl⟩ := so h
      exact hE _ _ _ _ hS (Or.inl rfl) dX12_is_25
    · have h := ip (c_4) h
      refine lv_iconst (v := 1) hx hb dX12_is_20 (by decide) ?_
      refine lv_goto (tgt := 25) hx hb dX12_is_21 (by decide) ?_
      obtain ⟨rfl, rfl⟩ := so h
      exact hE _ _ _ _ hS (Or.inr rfl) dX12_is_25
def F_is (N : Nat) (l1 : Int32) (u : RSt) : Option (Int32 × RSt) := B_is_0 N l1 u
set_option maxHeartbeats 4000000 in
theorem k_is (l : Launch) (D : va_G) (kA : Nat → ClassId) (V Z : Nat → Nat) (N : Nat) (l1 : Int32) (u : RSt) (sz : Nat) {r : Int32} {w : RSt} (h : F_is N l1 u = some (r, w)) : Met l yX12_is (Cond.code yX12_is cX12_is 2 (some .boolean) :: GW) { frames := 0, cells := 0, slots := 0, locals := 0 } (rPc D kA V Z [.int l1] u sz) (rQi D kA Z u sz r w) 0 0 (va_A (RW kA Z u) sz) := by
  refine Met.ofW (cc := cX12_is) (maxL := 2) (ret := (some .boolean)) (by decide) rfl ?_
  intro p e s m args below meth c s₁ Bd hml hv
  obtain ⟨rfl, hsz, hP, hK, hD0, hE⟩ := hv
  have hts := atoms_spec (ws := Cond.code yX12_is cX12_is 2 (some .boolean) :: GW) Bd.pre
  have hl := lv_entry (.ref (Z 200) :: [.int l1]) (n := 2) (Nat.le_of_ble_eq_true rfl)
  rw [lg_entry_eq]
  generalize (lg_sl (.ref (Z 200) :: [.int l1]) ++ List.replicate (2 - (lg_sl (.ref (Z 200) :: [.int l1])).length) Slot.unset).toArray = ls at hl ⊢
  have hl : lv_has ls 2 [(0, .ref (Z 200)), (1, .int l1)] := hl
  subst hsz
  have X : RC p s m (.ref (Z 200) :: [.int l1]).toArray c cX12_is 2 (Cond.code yX12_is cX12_is 2 (some .boolean)) D kA V (va_A (RW kA Z u) s.heap.size) := ⟨⟨Bd.exec, Bd.bytes, hml, findClass_of_methodNamed Bd.named, hts⟩, hK, hE, fun q h => Or.inr h⟩
  exact b_is_0 X (rend_z (cy := cX12_is) X Bd.returns Bd.notSynchronized) (Nat.le_refl _) (Nat.le_refl _) h ⟨hP, hD0.self, va_S.rf⟩ (lv_sub hl [0, 1] rfl)
theorem kc_is {r : Int32} {cc : ByteArray} {pc nL : Nat} {c0 : Cond} {rest : List Value} {l1 : Int32} {u : RSt} (X : RC p s m args c cc nL c0 D kA V A) (hS : RS D kA Z A s u H locs) (h : F_is N l1 u = some (r, w)) (hF : 0 + 1 ≤ R.frames) (hL : 8 + (2 + 11) + 0 ≤ R.locals) (hl : ls.size = nL) (hc : (rest.map fun v => v.category).sum ≤ 8) (hdg : decode cc pc = .ok (.invokevirtual 112, 3)) (kk : ∀ H locs, RS D kA Z A s w H locs → W p l e R s m args below meth c H locs 0 0 Q (F0 m (pc + 3) ls (.int r :: rest))) : W p l e R s m args below meth c H locs 0 0 Q (F0 m pc ls (.int l1 :: .ref (Z 200) :: rest)) :=
  rcall_i (n := 1) X hS (k_is l D kA V Z N l1 u H.size h) (gw_V gw_2320 gw_2322 gs_8_0 gw_16 gw_2323) (by decide +kernel) hF hL rfl hl hc rfl hdg kk
def B_isNext_0 (N : Nat) (l1 : Int32) (u : RSt) : Option (Int32 × RSt) := if (u.1 67) = (0 : Int32) then (rd (u.2.2.1 2) 1502 (u.1 65) fun v_2 => if v_2 = (5 : Int32) then (some (0, u)) else (rd (u.2.2.1 2) 1502 ((u.1 65) + 1) fun v_5 => if v_5 = l1 then (some (1, u)) else (some (0, u)))) else (some (0, u))
set_option maxHeartbeats 4000000 in
theorem b_isNext_0 {r : Int32} (X : RC p s m args c cX12_isNext 2 (Cond.code yX12_isNext cX12_isNext 2 (some .boolean)) D kA V A) (hE : REz p l e R s m args below meth c cX12_isNext D kA Z A Q r w) (hF : 0 ≤ R.frames) (hL : 0 ≤ R.locals) {l1 : Int32}  {u : RSt} (h : B_isNext_0 N l1 u = some (r, w)) (hS : RS D kA Z A s u H locs) (hl : lv_has ls 2 [(0, .ref (Z 200)), (1, .int l1)]) : W p l e R s m args below meth c H locs 0 0 Q (F0 m 0 ls []) := by
  obtain ⟨⟨hx, hb, hml, hown, hts⟩, hK, hEV, hA⟩ := id X
  have hG : ∀ w ∈ GW, w.before args s = true := fun w h => hts w (List.mem_cons_of_mem _ h)
  unfold B_isNext_0 at h
  refine lv_aload_n hx hb dX12_isNext_0 rfl (lv_at hl 0 rfl) ?_
  refine rg_67 X hS dX12_isNext_1 ?_
  refine lv_if_ne (tgt := 39) hx hb dX12_isNext_4 (by decide) (fun c_1 => ?_) (fun c_1 => ?_)
  · have h := im (c_1) h
    refine lv_iconst (v := 0) hx hb dX12_isNext_39 (by decide) ?_
    obtain ⟨rfl, rfl⟩ := so h
    exact hE _ _ _ _ hS (Or.inl rfl) dX12_isNext_40
  · have h := ip (c_1) h
    refine lv_aload_n hx hb dX12_isNext_7 rfl (lv_at hl 0 rfl) ?_
    refine rg_2 X hS dX12_isNext_8 ?_
    refine lv_aload_n hx hb dX12_isNext_11 rfl (lv_at hl 0 rfl) ?_
    refine rg_65 X hS dX12_isNext_12 ?_
    obtain ⟨v_2, e_v_2, i_3, h⟩ := rd_of h
    refine ra_2 X hS i_3 e_v_2 dX12_isNext_15 ?_
    refine lv_iconst (v := 5) hx hb dX12_isNext_16 (by decide) ?_
    refine lv_icmp_eq (tgt := 39) hx hb dX12_isNext_17 (by decide) (fun c_4 => ?_) (fun c_4 => ?_)
    · have h := ip (c_4) h
      refine lv_iconst (v := 0) hx hb dX12_isNext_39 (by decide) ?_
      obtain ⟨rfl, rfl⟩ := so h
      exact hE _ _ _ _ hS (Or.inl rfl) dX12_isNext_40
    · have h := im (c_4) h
      refine lv_aload_n hx hb dX12_isNext_20 rfl (lv_at hl 0 rfl) ?_
      refine rg_2 X hS dX12_isNext_21 ?_
      refine lv_aload_n hx hb dX12_isNext_24 rfl (lv_at hl 0 rfl) ?_
      refine rg_65 X hS dX12_isNext_25 ?_
      refine lv_iconst (v := 1) hx hb dX12_isNext_28 (by decide) ?_
      refine lv_iadd hx hb dX12_isNext_29 ?_
      obtain ⟨v_5, e_v_5, i_6, h⟩ := rd_of h
      refine ra_2 X hS i_6 e_v_5 dX12_isNext_30 ?_
      refine lv_iload_n hx hb dX12_isNext_31 rfl (lv_at hl 1 rfl) ?_
      refine lv_icmp_ne (tgt := 39) hx hb dX12_isNext_32 (by decide) (fun c_7 => ?_) (fun c_7 => ?_)
      · have h := im (c_7) h
        refine lv_iconst (v := 0) hx hb dX12_isNext_39 (by decide) ?_
        obtain ⟨rfl, rfl⟩ := so h
        exact hE _ _ _ _ hS (Or.inl rfl) dX12_isNext_40
      · have h := ip (c_7) h
        refine lv_iconst (v := 1) hx hb dX12_isNext_35 (by decide) ?_
        refine lv_goto (tgt := 40) hx hb dX12_isNext_36 (by decide) ?_
        obtain ⟨rfl, rfl⟩ := so h
        exact hE _ _ _ _ hS (Or.inr rfl) dX12_isNext_40
def F_isNext (N : Nat) (l1 : Int32) (u : RSt) : Option (Int32 × RSt) := B_isNext_0 N l1 u
set_option maxHeartbeats 4000000 in
theorem k_isNext (l : Launch) (D : va_G) (kA : Nat → ClassId) (V Z : Nat → Nat) (N : Nat) (l1 : Int32) (u : RSt) (sz : Nat) {r : Int32} {w : RSt} (h : F_isNext N l1 u = some (r, w)) : Met l yX12_isNext (Cond.code yX12_isNext cX12_isNext 2 (some .boolean) :: GW) { frames := 0, cells := 0, slots := 0, locals := 0 } (rPc D kA V Z [.int l1] u sz) (rQi D kA Z u sz r w) 0 0 (va_A (RW kA Z u) sz) := by
  refine Met.ofW (cc := cX12_isNext) (maxL := 2) (ret := (some .boolean)) (by decide) rfl ?_
  intro p e s m args below meth c s₁ Bd hml hv
  obtain ⟨rfl, hsz, hP, hK, hD0, hE⟩ := hv
  have hts := atoms_spec (ws := Cond.code yX12_isNext cX12_isNext 2 (some .boolean) :: GW) Bd.pre
  have hl := lv_entry (.ref (Z 200) :: [.int l1]) (n := 2) (Nat.le_of_ble_eq_true rfl)
  rw [lg_entry_eq]
  generalize (lg_sl (.ref (Z 200) :: [.int l1]) ++ List.replicate (2 - (lg_sl (.ref (Z 200) :: [.int l1])).length) Slot.unset).toArray = ls at hl ⊢
  have hl : lv_has ls 2 [(0, .ref (Z 200)), (1, .int l1)] := hl
  subst hsz
  have X : RC p s m (.ref (Z 200) :: [.int l1]).toArray c cX12_isNext 2 (Cond.code yX12_isNext cX12_isNext 2 (some .boolean)) D kA V (va_A (RW kA Z u) s.heap.size) := ⟨⟨Bd.exec, Bd.bytes, hml, findClass_of_methodNamed Bd.named, hts⟩, hK, hE, fun q h => Or.inr h⟩
  exact b_isNext_0 X (rend_z (cy := cX12_isNext) X Bd.returns Bd.notSynchronized) (Nat.le_refl _) (Nat.le_refl _) h ⟨hP, hD0.self, va_S.rf⟩ (lv_sub hl [0, 1] rfl)
theorem kc_isNext {r : Int32} {cc : ByteArray} {pc nL : Nat} {c0 : Cond} {rest : List Value} {l1 : Int32} {u : RSt} (X : RC p s m args c cc nL c0 D kA V A) (hS : RS D kA Z A s u H locs) (h : F_isNext N l1 u = some (r, w)) (hF : 0 + 1 ≤ R.frames) (hL : 8 + (2 + 11) + 0 ≤ R.locals) (hl : ls.size = nL) (hc : (rest.map fun v => v.category).sum ≤ 8) (hdg : decode cc pc = .ok (.invokevirtual 469, 3)) (kk : ∀ H locs, RS D kA Z A s w H locs → W p l e R s m args below meth c H locs 0 0 Q (F0 m (pc + 3) ls (.int r :: rest))) : W p l e R s m args below meth c H locs 0 0 Q (F0 m pc ls (.int l1 :: .ref (Z 200) :: rest)) :=
  rcall_i (n := 1) X hS (k_isNext l D kA V Z N l1 u H.size h) (gw_V gw_2452 gw_2454 gs_9_12 gw_16 gw_2455) (by decide +kernel) hF hL rfl hl hc rfl hdg kk
def B_stuck_18 (N : Nat) (s1 : Int32) (u : RSt) : Option (Int32 × RSt) := rd (u.2.2.1 3) 1502 (u.1 65) fun v_1 => bn (F_bad N s1 v_1 u) fun _ u_3 => some (0, u_3)
set_option maxHeartbeats 4000000 in
theorem b_stuck_18 {r : Int32} (X : RC p s m args c cX12_stuck 1 (Cond.code yX12_stuck cX12_stuck 1 none) D kA V A) (hE : REv p l e R s m args below meth c cX12_stuck D kA Z A Q w) (hF : 1 ≤ R.frames) (hL : 22 ≤ R.locals) {s1 : Int32}  {u : RSt} (h : B_stuck_18 N s1 u = some (r, w)) (hS : RS D kA Z A s u H locs) (hl : lv_has ls 1 [(0, .ref (Z 200))]) : W p l e R s m args below meth c H locs 0 0 Q (F0 m 18 ls [.int s1, .ref (Z 200)]) := by
  obtain ⟨⟨hx, hb, hml, hown, hts⟩, hK, hEV, hA⟩ := id X
  have hG : ∀ w ∈ GW, w.before args s = true := fun w h => hts w (List.mem_cons_of_mem _ h)
  unfold B_stuck_18 at h
  refine lv_aload_n hx hb dX12_stuck_18 rfl (lv_at hl 0 rfl) ?_
  refine rg_3 X hS dX12_stuck_19 ?_
  refine lv_aload_n hx hb dX12_stuck_22 rfl (lv_at hl 0 rfl) ?_
  refine rg_65 X hS dX12_stuck_23 ?_
  obtain ⟨v_1, e_v_1, i_2, h⟩ := rd_of h
  refine ra_3 X hS i_2 e_v_1 dX12_stuck_26 ?_
  obtain ⟨r_u_3, u_3, h_u_3, h⟩ := bn_of h
  refine kc_bad X hS h_u_3 (Nat.le_trans (Nat.le_of_ble_eq_true rfl) hF) (Nat.le_trans (Nat.le_of_ble_eq_true rfl) hL) hl.1 (Nat.le_of_ble_eq_true rfl) dX12_stuck_27 (fun H locs hS => ?_)
  obtain ⟨-, rfl⟩ := so h
  exact hE _ _ _ _ hS dX12_stuck_30
def B_stuck_0 (N : Nat) (u : RSt) : Option (Int32 × RSt) := rd (u.2.2.1 2) 1502 (u.1 65) fun v_4 => if v_4 = (0 : Int32) then (B_stuck_18 N 1 u) else (B_stuck_18 N 2 u)
set_option maxHeartbeats 4000000 in
theorem b_stuck_0 {r : Int32} (X : RC p s m args c cX12_stuck 1 (Cond.code yX12_stuck cX12_stuck 1 none) D kA V A) (hE : REv p l e R s m args below meth c cX12_stuck D kA Z A Q w) (hF : 1 ≤ R.frames) (hL : 22 ≤ R.locals)  {u : RSt} (h : B_stuck_0 N u = some (r, w)) (hS : RS D kA Z A s u H locs) (hl : lv_has ls 1 [(0, .ref (Z 200))]) : W p l e R s m args below meth c H locs 0 0 Q (F0 m 0 ls []) := by
  obtain ⟨⟨hx, hb, hml, hown, hts⟩, hK, hEV, hA⟩ := id X
  have hG : ∀ w ∈ GW, w.before args s = true := fun w h => hts w (List.mem_cons_of_mem _ h)
  unfold B_stuck_0 at h
  refine lv_aload_n hx hb dX12_stuck_0 rfl (lv_at hl 0 rfl) ?_
  refine lv_aload_n hx hb dX12_stuck_1 rfl (lv_at hl 0 rfl) ?_
  refine rg_2 X hS dX12_stuck_2 ?_
  refine lv_aload_n hx hb dX12_stuck_5 rfl (lv_at hl 0 rfl) ?_
  refine rg_65 X hS dX12_stuck_6 ?_
  obtain ⟨v_4, e_v_4, i_5, h⟩ := rd_of h
  refine ra_2 X hS i_5 e_v_4 dX12_stuck_9 ?_
  refine lv_if_ne (tgt := 17) hx hb dX12_stuck_10 (by decide) (fun c_6 => ?_) (fun c_6 => ?_)
  · have h := im (c_6) h
    refine lv_iconst (v := 2) hx hb dX12_stuck_17 (by decide) ?_
    exact b_stuck_18 X hE hF hL  h hS (lv_sub hl [0] rfl)
  · have h := ip (c_6) h
    refine lv_iconst (v := 1) hx hb dX12_stuck_13 (by decide) ?_
    refine lv_goto (tgt := 18) hx hb dX12_stuck_14 (by decide) ?_
    exact b_stuck_18 X hE hF hL  h hS (lv_sub hl [0] rfl)
def F_stuck (N : Nat) (u : RSt) : Option (Int32 × RSt) := B_stuck_0 N u
set_option maxHeartbeats 4000000 in
theorem k_stuck (l : Launch) (D : va_G) (kA : Nat → ClassId) (V Z : Nat → Nat) (N : Nat) (u : RSt) (sz : Nat) {r : Int32} {w : RSt} (h : F_stuck N u = some (r, w)) : Met l yX12_stuck (Cond.code yX12_stuck cX12_stuck 1 none :: GW) { frames := 1, cells := 0, slots := 0, locals := 22 } (rPc D kA V Z [] u sz) (rQv D kA Z u sz w) 0 0 (va_A (RW kA Z u) sz) := by
  refine Met.ofW (cc := cX12_stuck) (maxL := 1) (ret := none) (by decide) rfl ?_
  intro p e s m args below meth c s₁ Bd hml hv
  obtain ⟨rfl, hsz, hP, hK, hD0, hE⟩ := hv
  have hts := atoms_spec (ws := Cond.code yX12_stuck cX12_stuck 1 none :: GW) Bd.pre
  have hl := lv_entry (.ref (Z 200) :: []) (n := 1) (Nat.le_of_ble_eq_true rfl)
  rw [lg_entry_eq]
  generalize (lg_sl (.ref (Z 200) :: []) ++ List.replicate (1 - (lg_sl (.ref (Z 200) :: [])).length) Slot.unset).toArray = ls at hl ⊢
  have hl : lv_has ls 1 [(0, .ref (Z 200))] := hl
  subst hsz
  have X : RC p s m (.ref (Z 200) :: []).toArray c cX12_stuck 1 (Cond.code yX12_stuck cX12_stuck 1 none) D kA V (va_A (RW kA Z u) s.heap.size) := ⟨⟨Bd.exec, Bd.bytes, hml, findClass_of_methodNamed Bd.named, hts⟩, hK, hE, fun q h => Or.inr h⟩
  exact b_stuck_0 X (rend_v (cy := cX12_stuck) X Bd.returns Bd.notSynchronized) (Nat.le_refl _) (Nat.le_refl _) h ⟨hP, hD0.self, va_S.rf⟩ (lv_sub hl [0] rfl)
theorem kc_stuck {r : Int32} {cc : ByteArray} {pc nL : Nat} {c0 : Cond} {rest : List Value} {u : RSt} (X : RC p s m args c cc nL c0 D kA V A) (hS : RS D kA Z A s u H locs) (h : F_stuck N u = some (r, w)) (hF : 1 + 1 ≤ R.frames) (hL : 8 + (1 + 11) + 22 ≤ R.locals) (hl : ls.size = nL) (hc : (rest.map fun v => v.category).sum ≤ 8) (hdg : decode cc pc = .ok (.invokevirtual 115, 3)) (kk : ∀ H locs, RS D kA Z A s w H locs → W p l e R s m args below meth c H locs 0 0 Q (F0 m (pc + 3) ls (rest))) : W p l e R s m args below meth c H locs 0 0 Q (F0 m pc ls (.ref (Z 200) :: rest)) :=
  rcall_v (n := 0) X hS (k_stuck l D kA V Z N  u H.size h) (gw_V gw_2332 gw_2334 gs_8_3 gw_16 gw_2335) (by decide +kernel) hF hL rfl hl hc rfl hdg kk
def B_take_0 (N : Nat) (l1 : Int32) (u : RSt) : Option (Int32 × RSt) := bn (F_is N l1 u) fun r_2 u_1 => if r_2 = (0 : Int32) then (bn (F_stuck N u_1) fun _ u_4 => some (0, u_4)) else (pu (sI u_1 65 ((u_1.1 65) + 1)) fun u_5 => some (0, u_5))
set_option maxHeartbeats 4000000 in
theorem b_take_0 {r : Int32} (X : RC p s m args c cX12_take 2 (Cond.code yX12_take cX12_take 2 none) D kA V A) (hE : REv p l e R s m args below meth c cX12_take D kA Z A Q w) (hF : 2 ≤ R.frames) (hL : 42 ≤ R.locals) {l1 : Int32}  {u : RSt} (h : B_take_0 N l1 u = some (r, w)) (hS : RS D kA Z A s u H locs) (hl : lv_has ls 2 [(0, .ref (Z 200)), (1, .int l1)]) : W p l e R s m args below meth c H locs 0 0 Q (F0 m 0 ls []) := by
  obtain ⟨⟨hx, hb, hml, hown, hts⟩, hK, hEV, hA⟩ := id X
  have hG : ∀ w ∈ GW, w.before args s = true := fun w h => hts w (List.mem_cons_of_mem _ h)
  unfold B_take_0 at h
  refine lv_aload_n hx hb dX12_take_0 rfl (lv_at hl 0 rfl) ?_
  refine lv_iload_n hx hb dX12_take_1 rfl (lv_at hl 1 rfl) ?_
  obtain ⟨r_2, u_1, h_u_1, h⟩ := bn_of h
  refine kc_is X hS h_u_1 (Nat.le_trans (Nat.le_of_ble_eq_true rfl) hF) (Nat.le_trans (Nat.le_of_ble_eq_true rfl) hL) hl.1 (Nat.le_of_ble_eq_true rfl) dX12_take_2 (fun H locs hS => ?_)
  refine lv_if_eq (tgt := 21) hx hb dX12_take_5 (by decide) (fun c_3 => ?_) (fun c_3 => ?_)
  · have h := ip (c_3) h
    refine lv_aload_n hx hb dX12_take_21 rfl (lv_at hl 0 rfl) ?_
    obtain ⟨r_u_4, u_4, h_u_4, h⟩ := bn_of h
    refine kc_stuck X hS h_u_4 (Nat.le_trans (Nat.le_of_ble_eq_true rfl) hF) (Nat.le_trans (Nat.le_of_ble_eq_true rfl) hL) hl.1 (Nat.le_of_ble_eq_true rfl) dX12_take_22 (fun H locs hS => ?_)
    obtain ⟨-, rfl⟩ := so h
    exact hE _ _ _ _ hS dX12_take_25
  · have h := im (c_3) h
    refine lv_aload_n hx hb dX12_take_8 rfl (lv_at hl 0 rfl) ?_
    refine lv_dup hx hb dX12_take_9 rfl ?_
    refine rg_65 X hS dX12_take_10 ?_
    refine lv_iconst (v := 1) hx hb dX12_take_13 (by decide) ?_
    refine lv_iadd hx hb dX12_take_14 ?_
    obtain ⟨u_5, e_u_5, h⟩ := pu_of h
    refine rp_65 X hS e_u_5 dX12_take_15 (fun H locs hS => ?_)
    refine lv_goto (tgt := 25) hx hb dX12_take_18 (by decide) ?_
    obtain ⟨-, rfl⟩ := so h
    exact hE _ _ _ _ hS dX12_take_25
def F_take (N : Nat) (l1 : Int32) (u : RSt) : Option (Int32 × RSt) := B_take_0 N l1 u
set_option maxHeartbeats 4000000 in
theorem k_take (l : Launch) (D : va_G) (kA : Nat → ClassId) (V Z : Nat → Nat) (N : Nat) (l1 : Int32) (u : RSt) (sz : Nat) {r : Int32} {w : RSt} (h : F_take N l1 u = some (r, w)) : Met l yX12_take (Cond.code yX12_take cX12_take 2 none :: GW) { frames := 2, cells := 0, slots := 0, locals := 42 } (rPc D kA V Z [.int l1] u sz) (rQv D kA Z u sz w) 0 0 (va_A (RW kA Z u) sz) := by
  refine Met.ofW (cc := cX12_take) (maxL := 2) (ret := none) (by decide) rfl ?_
  intro p e s m args below meth c s₁ Bd hml hv
  obtain ⟨rfl, hsz, hP, hK, hD0, hE⟩ := hv
  have hts := atoms_spec (ws := Cond.code yX12_take cX12_take 2 none :: GW) Bd.pre
  have hl := lv_entry (.ref (Z 200) :: [.int l1]) (n := 2) (Nat.le_of_ble_eq_true rfl)
  rw [lg_entry_eq]
  generalize (lg_sl (.ref (Z 200) :: [.int l1]) ++ List.replicate (2 - (lg_sl (.ref (Z 200) :: [.int l1])).length) Slot.unset).toArray = ls at hl ⊢
  have hl : lv_has ls 2 [(0, .ref (Z 200)), (1, .int l1)] := hl
  subst hsz
  have X : RC p s m (.ref (Z 200) :: [.int l1]).toArray c cX12_take 2 (Cond.code yX12_take cX12_take 2 none) D kA V (va_A (RW kA Z u) s.heap.size) := ⟨⟨Bd.exec, Bd.bytes, hml, findClass_of_methodNamed Bd.named, hts⟩, hK, hE, fun q h => Or.inr h⟩
  exact b_take_0 X (rend_v (cy := cX12_take) X Bd.returns Bd.notSynchronized) (Nat.le_refl _) (Nat.le_refl _) h ⟨hP, hD0.self, va_S.rf⟩ (lv_sub hl [0, 1] rfl)
theorem kc_take {r : Int32} {cc : ByteArray} {pc nL : Nat} {c0 : Cond} {rest : List Value} {l1 : Int32} {u : RSt} (X : RC p s m args c cc nL c0 D kA V A) (hS : RS D kA Z A s u H locs) (h : F_take N l1 u = some (r, w)) (hF : 2 + 1 ≤ R.frames) (hL : 8 + (2 + 11) + 42 ≤ R.locals) (hl : ls.size = nL) (hc : (rest.map fun v => v.category).sum ≤ 8) (hdg : decode cc pc = .ok (.invokevirtual 125, 3)) (kk : ∀ H locs, RS D kA Z A s w H locs → W p l e R s m args below meth c H locs 0 0 Q (F0 m (pc + 3) ls (rest))) : W p l e R s m args below meth c H locs 0 0 Q (F0 m pc ls (.int l1 :: .ref (Z 200) :: rest)) :=
  rcall_v (n := 1) X hS (k_take l D kA V Z N l1 u H.size h) (gw_V gw_2384 gw_2386 gs_9_0 gw_16 gw_2387) (by decide +kernel) hF hL rfl hl hc rfl hdg kk
def B_has_0 (N : Nat) (l1 : Int32) (u : RSt) : Option (Int32 × RSt) := bn (F_is N l1 u) fun r_2 u_1 => if r_2 = (0 : Int32) then (zr r_2 <| some (r_2, u_1)) else (pu (sI u_1 65 ((u_1.1 65) + 1)) fun u_4 => zr r_2 <| some (r_2, u_4))
set_option maxHeartbeats 4000000 in
theorem b_has_0 {r : Int32} (X : RC p s m args c cX12_has 3 (Cond.code yX12_has cX12_has 3 (some .boolean)) D kA V A) (hE : REz p l e R s m args below meth c cX12_has D kA Z A Q r w) (hF : 1 ≤ R.frames) (hL : 21 ≤ R.locals) {l1 : Int32}  {u : RSt} (h : B_has_0 N l1 u = some (r, w)) (hS : RS D kA Z A s u H locs) (hl : lv_has ls 3 [(0, .ref (Z 200)), (1, .int l1)]) : W p l e R s m args below meth c H locs 0 0 Q (F0 m 0 ls []) := by
  obtain ⟨⟨hx, hb, hml, hown, hts⟩, hK, hEV, hA⟩ := id X
  have hG : ∀ w ∈ GW, w.before args s = true := fun w h => hts w (List.mem_cons_of_mem _ h)
  unfold B_has_0 at h
  refine lv_aload_n hx hb dX12_has_0 rfl (lv_at hl 0 rfl) ?_
  refine lv_iload_n hx hb dX12_has_1 rfl (lv_at hl 1 rfl) ?_
  obtain ⟨r_2, u_1, h_u_1, h⟩ := bn_of h
  refine kc_is X hS h_u_1 (Nat.le_trans (Nat.le_of_ble_eq_true rfl) hF) (Nat.le_trans (Nat.le_of_ble_eq_true rfl) hL) hl.1 (Nat.le_of_ble_eq_true rfl) dX12_has_2 (fun H locs hS => ?_)
  refine lv_istore_n (lv' := [(2, .int r_2), (0, .ref (Z 200)), (1, .int l1)]) hx hb dX12_has_5 rfl hl (by decide) rfl (fun ls hl => ?_)
  refine lv_iload_n hx hb dX12_has_6 rfl (lv_at hl 0 rfl) ?_
  refine lv_if_eq (tgt := 20) hx hb dX12_has_7 (by decide) (fun c_3 => ?_) (fun c_3 => ?_)
  · have h := ip (c_3) h
    refine lv_iload_n hx hb dX12_has_20 rfl (lv_at hl 0 rfl) ?_
    obtain ⟨hz, h⟩ := zr_of h
    obtain ⟨rfl, rfl⟩ := so h
    exact hE _ _ _ _ hS hz dX12_has_21
  · have h := im (c_3) h
    refine lv_aload_n hx hb dX12_has_10 rfl (lv_at hl 1 rfl) ?_
    refine lv_dup hx hb dX12_has_11 rfl ?_
    refine rg_65 X hS dX12_has_12 ?_
    refine lv_iconst (v := 1) hx hb dX12_has_15 (by decide) ?_
    refine lv_iadd hx hb dX12_has_16 ?_
    obtain ⟨u_4, e_u_4, h⟩ := pu_of h
    refine rp_65 X hS e_u_4 dX12_has_17 (fun H locs hS => ?_)
    refine lv_iload_n hx hb dX12_has_20 rfl (lv_at hl 0 rfl) ?_
    obtain ⟨hz, h⟩ := zr_of h
    obtain ⟨rfl, rfl⟩ := so h
    exact hE _ _ _ _ hS hz dX12_has_21
def F_has (N : Nat) (l1 : Int32) (u : RSt) : Option (Int32 × RSt) := B_has_0 N l1 u
set_option maxHeartbeats 4000000 in
theorem k_has (l : Launch) (D : va_G) (kA : Nat → ClassId) (V Z : Nat → Nat) (N : Nat) (l1 : Int32) (u : RSt) (sz : Nat) {r : Int32} {w : RSt} (h : F_has N l1 u = some (r, w)) : Met l yX12_has (Cond.code yX12_has cX12_has 3 (some .boolean) :: GW) { frames := 1, cells := 0, slots := 0, locals := 21 } (rPc D kA V Z [.int l1] u sz) (rQi D kA Z u sz r w) 0 0 (va_A (RW kA Z u) sz) := by
  refine Met.ofW (cc := cX12_has) (maxL := 3) (ret := (some .boolean)) (by decide) rfl ?_
  intro p e s m args below meth c s₁ Bd hml hv
  obtain ⟨rfl, hsz, hP, hK, hD0, hE⟩ := hv
  have hts := atoms_spec (ws := Cond.code yX12_has cX12_has 3 (some .boolean) :: GW) Bd.pre
  have hl := lv_entry (.ref (Z 200) :: [.int l1]) (n := 3) (Nat.le_of_ble_eq_true rfl)
  rw [lg_entry_eq]
  generalize (lg_sl (.ref (Z 200) :: [.int l1]) ++ List.replicate (3 - (lg_sl (.ref (Z 200) :: [.int l1])).length) Slot.unset).toArray = ls at hl ⊢
  have hl : lv_has ls 3 [(0, .ref (Z 200)), (1, .int l1)] := hl
  subst hsz
  have X : RC p s m (.ref (Z 200) :: [.int l1]).toArray c cX12_has 3 (Cond.code yX12_has cX12_has 3 (some .boolean)) D kA V (va_A (RW kA Z u) s.heap.size) := ⟨⟨Bd.exec, Bd.bytes, hml, findClass_of_methodNamed Bd.named, hts⟩, hK, hE, fun q h => Or.inr h⟩
  exact b_has_0 X (rend_z (cy := cX12_has) X Bd.returns Bd.notSynchronized) (Nat.le_refl _) (Nat.le_refl _) h ⟨hP, hD0.self, va_S.rf⟩ (lv_sub hl [0, 1] rfl)
theorem kc_has {r : Int32} {cc : ByteArray} {pc nL : Nat} {c0 : Cond} {rest : List Value} {l1 : Int32} {u : RSt} (X : RC p s m args c cc nL c0 D kA V A) (hS : RS D kA Z A s u H locs) (h : F_has N l1 u = some (r, w)) (hF : 1 + 1 ≤ R.frames) (hL : 8 + (3 + 11) + 21 ≤ R.locals) (hl : ls.size = nL) (hc : (rest.map fun v => v.category).sum ≤ 8) (hdg : decode cc pc = .ok (.invokevirtual 218, 3)) (kk : ∀ H locs, RS D kA Z A s w H locs → W p l e R s m args below meth c H locs 0 0 Q (F0 m (pc + 3) ls (.int r :: rest))) : W p l e R s m args below meth c H locs 0 0 Q (F0 m pc ls (.int l1 :: .ref (Z 200) :: rest)) :=
  rcall_i (n := 1) X hS (k_has l D kA V Z N l1 u H.size h) (gw_V gw_2388 gw_2390 gs_9_1 gw_16 gw_2391) (by decide +kernel) hF hL rfl hl hc rfl hdg kk
def B_opens_0 (N : Nat) (u : RSt) : Option (Int32 × RSt) := pu (sI u 66 ((u.1 66) + 1)) fun u_1 => if (u_1.1 66) ≤ (24 : Int32) then (some (0, u_1)) else (rd (u_1.2.2.1 3) 1502 (u_1.1 65) fun v_3 => bn (F_bad N 2 v_3 u_1) fun _ u_5 => some (0, u_5))
set_option maxHeartbeats 4000000 in
theorem b_opens_0 {r : Int32} (X : RC p s m args c cX12_opens 1 (Cond.code yX12_opens cX12_opens 1 none) D kA V A) (hE : REv p l e R s m args below meth c cX12_opens D kA Z A Q w) (hF : 1 ≤ R.frames) (hL : 22 ≤ R.locals)  {u : RSt} (h : B_opens_0 N u = some (r, w)) (hS : RS D kA Z A s u H locs) (hl : lv_has ls 1 [(0, .ref (Z 200))]) : W p l e R s m args below meth c H locs 0 0 Q (F0 m 0 ls []) := by
  obtain ⟨⟨hx, hb, hml, hown, hts⟩, hK, hEV, hA⟩ := id X
  have hG : ∀ w ∈ GW, w.before args s = true := fun w h => hts w (List.mem_cons_of_mem _ h)
  unfold B_opens_0 at h
  refine lv_aload_n hx hb dX12_opens_0 rfl (lv_at hl 0 rfl) ?_
  refine lv_dup hx hb dX12_opens_1 rfl ?_
  refine rg_66 X hS dX12_opens_2 ?_
  refine lv_iconst (v := 1) hx hb dX12_opens_5 (by decide) ?_
  refine lv_iadd hx hb dX12_opens_6 ?_
  obtain ⟨u_1, e_u_1, h⟩ := pu_of h
  refine rp_66 X hS e_u_1 dX12_opens_7 (fun H locs hS => ?_)
  refine lv_aload_n hx hb dX12_opens_10 rfl (lv_at hl 0 rfl) ?_
  refine rg_66 X hS dX12_opens_11 ?_
  refine lv_bipush (v := 24) hx hb dX12_opens_14 (by decide) ?_
  refine lv_icmp_le (tgt := 33) hx hb dX12_opens_16 (by decide) (fun c_2 => ?_) (fun c_2 => ?_)
  · have h := ip (c_2) h
    obtain ⟨-, rfl⟩ := so h
    exact hE _ _ _ _ hS dX12_opens_33
  · have h := im (c_2) h
    refine lv_aload_n hx hb dX12_opens_19 rfl (lv_at hl 0 rfl) ?_
    refine lv_iconst (v := 2) hx hb dX12_opens_20 (by decide) ?_
    refine lv_aload_n hx hb dX12_opens_21 rfl (lv_at hl 0 rfl) ?_
    refine rg_3 X hS dX12_opens_22 ?_
    refine lv_aload_n hx hb dX12_opens_25 rfl (lv_at hl 0 rfl) ?_
    refine rg_65 X hS dX12_opens_26 ?_
    obtain ⟨v_3, e_v_3, i_4, h⟩ := rd_of h
    refine ra_3 X hS i_4 e_v_3 dX12_opens_29 ?_
    obtain ⟨r_u_5, u_5, h_u_5, h⟩ := bn_of h
    refine kc_bad X hS h_u_5 (Nat.le_trans (Nat.le_of_ble_eq_true rfl) hF) (Nat.le_trans (Nat.le_of_ble_eq_true rfl) hL) hl.1 (Nat.le_of_ble_eq_true rfl) dX12_opens_30 (fun H locs hS => ?_)
    obtain ⟨-, rfl⟩ := so h
    exact hE _ _ _ _ hS dX12_opens_33
def F_opens (N : Nat) (u : RSt) : Option (Int32 × RSt) := B_opens_0 N u
set_option maxHeartbeats 4000000 in
theorem k_opens (l : Launch) (D : va_G) (kA : Nat → ClassId) (V Z : Nat → Nat) (N : Nat) (u : RSt) (sz : Nat) {r : Int32} {w : RSt} (h : F_opens N u = some (r, w)) : Met l yX12_opens (Cond.code yX12_opens cX12_opens 1 none :: GW) { frames := 1, cells := 0, slots := 0, locals := 22 } (rPc D kA V Z [] u sz) (rQv D kA Z u sz w) 0 0 (va_A (RW kA Z u) sz) := by
  refine Met.ofW (cc := cX12_opens) (maxL := 1) (ret := none) (by decide) rfl ?_
  intro p e s m args below meth c s₁ Bd hml hv
  obtain ⟨rfl, hsz, hP, hK, hD0, hE⟩ := hv
  have hts := atoms_spec (ws := Cond.code yX12_opens cX12_opens 1 none :: GW) Bd.pre
  have hl := lv_entry (.ref (Z 200) :: []) (n := 1) (Nat.le_of_ble_eq_true rfl)
  rw [lg_entry_eq]
  generalize (lg_sl (.ref (Z 200) :: []) ++ List.replicate (1 - (lg_sl (.ref (Z 200) :: [])).length) Slot.unset).toArray = ls at hl ⊢
  have hl : lv_has ls 1 [(0, .ref (Z 200))] := hl
  subst hsz
  have X : RC p s m (.ref (Z 200) :: []).toArray c cX12_opens 1 (Cond.code yX12_opens cX12_opens 1 none) D kA V (va_A (RW kA Z u) s.heap.size) := ⟨⟨Bd.exec, Bd.bytes, hml, findClass_of_methodNamed Bd.named, hts⟩, hK, hE, fun q h => Or.inr h⟩
  exact b_opens_0 X (rend_v (cy := cX12_opens) X Bd.returns Bd.notSynchronized) (Nat.le_refl _) (Nat.le_refl _) h ⟨hP, hD0.self, va_S.rf⟩ (lv_sub hl [0] rfl)
theorem kc_opens {r : Int32} {cc : ByteArray} {pc nL : Nat} {c0 : Cond} {rest : List Value} {u : RSt} (X : RC p s m args c cc nL c0 D kA V A) (hS : RS D kA Z A s u H locs) (h : F_opens N u = some (r, w)) (hF : 1 + 1 ≤ R.frames) (hL : 8 + (1 + 11) + 22 ≤ R.locals) (hl : ls.size = nL) (hc : (rest.map fun v => v.category).sum ≤ 8) (hdg : decode cc pc = .ok (.invokevirtual 122, 3)) (kk : ∀ H locs, RS D kA Z A s w H locs → W p l e R s m args below meth c H locs 0 0 Q (F0 m (pc + 3) ls (rest))) : W p l e R s m args below meth c H locs 0 0 Q (F0 m pc ls (.ref (Z 200) :: rest)) :=
  rcall_v (n := 0) X hS (k_opens l D kA V Z N  u H.size h) (gw_V gw_2368 gw_2370 gs_8_12 gw_16 gw_2371) (by decide +kernel) hF hL rfl hl hc rfl hdg kk
def B_begins_0 (N : Nat) (l1 : Int32) (u : RSt) : Option (Int32 × RSt) := bn (F_is N l1 u) fun r_2 u_1 => if r_2 = (0 : Int32) then (bn (F_stuck N u_1) fun _ u_7 => some (0, u_7)) else (bn (F_opens N u_1) fun _ u_4 => if (u_4.1 67) = (0 : Int32) then (pu (sI u_4 65 ((u_4.1 65) + 1)) fun u_6 => some (0, u_6)) else (some (0, u_4)))
set_option maxHeartbeats 4000000 in
theorem b_begins_0 {r : Int32} (X : RC p s m args c cX12_begins 2 (Cond.code yX12_begins cX12_begins 2 none) D kA V A) (hE : REv p l e R s m args below meth c cX12_begins D kA Z A Q w) (hF : 2 ≤ R.frames) (hL : 42 ≤ R.locals) {l1 : Int32}  {u : RSt} (h : B_begins_0 N l1 u = some (r, w)) (hS : RS D kA Z A s u H locs) (hl : lv_has ls 2 [(0, .ref (Z 200)), (1, .int l1)]) : W p l e R s m args below meth c H locs 0 0 Q (F0 m 0 ls []) := by
  obtain ⟨⟨hx, hb, hml, hown, hts⟩, hK, hEV, hA⟩ := id X
  have hG : ∀ w ∈ GW, w.before args s = true := fun w h => hts w (List.mem_cons_of_mem _ h)
  unfold B_begins_0 at h
  refine lv_aload_n hx hb dX12_begins_0 rfl (lv_at hl 0 rfl) ?_
  refine lv_iload_n hx hb dX12_begins_1 rfl (lv_at hl 1 rfl) ?_
  obtain ⟨r_2, u_1, h_u_1, h⟩ := bn_of h
  refine kc_is X hS h_u_1 (Nat.le_trans (Nat.le_of_ble_eq_true rfl) hF) (Nat.le_trans (Nat.le_of_ble_eq_true rfl) hL) hl.1 (Nat.le_of_ble_eq_true rfl) dX12_begins_2 (fun H locs hS => ?_)
  refine lv_if_ne (tgt := 13) hx hb dX12_begins_5 (by decide) (fun c_3 => ?_) (fun c_3 => ?_)
  · have h := im (c_3) h
    refine lv_aload_n hx hb dX12_begins_13 rfl (lv_at hl 0 rfl) ?_
    obtain ⟨r_u_4, u_4, h_u_4, h⟩ := bn_of h
    refine kc_opens X hS h_u_4 (Nat.le_trans (Nat.le_of_ble_eq_true rfl) hF) (Nat.le_trans (Nat.le_of_ble_eq_true rfl) hL) hl.1 (Nat.le_of_ble_eq_true rfl) dX12_begins_14 (fun H locs hS => ?_)
    refine lv_aload_n hx hb dX12_begins_17 rfl (lv_at hl 0 rfl) ?_
    refine rg_67 X hS dX12_begins_18 ?_
    refine lv_if_ne (tgt := 34) hx hb dX12_begins_21 (by decide) (fun c_5 => ?_) (fun c_5 => ?_)
    · have h := im (c_5) h
      obtain ⟨-, rfl⟩ := so h
      exact hE _ _ _ _ hS dX12_begins_34
    · have h := ip (c_5) h
      refine lv_aload_n hx hb dX12_begins_24 rfl (lv_at hl 0 rfl) ?_
      refine lv_dup hx hb dX12_begins_25 rfl ?_
      refine rg_65 X hS dX12_begins_26 ?_
      refine lv_iconst (v := 1) hx hb dX12_begins_29 (by decide) ?_
      refine lv_iadd hx hb dX12_begins_30 ?_
      obtain ⟨u_6, e_u_6, h⟩ := pu_of h
      refine rp_65 X hS e_u_6 dX12_begins_31 (fun H locs hS => ?_)
      obtain ⟨-, rfl⟩ := so h
      exact hE _ _ _ _ hS dX12_begins_34
  · have h := ip (c_3) h
    refine lv_aload_n hx hb dX12_begins_8 rfl (lv_at hl 0 rfl) ?_
    obtain ⟨r_u_7, u_7, h_u_7, h⟩ := bn_of h
    refine kc_stuck X hS h_u_7 (Nat.le_trans (Nat.le_of_ble_eq_true rfl) hF) (Nat.le_trans (Nat.le_of_ble_eq_true rfl) hL) hl.1 (Nat.le_of_ble_eq_true rfl) dX12_begins_9 (fun H locs hS => ?_)
    obtain ⟨-, rfl⟩ := so h
    exact hE _ _ _ _ hS dX12_begins_12
def F_begins (N : Nat) (l1 : Int32) (u : RSt) : Option (Int32 × RSt) := B_begins_0 N l1 u
set_option maxHeartbeats 4000000 in
theorem k_begins (l : Launch) (D : va_G) (kA : Nat → ClassId) (V Z : Nat → Nat) (N : Nat) (l1 : Int32) (u : RSt) (sz : Nat) {r : Int32} {w : RSt} (h : F_begins N l1 u = some (r, w)) : Met l yX12_begins (Cond.code yX12_begins cX12_begins 2 none :: GW) { frames := 2, cells := 0, slots := 0, locals := 42 } (rPc D kA V Z [.int l1] u sz) (rQv D kA Z u sz w) 0 0 (va_A (RW kA Z u) sz) := by
  refine Met.ofW (cc := cX12_begins) (maxL := 2) (ret := none) (by decide) rfl ?_
  intro p e s m args below meth c s₁ Bd hml hv
  obtain ⟨rfl, hsz, hP, hK, hD0, hE⟩ := hv
  have hts := atoms_spec (ws := Cond.code yX12_begins cX12_begins 2 none :: GW) Bd.pre
  have hl := lv_entry (.ref (Z 200) :: [.int l1]) (n := 2) (Nat.le_of_ble_eq_true rfl)
  rw [lg_entry_eq]
  generalize (lg_sl (.ref (Z 200) :: [.int l1]) ++ List.replicate (2 - (lg_sl (.ref (Z 200) :: [.int l1])).length) Slot.unset).toArray = ls at hl ⊢
  have hl : lv_has ls 2 [(0, .ref (Z 200)), (1, .int l1)] := hl
  subst hsz
  have X : RC p s m (.ref (Z 200) :: [.int l1]).toArray c cX12_begins 2 (Cond.code yX12_begins cX12_begins 2 none) D kA V (va_A (RW kA Z u) s.heap.size) := ⟨⟨Bd.exec, Bd.bytes, hml, findClass_of_methodNamed Bd.named, hts⟩, hK, hE, fun q h => Or.inr h⟩
  exact b_begins_0 X (rend_v (cy := cX12_begins) X Bd.returns Bd.notSynchronized) (Nat.le_refl _) (Nat.le_refl _) h ⟨hP, hD0.self, va_S.rf⟩ (lv_sub hl [0, 1] rfl)
theorem kc_begins {r : Int32} {cc : ByteArray} {pc nL : Nat} {c0 : Cond} {rest : List Value} {l1 : Int32} {u : RSt} (X : RC p s m args c cc nL c0 D kA V A) (hS : RS D kA Z A s u H locs) (h : F_begins N l1 u = some (r, w)) (hF : 2 + 1 ≤ R.frames) (hL : 8 + (2 + 11) + 42 ≤ R.locals) (hl : ls.size = nL) (hc : (rest.map fun v => v.category).sum ≤ 8) (hdg : decode cc pc = .ok (.invokevirtual 307, 3)) (kk : ∀ H locs, RS D kA Z A s w H locs → W p l e R s m args below meth c H locs 0 0 Q (F0 m (pc + 3) ls (rest))) : W p l e R s m args below meth c H locs 0 0 Q (F0 m pc ls (.int l1 :: .ref (Z 200) :: rest)) :=
  rcall_v (n := 1) X hS (k_begins l D kA V Z N l1 u H.size h) (gw_V gw_2364 gw_2366 gs_8_11 gw_16 gw_2367) (by decide +kernel) hF hL rfl hl hc rfl hdg kk
def B_ends_0 (N : Nat) (l1 : Int32) (u : RSt) : Option (Int32 × RSt) := bn (F_take N l1 u) fun _ u_1 => pu (sI u_1 66 ((u_1.1 66) - 1)) fun u_2 => some (0, u_2)
set_option maxHeartbeats 4000000 in
theorem b_ends_0 {r : Int32} (X : RC p s m args c cX12_ends 2 (Cond.code yX12_ends cX12_ends 2 none) D kA V A) (hE : REv p l e R s m args below meth c cX12_ends D kA Z A Q w) (hF : 3 ≤ R.frames) (hL : 63 ≤ R.locals) {l1 : Int32}  {u : RSt} (h : B_ends_0 N l1 u = some (r, w)) (hS : RS D kA Z A s u H locs) (hl : lv_has ls 2 [(0, .ref (Z 200)), (1, .int l1)]) : W p l e R s m args below meth c H locs 0 0 Q (F0 m 0 ls []) := by
  obtain ⟨⟨hx, hb, hml, hown, hts⟩, hK, hEV, hA⟩ := id X
  have hG : ∀ w ∈ GW, w.before args s = true := fun w h => hts w (List.mem_cons_of_mem _ h)
  unfold B_ends_0 at h
  refine lv_aload_n hx hb dX12_ends_0 rfl (lv_at hl 0 rfl) ?_
  refine lv_iload_n hx hb dX12_ends_1 rfl (lv_at hl 1 rfl) ?_
  obtain ⟨r_u_1, u_1, h_u_1, h⟩ := bn_of h
  refine kc_take X hS h_u_1 (Nat.le_trans (Nat.le_of_ble_eq_true rfl) hF) (Nat.le_trans (Nat.le_of_ble_eq_true rfl) hL) hl.1 (Nat.le_of_ble_eq_true rfl) dX12_ends_2 (fun H locs hS => ?_)
  refine lv_aload_n hx hb dX12_ends_5 rfl (lv_at hl 0 rfl) ?_
  refine lv_dup hx hb dX12_ends_6 rfl ?_
  refine rg_66 X hS dX12_ends_7 ?_
  refine lv_iconst (v := 1) hx hb dX12_ends_10 (by decide) ?_
  refine lv_isub hx hb dX12_ends_11 ?_
  obtain ⟨u_2, e_u_2, h⟩ := pu_of h
  refine rp_66 X hS e_u_2 dX12_ends_12 (fun H locs hS => ?_)
  obtain ⟨-, rfl⟩ := so h
  exact hE _ _ _ _ hS dX12_ends_15
def F_ends (N : Nat) (l1 : Int32) (u : RSt) : Option (Int32 × RSt) := B_ends_0 N l1 u
set_option maxHeartbeats 4000000 in
theorem k_ends (l : Launch) (D : va_G) (kA : Nat → ClassId) (V Z : Nat → Nat) (N : Nat) (l1 : Int32) (u : RSt) (sz : Nat) {r : Int32} {w : RSt} (h : F_ends N l1 u = some (r, w)) : Met l yX12_ends (Cond.code yX12_ends cX12_ends 2 none :: GW) { frames := 3, cells := 0, slots := 0, locals := 63 } (rPc D kA V Z [.int l1] u sz) (rQv D kA Z u sz w) 0 0 (va_A (RW kA Z u) sz) := by
  refine Met.ofW (cc := cX12_ends) (maxL := 2) (ret := none) (by decide) rfl ?_
  intro p e s m args below meth c s₁ Bd hml hv
  obtain ⟨rfl, hsz, hP, hK, hD0, hE⟩ := hv
  have hts := atoms_spec (ws := Cond.code yX12_ends cX12_ends 2 none :: GW) Bd.pre
  have hl := lv_entry (.ref (Z 200) :: [.int l1]) (n := 2) (Nat.le_of_ble_eq_true rfl)
  rw [lg_entry_eq]
  generalize (lg_sl (.ref (Z 200) :: [.int l1]) ++ List.replicate (2 - (lg_sl (.ref (Z 200) :: [.int l1])).length) Slot.unset).toArray = ls at hl ⊢
  have hl : lv_has ls 2 [(0, .ref (Z 200)), (1, .int l1)] := hl
  subst hsz
  have X : RC p s m (.ref (Z 200) :: [.int l1]).toArray c cX12_ends 2 (Cond.code yX12_ends cX12_ends 2 none) D kA V (va_A (RW kA Z u) s.heap.size) := ⟨⟨Bd.exec, Bd.bytes, hml, findClass_of_methodNamed Bd.named, hts⟩, hK, hE, fun q h => Or.inr h⟩
  exact b_ends_0 X (rend_v (cy := cX12_ends) X Bd.returns Bd.notSynchronized) (Nat.le_refl _) (Nat.le_refl _) h ⟨hP, hD0.self, va_S.rf⟩ (lv_sub hl [0, 1] rfl)
theorem kc_ends {r : Int32} {cc : ByteArray} {pc nL : Nat} {c0 : Cond} {rest : List Value} {l1 : Int32} {u : RSt} (X : RC p s m args c cc nL c0 D kA V A) (hS : RS D kA Z A s u H locs) (h : F_ends N l1 u = some (r, w)) (hF : 3 + 1 ≤ R.frames) (hL : 8 + (2 + 11) + 63 ≤ R.locals) (hl : ls.size = nL) (hc : (rest.map fun v => v.category).sum ≤ 8) (hdg : decode cc pc = .ok (.invokevirtual 314, 3)) (kk : ∀ H locs, RS D kA Z A s w H locs → W p l e R s m args below meth c H locs 0 0 Q (F0 m (pc + 3) ls (rest))) : W p l e R s m args below meth c H locs 0 0 Q (F0 m pc ls (.int l1 :: .ref (Z 200) :: rest)) :=
  rcall_v (n := 1) X hS (k_ends l D kA V Z N l1 u H.size h) (gw_V gw_2380 gw_2382 gs_8_15 gw_16 gw_2383) (by decide +kernel) hF hL rfl hl hc rfl hdg kk
def B_isNumber_16 (N : Nat) (u : RSt) : Option (Int32 × RSt) := some (1, u)
set_option maxHeartbeats 4000000 in
theorem b_isNumber_16 {r : Int32} (X : RC p s m args c cX12_isNumber 1 (Cond.code yX12_isNumber cX12_isNumber 1 (some .boolean)) D kA V A) (hE : REz p l e R s m args below meth c cX12_isNumber D kA Z A Q r w) (hF : 1 ≤ R.frames) (hL : 21 ≤ R.locals)  {u : RSt} (h : B_isNumber_16 N u = some (r, w)) (hS : RS D kA Z A s u H locs) (hl : lv_has ls 1 []) : W p l e R s m args below meth c H locs 0 0 Q (F0 m 16 ls []) := by
  obtain ⟨⟨hx, hb, hml, hown, hts⟩, hK, hEV, hA⟩ := id X
  have hG : ∀ w ∈ GW, w.before args s = true := fun w h => hts w (List.mem_cons_of_mem _ h)
  unfold B_isNumber_16 at h
  refine lv_iconst (v := 1) hx hb dX12_isNumber_16 (by decide) ?_
  refine lv_goto (tgt := 21) hx hb dX12_isNumber_17 (by decide) ?_
  obtain ⟨rfl, rfl⟩ := so h
  exact hE _ _ _ _ hS (Or.inr rfl) dX12_isNumber_21
def B_isNumber_0 (N : Nat) (u : RSt) : Option (Int32 × RSt) := bn (F_is N 2 u) fun r_2 u_1 => if r_2 = (0 : Int32) then (bn (F_is N 3 u_1) fun r_5 u_4 => if r_5 = (0 : Int32) then (some (0, u_4)) else (B_isNumber_16 N u_4)) else (B_isNumber_16 N u_1)
set_option maxHeartbeats 4000000 in
theorem b_isNumber_0 {r : Int32} (X : RC p s m args c cX12_isNumber 1 (Cond.code yX12_isNumber cX12_isNumber 1 (some .boolean)) D kA V A) (hE : REz p l e R s m args below meth c cX12_isNumber D kA Z A Q r w) (hF : 1 ≤ R.frames) (hL : 21 ≤ R.locals)  {u : RSt} (h : B_isNumber_0 N u = some (r, w)) (hS : RS D kA Z A s u H locs) (hl : lv_has ls 1 [(0, .ref (Z 200))]) : W p l e R s m args below meth c H locs 0 0 Q (F0 m 0 ls []) := by
  obtain ⟨⟨hx, hb, hml, hown, hts⟩, hK, hEV, hA⟩ := id X
  have hG : ∀ w ∈ GW, w.before args s = true := fun w h => hts w (List.mem_cons_of_mem _ h)
  unfold B_isNumber_0 at h
  refine lv_aload_n hx hb dX12_isNumber_0 rfl (lv_at hl 0 rfl) ?_
  refine lv_iconst (v := 2) hx hb dX12_isNumber_1 (by decide) ?_
  obtain ⟨r_2, u_1, h_u_1, h⟩ := bn_of h
  refine kc_is X hS h_u_1 (Nat.le_trans (Nat.le_of_ble_eq_true rfl) hF) (Nat.le_trans (Nat.le_of_ble_eq_true rfl) hL) hl.1 (Nat.le_of_ble_eq_true rfl) dX12_isNumber_2 (fun H locs hS => ?_)
  refine lv_if_ne (tgt := 16) hx hb dX12_isNumber_5 (by decide) (fun c_3 => ?_) (fun c_3 => ?_)
  · have h := im (c_3) h
    exact b_isNumber_16 X hE hF hL  h hS (lv_sub hl [] rfl)
  · have h := ip (c_3) h
    refine lv_aload_n hx hb dX12_isNumber_8 rfl (lv_at hl 0 rfl) ?_
    refine lv_iconst (v := 3) hx hb dX12_isNumber_9 (by decide) ?_
    obtain ⟨r_5, u_4, h_u_4, h⟩ := bn_of h
    refine kc_is X hS h_u_4 (Nat.le_trans (Nat.le_of_ble_eq_true rfl) hF) (Nat.le_trans (Nat.le_of_ble_eq_true rfl) hL) hl.1 (Nat.le_of_ble_eq_true rfl) dX12_isNumber_10 (fun H locs hS => ?_)
    refine lv_if_eq (tgt := 20) hx hb dX12_isNumber_13 (by decide) (fun c_6 => ?_) (fun c_6 => ?_)
    · have h := ip (c_6) h
      refine lv_iconst (v := 0) hx hb dX12_isNumber_20 (by decide) ?_
      obtain ⟨rfl, rfl⟩ := so h
      exact hE _ _ _ _ hS (Or.inl rfl) dX12_isNumber_21
    · have h := im (c_6) h
      exact b_isNumber_16 X hE hF hL  h hS (lv_sub hl [] rfl)
def F_isNumber (N : Nat) (u : RSt) : Option (Int32 × RSt) := B_isNumber_0 N u
set_option maxHeartbeats 4000000 in
theorem k_isNumber (l : Launch) (D : va_G) (kA : Nat → ClassId) (V Z : Nat → Nat) (N : Nat) (u : RSt) (sz : Nat) {r : Int32} {w : RSt} (h : F_isNumber N u = some (r, w)) : Met l yX12_isNumber (Cond.code yX12_isNumber cX12_isNumber 1 (some .boolean) :: GW) { frames := 1, cells := 0, slots := 0, locals := 21 } (rPc D kA V Z [] u sz) (rQi D kA Z u sz r w) 0 0 (va_A (RW kA Z u) sz) := by
  refine Met.ofW (cc := cX12_isNumber) (maxL := 1) (ret := (some .boolean)) (by decide) rfl ?_
  intro p e s m args below meth c s₁ Bd hml hv
  obtain ⟨rfl, hsz, hP, hK, hD0, hE⟩ := hv
  have hts := atoms_spec (ws := Cond.code yX12_isNumber cX12_isNumber 1 (some .boolean) :: GW) Bd.pre
  have hl := lv_entry (.ref (Z 200) :: []) (n := 1) (Nat.le_of_ble_eq_true rfl)
  rw [lg_entry_eq]
  generalize (lg_sl (.ref (Z 200) :: []) ++ List.replicate (1 - (lg_sl (.ref (Z 200) :: [])).length) Slot.unset).toArray = ls at hl ⊢
  have hl : lv_has ls 1 [(0, .ref (Z 200))] := hl
  subst hsz
  have X : RC p s m (.ref (Z 200) :: []).toArray c cX12_isNumber 1 (Cond.code yX12_isNumber cX12_isNumber 1 (some .boolean)) D kA V (va_A (RW kA Z u) s.heap.size) := ⟨⟨Bd.exec, Bd.bytes, hml, findClass_of_methodNamed Bd.named, hts⟩, hK, hE, fun q h => Or.inr h⟩
  exact b_isNumber_0 X (rend_z (cy := cX12_isNumber) X Bd.returns Bd.notSynchronized) (Nat.le_refl _) (Nat.le_refl _) h ⟨hP, hD0.self, va_S.rf⟩ (lv_sub hl [0] rfl)
theorem kc_isNumber {r : Int32} {cc : ByteArray} {pc nL : Nat} {c0 : Cond} {rest : List Value} {u : RSt} (X : RC p s m args c cc nL c0 D kA V A) (hS : RS D kA Z A s u H locs) (h : F_isNumber N u = some (r, w)) (hF : 1 + 1 ≤ R.frames) (hL : 8 + (1 + 11) + 21 ≤ R.locals) (hl : ls.size = nL) (hc : (rest.map fun v => v.category).sum ≤ 8) (hdg : decode cc pc = .ok (.invokevirtual 221, 3)) (kk : ∀ H locs, RS D kA Z A s w H locs → W p l e R s m args below meth c H locs 0 0 Q (F0 m (pc + 3) ls (.int r :: rest))) : W p l e R s m args below meth c H locs 0 0 Q (F0 m pc ls (.ref (Z 200) :: rest)) :=
  rcall_i (n := 0) X hS (k_isNumber l D kA V Z N  u H.size h) (gw_V gw_2376 gw_2378 gs_8_14 gw_16 gw_2379) (by decide +kernel) hF hL rfl hl hc rfl hdg kk
def B_emit_0 (N : Nat) (l1 : Int32) (l2 : Int32) (l3 : Int32) (u : RSt) : Option (Int32 × RSt) := if (u.1 69) = (0 : Int32) then (some (0, u)) else (if (u.1 67) = (0 : Int32) then (rd (u.2.2.1 54) 2 (u.1 56) fun v_3 => rd (u.2.2.1 54) 2 (u.1 56) fun v_5 => wr 2 (u.1 56) (sA u 54 (u.1 56).toNatClampNeg (v_5 + 1)) fun u_7 => wr 16000 ((8000 * (u.1 56)) + v_3) (sA u_7 49 ((8000 * (u.1 56)) + v_3).toNatClampNeg l1) fun u_9 => wr 16000 ((8000 * (u.1 56)) + v_3) (sA u_9 50 ((8000 * (u.1 56)) + v_3).toNatClampNeg l2) fun u_11 => wr 16000 ((8000 * (u.1 56)) + v_3) (sA u_11 51 ((8000 * (u.1 56)) + v_3).toNatClampNeg l3) fun u_13 => some ((8000 * (u.1 56)) + v_3, u_13)) else (some (0, u)))
set_option maxHeartbeats 4000000 in
theorem b_emit_0 {r : Int32} (X : RC p s m args c cX12_emit 5 (Cond.code yX12_emit cX12_emit 5 (some .int)) D kA V A) (hE : REi p l e R s m args below meth c cX12_emit D kA Z A Q r w) (hF : 0 ≤ R.frames) (hL : 0 ≤ R.locals) {l1 : Int32} {l2 : Int32} {l3 : Int32}  {u : RSt} (h : B_emit_0 N l1 l2 l3 u = some (r, w)) (hS : RS D kA Z A s u H locs) (hl : lv_has ls 5 [(0, .ref (Z 200)), (1, .int l1), (2, .int l2), (3, .int l3)]) : W p l e R s m args below meth c H locs 0 0 Q (F0 m 0 ls []) := by
  obtain ⟨⟨hx, hb, hml, hown, hts⟩, hK, hEV, hA⟩ := id X
  have hG : ∀ w ∈ GW, w.before args s = true := fun w h => hts w (List.mem_cons_of_mem _ h)
  unfold B_emit_0 at h
  refine lv_aload_n hx hb dX12_emit_0 rfl (lv_at hl 0 rfl) ?_
  refine rg_69 X hS dX12_emit_1 ?_
  refine lv_if_eq (tgt := 14) hx hb dX12_emit_4 (by decide) (fun c_1 => ?_) (fun c_1 => ?_)
  · have h := ip (c_1) h
    refine lv_iconst (v := 0) hx hb dX12_emit_14 (by decide) ?_
    obtain ⟨rfl, rfl⟩ := so h
    exact hE _ _ _ _ hS dX12_emit_15
  · have h := im (c_1) h
    refine lv_aload_n hx hb dX12_emit_7 rfl (lv_at hl 0 rfl) ?_
    refine rg_67 X hS dX12_emit_8 ?_
    refine lv_if_eq (tgt := 16) hx hb dX12_emit_11 (by decide) (fun c_2 => ?_) (fun c_2 => ?_)
    · have h := ip (c_2) h
      refine lv_sipush (v := 8000) hx hb dX12_emit_16 (by decide) ?_
      refine lv_aload_n hx hb dX12_emit_19 rfl (lv_at hl 0 rfl) ?_
      refine rg_56 X hS dX12_emit_20 ?_
      refine lv_imul hx hb dX12_emit_23 ?_
      refine lv_aload_n hx hb dX12_emit_24 rfl (lv_at hl 0 rfl) ?_
      refine rg_54 X hS dX12_emit_25 ?_
      refine lv_aload_n hx hb dX12_emit_28 rfl (lv_at hl 0 rfl) ?_
      refine rg_56 X hS dX12_emit_29 ?_
      obtain ⟨v_3, e_v_3, i_4, h⟩ := rd_of h
      refine ra_54 X hS i_4 e_v_3 dX12_emit_32 ?_
      refine lv_iadd hx hb dX12_emit_33 ?_
      refine lv_istore (lv' := [(4, .int ((8000 * (u.1 56)) + v_3)), (0, .ref (Z 200)), (1, .int l1), (2, .int l2), (3, .int l3)]) hx hb dX12_emit_34 hl (by decide) rfl (fun ls hl => ?_)
      refine lv_aload_n hx hb dX12_emit_36 rfl (lv_at hl 1 rfl) ?_
      refine rg_54 X hS dX12_emit_37 ?_
      refine lv_aload_n hx hb dX12_emit_40 rfl (lv_at hl 1 rfl) ?_
      refine rg_56 X hS dX12_emit_41 ?_
      refine lv_dup2_11 hx hb dX12_emit_44 rfl rfl ?_
      obtain ⟨v_5, e_v_5, i_6, h⟩ := rd_of h
      refine ra_54 X hS i_6 e_v_5 dX12_emit_45 ?_
      refine lv_iconst (v := 1) hx hb dX12_emit_46 (by decide) ?_
      refine lv_iadd hx hb dX12_emit_47 ?_
      obtain ⟨u_7, e_u_7, i_8, h⟩ := wr_of h
      refine rs_54 X hS i_8 e_u_7 dX12_emit_48 (fun H locs hS => ?_)
      refine lv_aload_n hx hb dX12_emit_49 rfl (lv_at hl 1 rfl) ?_
      refine rg_49 X hS dX12_emit_50 ?_
      refine lv_iload hx hb dX12_emit_53 (lv_at hl 0 rfl) ?_
      refine lv_iload_n hx hb dX12_emit_55 rfl (lv_at hl 2 rfl) ?_
      obtain ⟨u_9, e_u_9, i_10, h⟩ := wr_of h
      refine rs_49 X hS i_10 e_u_9 dX12_emit_56 (fun H locs hS => ?_)
      refine lv_aload_n hx hb dX12_emit_57 rfl (lv_at hl 1 rfl) ?_
      refine rg_50 X hS dX12_emit_58 ?_
      refine lv_iload hx hb dX12_emit_61 (lv_at hl 0 rfl) ?_
      refine lv_iload_n hx hb dX12_emit_63 rfl (lv_at hl 3 rfl) ?_
      obtain ⟨u_11, e_u_11, i_12, h⟩ := wr_of h
      refine rs_50 X hS i_12 e_u_11 dX12_emit_64 (fun H locs hS => ?_)
      refine lv_aload_n hx hb dX12_emit_65 rfl (lv_at hl 1 rfl) ?_
      refine rg_51 X hS dX12_emit_66 ?_
      refine lv_iload hx hb dX12_emit_69 (lv_at hl 0 rfl) ?_
      refine lv_iload_n hx hb dX12_emit_71 rfl (lv_at hl 4 rfl) ?_
      obtain ⟨u_13, e_u_13, i_14, h⟩ := wr_of h
      refine rs_51 X hS i_14 e_u_13 dX12_emit_72 (fun H locs hS => ?_)
      refine lv_iload hx hb dX12_emit_73 (lv_at hl 0 rfl) ?_
      obtain ⟨rfl, rfl⟩ := so h
      exact hE _ _ _ _ hS dX12_emit_75
    · have h := im (c_2) h
      refine lv_iconst (v := 0) hx hb dX12_emit_14 (by decide) ?_
      obtain ⟨rfl, rfl⟩ := so h
      exact hE _ _ _ _ hS dX12_emit_15
def F_emit (N : Nat) (l1 : Int32) (l2 : Int32) (l3 : Int32) (u : RSt) : Option (Int32 × RSt) := B_emit_0 N l1 l2 l3 u
set_option maxHeartbeats 4000000 in
theorem k_emit (l : Launch) (D : va_G) (kA : Nat → ClassId) (V Z : Nat → Nat) (N : Nat) (l1 : Int32) (l2 : Int32) (l3 : Int32) (u : RSt) (sz : Nat) {r : Int32} {w : RSt} (h : F_emit N l1 l2 l3 u = some (r, w)) : Met l yX12_emit (Cond.code yX12_emit cX12_emit 5 (some .int) :: GW) { frames := 0, cells := 0, slots := 0, locals := 0 } (rPc D kA V Z [.int l1, .int l2, .int l3] u sz) (rQi D kA Z u sz r w) 0 0 (va_A (RW kA Z u) sz) := by
  refine Met.ofW (cc := cX12_emit) (maxL := 5) (ret := (some .int)) (by decide) rfl ?_
  intro p e s m args below meth c s₁ Bd hml hv
  obtain ⟨rfl, hsz, hP, hK, hD0, hE⟩ := hv
  have hts := atoms_spec (ws := Cond.code yX12_emit cX12_emit 5 (some .int) :: GW) Bd.pre
  have hl := lv_entry (.ref (Z 200) :: [.int l1, .int l2, .int l3]) (n := 5) (Nat.le_of_ble_eq_true rfl)
  rw [lg_entry_eq]
  generalize (lg_sl (.ref (Z 200) :: [.int l1, .int l2, .int l3]) ++ List.replicate (5 - (lg_sl (.ref (Z 200) :: [.int l1, .int l2, .int l3])).length) Slot.unset).toArray = ls at hl ⊢
  have hl : lv_has ls 5 [(0, .ref (Z 200)), (1, .int l1), (2, .int l2), (3, .int l3)] := hl
  subst hsz
  have X : RC p s m (.ref (Z 200) :: [.int l1, .int l2, .int l3]).toArray c cX12_emit 5 (Cond.code yX12_emit cX12_emit 5 (some .int)) D kA V (va_A (RW kA Z u) s.heap.size) := ⟨⟨Bd.exec, Bd.bytes, hml, findClass_of_methodNamed Bd.named, hts⟩, hK, hE, fun q h => Or.inr h⟩
  exact b_emit_0 X (rend_i (cy := cX12_emit) X Bd.returns Bd.notSynchronized) (Nat.le_refl _) (Nat.le_refl _) h ⟨hP, hD0.self, va_S.rf⟩ (lv_sub hl [0, 1, 2, 3] rfl)
theorem kc_emit {r : Int32} {cc : ByteArray} {pc nL : Nat} {c0 : Cond} {rest : List Value} {l1 : Int32} {l2 : Int32} {l3 : Int32} {u : RSt} (X : RC p s m args c cc nL c0 D kA V A) (hS : RS D kA Z A s u H locs) (h : F_emit N l1 l2 l3 u = some (r, w)) (hF : 0 + 1 ≤ R.frames) (hL : 8 + (5 + 11) + 0 ≤ R.locals) (hl : ls.size = nL) (hc : (rest.map fun v => v.category).sum ≤ 8) (hdg : decode cc pc = .ok (.invokevirtual 144, 3)) (kk : ∀ H locs, RS D kA Z A s w H locs → W p l e R s m args below meth c H locs 0 0 Q (F0 m (pc + 3) ls (.int r :: rest))) : W p l e R s m args below meth c H locs 0 0 Q (F0 m pc ls (.int l3 :: .int l2 :: .int l1 :: .ref (Z 200) :: rest)) :=
  rcall_i (n := 3) X hS (k_emit l D kA V Z N l1 l2 l3 u H.size h) (gw_V gw_2448 gw_2450 gs_9_11 gw_16 gw_2451) (by decide +kernel) hF hL rfl hl hc rfl hdg kk
def B_cost_0 (N : Nat) (l1 : Int32) (u : RSt) : Option (Int32 × RSt) := bn (F_emit N 1 0 l1 u) fun r_2 u_1 => some (0, u_1)
set_option maxHeartbeats 4000000 in
theorem b_cost_0 {r : Int32} (X : RC p s m args c cX12_cost 2 (Cond.code yX12_cost cX12_cost 2 none) D kA V A) (hE : REv p l e R s m args below meth c cX12_cost D kA Z A Q w) (hF : 1 ≤ R.frames) (hL : 24 ≤ R.locals) {l1 : Int32}  {u : RSt} (h : B_cost_0 N l1 u = some (r, w)) (hS : RS D kA Z A s u H locs) (hl : lv_has ls 2 [(0, .ref (Z 200)), (1, .int l1)]) : W p l e R s m args below meth c H locs 0 0 Q (F0 m 0 ls []) := by
  obtain ⟨⟨hx, hb, hml, hown, hts⟩, hK, hEV, hA⟩ := id X
  have hG : ∀ w ∈ GW, w.before args s = true := fun w h => hts w (List.mem_cons_of_mem _ h)
  unfold B_cost_0 at h
  refine lv_aload_n hx hb dX12_cost_0 rfl (lv_at hl 0 rfl) ?_
  refine lv_iconst (v := 1) hx hb dX12_cost_1 (by decide) ?_
  refine lv_iconst (v := 0) hx hb dX12_cost_2 (by decide) ?_
  refine lv_iload_n hx hb dX12_cost_3 rfl (lv_at hl 1 rfl) ?_
  obtain ⟨r_2, u_1, h_u_1, h⟩ := bn_of h
  refine kc_emit X hS h_u_1 (Nat.le_trans (Nat.le_of_ble_eq_true rfl) hF) (Nat.le_trans (Nat.le_of_ble_eq_true rfl) hL) hl.1 (Nat.le_of_ble_eq_true rfl) dX12_cost_4 (fun H locs hS => ?_)
  refine lv_pop hx hb dX12_cost_7 rfl ?_
  obtain ⟨-, rfl⟩ := so h
  exact hE _ _ _ _ hS dX12_cost_8
def F_cost (N : Nat) (l1 : Int32) (u : RSt) : Option (Int32 × RSt) := B_cost_0 N l1 u
set_option maxHeartbeats 4000000 in
theorem k_cost (l : Launch) (D : va_G) (kA : Nat → ClassId) (V Z : Nat → Nat) (N : Nat) (l1 : Int32) (u : RSt) (sz : Nat) {r : Int32} {w : RSt} (h : F_cost N l1 u = some (r, w)) : Met l yX12_cost (Cond.code yX12_cost cX12_cost 2 none :: GW) { frames := 1, cells := 0, slots := 0, locals := 24 } (rPc D kA V Z [.int l1] u sz) (rQv D kA Z u sz w) 0 0 (va_A (RW kA Z u) sz) := by
  refine Met.ofW (cc := cX12_cost) (maxL := 2) (ret := none) (by decide) rfl ?_
  intro p e s m args below meth c s₁ Bd hml hv
  obtain ⟨rfl, hsz, hP, hK, hD0, hE⟩ := hv
  have hts := atoms_spec (ws := Cond.code yX12_cost cX12_cost 2 none :: GW) Bd.pre
  have hl := lv_entry (.ref (Z 200) :: [.int l1]) (n := 2) (Nat.le_of_ble_eq_true rfl)
  rw [lg_entry_eq]
  generalize (lg_sl (.ref (Z 200) :: [.int l1]) ++ List.replicate (2 - (lg_sl (.ref (Z 200) :: [.int l1])).length) Slot.unset).toArray = ls at hl ⊢
  have hl : lv_has ls 2 [(0, .ref (Z 200)), (1, .int l1)] := hl
  subst hsz
  have X : RC p s m (.ref (Z 200) :: [.int l1]).toArray c cX12_cost 2 (Cond.code yX12_cost cX12_cost 2 none) D kA V (va_A (RW kA Z u) s.heap.size) := ⟨⟨Bd.exec, Bd.bytes, hml, findClass_of_methodNamed Bd.named, hts⟩, hK, hE, fun q h => Or.inr h⟩
  exact b_cost_0 X (rend_v (cy := cX12_cost) X Bd.returns Bd.notSynchronized) (Nat.le_refl _) (Nat.le_refl _) h ⟨hP, hD0.self, va_S.rf⟩ (lv_sub hl [0, 1] rfl)
theorem kc_cost {r : Int32} {cc : ByteArray} {pc nL : Nat} {c0 : Cond} {rest : List Value} {l1 : Int32} {u : RSt} (X : RC p s m args c cc nL c0 D kA V A) (hS : RS D kA Z A s u H locs) (h : F_cost N l1 u = some (r, w)) (hF : 1 + 1 ≤ R.frames) (hL : 8 + (2 + 11) + 24 ≤ R.locals) (hl : ls.size = nL) (hc : (rest.map fun v => v.category).sum ≤ 8) (hdg : decode cc pc = .ok (.invokevirtual 441, 3)) (kk : ∀ H locs, RS D kA Z A s w H locs → W p l e R s m args below meth c H locs 0 0 Q (F0 m (pc + 3) ls (rest))) : W p l e R s m args below meth c H locs 0 0 Q (F0 m pc ls (.int l1 :: .ref (Z 200) :: rest)) :=
  rcall_v (n := 1) X hS (k_cost l D kA V Z N l1 u H.size h) (gw_V gw_2444 gw_2446 gs_9_10 gw_16 gw_2447) (by decide +kernel) hF hL rfl hl hc rfl hdg kk
def B_push_0 (N : Nat) (l1 : Int64) (u : RSt) : Option (Int32 × RSt) := bn (F_emit N 2 0 0 u) fun r_2 u_1 => if (u_1.1 69) = (0 : Int32) then (some (0, u_1)) else (if (u_1.1 67) = (0 : Int32) then (wr 16000 r_2 (sB u_1 52 r_2.toNatClampNeg l1) fun u_5 => some (0, u_5)) else (some (0, u_1)))
set_option maxHeartbeats 4000000 in
theorem b_push_0 {r : Int32} (X : RC p s m args c cX12_push 4 (Cond.code yX12_push cX12_push 4 none) D kA V A) (hE : REv p l e R s m args below meth c cX12_push D kA Z A Q w) (hF : 1 ≤ R.frames) (hL : 24 ≤ R.locals) {l1 : Int64}  {u : RSt} (h : B_push_0 N l1 u = some (r, w)) (hS : RS D kA Z A s u H locs) (hl : lv_has ls 4 [(0, .ref (Z 200)), (1, .long l1)]) : W p l e R s m args below meth c H locs 0 0 Q (F0 m 0 ls []) := by
  obtain ⟨⟨hx, hb, hml, hown, hts⟩, hK, hEV, hA⟩ := id X
  have hG : ∀ w ∈ GW, w.before args s = true := fun w h => hts w (List.mem_cons_of_mem _ h)
  unfold B_push_0 at h
  refine lv_aload_n hx hb dX12_push_0 rfl (lv_at hl 0 rfl) ?_
  refine lv_iconst (v := 2) hx hb dX12_push_1 (by decide) ?_
  refine lv_iconst (v := 0) hx hb dX12_push_2 (by decide) ?_
  refine lv_iconst (v := 0) hx hb dX12_push_3 (by decide) ?_
  obtain ⟨r_2, u_1, h_u_1, h⟩ := bn_of h
  refine kc_emit X hS h_u_1 (Nat.le_trans (Nat.le_of_ble_eq_true rfl) hF) (Nat.le_trans (Nat.le_of_ble_eq_true rfl) hL) hl.1 (Nat.le_of_ble_eq_true rfl) dX12_push_4 (fun H locs hS => ?_)
  refine lv_istore_n (lv' := [(3, .int r_2), (0, .ref (Z 200)), (1, .long l1)]) hx hb dX12_push_7 rfl hl (by decide) rfl (fun ls hl => ?_)
  refine lv_aload_n hx hb dX12_push_8 rfl (lv_at hl 1 rfl) ?_
  refine rg_69 X hS dX12_push_9 ?_
  refine lv_if_eq (tgt := 29) hx hb dX12_push_12 (by decide) (fun c_3 => ?_) (fun c_3 => ?_)
  · have h := ip (c_3) h
    obtain ⟨-, rfl⟩ := so h
    exact hE _ _ _ _ hS dX12_push_29
  · have h := im (c_3) h
    refine lv_aload_n hx hb dX12_push_15 rfl (lv_at hl 1 rfl) ?_
    refine rg_67 X hS dX12_push_16 ?_
    refine lv_if_ne (tgt := 29) hx hb dX12_push_19 (by decide) (fun c_4 => ?_) (fun c_4 => ?_)
    · have h := im (c_4) h
      obtain ⟨-, rfl⟩ := so h
      exact hE _ _ _ _ hS dX12_push_29
    · have h := ip (c_4) h
      refine lv_aload_n hx hb dX12_push_22 rfl (lv_at hl 1 rfl) ?_
      refine rg_52 X hS dX12_push_23 ?_
      refine lv_iload_n hx hb dX12_push_26 rfl (lv_at hl 0 rfl) ?_
      refine lv_lload_n hx hb dX12_push_27 rfl (lv_at hl 2 rfl) ?_
      obtain ⟨u_5, e_u_5, i_6, h⟩ := wr_of h
      refine rs_52 X hS i_6 e_u_5 dX12_push_28 (fun H locs hS => ?_)
      obtain ⟨-, rfl⟩ := so h
      exact hE _ _ _ _ hS dX12_push_29
def F_push (N : Nat) (l1 : Int64) (u : RSt) : Option (Int32 × RSt) := B_push_0 N l1 u
set_option maxHeartbeats 4000000 in
theorem k_push (l : Launch) (D : va_G) (kA : Nat → ClassId) (V Z : Nat → Nat) (N : Nat) (l1 : Int64) (u : RSt) (sz : Nat) {r : Int32} {w : RSt} (h : F_push N l1 u = some (r, w)) : Met l yX12_push (Cond.code yX12_push cX12_push 4 none :: GW) { frames := 1, cells := 0, slots := 0, locals := 24 } (rPc D kA V Z [.long l1] u sz) (rQv D kA Z u sz w) 0 0 (va_A (RW kA Z u) sz) := by
  refine Met.ofW (cc := cX12_push) (maxL := 4) (ret := none) (by decide) rfl ?_
  intro p e s m args below meth c s₁ Bd hml hv
  obtain ⟨rfl, hsz, hP, hK, hD0, hE⟩ := hv
  have hts := atoms_spec (ws := Cond.code yX12_push cX12_push 4 none :: GW) Bd.pre
  have hl := lv_entry (.ref (Z 200) :: [.long l1]) (n := 4) (Nat.le_of_ble_eq_true rfl)
  rw [lg_entry_eq]
  generalize (lg_sl (.ref (Z 200) :: [.long l1]) ++ List.replicate (4 - (lg_sl (.ref (Z 200) :: [.long l1])).length) Slot.unset).toArray = ls at hl ⊢
  have hl : lv_has ls 4 [(0, .ref (Z 200)), (1, .long l1)] := hl
  subst hsz
  have X : RC p s m (.ref (Z 200) :: [.long l1]).toArray c cX12_push 4 (Cond.code yX12_push cX12_push 4 none) D kA V (va_A (RW kA Z u) s.heap.size) := ⟨⟨Bd.exec, Bd.bytes, hml, findClass_of_methodNamed Bd.named, hts⟩, hK, hE, fun q h => Or.inr h⟩
  exact b_push_0 X (rend_v (cy := cX12_push) X Bd.returns Bd.notSynchronized) (Nat.le_refl _) (Nat.le_refl _) h ⟨hP, hD0.self, va_S.rf⟩ (lv_sub hl [0, 1] rfl)
theorem kc_push {r : Int32} {cc : ByteArray} {pc nL : Nat} {c0 : Cond} {rest : List Value} {l1 : Int64} {u : RSt} (X : RC p s m args c cc nL c0 D kA V A) (hS : RS D kA Z A s u H locs) (h : F_push N l1 u = some (r, w)) (hF : 1 + 1 ≤ R.frames) (hL : 8 + (4 + 11) + 24 ≤ R.locals) (hl : ls.size = nL) (hc : (rest.map fun v => v.category).sum ≤ 8) (hdg : decode cc pc = .ok (.invokevirtual 374, 3)) (kk : ∀ H locs, RS D kA Z A s w H locs → W p l e R s m args below meth c H locs 0 0 Q (F0 m (pc + 3) ls (rest))) : W p l e R s m args below meth c H locs 0 0 Q (F0 m pc ls (.long l1 :: .ref (Z 200) :: rest)) :=
  rcall_v (n := 1) X hS (k_push l D kA V Z N l1 u H.size h) (gw_V gw_2488 gw_2490 gs_10_5 gw_16 gw_2491) (by decide +kernel) hF hL rfl hl hc rfl hdg kk
def B_here_0 (N : Nat) (u : RSt) : Option (Int32 × RSt) := rd (u.2.2.1 54) 2 (u.1 56) fun v_1 => some ((8000 * (u.1 56)) + v_1, u)
set_option maxHeartbeats 4000000 in
theorem b_here_0 {r : Int32} (X : RC p s m args c cX12_here 1 (Cond.code yX12_here cX12_here 1 (some .int)) D kA V A) (hE : REi p l e R s m args below meth c cX12_here D kA Z A Q r w) (hF : 0 ≤ R.frames) (hL : 0 ≤ R.locals)  {u : RSt} (h : B_here_0 N u = some (r, w)) (hS : RS D kA Z A s u H locs) (hl : lv_has ls 1 [(0, .ref (Z 200))]) : W p l e R s m args below meth c H locs 0 0 Q (F0 m 0 ls []) := by
  obtain ⟨⟨hx, hb, hml, hown, hts⟩, hK, hEV, hA⟩ := id X
  have hG : ∀ w ∈ GW, w.before args s = true := fun w h => hts w (List.mem_cons_of_mem _ h)
  unfold B_here_0 at h
  refine lv_sipush (v := 8000) hx hb dX12_here_0 (by decide) ?_
  refine lv_aload_n hx hb dX12_here_3 rfl (lv_at hl 0 rfl) ?_
  refine rg_56 X hS dX12_here_4 ?_
  refine lv_imul hx hb dX12_here_7 ?_
  refine lv_aload_n hx hb dX12_here_8 rfl (lv_at hl 0 rfl) ?_
  refine rg_54 X hS dX12_here_9 ?_
  refine lv_aload_n hx hb dX12_here_12 rfl (lv_at hl 0 rfl) ?_
  refine rg_56 X hS dX12_here_13 ?_
  obtain ⟨v_1, e_v_1, i_2, h⟩ := rd_of h
  refine ra_54 X hS i_2 e_v_1 dX12_here_16 ?_
  refine lv_iadd hx hb dX12_here_17 ?_
  obtain ⟨rfl, rfl⟩ := so h
  exact hE _ _ _ _ hS dX12_here_18
def F_here (N : Nat) (u : RSt) : Option (Int32 × RSt) := B_here_0 N u
set_option maxHeartbeats 4000000 in
theorem k_here (l : Launch) (D : va_G) (kA : Nat → ClassId) (V Z : Nat → Nat) (N : Nat) (u : RSt) (sz : Nat) {r : Int32} {w : RSt} (h : F_here N u = some (r, w)) : Met l yX12_here (Cond.code yX12_here cX12_here 1 (some .int) :: GW) { frames := 0, cells := 0, slots := 0, locals := 0 } (rPc D kA V Z [] u sz) (rQi D kA Z u sz r w) 0 0 (va_A (RW kA Z u) sz) := by
  refine Met.ofW (cc := cX12_here) (maxL := 1) (ret := (some .int)) (by decide) rfl ?_
  intro p e s m args below meth c s₁ Bd hml hv
  obtain ⟨rfl, hsz, hP, hK, hD0, hE⟩ := hv
  have hts := atoms_spec (ws := Cond.code yX12_here cX12_here 1 (some .int) :: GW) Bd.pre
  have hl := lv_entry (.ref (Z 200) :: []) (n := 1) (Nat.le_of_ble_eq_true rfl)
  rw [lg_entry_eq]
  generalize (lg_sl (.ref (Z 200) :: []) ++ List.replicate (1 - (lg_sl (.ref (Z 200) :: [])).length) Slot.unset).toArray = ls at hl ⊢
  have hl : lv_has ls 1 [(0, .ref (Z 200))] := hl
  subst hsz
  have X : RC p s m (.ref (Z 200) :: []).toArray c cX12_here 1 (Cond.code yX12_here cX12_here 1 (some .int)) D kA V (va_A (RW kA Z u) s.heap.size) := ⟨⟨Bd.exec, Bd.bytes, hml, findClass_of_methodNamed Bd.named, hts⟩, hK, hE, fun q h => Or.inr h⟩
  exact b_here_0 X (rend_i (cy := cX12_here) X Bd.returns Bd.notSynchronized) (Nat.le_refl _) (Nat.le_refl _) h ⟨hP, hD0.self, va_S.rf⟩ (lv_sub hl [0] rfl)
theorem kc_here {r : Int32} {cc : ByteArray} {pc nL : Nat} {c0 : Cond} {rest : List Value} {u : RSt} (X : RC p s m args c cc nL c0 D kA V A) (hS : RS D kA Z A s u H locs) (h : F_here N u = some (r, w)) (hF : 0 + 1 ≤ R.frames) (hL : 8 + (1 + 11) + 0 ≤ R.locals) (hl : ls.size = nL) (hc : (rest.map fun v => v.category).sum ≤ 8) (hdg : decode cc pc = .ok (.invokevirtual 151, 3)) (kk : ∀ H locs, RS D kA Z A s w H locs → W p l e R s m args below meth c H locs 0 0 Q (F0 m (pc + 3) ls (.int r :: rest))) : W p l e R s m args below meth c H locs 0 0 Q (F0 m pc ls (.ref (Z 200) :: rest)) :=
  rcall_i (n := 0) X hS (k_here l D kA V Z N  u H.size h) (gw_V gw_2436 gw_2438 gs_9_8 gw_16 gw_2439) (by decide +kernel) hF hL rfl hl hc rfl hdg kk
def B_lead_0 (N : Nat) (l1 : Int32) (u : RSt) : Option (Int32 × RSt) := if (u.1 69) = (0 : Int32) then (some (0, u)) else (if (u.1 67) = (0 : Int32) then (bn (F_here N u) fun r_4 u_3 => wr 16000 l1 (sA u_3 50 l1.toNatClampNeg r_4) fun u_5 => some (0, u_5)) else (some (0, u)))
set_option maxHeartbeats 4000000 in
theorem b_lead_0 {r : Int32} (X : RC p s m args c cX12_lead 2 (Cond.code yX12_lead cX12_lead 2 none) D kA V A) (hE : REv p l e R s m args below meth c cX12_lead D kA Z A Q w) (hF : 1 ≤ R.frames) (hL : 20 ≤ R.locals) {l1 : Int32}  {u : RSt} (h : B_lead_0 N l1 u = some (r, w)) (hS : RS D kA Z A s u H locs) (hl : lv_has ls 2 [(0, .ref (Z 200)), (1, .int l1)]) : W p l e R s m args below meth c H locs 0 0 Q (F0 m 0 ls []) := by
  obtain ⟨⟨hx, hb, hml, hown, hts⟩, hK, hEV, hA⟩ := id X
  have hG : ∀ w ∈ GW, w.before args s = true := fun w h => hts w (List.mem_cons_of_mem _ h)
  unfold B_lead_0 at h
  refine lv_aload_n hx hb dX12_lead_0 rfl (lv_at hl 0 rfl) ?_
  refine rg_69 X hS dX12_lead_1 ?_
  refine lv_if_eq (tgt := 24) hx hb dX12_lead_4 (by decide) (fun c_1 => ?_) (fun c_1 => ?_)
  · have h := ip (c_1) h
    obtain ⟨-, rfl⟩ := so h
    exact hE _ _ _ _ hS dX12_lead_24
  · have h := im (c_1) h
    refine lv_aload_n hx hb dX12_lead_7 rfl (lv_at hl 0 rfl) ?_
    refine rg_67 X hS dX12_lead_8 ?_
    refine lv_if_ne (tgt := 24) hx hb dX12_lead_11 (by decide) (fun c_2 => ?_) (fun c_2 => ?_)
    · have h := im (c_2) h
      obtain ⟨-, rfl⟩ := so h
      exact hE _ _ _ _ hS dX12_lead_24
    · have h := ip (c_2) h
      refine lv_aload_n hx hb dX12_lead_14 rfl (lv_at hl 0 rfl) ?_
      refine rg_50 X hS dX12_lead_15 ?_
      refine lv_iload_n hx hb dX12_lead_18 rfl (lv_at hl 1 rfl) ?_
      refine lv_aload_n hx hb dX12_lead_19 rfl (lv_at hl 0 rfl) ?_
      obtain ⟨r_4, u_3, h_u_3, h⟩ := bn_of h
      refine kc_here X hS h_u_3 (Nat.le_trans (Nat.le_of_ble_eq_true rfl) hF) (Nat.le_trans (Nat.le_of_ble_eq_true rfl) hL) hl.1 (Nat.le_of_ble_eq_true rfl) dX12_lead_20 (fun H locs hS => ?_)
      obtain ⟨u_5, e_u_5, i_6, h⟩ := wr_of h
      refine rs_50 X hS i_6 e_u_5 dX12_lead_23 (fun H locs hS => ?_)
      obtain ⟨-, rfl⟩ := so h
      exact hE _ _ _ _ hS dX12_lead_24
def F_lead (N : Nat) (l1 : Int32) (u : RSt) : Option (Int32 × RSt) := B_lead_0 N l1 u
set_option maxHeartbeats 4000000 in
theorem k_lead (l : Launch) (D : va_G) (kA : Nat → ClassId) (V Z : Nat → Nat) (N : Nat) (l1 : Int32) (u : RSt) (sz : Nat) {r : Int32} {w : RSt} (h : F_lead N l1 u = some (r, w)) : Met l yX12_lead (Cond.code yX12_lead cX12_lead 2 none :: GW) { frames := 1, cells := 0, slots := 0, locals := 20 } (rPc D kA V Z [.int l1] u sz) (rQv D kA Z u sz w) 0 0 (va_A (RW kA Z u) sz) := by
  refine Met.ofW (cc := cX12_lead) (maxL := 2) (ret := none) (by decide) rfl ?_
  intro p e s m args below meth c s₁ Bd hml hv
  obtain ⟨rfl, hsz, hP, hK, hD0, hE⟩ := hv
  have hts := atoms_spec (ws := Cond.code yX12_lead cX12_lead 2 none :: GW) Bd.pre
  have hl := lv_entry (.ref (Z 200) :: [.int l1]) (n := 2) (Nat.le_of_ble_eq_true rfl)
  rw [lg_entry_eq]
  generalize (lg_sl (.ref (Z 200) :: [.int l1]) ++ List.replicate (2 - (lg_sl (.ref (Z 200) :: [.int l1])).length) Slot.unset).toArray = ls at hl ⊢
  have hl : lv_has ls 2 [(0, .ref (Z 200)), (1, .int l1)] := hl
  subst hsz
  have X : RC p s m (.ref (Z 200) :: [.int l1]).toArray c cX12_lead 2 (Cond.code yX12_lead cX12_lead 2 none) D kA V (va_A (RW kA Z u) s.heap.size) := ⟨⟨Bd.exec, Bd.bytes, hml, findClass_of_methodNamed Bd.named, hts⟩, hK, hE, fun q h => Or.inr h⟩
  exact b_lead_0 X (rend_v (cy := cX12_lead) X Bd.returns Bd.notSynchronized) (Nat.le_refl _) (Nat.le_refl _) h ⟨hP, hD0.self, va_S.rf⟩ (lv_sub hl [0, 1] rfl)
theorem kc_lead {r : Int32} {cc : ByteArray} {pc nL : Nat} {c0 : Cond} {rest : List Value} {l1 : Int32} {u : RSt} (X : RC p s m args c cc nL c0 D kA V A) (hS : RS D kA Z A s u H locs) (h : F_lead N l1 u = some (r, w)) (hF : 1 + 1 ≤ R.frames) (hL : 8 + (2 + 11) + 20 ≤ R.locals) (hl : ls.size = nL) (hc : (rest.map fun v => v.category).sum ≤ 8) (hdg : decode cc pc = .ok (.invokevirtual 447, 3)) (kk : ∀ H locs, RS D kA Z A s w H locs → W p l e R s m args below meth c H locs 0 0 Q (F0 m (pc + 3) ls (rest))) : W p l e R s m args below meth c H locs 0 0 Q (F0 m pc ls (.int l1 :: .ref (Z 200) :: rest)) :=
  rcall_v (n := 1) X hS (k_lead l D kA V Z N l1 u H.size h) (gw_V gw_2516 gw_2518 gs_10_12 gw_16 gw_2519) (by decide +kernel) hF hL rfl hl hc rfl hdg kk
def B_kind_33 (N : Nat) (u : RSt) : Option (Int32 × RSt) := bn (F_stuck N u) fun _ u_1 => some (0, u_1)
set_option maxHeartbeats 4000000 in
theorem b_kind_33 {r : Int32} (X : RC p s m args c cX12_kind 2 (Cond.code yX12_kind cX12_kind 2 (some .int)) D kA V A) (hE : REi p l e R s m args below meth c cX12_kind D kA Z A Q r w) (hF : 2 ≤ R.frames) (hL : 42 ≤ R.locals)  {u : RSt} (h : B_kind_33 N u = some (r, w)) (hS : RS D kA Z A s u H locs) (hl : lv_has ls 2 [(0, .ref (Z 200))]) : W p l e R s m args below meth c H locs 0 0 Q (F0 m 33 ls []) := by
  obtain ⟨⟨hx, hb, hml, hown, hts⟩, hK, hEV, hA⟩ := id X
  have hG : ∀ w ∈ GW, w.before args s = true := fun w h => hts w (List.mem_cons_of_mem _ h)
  unfold B_kind_33 at h
  refine lv_aload_n hx hb dX12_kind_33 rfl (lv_at hl 0 rfl) ?_
  obtain ⟨r_u_1, u_1, h_u_1, h⟩ := bn_of h
  refine kc_stuck X hS h_u_1 (Nat.le_trans (Nat.le_of_ble_eq_true rfl) hF) (Nat.le_trans (Nat.le_of_ble_eq_true rfl) hL) hl.1 (Nat.le_of_ble_eq_true rfl) dX12_kind_34 (fun H locs hS => ?_)
  refine lv_iconst (v := 0) hx hb dX12_kind_37 (by decide) ?_
  obtain ⟨rfl, rfl⟩ := so h
  exact hE _ _ _ _ hS dX12_kind_38
def B_kind_23 (N : Nat) (s0 : Int32) (u : RSt) : Option (Int32 × RSt) := if s0 < (0 : Int32) then (B_kind_33 N u) else (if s0 ≤ (4 : Int32) then (pu (sI u 65 ((u.1 65) + 1)) fun u_4 => some (s0, u_4)) else (B_kind_33 N u))
set_option maxHeartbeats 4000000 in
theorem b_kind_23 {r : Int32} (X : RC p s m args c cX12_kind 2 (Cond.code yX12_kind cX12_kind 2 (some .int)) D kA V A) (hE : REi p l e R s m args below meth c cX12_kind D kA Z A Q r w) (hF : 2 ≤ R.frames) (hL : 42 ≤ R.locals) {s0 : Int32}  {u : RSt} (h : B_kind_23 N s0 u = some (r, w)) (hS : RS D kA Z A s u H locs) (hl : lv_has ls 2 [(0, .ref (Z 200))]) : W p l e R s m args below meth c H locs 0 0 Q (F0 m 23 ls [.int s0]) := by
  obtain ⟨⟨hx, hb, hml, hown, hts⟩, hK, hEV, hA⟩ := id X
  have hG : ∀ w ∈ GW, w.before args s = true := fun w h => hts w (List.mem_cons_of_mem _ h)
  unfold B_kind_23 at h
  refine lv_istore_n (lv' := [(1, .int s0), (0, .ref (Z 200))]) hx hb dX12_kind_23 rfl hl (by decide) rfl (fun ls hl => ?_)
  refine lv_iload_n hx hb dX12_kind_24 rfl (lv_at hl 0 rfl) ?_
  refine lv_if_lt (tgt := 33) hx hb dX12_kind_25 (by decide) (fun c_2 => ?_) (fun c_2 => ?_)
  · have h := ip (c_2) h
    exact b_kind_33 X hE hF hL  h hS (lv_sub hl [1] rfl)
  · have h := im (c_2) h
    refine lv_iload_n hx hb dX12_kind_28 rfl (lv_at hl 0 rfl) ?_
    refine lv_iconst (v := 4) hx hb dX12_kind_29 (by decide) ?_
    refine lv_icmp_le (tgt := 39) hx hb dX12_kind_30 (by decide) (fun c_3 => ?_) (fun c_3 => ?_)
    · have h := ip (c_3) h
      refine lv_aload_n hx hb dX12_kind_39 rfl (lv_at hl 1 rfl) ?_
      refine lv_dup hx hb dX12_kind_40 rfl ?_
      refine rg_65 X hS dX12_kind_41 ?_
      refine lv_iconst (v := 1) hx hb dX12_kind_44 (by decide) ?_
      refine lv_iadd hx hb dX12_kind_45 ?_
      obtain ⟨u_4, e_u_4, h⟩ := pu_of h
      refine rp_65 X hS e_u_4 dX12_kind_46 (fun H locs hS => ?_)
      refine lv_iload_n hx hb dX12_kind_49 rfl (lv_at hl 0 rfl) ?_
      obtain ⟨rfl, rfl⟩ := so h
      exact hE _ _ _ _ hS dX12_kind_50
    · have h := im (c_3) h
      exact b_kind_33 X hE hF hL  h hS (lv_sub hl [1] rfl)
def B_kind_0 (N : Nat) (u : RSt) : Option (Int32 × RSt) := if (u.1 67) = (0 : Int32) then (rd (u.2.2.1 2) 1502 (u.1 65) fun v_6 => B_kind_23 N (v_6 - 111) u) else (B_kind_23 N (-1) u)
set_option maxHeartbeats 4000000 in
theorem b_kind_0 {r : Int32} (X : RC p s m args c cX12_kind 2 (Cond.code yX12_kind cX12_kind 2 (some .int)) D kA V A) (hE : REi p l e R s m args below meth c cX12_kind D kA Z A Q r w) (hF : 2 ≤ R.frames) (hL : 42 ≤ R.locals)  {u : RSt} (h : B_kind_0 N u = some (r, w)) (hS : RS D kA Z A s u H locs) (hl : lv_has ls 2 [(0, .ref (Z 200))]) : W p l e R s m args below meth c H locs 0 0 Q (F0 m 0 ls []) := by
  obtain ⟨⟨hx, hb, hml, hown, hts⟩, hK, hEV, hA⟩ := id X
  have hG : ∀ w ∈ GW, w.before args s = true := fun w h => hts w (List.mem_cons_of_mem _ h)
  unfold B_kind_0 at h
  refine lv_aload_n hx hb dX12_kind_0 rfl (lv_at hl 0 rfl) ?_
  refine rg_67 X hS dX12_kind_1 ?_
  refine lv_if_ne (tgt := 22) hx hb dX12_kind_4 (by decide) (fun c_5 => ?_) (fun c_5 => ?_)
  · have h := im (c_5) h
    refine lv_iconst (v := (-1)) hx hb dX12_kind_22 (by decide) ?_
    exact b_kind_23 X hE hF hL  h hS (lv_sub hl [0] rfl)
  · have h := ip (c_5) h
    refine lv_aload_n hx hb dX12_kind_7 rfl (lv_at hl 0 rfl) ?_
    refine rg_2 X hS dX12_kind_8 ?_
    refine lv_aload_n hx hb dX12_kind_11 rfl (lv_at hl 0 rfl) ?_
    refine rg_65 X hS dX12_kind_12 ?_
    obtain ⟨v_6, e_v_6, i_7, h⟩ := rd_of h
    refine ra_2 X hS i_7 e_v_6 dX12_kind_15 ?_
    refine lv_bipush (v := 111) hx hb dX12_kind_16 (by decide) ?_
    refine lv_isub hx hb dX12_kind_18 ?_
    refine lv_goto (tgt := 23) hx hb dX12_kind_19 (by decide) ?_
    exact b_kind_23 X hE hF hL  h hS (lv_sub hl [0] rfl)
def F_kind (N : Nat) (u : RSt) : Option (Int32 × RSt) := B_kind_0 N u
set_option maxHeartbeats 4000000 in
theorem k_kind (l : Launch) (D : va_G) (kA : Nat → ClassId) (V Z : Nat → Nat) (N : Nat) (u : RSt) (sz : Nat) {r : Int32} {w : RSt} (h : F_kind N u = some (r, w)) : Met l yX12_kind (Cond.code yX12_kind cX12_kind 2 (some .int) :: GW) { frames := 2, cells := 0, slots := 0, locals := 42 } (rPc D kA V Z [] u sz) (rQi D kA Z u sz r w) 0 0 (va_A (RW kA Z u) sz) := by
  refine Met.ofW (cc := cX12_kind) (maxL := 2) (ret := (some .int)) (by decide) rfl ?_
  intro p e s m args below meth c s₁ Bd hml hv
  obtain ⟨rfl, hsz, hP, hK, hD0, hE⟩ := hv
  have hts := atoms_spec (ws := Cond.code yX12_kind cX12_kind 2 (some .int) :: GW) Bd.pre
  have hl := lv_entry (.ref (Z 200) :: []) (n := 2) (Nat.le_of_ble_eq_true rfl)
  rw [lg_entry_eq]
  generalize (lg_sl (.ref (Z 200) :: []) ++ List.replicate (2 - (lg_sl (.ref (Z 200) :: [])).length) Slot.unset).toArray = ls at hl ⊢
  have hl : lv_has ls 2 [(0, .ref (Z 200))] := hl
  subst hsz
  have X : RC p s m (.ref (Z 200) :: []).toArray c cX12_kind 2 (Cond.code yX12_kind cX12_kind 2 (some .int)) D kA V (va_A (RW kA Z u) s.heap.size) := ⟨⟨Bd.exec, Bd.bytes, hml, findClass_of_methodNamed Bd.named, hts⟩, hK, hE, fun q h => Or.inr h⟩
  exact b_kind_0 X (rend_i (cy := cX12_kind) X Bd.returns Bd.notSynchronized) (Nat.le_refl _) (Nat.le_refl _) h ⟨hP, hD0.self, va_S.rf⟩ (lv_sub hl [0] rfl)
theorem kc_kind {r : Int32} {cc : ByteArray} {pc nL : Nat} {c0 : Cond} {rest : List Value} {u : RSt} (X : RC p s m args c cc nL c0 D kA V A) (hS : RS D kA Z A s u H locs) (h : F_kind N u = some (r, w)) (hF : 2 + 1 ≤ R.frames) (hL : 8 + (2 + 11) + 42 ≤ R.locals) (hl : ls.size = nL) (hc : (rest.map fun v => v.category).sum ≤ 8) (hdg : decode cc pc = .ok (.invokevirtual 331, 3)) (kk : ∀ H locs, RS D kA Z A s w H locs → W p l e R s m args below meth c H locs 0 0 Q (F0 m (pc + 3) ls (.int r :: rest))) : W p l e R s m args below meth c H locs 0 0 Q (F0 m pc ls (.ref (Z 200) :: rest)) :=
  rcall_i (n := 0) X hS (k_kind l D kA V Z N  u H.size h) (gw_V gw_2328 gw_2330 gs_8_2 gw_16 gw_2331) (by decide +kernel) hF hL rfl hl hc rfl hdg kk
def B_isKind_0 (N : Nat) (l1 : Int32) (u : RSt) : Option (Int32 × RSt) := rd (u.2.2.1 2) 1502 l1 fun v_1 => if v_1 < (111 : Int32) then (some (0, u)) else (rd (u.2.2.1 2) 1502 l1 fun v_4 => if (116 : Int32) ≤ v_4 then (some (0, u)) else (some (1, u)))
set_option maxHeartbeats 4000000 in
theorem b_isKind_0 {r : Int32} (X : RC p s m args c cX12_isKind 2 (Cond.code yX12_isKind cX12_isKind 2 (some .boolean)) D kA V A) (hE : REz p l e R s m args below meth c cX12_isKind D kA Z A Q r w) (hF : 0 ≤ R.frames) (hL : 0 ≤ R.locals) {l1 : Int32}  {u : RSt} (h : B_isKind_0 N l1 u = some (r, w)) (hS : RS D kA Z A s u H locs) (hl : lv_has ls 2 [(0, .ref (Z 200)), (1, .int l1)]) : W p l e R s m args below meth c H locs 0 0 Q (F0 m 0 ls []) := by
  obtain ⟨⟨hx, hb, hml, hown, hts⟩, hK, hEV, hA⟩ := id X
  have hG : ∀ w ∈ GW, w.before args s = true := fun w h => hts w (List.mem_cons_of_mem _ h)
  unfold B_isKind_0 at h
  refine lv_aload_n hx hb dX12_isKind_0 rfl (lv_at hl 0 rfl) ?_
  refine rg_2 X hS dX12_isKind_1 ?_
  refine lv_iload_n hx hb dX12_isKind_4 rfl (lv_at hl 1 rfl) ?_
  obtain ⟨v_1, e_v_1, i_2, h⟩ := rd_of h
  refine ra_2 X hS i_2 e_v_1 dX12_isKind_5 ?_
  refine lv_bipush (v := 111) hx hb dX12_isKind_6 (by decide) ?_
  refine lv_icmp_lt (tgt := 26) hx hb dX12_isKind_8 (by decide) (fun c_3 => ?_) (fun c_3 => ?_)
  · have h := ip (c_3) h
    refine lv_iconst (v := 0) hx hb dX12_isKind_26 (by decide) ?_
    obtain ⟨rfl, rfl⟩ := so h
    exact hE _ _ _ _ hS (Or.inl rfl) dX12_isKind_27
  · have h := im (c_3) h
    refine lv_aload_n hx hb dX12_isKind_11 rfl (lv_at hl 0 rfl) ?_
    refine rg_2 X hS dX12_isKind_12 ?_
    refine lv_iload_n hx hb dX12_isKind_15 rfl (lv_at hl 1 rfl) ?_
    obtain ⟨v_4, e_v_4, i_5, h⟩ := rd_of h
    refine ra_2 X hS i_5 e_v_4 dX12_isKind_16 ?_
    refine lv_bipush (v := 116) hx hb dX12_isKind_17 (by decide) ?_
    refine lv_icmp_ge (tgt := 26) hx hb dX12_isKind_19 (by decide) (fun c_6 => ?_) (fun c_6 => ?_)
    · have h := ip (c_6) h
      refine lv_iconst (v := 0) hx hb dX12_isKind_26 (by decide) ?_
      obtain ⟨rfl, rfl⟩ := so h
      exact hE _ _ _ _ hS (Or.inl rfl) dX12_isKind_27
    · have h := im (c_6) h
      refine lv_iconst (v := 1) hx hb dX12_isKind_22 (by decide) ?_
      refine lv_goto (tgt := 27) hx hb dX12_isKind_23 (by decide) ?_
      obtain ⟨rfl, rfl⟩ := so h
      exact hE _ _ _ _ hS (Or.inr rfl) dX12_isKind_27
def F_isKind (N : Nat) (l1 : Int32) (u : RSt) : Option (Int32 × RSt) := B_isKind_0 N l1 u
set_option maxHeartbeats 4000000 in
theorem k_isKind (l : Launch) (D : va_G) (kA : Nat → ClassId) (V Z : Nat → Nat) (N : Nat) (l1 : Int32) (u : RSt) (sz : Nat) {r : Int32} {w : RSt} (h : F_isKind N l1 u = some (r, w)) : Met l yX12_isKind (Cond.code yX12_isKind cX12_isKind 2 (some .boolean) :: GW) { frames := 0, cells := 0, slots := 0, locals := 0 } (rPc D kA V Z [.int l1] u sz) (rQi D kA Z u sz r w) 0 0 (va_A (RW kA Z u) sz) := by
  refine Met.ofW (cc := cX12_isKind) (maxL := 2) (ret := (some .boolean)) (by decide) rfl ?_
  intro p e s m args below meth c s₁ Bd hml hv
  obtain ⟨rfl, hsz, hP, hK, hD0, hE⟩ := hv
  have hts := atoms_spec (ws := Cond.code yX12_isKind cX12_isKind 2 (some .boolean) :: GW) Bd.pre
  have hl := lv_entry (.ref (Z 200) :: [.int l1]) (n := 2) (Nat.le_of_ble_eq_true rfl)
  rw [lg_entry_eq]
  generalize (lg_sl (.ref (Z 200) :: [.int l1]) ++ List.replicate (2 - (lg_sl (.ref (Z 200) :: [.int l1])).length) Slot.unset).toArray = ls at hl ⊢
  have hl : lv_has ls 2 [(0, .ref (Z 200)), (1, .int l1)] := hl
  subst hsz
  have X : RC p s m (.ref (Z 200) :: [.int l1]).toArray c cX12_isKind 2 (Cond.code yX12_isKind cX12_isKind 2 (some .boolean)) D kA V (va_A (RW kA Z u) s.heap.size) := ⟨⟨Bd.exec, Bd.bytes, hml, findClass_of_methodNamed Bd.named, hts⟩, hK, hE, fun q h => Or.inr h⟩
  exact b_isKind_0 X (rend_z (cy := cX12_isKind) X Bd.returns Bd.notSynchronized) (Nat.le_refl _) (Nat.le_refl _) h ⟨hP, hD0.self, va_S.rf⟩ (lv_sub hl [0, 1] rfl)
theorem kc_isKind {r : Int32} {cc : ByteArray} {pc nL : Nat} {c0 : Cond} {rest : List Value} {l1 : Int32} {u : RSt} (X : RC p s m args c cc nL c0 D kA V A) (hS : RS D kA Z A s u H locs) (h : F_isKind N l1 u = some (r, w)) (hF : 0 + 1 ≤ R.frames) (hL : 8 + (2 + 11) + 0 ≤ R.locals) (hl : ls.size = nL) (hc : (rest.map fun v => v.category).sum ≤ 8) (hdg : decode cc pc = .ok (.invokevirtual 463, 3)) (kk : ∀ H locs, RS D kA Z A s w H locs → W p l e R s m args below meth c H locs 0 0 Q (F0 m (pc + 3) ls (.int r :: rest))) : W p l e R s m args below meth c H locs 0 0 Q (F0 m pc ls (.int l1 :: .ref (Z 200) :: rest)) :=
  rcall_i (n := 1) X hS (k_isKind l D kA V Z N l1 u H.size h) (gw_V gw_2480 gw_2482 gs_10_3 gw_16 gw_2483) (by decide +kernel) hF hL rfl hl hc rfl hdg kk
def B_named_39 (N : Nat) (R_3 : Int64 × Int64 × Int32 × RSt → Option (Int32 × RSt)) (l1 : Int64) (l3 : Int64) (l5 : Int32) (u : RSt) : Option (Int32 × RSt) := R_3 (l1, l3, (l5 + 1), u)
set_option maxHeartbeats 4000000 in
theorem b_named_39 {r : Int32} (X : RC p s m args c cX12_named 6 (Cond.code yX12_named cX12_named 6 (some .int)) D kA V A) (hE : REi p l e R s m args below meth c cX12_named D kA Z A Q r w) (hF : 0 ≤ R.frames) (hL : 0 ≤ R.locals) {R_3 : Int64 × Int64 × Int32 × RSt → Option (Int32 × RSt)} {l1 : Int64} {l3 : Int64} {l5 : Int32} (hR_3 : ∀ (l1 : Int64) (l3 : Int64) (l5 : Int32) (u : RSt), R_3 (l1, l3, l5, u) = some (r, w) → ∀ (H : Heap) (locs : List Loc) (ls : Array Slot), RS D kA Z A s u H locs → lv_has ls 6 [(0, .ref (Z 200)), (1, .long l1), (3, .long l3), (5, .int l5)] → W p l e R s m args below meth c H locs 0 0 Q (F0 m 3 ls [])) {u : RSt} (h : B_named_39 N R_3 l1 l3 l5 u = some (r, w)) (hS : RS D kA Z A s u H locs) (hl : lv_has ls 6 [(0, .ref (Z 200)), (1, .long l1), (3, .long l3), (5, .int l5)]) : W p l e R s m args below meth c H locs 0 0 Q (F0 m 39 ls []) := by
  obtain ⟨⟨hx, hb, hml, hown, hts⟩, hK, hEV, hA⟩ := id X
  have hG : ∀ w ∈ GW, w.before args s = true := fun w h => hts w (List.mem_cons_of_mem _ h)
  unfold B_named_39 at h
  refine lv_iinc (v := l5 + 1) (lv' := [(5, .int (l5 + 1)), (0, .ref (Z 200)), (1, .long l1), (3, .long l3)]) hx hb dX12_named_39 hl (k := 3) rfl rfl (by decide) rfl (fun ls hl => ?_)
  refine lv_goto (tgt := 3) hx hb dX12_named_42 (by decide) ?_
  exact hR_3 _ _ _ _ h _ _ _ hS (lv_sub hl [1, 2, 3, 0] rfl)
def B_named_3 (N : Nat) (R_3 : Int64 × Int64 × Int32 × RSt → Option (Int32 × RSt)) (l1 : Int64) (l3 : Int64) (l5 : Int32) (u : RSt) : Option (Int32 × RSt) := if (u.1 61) ≤ l5 then (some ((-1), u)) else (rd (u.2.2.2 57) 180 l5 fun v_2 => if v_2 = l1 then (rd (u.2.2.2 58) 180 l5 fun v_5 => if v_5 = l3 then (some (l5, u)) else (B_named_39 N R_3 l1 l3 l5 u)) else (B_named_39 N R_3 l1 l3 l5 u))
set_option maxHeartbeats 4000000 in
theorem b_named_3 {r : Int32} (X : RC p s m args c cX12_named 6 (Cond.code yX12_named cX12_named 6 (some .int)) D kA V A) (hE : REi p l e R s m args below meth c cX12_named D kA Z A Q r w) (hF : 0 ≤ R.frames) (hL : 0 ≤ R.locals) {R_3 : Int64 × Int64 × Int32 × RSt → Option (Int32 × RSt)} {l1 : Int64} {l3 : Int64} {l5 : Int32} (hR_3 : ∀ (l1 : Int64) (l3 : Int64) (l5 : Int32) (u : RSt), R_3 (l1, l3, l5, u) = some (r, w) → ∀ (H : Heap) (locs : List Loc) (ls : Array Slot), RS D kA Z A s u H locs → lv_has ls 6 [(0, .ref (Z 200)), (1, .long l1), (3, .long l3), (5, .int l5)] → W p l e R s m args below meth c H locs 0 0 Q (F0 m 3 ls [])) {u : RSt} (h : B_named_3 N R_3 l1 l3 l5 u = some (r, w)) (hS : RS D kA Z A s u H locs) (hl : lv_has ls 6 [(0, .ref (Z 200)), (1, .long l1), (3, .long l3), (5, .int l5)]) : W p l e R s m args below meth c H locs 0 0 Q (F0 m 3 ls []) := by
  obtain ⟨⟨hx, hb, hml, hown, hts⟩, hK, hEV, hA⟩ := id X
  have hG : ∀ w ∈ GW, w.before args s = true := fun w h => hts w (List.mem_cons_of_mem _ h)
  unfold B_named_3 at h
  refine lv_iload hx hb dX12_named_3 (lv_at hl 3 rfl) ?_
  refine lv_aload_n hx hb dX12_named_5 rfl (lv_at hl 0 rfl) ?_
  refine rg_61 X hS dX12_named_6 ?_
  refine lv_icmp_ge (tgt := 45) hx hb dX12_named_9 (by decide) (fun c_1 => ?_) (fun c_1 => ?_)
  · have h := ip (c_1) h
    refine lv_iconst (v := (-1)) hx hb dX12_named_45 (by decide) ?_
    obtain ⟨rfl, rfl⟩ := so h
    exact hE _ _ _ _ hS dX12_named_46
  · have h := im (c_1) h
    refine lv_aload_n hx hb dX12_named_12 rfl (lv_at hl 0 rfl) ?_
    refine rg_57 X hS dX12_named_13 ?_
    refine lv_iload hx hb dX12_named_16 (lv_at hl 3 rfl) ?_
    obtain ⟨v_2, e_v_2, i_3, h⟩ := rd_of h
    refine ra_57 X hS i_3 e_v_2 dX12_named_18 ?_
    refine lv_lload_n hx hb dX12_named_19 rfl (lv_at hl 1 rfl) ?_
    refine W.lcmp hx hb dX12_named_20 ?_
    refine lv_if_ne (tgt := 39) hx hb dX12_named_21 (by decide) (fun c_4 => ?_) (fun c_4 => ?_)
    · have h := im (mt (lg_cmp_eq _ _).mpr c_4) h
      exact b_named_39 X hE hF hL hR_3 h hS (lv_sub hl [0, 1, 2, 3] rfl)
    · have h := ip ((lg_cmp_eq _ _).mp c_4) h
      refine lv_aload_n hx hb dX12_named_24 rfl (lv_at hl 0 rfl) ?_
      refine rg_58 X hS dX12_named_25 ?_
      refine lv_iload hx hb dX12_named_28 (lv_at hl 3 rfl) ?_
      obtain ⟨v_5, e_v_5, i_6, h⟩ := rd_of h
      refine ra_58 X hS i_6 e_v_5 dX12_named_30 ?_
      refine lv_lload_n hx hb dX12_named_31 rfl (lv_at hl 2 rfl) ?_
      refine W.lcmp hx hb dX12_named_32 ?_
      refine lv_if_ne (tgt := 39) hx hb dX12_named_33 (by decide) (fun c_7 => ?_) (fun c_7 => ?_)
      · have h := im (mt (lg_cmp_eq _ _).mpr c_7) h
        exact b_named_39 X hE hF hL hR_3 h hS (lv_sub hl [0, 1, 2, 3] rfl)
      · have h := ip ((lg_cmp_eq _ _).mp c_7) h
        refine lv_iload hx hb dX12_named_36 (lv_at hl 3 rfl) ?_
        obtain ⟨rfl, rfl⟩ := so h
        exact hE _ _ _ _ hS dX12_named_38
def LP_named_3 (N : Nat) : Nat → Int64 × Int64 × Int32 × RSt → Option (Int32 × RSt) := lp (fun R a => B_named_3 N R a.1 a.2.1 a.2.2.1 a.2.2.2)
theorem bl_named_3 {r : Int32} (X : RC p s m args c cX12_named 6 (Cond.code yX12_named cX12_named 6 (some .int)) D kA V A) (hE : REi p l e R s m args below meth c cX12_named D kA Z A Q r w) (hF : 0 ≤ R.frames) (hL : 0 ≤ R.locals)  : ∀ (n : Nat) (l1 : Int64) (l3 : Int64) (l5 : Int32) (u : RSt), LP_named_3 N n (l1, l3, l5, u) = some (r, w) → ∀ (H : Heap) (locs : List Loc) (ls : Array Slot), RS D kA Z A s u H locs → lv_has ls 6 [(0, .ref (Z 200)), (1, .long l1), (3, .long l3), (5, .int l5)] → W p l e R s m args below meth c H locs 0 0 Q (F0 m 3 ls []) := by
  intro n
  induction n with
  | zero => intro l1 l3 l5 u h; exact nomatch h
  | succ n ih => intro l1 l3 l5 u h H locs ls hS hl; exact b_named_3 (N := N) (R_3 := LP_named_3 N n) X hE hF hL  ih h hS hl
def B_named_0 (N : Nat) (l1 : Int64) (l3 : Int64) (u : RSt) : Option (Int32 × RSt) := LP_named_3 N N (l1, l3, 0, u)
set_option maxHeartbeats 4000000 in
theorem b_named_0 {r : Int32} (X : RC p s m args c cX12_named 6 (Cond.code yX12_named cX12_named 6 (some .int)) D kA V A) (hE : REi p l e R s m args below meth c cX12_named D kA Z A Q r w) (hF : 0 ≤ R.frames) (hL : 0 ≤ R.locals) {l1 : Int64} {l3 : Int64}  {u : RSt} (h : B_named_0 N l1 l3 u = some (r, w)) (hS : RS D kA Z A s u H locs) (hl : lv_has ls 6 [(0, .ref (Z 200)), (1, .long l1), (3, .long l3)]) : W p l e R s m args below meth c H locs 0 0 Q (F0 m 0 ls []) := by
  obtain ⟨⟨hx, hb, hml, hown, hts⟩, hK, hEV, hA⟩ := id X
  have hG : ∀ w ∈ GW, w.before args s = true := fun w h => hts w (List.mem_cons_of_mem _ h)
  unfold B_named_0 at h
  refine lv_iconst (v := 0) hx hb dX12_named_0 (by decide) ?_
  refine lv_istore (lv' := [(5, .int 0), (0, .ref (Z 200)), (1, .long l1), (3, .long l3)]) hx hb dX12_named_1 hl (by decide) rfl (fun ls hl => ?_)
  exact bl_named_3 X hE hF hL  _ _ _ _ _ h _ _ _ hS (lv_sub hl [1, 2, 3, 0] rfl)
def F_named (N : Nat) (l1 : Int64) (l3 : Int64) (u : RSt) : Option (Int32 × RSt) := B_named_0 N l1 l3 u
set_option maxHeartbeats 4000000 in
theorem k_named (l : Launch) (D : va_G) (kA : Nat → ClassId) (V Z : Nat → Nat) (N : Nat) (l1 : Int64) (l3 : Int64) (u : RSt) (sz : Nat) {r : Int32} {w : RSt} (h : F_named N l1 l3 u = some (r, w)) : Met l yX12_named (Cond.code yX12_named cX12_named 6 (some .int) :: GW) { frames := 0, cells := 0, slots := 0, locals := 0 } (rPc D kA V Z [.long l1, .long l3] u sz) (rQi D kA Z u sz r w) 0 0 (va_A (RW kA Z u) sz) := by
  refine Met.ofW (cc := cX12_named) (maxL := 6) (ret := (some .int)) (by decide) rfl ?_
  intro p e s m args below meth c s₁ Bd hml hv
  obtain ⟨rfl, hsz, hP, hK, hD0, hE⟩ := hv
  have hts := atoms_spec (ws := Cond.code yX12_named cX12_named 6 (some .int) :: GW) Bd.pre
  have hl := lv_entry (.ref (Z 200) :: [.long l1, .long l3]) (n := 6) (Nat.le_of_ble_eq_true rfl)
  rw [lg_entry_eq]
  generalize (lg_sl (.ref (Z 200) :: [.long l1, .long l3]) ++ List.replicate (6 - (lg_sl (.ref (Z 200) :: [.long l1, .long l3])).length) Slot.unset).toArray = ls at hl ⊢
  have hl : lv_has ls 6 [(0, .ref (Z 200)), (1, .long l1), (3, .long l3)] := hl
  subst hsz
  have X : RC p s m (.ref (Z 200) :: [.long l1, .long l3]).toArray c cX12_named 6 (Cond.code yX12_named cX12_named 6 (some .int)) D kA V (va_A (RW kA Z u) s.heap.size) := ⟨⟨Bd.exec, Bd.bytes, hml, findClass_of_methodNamed Bd.named, hts⟩, hK, hE, fun q h => Or.inr h⟩
  exact b_named_0 X (rend_i (cy := cX12_named) X Bd.returns Bd.notSynchronized) (Nat.le_refl _) (Nat.le_refl _) h ⟨hP, hD0.self, va_S.rf⟩ (lv_sub hl [0, 1, 2] rfl)
theorem kc_named {r : Int32} {cc : ByteArray} {pc nL : Nat} {c0 : Cond} {rest : List Value} {l1 : Int64} {l3 : Int64} {u : RSt} (X : RC p s m args c cc nL c0 D kA V A) (hS : RS D kA Z A s u H locs) (h : F_named N l1 l3 u = some (r, w)) (hF : 0 + 1 ≤ R.frames) (hL : 8 + (6 + 11) + 0 ≤ R.locals) (hl : ls.size = nL) (hc : (rest.map fun v => v.category).sum ≤ 8) (hdg : decode cc pc = .ok (.invokevirtual 198, 3)) (kk : ∀ H locs, RS D kA Z A s w H locs → W p l e R s m args below meth c H locs 0 0 Q (F0 m (pc + 3) ls (.int r :: rest))) : W p l e R s m args below meth c H locs 0 0 Q (F0 m pc ls (.long l3 :: .long l1 :: .ref (Z 200) :: rest)) :=
  rcall_i (n := 2) X hS (k_named l D kA V Z N l1 l3 u H.size h) (gw_V gw_2360 gw_2362 gs_8_10 gw_16 gw_2363) (by decide +kernel) hF hL rfl hl hc rfl hdg kk
def B_slotOf_82 (N : Nat) (R_6 : Int64 × Int64 × Int32 × RSt → Option (Int32 × RSt)) (l1 : Int64) (l3 : Int64) (l5 : Int32) (u : RSt) : Option (Int32 × RSt) := R_6 (l1, l3, (l5 + 1), u)
set_option maxHeartbeats 4000000 in
theorem b_slotOf_82 {r : Int32} (X : RC p s m args c cX12_slotOf 6 (Cond.code yX12_slotOf cX12_slotOf 6 (some .int)) D kA V A) (hE : REi p l e R s m args below meth c cX12_slotOf D kA Z A Q r w) (hF : 0 ≤ R.frames) (hL : 0 ≤ R.locals) {R_6 : Int64 × Int64 × Int32 × RSt → Option (Int32 × RSt)} {l1 : Int64} {l3 : Int64} {l5 : Int32} (hR_6 : ∀ (l1 : Int64) (l3 : Int64) (l5 : Int32) (u : RSt), R_6 (l1, l3, l5, u) = some (r, w) → ∀ (H : Heap) (locs : List Loc) (ls : Array Slot), RS D kA Z A s u H locs → lv_has ls 6 [(0, .ref (Z 200)), (1, .long l1), (3, .long l3), (5, .int l5)] → W p l e R s m args below meth c H locs 0 0 Q (F0 m 6 ls [])) {u : RSt} (h : B_slotOf_82 N R_6 l1 l3 l5 u = some (r, w)) (hS : RS D kA Z A s u H locs) (hl : lv_has ls 6 [(0, .ref (Z 200)), (1, .long l1), (3, .long l3), (5, .int l5)]) : W p l e R s m args below meth c H locs 0 0 Q (F0 m 82 ls []) := by
  obtain ⟨⟨hx, hb, hml, hown, hts⟩, hK, hEV, hA⟩ := id X
  have hG : ∀ w ∈ GW, w.before args s = true := fun w h => hts w (List.mem_cons_of_mem _ h)
  unfold B_slotOf_82 at h
  refine lv_iinc (v := l5 + 1) (lv' := [(5, .int (l5 + 1)), (0, .ref (Z 200)), (1, .long l1), (3, .long l3)]) hx hb dX12_slotOf_82 hl (k := 3) rfl rfl (by decide) rfl (fun ls hl => ?_)
  refine lv_goto (tgt := 6) hx hb dX12_slotOf_85 (by decide) ?_
  exact hR_6 _ _ _ _ h _ _ _ hS (lv_sub hl [1, 2, 3, 0] rfl)
def B_slotOf_6 (N : Nat) (R_6 : Int64 × Int64 × Int32 × RSt → Option (Int32 × RSt)) (l1 : Int64) (l3 : Int64) (l5 : Int32) (u : RSt) : Option (Int32 × RSt) := if (u.1 70) ≤ (1 : Int32) then (some ((-1), u)) else (rd (u.2.2.1 27) 2 (u.1 56) fun v_2 => if v_2 ≤ l5 then (some ((-1), u)) else (rd (u.2.2.2 25) 320 ((160 * (u.1 56)) + l5) fun v_5 => if v_5 = l1 then (rd (u.2.2.2 26) 320 ((160 * (u.1 56)) + l5) fun v_8 => if v_8 = l3 then (some ((160 * (u.1 56)) + l5, u)) else (B_slotOf_82 N R_6 l1 l3 l5 u)) else (B_slotOf_82 N R_6 l1 l3 l5 u)))
set_option maxHeartbeats 4000000 in
theorem b_slotOf_6 {r : Int32} (X : RC p s m args c cX12_slotOf 6 (Cond.code yX12_slotOf cX12_slotOf 6 (some .int)) D kA V A) (hE : REi p l e R s m args below meth c cX12_slotOf D kA Z A Q r w) (hF : 0 ≤ R.frames) (hL : 0 ≤ R.locals) {R_6 : Int64 × Int64 × Int32 × RSt → Option (Int32 × RSt)} {l1 : Int64} {l3 : Int64} {l5 : Int32} (hR_6 : ∀ (l1 : Int64) (l3 : Int64) (l5 : Int32) (u : RSt), R_6 (l1, l3, l5, u) = some (r, w) → ∀ (H : Heap) (locs : List Loc) (ls : Array Slot), RS D kA Z A s u H locs → lv_has ls 6 [(0, .ref (Z 200)), (1, .long l1), (3, .long l3), (5, .int l5)] → W p l e R s m args below meth c H locs 0 0 Q (F0 m 6 ls [])) {u : RSt} (h : B_slotOf_6 N R_6 l1 l3 l5 u = some (r, w)) (hS : RS D kA Z A s u H locs) (hl : lv_has ls 6 [(0, .ref (Z 200)), (1, .long l1), (3, .long l3), (5, .int l5)]) : W p l e R s m args below meth c H locs 0 0 Q (F0 m 6 ls []) := by
  obtain ⟨⟨hx, hb, hml, hown, hts⟩, hK, hEV, hA⟩ := id X
  have hG : ∀ w ∈ GW, w.before args s = true := fun w h => hts w (List.mem_cons_of_mem _ h)
  unfold B_slotOf_6 at h
  refine lv_aload_n hx hb dX12_slotOf_6 rfl (lv_at hl 0 rfl) ?_
  refine rg_70 X hS dX12_slotOf_7 ?_
  refine lv_iconst (v := 1) hx hb dX12_slotOf_10 (by decide) ?_
  refine lv_icmp_le (tgt := 88) hx hb dX12_slotOf_11 (by decide) (fun c_1 => ?_) (fun c_1 => ?_)
  · have h := ip (c_1) h
    refine lv_iconst (v := (-1)) hx hb dX12_slotOf_88 (by decide) ?_
    obtain ⟨rfl, rfl⟩ := so h
    exact hE _ _ _ _ hS dX12_slotOf_89
  · have h := im (c_1) h
    refine lv_iload hx hb dX12_slotOf_14 (lv_at hl 3 rfl) ?_
    refine lv_aload_n hx hb dX12_slotOf_16 rfl (lv_at hl 0 rfl) ?_
    refine rg_27 X hS dX12_slotOf_17 ?_
    refine lv_aload_n hx hb dX12_slotOf_20 rfl (lv_at hl 0 rfl) ?_
    refine rg_56 X hS dX12_slotOf_21 ?_
    obtain ⟨v_2, e_v_2, i_3, h⟩ := rd_of h
    refine ra_27 X hS i_3 e_v_2 dX12_slotOf_24 ?_
    refine lv_icmp_ge (tgt := 88) hx hb dX12_slotOf_25 (by decide) (fun c_4 => ?_) (fun c_4 => ?_)
    · have h := ip (c_4) h
      refine lv_iconst (v := (-1)) hx hb dX12_slotOf_88 (by decide) ?_
      obtain ⟨rfl, rfl⟩ := so h
      exact hE _ _ _ _ hS dX12_slotOf_89
    · have h := im (c_4) h
      refine lv_aload_n hx hb dX12_slotOf_28 rfl (lv_at hl 0 rfl) ?_
      refine rg_25 X hS dX12_slotOf_29 ?_
      refine lv_sipush (v := 160) hx hb dX12_slotOf_32 (by decide) ?_
      refine lv_aload_n hx hb dX12_slotOf_35 rfl (lv_at hl 0 rfl) ?_
      refine rg_56 X hS dX12_slotOf_36 ?_
      refine lv_imul hx hb dX12_slotOf_39 ?_
      refine lv_iload hx hb dX12_slotOf_40 (lv_at hl 3 rfl) ?_
      refine lv_iadd hx hb dX12_slotOf_42 ?_
      obtain ⟨v_5, e_v_5, i_6, h⟩ := rd_of h
      refine ra_25 X hS i_6 e_v_5 dX12_slotOf_43 ?_
      refine lv_lload_n hx hb dX12_slotOf_44 rfl (lv_at hl 1 rfl) ?_
      refine W.lcmp hx hb dX12_slotOf_45 ?_
      refine lv_if_ne (tgt := 82) hx hb dX12_slotOf_46 (by decide) (fun c_7 => ?_) (fun c_7 => ?_)
      · have h := im (mt (lg_cmp_eq _ _).mpr c_7) h
        exact b_slotOf_82 X hE hF hL hR_6 h hS (lv_sub hl [0, 1, 2, 3] rfl)
      · have h := ip ((lg_cmp_eq _ _).mp c_7) h
        refine lv_aload_n hx hb dX12_slotOf_49 rfl (lv_at hl 0 rfl) ?_
        refine rg_26 X hS dX12_slotOf_50 ?_
        refine lv_sipush (v := 160) hx hb dX12_slotOf_53 (by decide) ?_
        refine lv_aload_n hx hb dX12_slotOf_56 rfl (lv_at hl 0 rfl) ?_
        refine rg_56 X hS dX12_slotOf_57 ?_
        refine lv_imul hx hb dX12_slotOf_60 ?_
        refine lv_iload hx hb dX12_slotOf_61 (lv_at hl 3 rfl) ?_
        refine lv_iadd hx hb dX12_slotOf_63 ?_
        obtain ⟨v_8, e_v_8, i_9, h⟩ := rd_of h
        refine ra_26 X hS i_9 e_v_8 dX12_slotOf_64 ?_
        refine lv_lload_n hx hb dX12_slotOf_65 rfl (lv_at hl 2 rfl) ?_
        refine W.lcmp hx hb dX12_slotOf_66 ?_
        refine lv_if_ne (tgt := 82) hx hb dX12_slotOf_67 (by decide) (fun c_10 => ?_) (fun c_10 => ?_)
        · have h := im (mt (lg_cmp_eq _ _).mpr c_10) h
          exact b_slotOf_82 X hE hF hL hR_6 h hS (lv_sub hl [0, 1, 2, 3] rfl)
        · have h := ip ((lg_cmp_eq _ _).mp c_10) h
          refine lv_sipush (v := 160) hx hb dX12_slotOf_70 (by decide) ?_
          refine lv_aload_n hx hb dX12_slotOf_73 rfl (lv_at hl 0 rfl) ?_
          refine rg_56 X hS dX12_slotOf_74 ?_
          refine lv_imul hx hb dX12_slotOf_77 ?_
          refine lv_iload hx hb dX12_slotOf_78 (lv_at hl 3 rfl) ?_
          refine lv_iadd hx hb dX12_slotOf_80 ?_
          obtain ⟨rfl, rfl⟩ := so h
          exact hE _ _ _ _ hS dX12_slotOf_81
def LP_slotOf_6 (N : Nat) : Nat → Int64 × Int64 × Int32 × RSt → Option (Int32 × RSt) := lp (fun R a => B_slotOf_6 N R a.1 a.2.1 a.2.2.1 a.2.2.2)
theorem bl_slotOf_6 {r : Int32} (X : RC p s m args c cX12_slotOf 6 (Cond.code yX12_slotOf cX12_slotOf 6 (some .int)) D kA V A) (hE : REi p l e R s m args below meth c cX12_slotOf D kA Z A Q r w) (hF : 0 ≤ R.frames) (hL : 0 ≤ R.locals)  : ∀ (n : Nat) (l1 : Int64) (l3 : Int64) (l5 : Int32) (u : RSt), LP_slotOf_6 N n (l1, l3, l5, u) = some (r, w) → ∀ (H : Heap) (locs : List Loc) (ls : Array Slot), RS D kA Z A s u H locs → lv_has ls 6 [(0, .ref (Z 200)), (1, .long l1), (3, .long l3), (5, .int l5)] → W p l e R s m args below meth c H locs 0 0 Q (F0 m 6 ls []) := by
  intro n
  induction n with
  | zero => intro l1 l3 l5 u h; exact nomatch h
  | succ n ih => intro l1 l3 l5 u h H locs ls hS hl; exact b_slotOf_6 (N := N) (R_6 := LP_slotOf_6 N n) X hE hF hL  ih h hS hl
def B_slotOf_0 (N : Nat) (l1 : Int64) (l3 : Int64) (u : RSt) : Option (Int32 × RSt) := LP_slotOf_6 N N (l1, l3, (u.1 72), u)
set_option maxHeartbeats 4000000 in
theorem b_slotOf_0 {r : Int32} (X : RC p s m args c cX12_slotOf 6 (Cond.code yX12_slotOf cX12_slotOf 6 (some .int)) D kA V A) (hE : REi p l e R s m args below meth c cX12_slotOf D kA Z A Q r w) (hF : 0 ≤ R.frames) (hL : 0 ≤ R.locals) {l1 : Int64} {l3 : Int64}  {u : RSt} (h : B_slotOf_0 N l1 l3 u = some (r, w)) (hS : RS D kA Z A s u H locs) (hl : lv_has ls 6 [(0, .ref (Z 200)), (1, .long l1), (3, .long l3)]) : W p l e R s m args below meth c H locs 0 0 Q (F0 m 0 ls []) := by
  obtain ⟨⟨hx, hb, hml, hown, hts⟩, hK, hEV, hA⟩ := id X
  have hG : ∀ w ∈ GW, w.before args s = true := fun w h => hts w (List.mem_cons_of_mem _ h)
  unfold B_slotOf_0 at h
  refine lv_aload_n hx hb dX12_slotOf_0 rfl (lv_at hl 0 rfl) ?_
  refine rg_72 X hS dX12_slotOf_1 ?_
  refine lv_istore (lv' := [(5, .int (u.1 72)), (0, .ref (Z 200)), (1, .long l1), (3, .long l3)]) hx hb dX12_slotOf_4 hl (by decide) rfl (fun ls hl => ?_)
  exact bl_slotOf_6 X hE hF hL  _ _ _ _ _ h _ _ _ hS (lv_sub hl [1, 2, 3, 0] rfl)
def F_slotOf (N : Nat) (l1 : Int64) (l3 : Int64) (u : RSt) : Option (Int32 × RSt) := B_slotOf_0 N l1 l3 u
set_option maxHeartbeats 4000000 in
theorem k_slotOf (l : Launch) (D : va_G) (kA : Nat → ClassId) (V Z : Nat → Nat) (N : Nat) (l1 : Int64) (l3 : Int64) (u : RSt) (sz : Nat) {r : Int32} {w : RSt} (h : F_slotOf N l1 l3 u = some (r, w)) : Met l yX12_slotOf (Cond.code yX12_slotOf cX12_slotOf 6 (some .int) :: GW) { frames := 0, cells := 0, slots := 0, locals := 0 } (rPc D kA V Z [.long l1, .long l3] u sz) (rQi D kA Z u sz r w) 0 0 (va_A (RW kA Z u) sz) := by
  refine Met.ofW (cc := cX12_slotOf) (maxL := 6) (ret := (some .int)) (by decide) rfl ?_
  intro p e s m args below meth c s₁ Bd hml hv
  obtain ⟨rfl, hsz, hP, hK, hD0, hE⟩ := hv
  have hts := atoms_spec (ws := Cond.code yX12_slotOf cX12_slotOf 6 (some .int) :: GW) Bd.pre
  have hl := lv_entry (.ref (Z 200) :: [.long l1, .long l3]) (n := 6) (Nat.le_of_ble_eq_true rfl)
  rw [lg_entry_eq]
  generalize (lg_sl (.ref (Z 200) :: [.long l1, .long l3]) ++ List.replicate (6 - (lg_sl (.ref (Z 200) :: [.long l1, .long l3])).length) Slot.unset).toArray = ls at hl ⊢
  have hl : lv_has ls 6 [(0, .ref (Z 200)), (1, .long l1), (3, .long l3)] := hl
  subst hsz
  have X : RC p s m (.ref (Z 200) :: [.long l1, .long l3]).toArray c cX12_slotOf 6 (Cond.code yX12_slotOf cX12_slotOf 6 (some .int)) D kA V (va_A (RW kA Z u) s.heap.size) := ⟨⟨Bd.exec, Bd.bytes, hml, findClass_of_methodNamed Bd.named, hts⟩, hK, hE, fun q h => Or.inr h⟩
  exact b_slotOf_0 X (rend_i (cy := cX12_slotOf) X Bd.returns Bd.notSynchronized) (Nat.le_refl _) (Nat.le_refl _) h ⟨hP, hD0.self, va_S.rf⟩ (lv_sub hl [0, 1, 2] rfl)
theorem kc_slotOf {r : Int32} {cc : ByteArray} {pc nL : Nat} {c0 : Cond} {rest : List Value} {l1 : Int64} {l3 : Int64} {u : RSt} (X : RC p s m args c cc nL c0 D kA V A) (hS : RS D kA Z A s u H locs) (h : F_slotOf N l1 l3 u = some (r, w)) (hF : 0 + 1 ≤ R.frames) (hL : 8 + (6 + 11) + 0 ≤ R.locals) (hl : ls.size = nL) (hc : (rest.map fun v => v.category).sum ≤ 8) (hdg : decode cc pc = .ok (.invokevirtual 215, 3)) (kk : ∀ H locs, RS D kA Z A s w H locs → W p l e R s m args below meth c H locs 0 0 Q (F0 m (pc + 3) ls (.int r :: rest))) : W p l e R s m args below meth c H locs 0 0 Q (F0 m pc ls (.long l3 :: .long l1 :: .ref (Z 200) :: rest)) :=
  rcall_i (n := 2) X hS (k_slotOf l D kA V Z N l1 l3 u H.size h) (gw_V gw_2348 gw_2350 gs_8_7 gw_16 gw_2351) (by decide +kernel) hF hL rfl hl hc rfl hdg kk
end LeafRows
