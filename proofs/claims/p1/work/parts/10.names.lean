abbrev cX11_place : ByteArray := prog_1_method_5_code
def yX11_place : MethodName := ⟨RX11, "place", "()I"⟩
theorem dX11_place_0 : decode cX11_place 0 = .ok (.aload_n 0, 1) := by decide +kernel
theorem dX11_place_1 : decode cX11_place 1 = .ok (.getfield 18, 3) := by decide +kernel
theorem dX11_place_4 : decode cX11_place 4 = .ok (.getfield 103, 3) := by decide +kernel
theorem dX11_place_7 : decode cX11_place 7 = .ok (.ireturn, 1) := by decide +kernel
abbrev cX11_end : ByteArray := prog_1_method_3_code
def yX11_end : MethodName := ⟨RX11, "end", "(I)Z"⟩
theorem dX11_end_0 : decode cX11_end 0 = .ok (.iload_n 1, 1) := by decide +kernel
theorem dX11_end_1 : decode cX11_end 1 = .ok (.ifCond .lt 11, 3) := by decide +kernel
theorem dX11_end_4 : decode cX11_end 4 = .ok (.iload_n 1, 1) := by decide +kernel
theorem dX11_end_5 : decode cX11_end 5 = .ok (.aload_n 0, 1) := by decide +kernel
theorem dX11_end_6 : decode cX11_end 6 = .ok (.getfield 77, 3) := by decide +kernel
theorem dX11_end_9 : decode cX11_end 9 = .ok (.if_icmp .le 5, 3) := by decide +kernel
theorem dX11_end_12 : decode cX11_end 12 = .ok (.iconst 0, 1) := by decide +kernel
theorem dX11_end_13 : decode cX11_end 13 = .ok (.ireturn, 1) := by decide +kernel
theorem dX11_end_14 : decode cX11_end 14 = .ok (.aload_n 0, 1) := by decide +kernel
theorem dX11_end_15 : decode cX11_end 15 = .ok (.iload_n 1, 1) := by decide +kernel
theorem dX11_end_16 : decode cX11_end 16 = .ok (.putfield 77, 3) := by decide +kernel
theorem dX11_end_19 : decode cX11_end 19 = .ok (.iconst 1, 1) := by decide +kernel
theorem dX11_end_20 : decode cX11_end 20 = .ok (.ireturn, 1) := by decide +kernel
abbrev cX11_watchdog : ByteArray := prog_1_method_11_code
def yX11_watchdog : MethodName := ⟨RX11, "watchdog", "(I)V"⟩
theorem dX11_watchdog_0 : decode cX11_watchdog 0 = .ok (.iload_n 1, 1) := by decide +kernel
theorem dX11_watchdog_1 : decode cX11_watchdog 1 = .ok (.iconst 1, 1) := by decide +kernel
theorem dX11_watchdog_2 : decode cX11_watchdog 2 = .ok (.if_icmp .lt 10, 3) := by decide +kernel
theorem dX11_watchdog_5 : decode cX11_watchdog 5 = .ok (.iload_n 1, 1) := by decide +kernel
theorem dX11_watchdog_6 : decode cX11_watchdog 6 = .ok (.sipush 5000, 3) := by decide +kernel
theorem dX11_watchdog_9 : decode cX11_watchdog 9 = .ok (.if_icmp .le 13, 3) := by decide +kernel
theorem dX11_watchdog_12 : decode cX11_watchdog 12 = .ok (.new 106, 3) := by decide +kernel
theorem dX11_watchdog_15 : decode cX11_watchdog 15 = .ok (.dup, 1) := by decide +kernel
theorem dX11_watchdog_16 : decode cX11_watchdog 16 = .ok (.ldc 174, 2) := by decide +kernel
theorem dX11_watchdog_18 : decode cX11_watchdog 18 = .ok (.invokespecial 110, 3) := by decide +kernel
theorem dX11_watchdog_21 : decode cX11_watchdog 21 = .ok (.athrow, 1) := by decide +kernel
theorem dX11_watchdog_22 : decode cX11_watchdog 22 = .ok (.aload_n 0, 1) := by decide +kernel
theorem dX11_watchdog_23 : decode cX11_watchdog 23 = .ok (.iload_n 1, 1) := by decide +kernel
theorem dX11_watchdog_24 : decode cX11_watchdog 24 = .ok (.putfield 73, 3) := by decide +kernel
theorem dX11_watchdog_27 : decode cX11_watchdog 27 = .ok (.return_, 1) := by decide +kernel
abbrev cX11_look : ByteArray := prog_1_method_9_code
def yX11_look : MethodName := ⟨RX11, "look", "(II)I"⟩
theorem dX11_look_0 : decode cX11_look 0 = .ok (.iload_n 1, 1) := by decide +kernel
theorem dX11_look_1 : decode cX11_look 1 = .ok (.ifCond .lt 9, 3) := by decide +kernel
theorem dX11_look_4 : decode cX11_look 4 = .ok (.iload_n 1, 1) := by decide +kernel
theorem dX11_look_5 : decode cX11_look 5 = .ok (.bipush 7, 2) := by decide +kernel
theorem dX11_look_7 : decode cX11_look 7 = .ok (.if_icmp .le 13, 3) := by decide +kernel
theorem dX11_look_10 : decode cX11_look 10 = .ok (.new 106, 3) := by decide +kernel
theorem dX11_look_13 : decode cX11_look 13 = .ok (.dup, 1) := by decide +kernel
theorem dX11_look_14 : decode cX11_look 14 = .ok (.ldc 172, 2) := by decide +kernel
theorem dX11_look_16 : decode cX11_look 16 = .ok (.invokespecial 110, 3) := by decide +kernel
theorem dX11_look_19 : decode cX11_look 19 = .ok (.athrow, 1) := by decide +kernel
theorem dX11_look_20 : decode cX11_look 20 = .ok (.iload_n 2, 1) := by decide +kernel
theorem dX11_look_21 : decode cX11_look 21 = .ok (.ifCond .lt 9, 3) := by decide +kernel
theorem dX11_look_24 : decode cX11_look 24 = .ok (.iload_n 2, 1) := by decide +kernel
theorem dX11_look_25 : decode cX11_look 25 = .ok (.bipush 64, 2) := by decide +kernel
theorem dX11_look_27 : decode cX11_look 27 = .ok (.if_icmp .lt 13, 3) := by decide +kernel
theorem dX11_look_30 : decode cX11_look 30 = .ok (.new 163, 3) := by decide +kernel
theorem dX11_look_33 : decode cX11_look 33 = .ok (.dup, 1) := by decide +kernel
theorem dX11_look_34 : decode cX11_look 34 = .ok (.ldc 165, 2) := by decide +kernel
theorem dX11_look_36 : decode cX11_look 36 = .ok (.invokespecial 167, 3) := by decide +kernel
theorem dX11_look_39 : decode cX11_look 39 = .ok (.athrow, 1) := by decide +kernel
theorem dX11_look_40 : decode cX11_look 40 = .ok (.aload_n 0, 1) := by decide +kernel
theorem dX11_look_41 : decode cX11_look 41 = .ok (.getfield 34, 3) := by decide +kernel
theorem dX11_look_44 : decode cX11_look 44 = .ok (.getfield 168, 3) := by decide +kernel
theorem dX11_look_47 : decode cX11_look 47 = .ok (.iload_n 1, 1) := by decide +kernel
theorem dX11_look_48 : decode cX11_look 48 = .ok (.aaload, 1) := by decide +kernel
theorem dX11_look_49 : decode cX11_look 49 = .ok (.iload_n 2, 1) := by decide +kernel
theorem dX11_look_50 : decode cX11_look 50 = .ok (.iaload, 1) := by decide +kernel
theorem dX11_look_51 : decode cX11_look 51 = .ok (.ireturn, 1) := by decide +kernel
abbrev cX11_input : ByteArray := prog_1_method_8_code
def yX11_input : MethodName := ⟨RX11, "input", "(II)V"⟩
theorem dX11_input_0 : decode cX11_input 0 = .ok (.iload_n 1, 1) := by decide +kernel
theorem dX11_input_1 : decode cX11_input 1 = .ok (.ifCond .lt 9, 3) := by decide +kernel
theorem dX11_input_4 : decode cX11_input 4 = .ok (.iload_n 1, 1) := by decide +kernel
theorem dX11_input_5 : decode cX11_input 5 = .ok (.bipush 64, 2) := by decide +kernel
theorem dX11_input_7 : decode cX11_input 7 = .ok (.if_icmp .lt 13, 3) := by decide +kernel
theorem dX11_input_10 : decode cX11_input 10 = .ok (.new 163, 3) := by decide +kernel
theorem dX11_input_13 : decode cX11_input 13 = .ok (.dup, 1) := by decide +kernel
theorem dX11_input_14 : decode cX11_input 14 = .ok (.ldc 165, 2) := by decide +kernel
theorem dX11_input_16 : decode cX11_input 16 = .ok (.invokespecial 167, 3) := by decide +kernel
theorem dX11_input_19 : decode cX11_input 19 = .ok (.athrow, 1) := by decide +kernel
theorem dX11_input_20 : decode cX11_input 20 = .ok (.aload_n 0, 1) := by decide +kernel
theorem dX11_input_21 : decode cX11_input 21 = .ok (.getfield 34, 3) := by decide +kernel
theorem dX11_input_24 : decode cX11_input 24 = .ok (.getfield 168, 3) := by decide +kernel
theorem dX11_input_27 : decode cX11_input 27 = .ok (.iconst 0, 1) := by decide +kernel
theorem dX11_input_28 : decode cX11_input 28 = .ok (.aaload, 1) := by decide +kernel
theorem dX11_input_29 : decode cX11_input 29 = .ok (.iload_n 1, 1) := by decide +kernel
theorem dX11_input_30 : decode cX11_input 30 = .ok (.iload_n 2, 1) := by decide +kernel
theorem dX11_input_31 : decode cX11_input 31 = .ok (.sipush 255, 3) := by decide +kernel
theorem dX11_input_34 : decode cX11_input 34 = .ok (.iand, 1) := by decide +kernel
theorem dX11_input_35 : decode cX11_input 35 = .ok (.iastore, 1) := by decide +kernel
theorem dX11_input_36 : decode cX11_input 36 = .ok (.return_, 1) := by decide +kernel
abbrev cX6_ofSort : ByteArray := prog_8_method_3_code
def yX6_ofSort : MethodName := ⟨RX6, "ofSort", "(I)I"⟩
theorem dX6_ofSort_0 : decode cX6_ofSort 0 = .ok (.aload_n 0, 1) := by decide +kernel
theorem dX6_ofSort_1 : decode cX6_ofSort 1 = .ok (.getfield 34, 3) := by decide +kernel
theorem dX6_ofSort_4 : decode cX6_ofSort 4 = .ok (.iload_n 1, 1) := by decide +kernel
theorem dX6_ofSort_5 : decode cX6_ofSort 5 = .ok (.iaload, 1) := by decide +kernel
theorem dX6_ofSort_6 : decode cX6_ofSort 6 = .ok (.ireturn, 1) := by decide +kernel
abbrev cX6_stoppedTasks : ByteArray := prog_8_method_12_code
def yX6_stoppedTasks : MethodName := ⟨RX6, "stoppedTasks", "()I"⟩
theorem dX6_stoppedTasks_0 : decode cX6_stoppedTasks 0 = .ok (.iconst 0, 1) := by decide +kernel
theorem dX6_stoppedTasks_1 : decode cX6_stoppedTasks 1 = .ok (.istore_n 1, 1) := by decide +kernel
theorem dX6_stoppedTasks_2 : decode cX6_stoppedTasks 2 = .ok (.iconst 0, 1) := by decide +kernel
theorem dX6_stoppedTasks_3 : decode cX6_stoppedTasks 3 = .ok (.istore_n 2, 1) := by decide +kernel
theorem dX6_stoppedTasks_4 : decode cX6_stoppedTasks 4 = .ok (.iload_n 2, 1) := by decide +kernel
theorem dX6_stoppedTasks_5 : decode cX6_stoppedTasks 5 = .ok (.aload_n 0, 1) := by decide +kernel
theorem dX6_stoppedTasks_6 : decode cX6_stoppedTasks 6 = .ok (.getfield 34, 3) := by decide +kernel
theorem dX6_stoppedTasks_9 : decode cX6_stoppedTasks 9 = .ok (.iconst 2, 1) := by decide +kernel
theorem dX6_stoppedTasks_10 : decode cX6_stoppedTasks 10 = .ok (.iaload, 1) := by decide +kernel
theorem dX6_stoppedTasks_11 : decode cX6_stoppedTasks 11 = .ok (.if_icmp .ge 29, 3) := by decide +kernel
theorem dX6_stoppedTasks_14 : decode cX6_stoppedTasks 14 = .ok (.iload_n 1, 1) := by decide +kernel
theorem dX6_stoppedTasks_15 : decode cX6_stoppedTasks 15 = .ok (.aload_n 0, 1) := by decide +kernel
theorem dX6_stoppedTasks_16 : decode cX6_stoppedTasks 16 = .ok (.getfield 39, 3) := by decide +kernel
theorem dX6_stoppedTasks_19 : decode cX6_stoppedTasks 19 = .ok (.iload_n 2, 1) := by decide +kernel
theorem dX6_stoppedTasks_20 : decode cX6_stoppedTasks 20 = .ok (.aaload, 1) := by decide +kernel
theorem dX6_stoppedTasks_21 : decode cX6_stoppedTasks 21 = .ok (.getfield 134, 3) := by decide +kernel
theorem dX6_stoppedTasks_24 : decode cX6_stoppedTasks 24 = .ok (.ifCond .eq 7, 3) := by decide +kernel
theorem dX6_stoppedTasks_27 : decode cX6_stoppedTasks 27 = .ok (.iconst 1, 1) := by decide +kernel
theorem dX6_stoppedTasks_28 : decode cX6_stoppedTasks 28 = .ok (.goto 4, 3) := by decide +kernel
theorem dX6_stoppedTasks_31 : decode cX6_stoppedTasks 31 = .ok (.iconst 0, 1) := by decide +kernel
theorem dX6_stoppedTasks_32 : decode cX6_stoppedTasks 32 = .ok (.iadd, 1) := by decide +kernel
theorem dX6_stoppedTasks_33 : decode cX6_stoppedTasks 33 = .ok (.istore_n 1, 1) := by decide +kernel
theorem dX6_stoppedTasks_34 : decode cX6_stoppedTasks 34 = .ok (.iinc 2 1, 3) := by decide +kernel
theorem dX6_stoppedTasks_37 : decode cX6_stoppedTasks 37 = .ok (.goto (-33), 3) := by decide +kernel
theorem dX6_stoppedTasks_40 : decode cX6_stoppedTasks 40 = .ok (.iload_n 1, 1) := by decide +kernel
theorem dX6_stoppedTasks_41 : decode cX6_stoppedTasks 41 = .ok (.ireturn, 1) := by decide +kernel
abbrev cX11_count : ByteArray := prog_1_method_21_code
def yX11_count : MethodName := ⟨RX11, "count", "(I)I"⟩
theorem dX11_count_0 : decode cX11_count 0 = .ok (.iload_n 1, 1) := by decide +kernel
theorem dX11_count_1 : decode cX11_count 1 = .ok (.tableswitch 107 0 10 #[59, 59, 59, 59, 59, 68, 73, 81, 89, 97, 102], 59) := by decide +kernel
theorem dX11_count_60 : decode cX11_count 60 = .ok (.aload_n 0, 1) := by decide +kernel
theorem dX11_count_61 : decode cX11_count 61 = .ok (.getfield 48, 3) := by decide +kernel
theorem dX11_count_64 : decode cX11_count 64 = .ok (.iload_n 1, 1) := by decide +kernel
theorem dX11_count_65 : decode cX11_count 65 = .ok (.invokevirtual 117, 3) := by decide +kernel
theorem dX11_count_68 : decode cX11_count 68 = .ok (.ireturn, 1) := by decide +kernel
theorem dX11_count_69 : decode cX11_count 69 = .ok (.aload_n 0, 1) := by decide +kernel
theorem dX11_count_70 : decode cX11_count 70 = .ok (.getfield 150, 3) := by decide +kernel
theorem dX11_count_73 : decode cX11_count 73 = .ok (.ireturn, 1) := by decide +kernel
theorem dX11_count_74 : decode cX11_count 74 = .ok (.aload_n 0, 1) := by decide +kernel
theorem dX11_count_75 : decode cX11_count 75 = .ok (.getfield 48, 3) := by decide +kernel
theorem dX11_count_78 : decode cX11_count 78 = .ok (.invokevirtual 321, 3) := by decide +kernel
theorem dX11_count_81 : decode cX11_count 81 = .ok (.ireturn, 1) := by decide +kernel
theorem dX11_count_82 : decode cX11_count 82 = .ok (.aload_n 0, 1) := by decide +kernel
theorem dX11_count_83 : decode cX11_count 83 = .ok (.getfield 41, 3) := by decide +kernel
theorem dX11_count_86 : decode cX11_count 86 = .ok (.getfield 285, 3) := by decide +kernel
theorem dX11_count_89 : decode cX11_count 89 = .ok (.ireturn, 1) := by decide +kernel
theorem dX11_count_90 : decode cX11_count 90 = .ok (.aload_n 0, 1) := by decide +kernel
theorem dX11_count_91 : decode cX11_count 91 = .ok (.getfield 41, 3) := by decide +kernel
theorem dX11_count_94 : decode cX11_count 94 = .ok (.getfield 297, 3) := by decide +kernel
theorem dX11_count_97 : decode cX11_count 97 = .ok (.ireturn, 1) := by decide +kernel
theorem dX11_count_98 : decode cX11_count 98 = .ok (.aload_n 0, 1) := by decide +kernel
theorem dX11_count_99 : decode cX11_count 99 = .ok (.getfield 77, 3) := by decide +kernel
theorem dX11_count_102 : decode cX11_count 102 = .ok (.ireturn, 1) := by decide +kernel
theorem dX11_count_103 : decode cX11_count 103 = .ok (.aload_n 0, 1) := by decide +kernel
theorem dX11_count_104 : decode cX11_count 104 = .ok (.getfield 73, 3) := by decide +kernel
theorem dX11_count_107 : decode cX11_count 107 = .ok (.ireturn, 1) := by decide +kernel
theorem dX11_count_108 : decode cX11_count 108 = .ok (.new 106, 3) := by decide +kernel
theorem dX11_count_111 : decode cX11_count 111 = .ok (.dup, 1) := by decide +kernel
theorem dX11_count_112 : decode cX11_count 112 = .ok (.ldc_w 324, 3) := by decide +kernel
theorem dX11_count_115 : decode cX11_count 115 = .ok (.invokespecial 110, 3) := by decide +kernel
theorem dX11_count_118 : decode cX11_count 118 = .ok (.athrow, 1) := by decide +kernel
abbrev cX11_sum : ByteArray := prog_1_method_22_code
def yX11_sum : MethodName := ⟨RX11, "sum", "()J"⟩
theorem dX11_sum_0 : decode cX11_sum 0 = .ok (.lconst 0, 1) := by decide +kernel
theorem dX11_sum_1 : decode cX11_sum 1 = .ok (.lstore_n 1, 1) := by decide +kernel
theorem dX11_sum_2 : decode cX11_sum 2 = .ok (.iconst 0, 1) := by decide +kernel
theorem dX11_sum_3 : decode cX11_sum 3 = .ok (.istore_n 3, 1) := by decide +kernel
theorem dX11_sum_4 : decode cX11_sum 4 = .ok (.iload_n 3, 1) := by decide +kernel
theorem dX11_sum_5 : decode cX11_sum 5 = .ok (.aload_n 0, 1) := by decide +kernel
theorem dX11_sum_6 : decode cX11_sum 6 = .ok (.getfield 48, 3) := by decide +kernel
theorem dX11_sum_9 : decode cX11_sum 9 = .ok (.iconst 0, 1) := by decide +kernel
theorem dX11_sum_10 : decode cX11_sum 10 = .ok (.invokevirtual 117, 3) := by decide +kernel
theorem dX11_sum_13 : decode cX11_sum 13 = .ok (.if_icmp .ge 57, 3) := by decide +kernel
theorem dX11_sum_16 : decode cX11_sum 16 = .ok (.aload_n 0, 1) := by decide +kernel
theorem dX11_sum_17 : decode cX11_sum 17 = .ok (.getfield 48, 3) := by decide +kernel
theorem dX11_sum_20 : decode cX11_sum 20 = .ok (.iconst 0, 1) := by decide +kernel
theorem dX11_sum_21 : decode cX11_sum 21 = .ok (.iload_n 3, 1) := by decide +kernel
theorem dX11_sum_22 : decode cX11_sum 22 = .ok (.invokevirtual 121, 3) := by decide +kernel
theorem dX11_sum_25 : decode cX11_sum 25 = .ok (.astore 4, 2) := by decide +kernel
theorem dX11_sum_27 : decode cX11_sum 27 = .ok (.iconst 0, 1) := by decide +kernel
theorem dX11_sum_28 : decode cX11_sum 28 = .ok (.istore 5, 2) := by decide +kernel
theorem dX11_sum_30 : decode cX11_sum 30 = .ok (.iload 5, 2) := by decide +kernel
theorem dX11_sum_32 : decode cX11_sum 32 = .ok (.aload 4, 2) := by decide +kernel
theorem dX11_sum_34 : decode cX11_sum 34 = .ok (.getfield 133, 3) := by decide +kernel
theorem dX11_sum_37 : decode cX11_sum 37 = .ok (.if_icmp .ge 27, 3) := by decide +kernel
theorem dX11_sum_40 : decode cX11_sum 40 = .ok (.ldc2_w 326, 3) := by decide +kernel
theorem dX11_sum_43 : decode cX11_sum 43 = .ok (.lload_n 1, 1) := by decide +kernel
theorem dX11_sum_44 : decode cX11_sum 44 = .ok (.lmul, 1) := by decide +kernel
theorem dX11_sum_45 : decode cX11_sum 45 = .ok (.aload_n 0, 1) := by decide +kernel
theorem dX11_sum_46 : decode cX11_sum 46 = .ok (.getfield 69, 3) := by decide +kernel
theorem dX11_sum_49 : decode cX11_sum 49 = .ok (.aload 4, 2) := by decide +kernel
theorem dX11_sum_51 : decode cX11_sum 51 = .ok (.iload 5, 2) := by decide +kernel
theorem dX11_sum_53 : decode cX11_sum 53 = .ok (.invokevirtual 212, 3) := by decide +kernel
theorem dX11_sum_56 : decode cX11_sum 56 = .ok (.ladd, 1) := by decide +kernel
theorem dX11_sum_57 : decode cX11_sum 57 = .ok (.lstore_n 1, 1) := by decide +kernel
theorem dX11_sum_58 : decode cX11_sum 58 = .ok (.iinc 5 1, 3) := by decide +kernel
theorem dX11_sum_61 : decode cX11_sum 61 = .ok (.goto (-31), 3) := by decide +kernel
theorem dX11_sum_64 : decode cX11_sum 64 = .ok (.iinc 3 1, 3) := by decide +kernel
theorem dX11_sum_67 : decode cX11_sum 67 = .ok (.goto (-63), 3) := by decide +kernel
theorem dX11_sum_70 : decode cX11_sum 70 = .ok (.iconst 0, 1) := by decide +kernel
theorem dX11_sum_71 : decode cX11_sum 71 = .ok (.istore_n 3, 1) := by decide +kernel
theorem dX11_sum_72 : decode cX11_sum 72 = .ok (.iload_n 3, 1) := by decide +kernel
theorem dX11_sum_73 : decode cX11_sum 73 = .ok (.aload_n 0, 1) := by decide +kernel
theorem dX11_sum_74 : decode cX11_sum 74 = .ok (.getfield 48, 3) := by decide +kernel
theorem dX11_sum_77 : decode cX11_sum 77 = .ok (.iconst 1, 1) := by decide +kernel
theorem dX11_sum_78 : decode cX11_sum 78 = .ok (.invokevirtual 117, 3) := by decide +kernel
theorem dX11_sum_81 : decode cX11_sum 81 = .ok (.if_icmp .ge 75, 3) := by decide +kernel
theorem dX11_sum_84 : decode cX11_sum 84 = .ok (.aload_n 0, 1) := by decide +kernel
theorem dX11_sum_85 : decode cX11_sum 85 = .ok (.getfield 48, 3) := by decide +kernel
theorem dX11_sum_88 : decode cX11_sum 88 = .ok (.iconst 1, 1) := by decide +kernel
theorem dX11_sum_89 : decode cX11_sum 89 = .ok (.iload_n 3, 1) := by decide +kernel
theorem dX11_sum_90 : decode cX11_sum 90 = .ok (.invokevirtual 121, 3) := by decide +kernel
theorem dX11_sum_93 : decode cX11_sum 93 = .ok (.astore 4, 2) := by decide +kernel
theorem dX11_sum_95 : decode cX11_sum 95 = .ok (.aload_n 0, 1) := by decide +kernel
theorem dX11_sum_96 : decode cX11_sum 96 = .ok (.getfield 48, 3) := by decide +kernel
theorem dX11_sum_99 : decode cX11_sum 99 = .ok (.aload 4, 2) := by decide +kernel
theorem dX11_sum_101 : decode cX11_sum 101 = .ok (.getfield 241, 3) := by decide +kernel
theorem dX11_sum_104 : decode cX11_sum 104 = .ok (.invokevirtual 244, 3) := by decide +kernel
theorem dX11_sum_107 : decode cX11_sum 107 = .ok (.getfield 133, 3) := by decide +kernel
theorem dX11_sum_110 : decode cX11_sum 110 = .ok (.istore 5, 2) := by decide +kernel
theorem dX11_sum_112 : decode cX11_sum 112 = .ok (.iconst 0, 1) := by decide +kernel
theorem dX11_sum_113 : decode cX11_sum 113 = .ok (.istore 6, 2) := by decide +kernel
theorem dX11_sum_115 : decode cX11_sum 115 = .ok (.iload 6, 2) := by decide +kernel
theorem dX11_sum_117 : decode cX11_sum 117 = .ok (.iload 5, 2) := by decide +kernel
theorem dX11_sum_119 : decode cX11_sum 119 = .ok (.if_icmp .ge 31, 3) := by decide +kernel
theorem dX11_sum_122 : decode cX11_sum 122 = .ok (.ldc2_w 326, 3) := by decide +kernel
theorem dX11_sum_125 : decode cX11_sum 125 = .ok (.lload_n 1, 1) := by decide +kernel
theorem dX11_sum_126 : decode cX11_sum 126 = .ok (.lmul, 1) := by decide +kernel
theorem dX11_sum_127 : decode cX11_sum 127 = .ok (.aload_n 0, 1) := by decide +kernel
theorem dX11_sum_128 : decode cX11_sum 128 = .ok (.getfield 69, 3) := by decide +kernel
theorem dX11_sum_131 : decode cX11_sum 131 = .ok (.aload 4, 2) := by decide +kernel
theorem dX11_sum_133 : decode cX11_sum 133 = .ok (.getfield 130, 3) := by decide +kernel
theorem dX11_sum_136 : decode cX11_sum 136 = .ok (.iload 6, 2) := by decide +kernel
theorem dX11_sum_138 : decode cX11_sum 138 = .ok (.iadd, 1) := by decide +kernel
theorem dX11_sum_139 : decode cX11_sum 139 = .ok (.invokevirtual 257, 3) := by decide +kernel
theorem dX11_sum_142 : decode cX11_sum 142 = .ok (.ladd, 1) := by decide +kernel
theorem dX11_sum_143 : decode cX11_sum 143 = .ok (.lstore_n 1, 1) := by decide +kernel
theorem dX11_sum_144 : decode cX11_sum 144 = .ok (.iinc 6 1, 3) := by decide +kernel
theorem dX11_sum_147 : decode cX11_sum 147 = .ok (.goto (-32), 3) := by decide +kernel
theorem dX11_sum_150 : decode cX11_sum 150 = .ok (.iinc 3 1, 3) := by decide +kernel
theorem dX11_sum_153 : decode cX11_sum 153 = .ok (.goto (-81), 3) := by decide +kernel
theorem dX11_sum_156 : decode cX11_sum 156 = .ok (.lload_n 1, 1) := by decide +kernel
theorem dX11_sum_157 : decode cX11_sum 157 = .ok (.lreturn, 1) := by decide +kernel
