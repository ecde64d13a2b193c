abbrev cX2_numberAt : ByteArray := prog_4_method_2_code
def yX2_numberAt : MethodName := ⟨RX2, "numberAt", "(I)J"⟩
theorem dX2_numberAt_0 : decode cX2_numberAt 0 = .ok (.iload_n 1, 1) := by decide +kernel
theorem dX2_numberAt_1 : decode cX2_numberAt 1 = .ok (.ifCond .lt 19, 3) := by decide +kernel
theorem dX2_numberAt_4 : decode cX2_numberAt 4 = .ok (.iload_n 1, 1) := by decide +kernel
theorem dX2_numberAt_5 : decode cX2_numberAt 5 = .ok (.sipush 6096, 3) := by decide +kernel
theorem dX2_numberAt_8 : decode cX2_numberAt 8 = .ok (.if_icmp .ge 12, 3) := by decide +kernel
theorem dX2_numberAt_11 : decode cX2_numberAt 11 = .ok (.aload_n 0, 1) := by decide +kernel
theorem dX2_numberAt_12 : decode cX2_numberAt 12 = .ok (.getfield 9, 3) := by decide +kernel
theorem dX2_numberAt_15 : decode cX2_numberAt 15 = .ok (.iload_n 1, 1) := by decide +kernel
theorem dX2_numberAt_16 : decode cX2_numberAt 16 = .ok (.laload, 1) := by decide +kernel
theorem dX2_numberAt_17 : decode cX2_numberAt 17 = .ok (.goto 4, 3) := by decide +kernel
theorem dX2_numberAt_20 : decode cX2_numberAt 20 = .ok (.lconst 0, 1) := by decide +kernel
theorem dX2_numberAt_21 : decode cX2_numberAt 21 = .ok (.lreturn, 1) := by decide +kernel
abbrev cX2_put : ByteArray := prog_4_method_3_code
def yX2_put : MethodName := ⟨RX2, "put", "(IJ)V"⟩
theorem dX2_put_0 : decode cX2_put 0 = .ok (.iload_n 1, 1) := by decide +kernel
theorem dX2_put_1 : decode cX2_put 1 = .ok (.ifCond .lt 17, 3) := by decide +kernel
theorem dX2_put_4 : decode cX2_put 4 = .ok (.iload_n 1, 1) := by decide +kernel
theorem dX2_put_5 : decode cX2_put 5 = .ok (.sipush 6096, 3) := by decide +kernel
theorem dX2_put_8 : decode cX2_put 8 = .ok (.if_icmp .ge 10, 3) := by decide +kernel
theorem dX2_put_11 : decode cX2_put 11 = .ok (.aload_n 0, 1) := by decide +kernel
theorem dX2_put_12 : decode cX2_put 12 = .ok (.getfield 9, 3) := by decide +kernel
theorem dX2_put_15 : decode cX2_put 15 = .ok (.iload_n 1, 1) := by decide +kernel
theorem dX2_put_16 : decode cX2_put 16 = .ok (.lload_n 2, 1) := by decide +kernel
theorem dX2_put_17 : decode cX2_put 17 = .ok (.lastore, 1) := by decide +kernel
theorem dX2_put_18 : decode cX2_put 18 = .ok (.return_, 1) := by decide +kernel
abbrev cX2_fill : ByteArray := prog_4_method_4_code
def yX2_fill : MethodName := ⟨RX2, "fill", "(IIJ)V"⟩
theorem dX2_fill_0 : decode cX2_fill 0 = .ok (.iconst 0, 1) := by decide +kernel
theorem dX2_fill_1 : decode cX2_fill 1 = .ok (.istore 5, 2) := by decide +kernel
theorem dX2_fill_3 : decode cX2_fill 3 = .ok (.iload 5, 2) := by decide +kernel
theorem dX2_fill_5 : decode cX2_fill 5 = .ok (.iload_n 2, 1) := by decide +kernel
theorem dX2_fill_6 : decode cX2_fill 6 = .ok (.if_icmp .ge 18, 3) := by decide +kernel
theorem dX2_fill_9 : decode cX2_fill 9 = .ok (.aload_n 0, 1) := by decide +kernel
theorem dX2_fill_10 : decode cX2_fill 10 = .ok (.iload_n 1, 1) := by decide +kernel
theorem dX2_fill_11 : decode cX2_fill 11 = .ok (.iload 5, 2) := by decide +kernel
theorem dX2_fill_13 : decode cX2_fill 13 = .ok (.iadd, 1) := by decide +kernel
theorem dX2_fill_14 : decode cX2_fill 14 = .ok (.lload_n 3, 1) := by decide +kernel
theorem dX2_fill_15 : decode cX2_fill 15 = .ok (.invokevirtual 36, 3) := by decide +kernel
theorem dX2_fill_18 : decode cX2_fill 18 = .ok (.iinc 5 1, 3) := by decide +kernel
theorem dX2_fill_21 : decode cX2_fill 21 = .ok (.goto (-18), 3) := by decide +kernel
theorem dX2_fill_24 : decode cX2_fill 24 = .ok (.return_, 1) := by decide +kernel
abbrev cX2_numberOf : ByteArray := prog_4_method_5_code
def yX2_numberOf : MethodName := ⟨RX2, "numberOf", "(LSoftController$Name;I)J"⟩
theorem dX2_numberOf_0 : decode cX2_numberOf 0 = .ok (.aload_n 1, 1) := by decide +kernel
theorem dX2_numberOf_1 : decode cX2_numberOf 1 = .ok (.invokevirtual 40, 3) := by decide +kernel
theorem dX2_numberOf_4 : decode cX2_numberOf 4 = .ok (.ifCond .eq 31, 3) := by decide +kernel
theorem dX2_numberOf_7 : decode cX2_numberOf 7 = .ok (.aload_n 0, 1) := by decide +kernel
theorem dX2_numberOf_8 : decode cX2_numberOf 8 = .ok (.getfield 28, 3) := by decide +kernel
theorem dX2_numberOf_11 : decode cX2_numberOf 11 = .ok (.aload_n 1, 1) := by decide +kernel
theorem dX2_numberOf_12 : decode cX2_numberOf 12 = .ok (.invokevirtual 46, 3) := by decide +kernel
theorem dX2_numberOf_15 : decode cX2_numberOf 15 = .ok (.ifCond .eq 7, 3) := by decide +kernel
theorem dX2_numberOf_18 : decode cX2_numberOf 18 = .ok (.iconst 2, 1) := by decide +kernel
theorem dX2_numberOf_19 : decode cX2_numberOf 19 = .ok (.goto 4, 3) := by decide +kernel
theorem dX2_numberOf_22 : decode cX2_numberOf 22 = .ok (.iconst 3, 1) := by decide +kernel
theorem dX2_numberOf_23 : decode cX2_numberOf 23 = .ok (.aload_n 1, 1) := by decide +kernel
theorem dX2_numberOf_24 : decode cX2_numberOf 24 = .ok (.getfield 49, 3) := by decide +kernel
theorem dX2_numberOf_27 : decode cX2_numberOf 27 = .ok (.aload_n 1, 1) := by decide +kernel
theorem dX2_numberOf_28 : decode cX2_numberOf 28 = .ok (.getfield 53, 3) := by decide +kernel
theorem dX2_numberOf_31 : decode cX2_numberOf 31 = .ok (.invokevirtual 56, 3) := by decide +kernel
theorem dX2_numberOf_34 : decode cX2_numberOf 34 = .ok (.lreturn, 1) := by decide +kernel
theorem dX2_numberOf_35 : decode cX2_numberOf 35 = .ok (.aload_n 0, 1) := by decide +kernel
theorem dX2_numberOf_36 : decode cX2_numberOf 36 = .ok (.aload_n 1, 1) := by decide +kernel
theorem dX2_numberOf_37 : decode cX2_numberOf 37 = .ok (.getfield 49, 3) := by decide +kernel
theorem dX2_numberOf_40 : decode cX2_numberOf 40 = .ok (.iload_n 2, 1) := by decide +kernel
theorem dX2_numberOf_41 : decode cX2_numberOf 41 = .ok (.iadd, 1) := by decide +kernel
theorem dX2_numberOf_42 : decode cX2_numberOf 42 = .ok (.invokevirtual 62, 3) := by decide +kernel
theorem dX2_numberOf_45 : decode cX2_numberOf 45 = .ok (.lreturn, 1) := by decide +kernel
abbrev cX2_change : ByteArray := prog_4_method_6_code
def yX2_change : MethodName := ⟨RX2, "change", "(LSoftController$Name;IJ)V"⟩
theorem dX2_change_0 : decode cX2_change 0 = .ok (.aload_n 1, 1) := by decide +kernel
theorem dX2_change_1 : decode cX2_change 1 = .ok (.invokevirtual 40, 3) := by decide +kernel
theorem dX2_change_4 : decode cX2_change 4 = .ok (.ifCond .eq 22, 3) := by decide +kernel
theorem dX2_change_7 : decode cX2_change 7 = .ok (.aload_n 0, 1) := by decide +kernel
theorem dX2_change_8 : decode cX2_change 8 = .ok (.getfield 28, 3) := by decide +kernel
theorem dX2_change_11 : decode cX2_change 11 = .ok (.aload_n 1, 1) := by decide +kernel
theorem dX2_change_12 : decode cX2_change 12 = .ok (.getfield 49, 3) := by decide +kernel
theorem dX2_change_15 : decode cX2_change 15 = .ok (.aload_n 1, 1) := by decide +kernel
theorem dX2_change_16 : decode cX2_change 16 = .ok (.getfield 53, 3) := by decide +kernel
theorem dX2_change_19 : decode cX2_change 19 = .ok (.lload_n 3, 1) := by decide +kernel
theorem dX2_change_20 : decode cX2_change 20 = .ok (.invokevirtual 66, 3) := by decide +kernel
theorem dX2_change_23 : decode cX2_change 23 = .ok (.goto 21, 3) := by decide +kernel
theorem dX2_change_26 : decode cX2_change 26 = .ok (.aload_n 0, 1) := by decide +kernel
theorem dX2_change_27 : decode cX2_change 27 = .ok (.aload_n 1, 1) := by decide +kernel
theorem dX2_change_28 : decode cX2_change 28 = .ok (.getfield 49, 3) := by decide +kernel
theorem dX2_change_31 : decode cX2_change 31 = .ok (.iload_n 2, 1) := by decide +kernel
theorem dX2_change_32 : decode cX2_change 32 = .ok (.iadd, 1) := by decide +kernel
theorem dX2_change_33 : decode cX2_change 33 = .ok (.aload_n 1, 1) := by decide +kernel
theorem dX2_change_34 : decode cX2_change 34 = .ok (.getfield 53, 3) := by decide +kernel
theorem dX2_change_37 : decode cX2_change 37 = .ok (.lload_n 3, 1) := by decide +kernel
theorem dX2_change_38 : decode cX2_change 38 = .ok (.invokestatic 70, 3) := by decide +kernel
theorem dX2_change_41 : decode cX2_change 41 = .ok (.invokevirtual 36, 3) := by decide +kernel
theorem dX2_change_44 : decode cX2_change 44 = .ok (.return_, 1) := by decide +kernel
abbrev cX2_keep : ByteArray := prog_4_method_8_code
def yX2_keep : MethodName := ⟨RX2, "keep", "(LSoftController$Name;LSoftController$Name;)V"⟩
theorem dX2_keep_0 : decode cX2_keep 0 = .ok (.aload_n 2, 1) := by decide +kernel
theorem dX2_keep_1 : decode cX2_keep 1 = .ok (.getfield 120, 3) := by decide +kernel
theorem dX2_keep_4 : decode cX2_keep 4 = .ok (.ifCond .ne 10, 3) := by decide +kernel
theorem dX2_keep_7 : decode cX2_keep 7 = .ok (.aload_n 2, 1) := by decide +kernel
theorem dX2_keep_8 : decode cX2_keep 8 = .ok (.invokevirtual 40, 3) := by decide +kernel
theorem dX2_keep_11 : decode cX2_keep 11 = .ok (.ifCond .eq 4, 3) := by decide +kernel
theorem dX2_keep_14 : decode cX2_keep 14 = .ok (.return_, 1) := by decide +kernel
theorem dX2_keep_15 : decode cX2_keep 15 = .ok (.iconst 0, 1) := by decide +kernel
theorem dX2_keep_16 : decode cX2_keep 16 = .ok (.istore_n 3, 1) := by decide +kernel
theorem dX2_keep_17 : decode cX2_keep 17 = .ok (.iload_n 3, 1) := by decide +kernel
theorem dX2_keep_18 : decode cX2_keep 18 = .ok (.aload_n 1, 1) := by decide +kernel
theorem dX2_keep_19 : decode cX2_keep 19 = .ok (.getfield 92, 3) := by decide +kernel
theorem dX2_keep_22 : decode cX2_keep 22 = .ok (.if_icmp .ge 57, 3) := by decide +kernel
theorem dX2_keep_25 : decode cX2_keep 25 = .ok (.iload_n 3, 1) := by decide +kernel
theorem dX2_keep_26 : decode cX2_keep 26 = .ok (.aload_n 2, 1) := by decide +kernel
theorem dX2_keep_27 : decode cX2_keep 27 = .ok (.getfield 92, 3) := by decide +kernel
theorem dX2_keep_30 : decode cX2_keep 30 = .ok (.if_icmp .ge 49, 3) := by decide +kernel
theorem dX2_keep_33 : decode cX2_keep 33 = .ok (.aload_n 2, 1) := by decide +kernel
theorem dX2_keep_34 : decode cX2_keep 34 = .ok (.getfield 49, 3) := by decide +kernel
theorem dX2_keep_37 : decode cX2_keep 37 = .ok (.iload_n 3, 1) := by decide +kernel
theorem dX2_keep_38 : decode cX2_keep 38 = .ok (.iadd, 1) := by decide +kernel
theorem dX2_keep_39 : decode cX2_keep 39 = .ok (.sipush 2000, 3) := by decide +kernel
theorem dX2_keep_42 : decode cX2_keep 42 = .ok (.if_icmp .ge 37, 3) := by decide +kernel
theorem dX2_keep_45 : decode cX2_keep 45 = .ok (.aload_n 0, 1) := by decide +kernel
theorem dX2_keep_46 : decode cX2_keep 46 = .ok (.aload_n 1, 1) := by decide +kernel
theorem dX2_keep_47 : decode cX2_keep 47 = .ok (.getfield 49, 3) := by decide +kernel
theorem dX2_keep_50 : decode cX2_keep 50 = .ok (.iload_n 3, 1) := by decide +kernel
theorem dX2_keep_51 : decode cX2_keep 51 = .ok (.iadd, 1) := by decide +kernel
theorem dX2_keep_52 : decode cX2_keep 52 = .ok (.aload_n 1, 1) := by decide +kernel
theorem dX2_keep_53 : decode cX2_keep 53 = .ok (.getfield 53, 3) := by decide +kernel
theorem dX2_keep_56 : decode cX2_keep 56 = .ok (.aload_n 0, 1) := by decide +kernel
theorem dX2_keep_57 : decode cX2_keep 57 = .ok (.getfield 15, 3) := by decide +kernel
theorem dX2_keep_60 : decode cX2_keep 60 = .ok (.aload_n 2, 1) := by decide +kernel
theorem dX2_keep_61 : decode cX2_keep 61 = .ok (.getfield 49, 3) := by decide +kernel
theorem dX2_keep_64 : decode cX2_keep 64 = .ok (.iload_n 3, 1) := by decide +kernel
theorem dX2_keep_65 : decode cX2_keep 65 = .ok (.iadd, 1) := by decide +kernel
theorem dX2_keep_66 : decode cX2_keep 66 = .ok (.laload, 1) := by decide +kernel
theorem dX2_keep_67 : decode cX2_keep 67 = .ok (.invokestatic 70, 3) := by decide +kernel
theorem dX2_keep_70 : decode cX2_keep 70 = .ok (.invokevirtual 36, 3) := by decide +kernel
theorem dX2_keep_73 : decode cX2_keep 73 = .ok (.iinc 3 1, 3) := by decide +kernel
theorem dX2_keep_76 : decode cX2_keep 76 = .ok (.goto (-59), 3) := by decide +kernel
theorem dX2_keep_79 : decode cX2_keep 79 = .ok (.return_, 1) := by decide +kernel
abbrev cX2_resetInstances : ByteArray := prog_4_method_9_code
def yX2_resetInstances : MethodName := ⟨RX2, "resetInstances", "(LSoftController$Program;)V"⟩
theorem dX2_resetInstances_0 : decode cX2_resetInstances 0 = .ok (.iconst 0, 1) := by decide +kernel
theorem dX2_resetInstances_1 : decode cX2_resetInstances 1 = .ok (.istore_n 2, 1) := by decide +kernel
theorem dX2_resetInstances_2 : decode cX2_resetInstances 2 = .ok (.iload_n 2, 1) := by decide +kernel
theorem dX2_resetInstances_3 : decode cX2_resetInstances 3 = .ok (.aload_n 1, 1) := by decide +kernel
theorem dX2_resetInstances_4 : decode cX2_resetInstances 4 = .ok (.iconst 1, 1) := by decide +kernel
theorem dX2_resetInstances_5 : decode cX2_resetInstances 5 = .ok (.invokevirtual 82, 3) := by decide +kernel
theorem dX2_resetInstances_8 : decode cX2_resetInstances 8 = .ok (.if_icmp .ge 79, 3) := by decide +kernel
theorem dX2_resetInstances_11 : decode cX2_resetInstances 11 = .ok (.aload_n 1, 1) := by decide +kernel
theorem dX2_resetInstances_12 : decode cX2_resetInstances 12 = .ok (.iconst 1, 1) := by decide +kernel
theorem dX2_resetInstances_13 : decode cX2_resetInstances 13 = .ok (.iload_n 2, 1) := by decide +kernel
theorem dX2_resetInstances_14 : decode cX2_resetInstances 14 = .ok (.invokevirtual 88, 3) := by decide +kernel
theorem dX2_resetInstances_17 : decode cX2_resetInstances 17 = .ok (.astore_n 3, 1) := by decide +kernel
theorem dX2_resetInstances_18 : decode cX2_resetInstances 18 = .ok (.aload_n 1, 1) := by decide +kernel
theorem dX2_resetInstances_19 : decode cX2_resetInstances 19 = .ok (.aload_n 3, 1) := by decide +kernel
theorem dX2_resetInstances_20 : decode cX2_resetInstances 20 = .ok (.getfield 123, 3) := by decide +kernel
theorem dX2_resetInstances_23 : decode cX2_resetInstances 23 = .ok (.invokevirtual 126, 3) := by decide +kernel
theorem dX2_resetInstances_26 : decode cX2_resetInstances 26 = .ok (.astore 4, 2) := by decide +kernel
theorem dX2_resetInstances_28 : decode cX2_resetInstances 28 = .ok (.iconst 0, 1) := by decide +kernel
theorem dX2_resetInstances_29 : decode cX2_resetInstances 29 = .ok (.istore 5, 2) := by decide +kernel
theorem dX2_resetInstances_31 : decode cX2_resetInstances 31 = .ok (.iload 5, 2) := by decide +kernel
theorem dX2_resetInstances_33 : decode cX2_resetInstances 33 = .ok (.aload 4, 2) := by decide +kernel
theorem dX2_resetInstances_35 : decode cX2_resetInstances 35 = .ok (.getfield 130, 3) := by decide +kernel
theorem dX2_resetInstances_38 : decode cX2_resetInstances 38 = .ok (.if_icmp .ge 43, 3) := by decide +kernel
theorem dX2_resetInstances_41 : decode cX2_resetInstances 41 = .ok (.aload_n 1, 1) := by decide +kernel
theorem dX2_resetInstances_42 : decode cX2_resetInstances 42 = .ok (.aload 4, 2) := by decide +kernel
theorem dX2_resetInstances_44 : decode cX2_resetInstances 44 = .ok (.iload 5, 2) := by decide +kernel
theorem dX2_resetInstances_46 : decode cX2_resetInstances 46 = .ok (.invokevirtual 133, 3) := by decide +kernel
theorem dX2_resetInstances_49 : decode cX2_resetInstances 49 = .ok (.astore 6, 2) := by decide +kernel
theorem dX2_resetInstances_51 : decode cX2_resetInstances 51 = .ok (.aload_n 0, 1) := by decide +kernel
theorem dX2_resetInstances_52 : decode cX2_resetInstances 52 = .ok (.aload_n 3, 1) := by decide +kernel
theorem dX2_resetInstances_53 : decode cX2_resetInstances 53 = .ok (.getfield 49, 3) := by decide +kernel
theorem dX2_resetInstances_56 : decode cX2_resetInstances 56 = .ok (.aload 6, 2) := by decide +kernel
theorem dX2_resetInstances_58 : decode cX2_resetInstances 58 = .ok (.getfield 49, 3) := by decide +kernel
theorem dX2_resetInstances_61 : decode cX2_resetInstances 61 = .ok (.iadd, 1) := by decide +kernel
theorem dX2_resetInstances_62 : decode cX2_resetInstances 62 = .ok (.aload 6, 2) := by decide +kernel
theorem dX2_resetInstances_64 : decode cX2_resetInstances 64 = .ok (.getfield 92, 3) := by decide +kernel
theorem dX2_resetInstances_67 : decode cX2_resetInstances 67 = .ok (.aload 6, 2) := by decide +kernel
theorem dX2_resetInstances_69 : decode cX2_resetInstances 69 = .ok (.getfield 95, 3) := by decide +kernel
theorem dX2_resetInstances_72 : decode cX2_resetInstances 72 = .ok (.invokevirtual 99, 3) := by decide +kernel
theorem dX2_resetInstances_75 : decode cX2_resetInstances 75 = .ok (.iinc 5 1, 3) := by decide +kernel
theorem dX2_resetInstances_78 : decode cX2_resetInstances 78 = .ok (.goto (-47), 3) := by decide +kernel
theorem dX2_resetInstances_81 : decode cX2_resetInstances 81 = .ok (.iinc 2 1, 3) := by decide +kernel
theorem dX2_resetInstances_84 : decode cX2_resetInstances 84 = .ok (.goto (-82), 3) := by decide +kernel
theorem dX2_resetInstances_87 : decode cX2_resetInstances 87 = .ok (.return_, 1) := by decide +kernel
abbrev cX2_install : ByteArray := prog_4_method_7_code
def yX2_install : MethodName := ⟨RX2, "install", "(LSoftController$Program;LSoftController$Program;Z)V"⟩
theorem dX2_install_0 : decode cX2_install 0 = .ok (.aload_n 0, 1) := by decide +kernel
theorem dX2_install_1 : decode cX2_install 1 = .ok (.getfield 9, 3) := by decide +kernel
theorem dX2_install_4 : decode cX2_install 4 = .ok (.iconst 0, 1) := by decide +kernel
theorem dX2_install_5 : decode cX2_install 5 = .ok (.aload_n 0, 1) := by decide +kernel
theorem dX2_install_6 : decode cX2_install 6 = .ok (.getfield 15, 3) := by decide +kernel
theorem dX2_install_9 : decode cX2_install 9 = .ok (.iconst 0, 1) := by decide +kernel
theorem dX2_install_10 : decode cX2_install 10 = .ok (.sipush 2000, 3) := by decide +kernel
theorem dX2_install_13 : decode cX2_install 13 = .ok (.invokestatic 76, 3) := by decide +kernel
theorem dX2_install_16 : decode cX2_install 16 = .ok (.iconst 0, 1) := by decide +kernel
theorem dX2_install_17 : decode cX2_install 17 = .ok (.istore 4, 2) := by decide +kernel
theorem dX2_install_19 : decode cX2_install 19 = .ok (.iload 4, 2) := by decide +kernel
theorem dX2_install_21 : decode cX2_install 21 = .ok (.aload_n 1, 1) := by decide +kernel
theorem dX2_install_22 : decode cX2_install 22 = .ok (.iconst 0, 1) := by decide +kernel
theorem dX2_install_23 : decode cX2_install 23 = .ok (.invokevirtual 82, 3) := by decide +kernel
theorem dX2_install_26 : decode cX2_install 26 = .ok (.if_icmp .ge 69, 3) := by decide +kernel
theorem dX2_install_29 : decode cX2_install 29 = .ok (.aload_n 1, 1) := by decide +kernel
theorem dX2_install_30 : decode cX2_install 30 = .ok (.iconst 0, 1) := by decide +kernel
theorem dX2_install_31 : decode cX2_install 31 = .ok (.iload 4, 2) := by decide +kernel
theorem dX2_install_33 : decode cX2_install 33 = .ok (.invokevirtual 88, 3) := by decide +kernel
theorem dX2_install_36 : decode cX2_install 36 = .ok (.astore 5, 2) := by decide +kernel
theorem dX2_install_38 : decode cX2_install 38 = .ok (.aload 5, 2) := by decide +kernel
theorem dX2_install_40 : decode cX2_install 40 = .ok (.invokevirtual 40, 3) := by decide +kernel
theorem dX2_install_43 : decode cX2_install 43 = .ok (.ifCond .ne 46, 3) := by decide +kernel
theorem dX2_install_46 : decode cX2_install 46 = .ok (.aload_n 0, 1) := by decide +kernel
theorem dX2_install_47 : decode cX2_install 47 = .ok (.aload 5, 2) := by decide +kernel
theorem dX2_install_49 : decode cX2_install 49 = .ok (.getfield 49, 3) := by decide +kernel
theorem dX2_install_52 : decode cX2_install 52 = .ok (.aload 5, 2) := by decide +kernel
theorem dX2_install_54 : decode cX2_install 54 = .ok (.getfield 92, 3) := by decide +kernel
theorem dX2_install_57 : decode cX2_install 57 = .ok (.aload 5, 2) := by decide +kernel
theorem dX2_install_59 : decode cX2_install 59 = .ok (.getfield 95, 3) := by decide +kernel
theorem dX2_install_62 : decode cX2_install 62 = .ok (.invokevirtual 99, 3) := by decide +kernel
theorem dX2_install_65 : decode cX2_install 65 = .ok (.iload_n 3, 1) := by decide +kernel
theorem dX2_install_66 : decode cX2_install 66 = .ok (.ifCond .eq 23, 3) := by decide +kernel
theorem dX2_install_69 : decode cX2_install 69 = .ok (.aload_n 0, 1) := by decide +kernel
theorem dX2_install_70 : decode cX2_install 70 = .ok (.aload 5, 2) := by decide +kernel
theorem dX2_install_72 : decode cX2_install 72 = .ok (.aload_n 2, 1) := by decide +kernel
theorem dX2_install_73 : decode cX2_install 73 = .ok (.aload 5, 2) := by decide +kernel
theorem dX2_install_75 : decode cX2_install 75 = .ok (.getfield 102, 3) := by decide +kernel
theorem dX2_install_78 : decode cX2_install 78 = .ok (.aload 5, 2) := by decide +kernel
theorem dX2_install_80 : decode cX2_install 80 = .ok (.getfield 105, 3) := by decide +kernel
theorem dX2_install_83 : decode cX2_install 83 = .ok (.invokevirtual 108, 3) := by decide +kernel
theorem dX2_install_86 : decode cX2_install 86 = .ok (.invokevirtual 112, 3) := by decide +kernel
theorem dX2_install_89 : decode cX2_install 89 = .ok (.iinc 4 1, 3) := by decide +kernel
theorem dX2_install_92 : decode cX2_install 92 = .ok (.goto (-73), 3) := by decide +kernel
theorem dX2_install_95 : decode cX2_install 95 = .ok (.aload_n 0, 1) := by decide +kernel
theorem dX2_install_96 : decode cX2_install 96 = .ok (.aload_n 1, 1) := by decide +kernel
theorem dX2_install_97 : decode cX2_install 97 = .ok (.invokevirtual 116, 3) := by decide +kernel
theorem dX2_install_100 : decode cX2_install 100 = .ok (.return_, 1) := by decide +kernel
abbrev cX2_stop : ByteArray := prog_4_method_12_code
def yX2_stop : MethodName := ⟨RX2, "stop", "(II)V"⟩
theorem dX2_stop_0 : decode cX2_stop 0 = .ok (.aload_n 0, 1) := by decide +kernel
theorem dX2_stop_1 : decode cX2_stop 1 = .ok (.iload_n 1, 1) := by decide +kernel
theorem dX2_stop_2 : decode cX2_stop 2 = .ok (.putfield 158, 3) := by decide +kernel
theorem dX2_stop_5 : decode cX2_stop 5 = .ok (.aload_n 0, 1) := by decide +kernel
theorem dX2_stop_6 : decode cX2_stop 6 = .ok (.iload_n 2, 1) := by decide +kernel
theorem dX2_stop_7 : decode cX2_stop 7 = .ok (.putfield 161, 3) := by decide +kernel
theorem dX2_stop_10 : decode cX2_stop 10 = .ok (.aload_n 0, 1) := by decide +kernel
theorem dX2_stop_11 : decode cX2_stop 11 = .ok (.iconst 0, 1) := by decide +kernel
theorem dX2_stop_12 : decode cX2_stop 12 = .ok (.putfield 167, 3) := by decide +kernel
theorem dX2_stop_15 : decode cX2_stop 15 = .ok (.return_, 1) := by decide +kernel
abbrev cX2_push : ByteArray := prog_4_method_13_code
def yX2_push : MethodName := ⟨RX2, "push", "(J)V"⟩
theorem dX2_push_0 : decode cX2_push 0 = .ok (.aload_n 0, 1) := by decide +kernel
theorem dX2_push_1 : decode cX2_push 1 = .ok (.aload_n 0, 1) := by decide +kernel
theorem dX2_push_2 : decode cX2_push 2 = .ok (.getfield 146, 3) := by decide +kernel
theorem dX2_push_5 : decode cX2_push 5 = .ok (.lload_n 1, 1) := by decide +kernel
theorem dX2_push_6 : decode cX2_push 6 = .ok (.invokevirtual 36, 3) := by decide +kernel
theorem dX2_push_9 : decode cX2_push 9 = .ok (.aload_n 0, 1) := by decide +kernel
theorem dX2_push_10 : decode cX2_push 10 = .ok (.dup, 1) := by decide +kernel
theorem dX2_push_11 : decode cX2_push 11 = .ok (.getfield 146, 3) := by decide +kernel
theorem dX2_push_14 : decode cX2_push 14 = .ok (.iconst 1, 1) := by decide +kernel
theorem dX2_push_15 : decode cX2_push 15 = .ok (.iadd, 1) := by decide +kernel
theorem dX2_push_16 : decode cX2_push 16 = .ok (.putfield 146, 3) := by decide +kernel
theorem dX2_push_19 : decode cX2_push 19 = .ok (.return_, 1) := by decide +kernel
abbrev cX2_pop : ByteArray := prog_4_method_14_code
def yX2_pop : MethodName := ⟨RX2, "pop", "()J"⟩
theorem dX2_pop_0 : decode cX2_pop 0 = .ok (.aload_n 0, 1) := by decide +kernel
theorem dX2_pop_1 : decode cX2_pop 1 = .ok (.dup, 1) := by decide +kernel
theorem dX2_pop_2 : decode cX2_pop 2 = .ok (.getfield 146, 3) := by decide +kernel
theorem dX2_pop_5 : decode cX2_pop 5 = .ok (.iconst 1, 1) := by decide +kernel
theorem dX2_pop_6 : decode cX2_pop 6 = .ok (.isub, 1) := by decide +kernel
theorem dX2_pop_7 : decode cX2_pop 7 = .ok (.putfield 146, 3) := by decide +kernel
theorem dX2_pop_10 : decode cX2_pop 10 = .ok (.aload_n 0, 1) := by decide +kernel
theorem dX2_pop_11 : decode cX2_pop 11 = .ok (.aload_n 0, 1) := by decide +kernel
theorem dX2_pop_12 : decode cX2_pop 12 = .ok (.getfield 146, 3) := by decide +kernel
theorem dX2_pop_15 : decode cX2_pop 15 = .ok (.invokevirtual 62, 3) := by decide +kernel
theorem dX2_pop_18 : decode cX2_pop 18 = .ok (.lreturn, 1) := by decide +kernel
abbrev cX2_address : ByteArray := prog_4_method_16_code
def yX2_address : MethodName := ⟨RX2, "address", "(III)V"⟩
theorem dX2_address_0 : decode cX2_address 0 = .ok (.aload_n 0, 1) := by decide +kernel
theorem dX2_address_1 : decode cX2_address 1 = .ok (.invokevirtual 214, 3) := by decide +kernel
theorem dX2_address_4 : decode cX2_address 4 = .ok (.lstore 4, 2) := by decide +kernel
theorem dX2_address_6 : decode cX2_address 6 = .ok (.lload 4, 2) := by decide +kernel
theorem dX2_address_8 : decode cX2_address 8 = .ok (.lconst 0, 1) := by decide +kernel
theorem dX2_address_9 : decode cX2_address 9 = .ok (.lcmp, 1) := by decide +kernel
theorem dX2_address_10 : decode cX2_address 10 = .ok (.ifCond .lt 11, 3) := by decide +kernel
theorem dX2_address_13 : decode cX2_address 13 = .ok (.lload 4, 2) := by decide +kernel
theorem dX2_address_15 : decode cX2_address 15 = .ok (.iload_n 2, 1) := by decide +kernel
theorem dX2_address_16 : decode cX2_address 16 = .ok (.i2l, 1) := by decide +kernel
theorem dX2_address_17 : decode cX2_address 17 = .ok (.lcmp, 1) := by decide +kernel
theorem dX2_address_18 : decode cX2_address 18 = .ok (.ifCond .lt 12, 3) := by decide +kernel
theorem dX2_address_21 : decode cX2_address 21 = .ok (.aload_n 0, 1) := by decide +kernel
theorem dX2_address_22 : decode cX2_address 22 = .ok (.iconst 2, 1) := by decide +kernel
theorem dX2_address_23 : decode cX2_address 23 = .ok (.iload_n 3, 1) := by decide +kernel
theorem dX2_address_24 : decode cX2_address 24 = .ok (.invokevirtual 190, 3) := by decide +kernel
theorem dX2_address_27 : decode cX2_address 27 = .ok (.goto 12, 3) := by decide +kernel
theorem dX2_address_30 : decode cX2_address 30 = .ok (.aload_n 0, 1) := by decide +kernel
theorem dX2_address_31 : decode cX2_address 31 = .ok (.iload_n 1, 1) := by decide +kernel
theorem dX2_address_32 : decode cX2_address 32 = .ok (.i2l, 1) := by decide +kernel
theorem dX2_address_33 : decode cX2_address 33 = .ok (.lload 4, 2) := by decide +kernel
theorem dX2_address_35 : decode cX2_address 35 = .ok (.ladd, 1) := by decide +kernel
theorem dX2_address_36 : decode cX2_address 36 = .ok (.invokevirtual 210, 3) := by decide +kernel
theorem dX2_address_39 : decode cX2_address 39 = .ok (.return_, 1) := by decide +kernel
abbrev cX2_assign : ByteArray := prog_4_method_17_code
def yX2_assign : MethodName := ⟨RX2, "assign", "(I)V"⟩
theorem dX2_assign_0 : decode cX2_assign 0 = .ok (.aload_n 0, 1) := by decide +kernel
theorem dX2_assign_1 : decode cX2_assign 1 = .ok (.invokevirtual 214, 3) := by decide +kernel
theorem dX2_assign_4 : decode cX2_assign 4 = .ok (.lstore_n 2, 1) := by decide +kernel
theorem dX2_assign_5 : decode cX2_assign 5 = .ok (.aload_n 0, 1) := by decide +kernel
theorem dX2_assign_6 : decode cX2_assign 6 = .ok (.aload_n 0, 1) := by decide +kernel
theorem dX2_assign_7 : decode cX2_assign 7 = .ok (.invokevirtual 214, 3) := by decide +kernel
theorem dX2_assign_10 : decode cX2_assign 10 = .ok (.l2i, 1) := by decide +kernel
theorem dX2_assign_11 : decode cX2_assign 11 = .ok (.iload_n 1, 1) := by decide +kernel
theorem dX2_assign_12 : decode cX2_assign 12 = .ok (.lload_n 2, 1) := by decide +kernel
theorem dX2_assign_13 : decode cX2_assign 13 = .ok (.invokestatic 70, 3) := by decide +kernel
theorem dX2_assign_16 : decode cX2_assign 16 = .ok (.invokevirtual 36, 3) := by decide +kernel
theorem dX2_assign_19 : decode cX2_assign 19 = .ok (.return_, 1) := by decide +kernel
abbrev cX2_move : ByteArray := prog_4_method_15_code
def yX2_move : MethodName := ⟨RX2, "move", "(IIII)V"⟩
theorem dX2_move_0 : decode cX2_move 0 = .ok (.iload_n 1, 1) := by decide +kernel
theorem dX2_move_1 : decode cX2_move 1 = .ok (.tableswitch 329 1 16 #[79, 98, 110, 122, 139, 156, 173, 189, 210, 226, 237, 253, 269, 291, 313, 321], 79) := by decide +kernel
theorem dX2_move_80 : decode cX2_move 80 = .ok (.aload_n 0, 1) := by decide +kernel
theorem dX2_move_81 : decode cX2_move 81 = .ok (.iload_n 2, 1) := by decide +kernel
theorem dX2_move_82 : decode cX2_move 82 = .ok (.i2l, 1) := by decide +kernel
theorem dX2_move_83 : decode cX2_move 83 = .ok (.bipush 32, 2) := by decide +kernel
theorem dX2_move_85 : decode cX2_move 85 = .ok (.lshl, 1) := by decide +kernel
theorem dX2_move_86 : decode cX2_move 86 = .ok (.iload_n 3, 1) := by decide +kernel
theorem dX2_move_87 : decode cX2_move 87 = .ok (.i2l, 1) := by decide +kernel
theorem dX2_move_88 : decode cX2_move 88 = .ok (.ldc2_w 208, 3) := by decide +kernel
theorem dX2_move_91 : decode cX2_move 91 = .ok (.land, 1) := by decide +kernel
theorem dX2_move_92 : decode cX2_move 92 = .ok (.lor, 1) := by decide +kernel
theorem dX2_move_93 : decode cX2_move 93 = .ok (.invokevirtual 210, 3) := by decide +kernel
theorem dX2_move_96 : decode cX2_move 96 = .ok (.goto 234, 3) := by decide +kernel
theorem dX2_move_99 : decode cX2_move 99 = .ok (.aload_n 0, 1) := by decide +kernel
theorem dX2_move_100 : decode cX2_move 100 = .ok (.aload_n 0, 1) := by decide +kernel
theorem dX2_move_101 : decode cX2_move 101 = .ok (.getfield 143, 3) := by decide +kernel
theorem dX2_move_104 : decode cX2_move 104 = .ok (.i2l, 1) := by decide +kernel
theorem dX2_move_105 : decode cX2_move 105 = .ok (.invokevirtual 210, 3) := by decide +kernel
theorem dX2_move_108 : decode cX2_move 108 = .ok (.goto 222, 3) := by decide +kernel
theorem dX2_move_111 : decode cX2_move 111 = .ok (.aload_n 0, 1) := by decide +kernel
theorem dX2_move_112 : decode cX2_move 112 = .ok (.aload_n 0, 1) := by decide +kernel
theorem dX2_move_113 : decode cX2_move 113 = .ok (.iload_n 2, 1) := by decide +kernel
theorem dX2_move_114 : decode cX2_move 114 = .ok (.invokevirtual 62, 3) := by decide +kernel
theorem dX2_move_117 : decode cX2_move 117 = .ok (.invokevirtual 210, 3) := by decide +kernel
theorem dX2_move_120 : decode cX2_move 120 = .ok (.goto 210, 3) := by decide +kernel
theorem dX2_move_123 : decode cX2_move 123 = .ok (.aload_n 0, 1) := by decide +kernel
theorem dX2_move_124 : decode cX2_move 124 = .ok (.aload_n 0, 1) := by decide +kernel
theorem dX2_move_125 : decode cX2_move 125 = .ok (.aload_n 0, 1) := by decide +kernel
theorem dX2_move_126 : decode cX2_move 126 = .ok (.getfield 149, 3) := by decide +kernel
theorem dX2_move_129 : decode cX2_move 129 = .ok (.iload_n 2, 1) := by decide +kernel
theorem dX2_move_130 : decode cX2_move 130 = .ok (.iadd, 1) := by decide +kernel
theorem dX2_move_131 : decode cX2_move 131 = .ok (.invokevirtual 62, 3) := by decide +kernel
theorem dX2_move_134 : decode cX2_move 134 = .ok (.invokevirtual 210, 3) := by decide +kernel
theorem dX2_move_137 : decode cX2_move 137 = .ok (.goto 193, 3) := by decide +kernel
theorem dX2_move_140 : decode cX2_move 140 = .ok (.aload_n 0, 1) := by decide +kernel
theorem dX2_move_141 : decode cX2_move 141 = .ok (.aload_n 0, 1) := by decide +kernel
theorem dX2_move_142 : decode cX2_move 142 = .ok (.getfield 28, 3) := by decide +kernel
theorem dX2_move_145 : decode cX2_move 145 = .ok (.iconst 2, 1) := by decide +kernel
theorem dX2_move_146 : decode cX2_move 146 = .ok (.iload_n 2, 1) := by decide +kernel
theorem dX2_move_147 : decode cX2_move 147 = .ok (.iload_n 3, 1) := by decide +kernel
theorem dX2_move_148 : decode cX2_move 148 = .ok (.invokevirtual 56, 3) := by decide +kernel
theorem dX2_move_151 : decode cX2_move 151 = .ok (.invokevirtual 210, 3) := by decide +kernel
theorem dX2_move_154 : decode cX2_move 154 = .ok (.goto 176, 3) := by decide +kernel
theorem dX2_move_157 : decode cX2_move 157 = .ok (.aload_n 0, 1) := by decide +kernel
theorem dX2_move_158 : decode cX2_move 158 = .ok (.aload_n 0, 1) := by decide +kernel
theorem dX2_move_159 : decode cX2_move 159 = .ok (.getfield 28, 3) := by decide +kernel
theorem dX2_move_162 : decode cX2_move 162 = .ok (.iconst 3, 1) := by decide +kernel
theorem dX2_move_163 : decode cX2_move 163 = .ok (.iload_n 2, 1) := by decide +kernel
theorem dX2_move_164 : decode cX2_move 164 = .ok (.iload_n 3, 1) := by decide +kernel
theorem dX2_move_165 : decode cX2_move 165 = .ok (.invokevirtual 56, 3) := by decide +kernel
theorem dX2_move_168 : decode cX2_move 168 = .ok (.invokevirtual 210, 3) := by decide +kernel
theorem dX2_move_171 : decode cX2_move 171 = .ok (.goto 159, 3) := by decide +kernel
theorem dX2_move_174 : decode cX2_move 174 = .ok (.aload_n 0, 1) := by decide +kernel
theorem dX2_move_175 : decode cX2_move 175 = .ok (.iload_n 2, 1) := by decide +kernel
theorem dX2_move_176 : decode cX2_move 176 = .ok (.iload_n 3, 1) := by decide +kernel
theorem dX2_move_177 : decode cX2_move 177 = .ok (.aload_n 0, 1) := by decide +kernel
theorem dX2_move_178 : decode cX2_move 178 = .ok (.invokevirtual 214, 3) := by decide +kernel
theorem dX2_move_181 : decode cX2_move 181 = .ok (.invokestatic 70, 3) := by decide +kernel
theorem dX2_move_184 : decode cX2_move 184 = .ok (.invokevirtual 36, 3) := by decide +kernel
theorem dX2_move_187 : decode cX2_move 187 = .ok (.goto 143, 3) := by decide +kernel
theorem dX2_move_190 : decode cX2_move 190 = .ok (.aload_n 0, 1) := by decide +kernel
theorem dX2_move_191 : decode cX2_move 191 = .ok (.aload_n 0, 1) := by decide +kernel
theorem dX2_move_192 : decode cX2_move 192 = .ok (.getfield 149, 3) := by decide +kernel
theorem dX2_move_195 : decode cX2_move 195 = .ok (.iload_n 2, 1) := by decide +kernel
theorem dX2_move_196 : decode cX2_move 196 = .ok (.iadd, 1) := by decide +kernel
theorem dX2_move_197 : decode cX2_move 197 = .ok (.iload_n 3, 1) := by decide +kernel
theorem dX2_move_198 : decode cX2_move 198 = .ok (.aload_n 0, 1) := by decide +kernel
theorem dX2_move_199 : decode cX2_move 199 = .ok (.invokevirtual 214, 3) := by decide +kernel
theorem dX2_move_202 : decode cX2_move 202 = .ok (.invokestatic 70, 3) := by decide +kernel
theorem dX2_move_205 : decode cX2_move 205 = .ok (.invokevirtual 36, 3) := by decide +kernel
theorem dX2_move_208 : decode cX2_move 208 = .ok (.goto 122, 3) := by decide +kernel
theorem dX2_move_211 : decode cX2_move 211 = .ok (.aload_n 0, 1) := by decide +kernel
theorem dX2_move_212 : decode cX2_move 212 = .ok (.getfield 28, 3) := by decide +kernel
theorem dX2_move_215 : decode cX2_move 215 = .ok (.iload_n 2, 1) := by decide +kernel
theorem dX2_move_216 : decode cX2_move 216 = .ok (.iload_n 3, 1) := by decide +kernel
theorem dX2_move_217 : decode cX2_move 217 = .ok (.aload_n 0, 1) := by decide +kernel
theorem dX2_move_218 : decode cX2_move 218 = .ok (.invokevirtual 214, 3) := by decide +kernel
theorem dX2_move_221 : decode cX2_move 221 = .ok (.invokevirtual 66, 3) := by decide +kernel
theorem dX2_move_224 : decode cX2_move 224 = .ok (.goto 106, 3) := by decide +kernel
theorem dX2_move_227 : decode cX2_move 227 = .ok (.aload_n 0, 1) := by decide +kernel
theorem dX2_move_228 : decode cX2_move 228 = .ok (.iload_n 2, 1) := by decide +kernel
theorem dX2_move_229 : decode cX2_move 229 = .ok (.iload_n 3, 1) := by decide +kernel
theorem dX2_move_230 : decode cX2_move 230 = .ok (.iload 4, 2) := by decide +kernel
theorem dX2_move_232 : decode cX2_move 232 = .ok (.invokevirtual 218, 3) := by decide +kernel
theorem dX2_move_235 : decode cX2_move 235 = .ok (.goto 95, 3) := by decide +kernel
theorem dX2_move_238 : decode cX2_move 238 = .ok (.aload_n 0, 1) := by decide +kernel
theorem dX2_move_239 : decode cX2_move 239 = .ok (.aload_n 0, 1) := by decide +kernel
theorem dX2_move_240 : decode cX2_move 240 = .ok (.getfield 149, 3) := by decide +kernel
theorem dX2_move_243 : decode cX2_move 243 = .ok (.iload_n 2, 1) := by decide +kernel
theorem dX2_move_244 : decode cX2_move 244 = .ok (.iadd, 1) := by decide +kernel
theorem dX2_move_245 : decode cX2_move 245 = .ok (.iload_n 3, 1) := by decide +kernel
theorem dX2_move_246 : decode cX2_move 246 = .ok (.iload 4, 2) := by decide +kernel
theorem dX2_move_248 : decode cX2_move 248 = .ok (.invokevirtual 218, 3) := by decide +kernel
theorem dX2_move_251 : decode cX2_move 251 = .ok (.goto 79, 3) := by decide +kernel
theorem dX2_move_254 : decode cX2_move 254 = .ok (.aload_n 0, 1) := by decide +kernel
theorem dX2_move_255 : decode cX2_move 255 = .ok (.aload_n 0, 1) := by decide +kernel
theorem dX2_move_256 : decode cX2_move 256 = .ok (.aload_n 0, 1) := by decide +kernel
theorem dX2_move_257 : decode cX2_move 257 = .ok (.invokevirtual 214, 3) := by decide +kernel
theorem dX2_move_260 : decode cX2_move 260 = .ok (.l2i, 1) := by decide +kernel
theorem dX2_move_261 : decode cX2_move 261 = .ok (.invokevirtual 62, 3) := by decide +kernel
theorem dX2_move_264 : decode cX2_move 264 = .ok (.invokevirtual 210, 3) := by decide +kernel
theorem dX2_move_267 : decode cX2_move 267 = .ok (.goto 63, 3) := by decide +kernel
theorem dX2_move_270 : decode cX2_move 270 = .ok (.aload_n 0, 1) := by decide +kernel
theorem dX2_move_271 : decode cX2_move 271 = .ok (.aload_n 0, 1) := by decide +kernel
theorem dX2_move_272 : decode cX2_move 272 = .ok (.aload_n 0, 1) := by decide +kernel
theorem dX2_move_273 : decode cX2_move 273 = .ok (.aload_n 0, 1) := by decide +kernel
theorem dX2_move_274 : decode cX2_move 274 = .ok (.getfield 146, 3) := by decide +kernel
theorem dX2_move_277 : decode cX2_move 277 = .ok (.iconst 1, 1) := by decide +kernel
theorem dX2_move_278 : decode cX2_move 278 = .ok (.isub, 1) := by decide +kernel
theorem dX2_move_279 : decode cX2_move 279 = .ok (.invokevirtual 62, 3) := by decide +kernel
theorem dX2_move_282 : decode cX2_move 282 = .ok (.l2i, 1) := by decide +kernel
theorem dX2_move_283 : decode cX2_move 283 = .ok (.invokevirtual 62, 3) := by decide +kernel
theorem dX2_move_286 : decode cX2_move 286 = .ok (.invokevirtual 210, 3) := by decide +kernel
theorem dX2_move_289 : decode cX2_move 289 = .ok (.goto 41, 3) := by decide +kernel
theorem dX2_move_292 : decode cX2_move 292 = .ok (.aload_n 0, 1) := by decide +kernel
theorem dX2_move_293 : decode cX2_move 293 = .ok (.aload_n 0, 1) := by decide +kernel
theorem dX2_move_294 : decode cX2_move 294 = .ok (.aload_n 0, 1) := by decide +kernel
theorem dX2_move_295 : decode cX2_move 295 = .ok (.aload_n 0, 1) := by decide +kernel
theorem dX2_move_296 : decode cX2_move 296 = .ok (.getfield 146, 3) := by decide +kernel
theorem dX2_move_299 : decode cX2_move 299 = .ok (.iconst 2, 1) := by decide +kernel
theorem dX2_move_300 : decode cX2_move 300 = .ok (.isub, 1) := by decide +kernel
theorem dX2_move_301 : decode cX2_move 301 = .ok (.invokevirtual 62, 3) := by decide +kernel
theorem dX2_move_304 : decode cX2_move 304 = .ok (.l2i, 1) := by decide +kernel
theorem dX2_move_305 : decode cX2_move 305 = .ok (.invokevirtual 62, 3) := by decide +kernel
theorem dX2_move_308 : decode cX2_move 308 = .ok (.invokevirtual 210, 3) := by decide +kernel
theorem dX2_move_311 : decode cX2_move 311 = .ok (.goto 19, 3) := by decide +kernel
theorem dX2_move_314 : decode cX2_move 314 = .ok (.aload_n 0, 1) := by decide +kernel
theorem dX2_move_315 : decode cX2_move 315 = .ok (.iload_n 3, 1) := by decide +kernel
theorem dX2_move_316 : decode cX2_move 316 = .ok (.invokevirtual 221, 3) := by decide +kernel
theorem dX2_move_319 : decode cX2_move 319 = .ok (.goto 11, 3) := by decide +kernel
theorem dX2_move_322 : decode cX2_move 322 = .ok (.aload_n 0, 1) := by decide +kernel
theorem dX2_move_323 : decode cX2_move 323 = .ok (.invokevirtual 214, 3) := by decide +kernel
theorem dX2_move_326 : decode cX2_move 326 = .ok (.pop2, 1) := by decide +kernel
theorem dX2_move_327 : decode cX2_move 327 = .ok (.goto 3, 3) := by decide +kernel
theorem dX2_move_330 : decode cX2_move 330 = .ok (.return_, 1) := by decide +kernel
abbrev cX2_reckon : ByteArray := prog_4_method_18_code
def yX2_reckon : MethodName := ⟨RX2, "reckon", "(IIII)V"⟩
theorem dX2_reckon_0 : decode cX2_reckon 0 = .ok (.aload_n 0, 1) := by decide +kernel
theorem dX2_reckon_1 : decode cX2_reckon 1 = .ok (.invokevirtual 214, 3) := by decide +kernel
theorem dX2_reckon_4 : decode cX2_reckon 4 = .ok (.lstore 5, 2) := by decide +kernel
theorem dX2_reckon_6 : decode cX2_reckon 6 = .ok (.iload_n 1, 1) := by decide +kernel
theorem dX2_reckon_7 : decode cX2_reckon 7 = .ok (.tableswitch 161 20 26 #[41, 54, 161, 80, 106, 129, 142], 41) := by decide +kernel
theorem dX2_reckon_48 : decode cX2_reckon 48 = .ok (.aload_n 0, 1) := by decide +kernel
theorem dX2_reckon_49 : decode cX2_reckon 49 = .ok (.lload 5, 2) := by decide +kernel
theorem dX2_reckon_51 : decode cX2_reckon 51 = .ok (.iload_n 2, 1) := by decide +kernel
theorem dX2_reckon_52 : decode cX2_reckon 52 = .ok (.lushr, 1) := by decide +kernel
theorem dX2_reckon_53 : decode cX2_reckon 53 = .ok (.lconst 1, 1) := by decide +kernel
theorem dX2_reckon_54 : decode cX2_reckon 54 = .ok (.land, 1) := by decide +kernel
theorem dX2_reckon_55 : decode cX2_reckon 55 = .ok (.invokevirtual 210, 3) := by decide +kernel
theorem dX2_reckon_58 : decode cX2_reckon 58 = .ok (.goto 157, 3) := by decide +kernel
theorem dX2_reckon_61 : decode cX2_reckon 61 = .ok (.aload_n 0, 1) := by decide +kernel
theorem dX2_reckon_62 : decode cX2_reckon 62 = .ok (.lload 5, 2) := by decide +kernel
theorem dX2_reckon_64 : decode cX2_reckon 64 = .ok (.lconst 1, 1) := by decide +kernel
theorem dX2_reckon_65 : decode cX2_reckon 65 = .ok (.iload_n 2, 1) := by decide +kernel
theorem dX2_reckon_66 : decode cX2_reckon 66 = .ok (.lshl, 1) := by decide +kernel
theorem dX2_reckon_67 : decode cX2_reckon 67 = .ok (.ldc2_w 225, 3) := by decide +kernel
theorem dX2_reckon_70 : decode cX2_reckon 70 = .ok (.lxor, 1) := by decide +kernel
theorem dX2_reckon_71 : decode cX2_reckon 71 = .ok (.land, 1) := by decide +kernel
theorem dX2_reckon_72 : decode cX2_reckon 72 = .ok (.aload_n 0, 1) := by decide +kernel
theorem dX2_reckon_73 : decode cX2_reckon 73 = .ok (.invokevirtual 214, 3) := by decide +kernel
theorem dX2_reckon_76 : decode cX2_reckon 76 = .ok (.lconst 1, 1) := by decide +kernel
theorem dX2_reckon_77 : decode cX2_reckon 77 = .ok (.land, 1) := by decide +kernel
theorem dX2_reckon_78 : decode cX2_reckon 78 = .ok (.iload_n 2, 1) := by decide +kernel
theorem dX2_reckon_79 : decode cX2_reckon 79 = .ok (.lshl, 1) := by decide +kernel
theorem dX2_reckon_80 : decode cX2_reckon 80 = .ok (.lor, 1) := by decide +kernel
theorem dX2_reckon_81 : decode cX2_reckon 81 = .ok (.invokevirtual 210, 3) := by decide +kernel
theorem dX2_reckon_84 : decode cX2_reckon 84 = .ok (.goto 131, 3) := by decide +kernel
theorem dX2_reckon_87 : decode cX2_reckon 87 = .ok (.aload_n 0, 1) := by decide +kernel
theorem dX2_reckon_88 : decode cX2_reckon 88 = .ok (.iload_n 2, 1) := by decide +kernel
theorem dX2_reckon_89 : decode cX2_reckon 89 = .ok (.iload_n 3, 1) := by decide +kernel
theorem dX2_reckon_90 : decode cX2_reckon 90 = .ok (.ifCond .eq 7, 3) := by decide +kernel
theorem dX2_reckon_93 : decode cX2_reckon 93 = .ok (.iconst 1, 1) := by decide +kernel
theorem dX2_reckon_94 : decode cX2_reckon 94 = .ok (.goto 4, 3) := by decide +kernel
theorem dX2_reckon_97 : decode cX2_reckon 97 = .ok (.iconst 0, 1) := by decide +kernel
theorem dX2_reckon_98 : decode cX2_reckon 98 = .ok (.aload_n 0, 1) := by decide +kernel
theorem dX2_reckon_99 : decode cX2_reckon 99 = .ok (.invokevirtual 214, 3) := by decide +kernel
theorem dX2_reckon_102 : decode cX2_reckon 102 = .ok (.lload 5, 2) := by decide +kernel
theorem dX2_reckon_104 : decode cX2_reckon 104 = .ok (.invokestatic 227, 3) := by decide +kernel
theorem dX2_reckon_107 : decode cX2_reckon 107 = .ok (.invokevirtual 210, 3) := by decide +kernel
theorem dX2_reckon_110 : decode cX2_reckon 110 = .ok (.goto 105, 3) := by decide +kernel
theorem dX2_reckon_113 : decode cX2_reckon 113 = .ok (.aload_n 0, 1) := by decide +kernel
theorem dX2_reckon_114 : decode cX2_reckon 114 = .ok (.iload_n 2, 1) := by decide +kernel
theorem dX2_reckon_115 : decode cX2_reckon 115 = .ok (.iload_n 3, 1) := by decide +kernel
theorem dX2_reckon_116 : decode cX2_reckon 116 = .ok (.ifCond .eq 7, 3) := by decide +kernel
theorem dX2_reckon_119 : decode cX2_reckon 119 = .ok (.iconst 1, 1) := by decide +kernel
theorem dX2_reckon_120 : decode cX2_reckon 120 = .ok (.goto 4, 3) := by decide +kernel
theorem dX2_reckon_123 : decode cX2_reckon 123 = .ok (.iconst 0, 1) := by decide +kernel
theorem dX2_reckon_124 : decode cX2_reckon 124 = .ok (.lload 5, 2) := by decide +kernel
theorem dX2_reckon_126 : decode cX2_reckon 126 = .ok (.lconst 0, 1) := by decide +kernel
theorem dX2_reckon_127 : decode cX2_reckon 127 = .ok (.invokestatic 227, 3) := by decide +kernel
theorem dX2_reckon_130 : decode cX2_reckon 130 = .ok (.invokevirtual 210, 3) := by decide +kernel
theorem dX2_reckon_133 : decode cX2_reckon 133 = .ok (.goto 82, 3) := by decide +kernel
theorem dX2_reckon_136 : decode cX2_reckon 136 = .ok (.aload_n 0, 1) := by decide +kernel
theorem dX2_reckon_137 : decode cX2_reckon 137 = .ok (.iload_n 2, 1) := by decide +kernel
theorem dX2_reckon_138 : decode cX2_reckon 138 = .ok (.lload 5, 2) := by decide +kernel
theorem dX2_reckon_140 : decode cX2_reckon 140 = .ok (.invokestatic 70, 3) := by decide +kernel
theorem dX2_reckon_143 : decode cX2_reckon 143 = .ok (.invokevirtual 210, 3) := by decide +kernel
theorem dX2_reckon_146 : decode cX2_reckon 146 = .ok (.goto 69, 3) := by decide +kernel
theorem dX2_reckon_149 : decode cX2_reckon 149 = .ok (.aload_n 0, 1) := by decide +kernel
theorem dX2_reckon_150 : decode cX2_reckon 150 = .ok (.lload 5, 2) := by decide +kernel
theorem dX2_reckon_152 : decode cX2_reckon 152 = .ok (.lconst 0, 1) := by decide +kernel
theorem dX2_reckon_153 : decode cX2_reckon 153 = .ok (.lcmp, 1) := by decide +kernel
theorem dX2_reckon_154 : decode cX2_reckon 154 = .ok (.ifCond .ne 7, 3) := by decide +kernel
theorem dX2_reckon_157 : decode cX2_reckon 157 = .ok (.lconst 0, 1) := by decide +kernel
theorem dX2_reckon_158 : decode cX2_reckon 158 = .ok (.goto 4, 3) := by decide +kernel
theorem dX2_reckon_161 : decode cX2_reckon 161 = .ok (.lconst 1, 1) := by decide +kernel
theorem dX2_reckon_162 : decode cX2_reckon 162 = .ok (.invokevirtual 210, 3) := by decide +kernel
theorem dX2_reckon_165 : decode cX2_reckon 165 = .ok (.goto 50, 3) := by decide +kernel
theorem dX2_reckon_168 : decode cX2_reckon 168 = .ok (.lload 5, 2) := by decide +kernel
theorem dX2_reckon_170 : decode cX2_reckon 170 = .ok (.lconst 0, 1) := by decide +kernel
theorem dX2_reckon_171 : decode cX2_reckon 171 = .ok (.lcmp, 1) := by decide +kernel
theorem dX2_reckon_172 : decode cX2_reckon 172 = .ok (.ifCond .ne 20, 3) := by decide +kernel
theorem dX2_reckon_175 : decode cX2_reckon 175 = .ok (.iload_n 2, 1) := by decide +kernel
theorem dX2_reckon_176 : decode cX2_reckon 176 = .ok (.invokestatic 231, 3) := by decide +kernel
theorem dX2_reckon_179 : decode cX2_reckon 179 = .ok (.ifCond .eq 13, 3) := by decide +kernel
theorem dX2_reckon_182 : decode cX2_reckon 182 = .ok (.aload_n 0, 1) := by decide +kernel
theorem dX2_reckon_183 : decode cX2_reckon 183 = .ok (.iconst 1, 1) := by decide +kernel
theorem dX2_reckon_184 : decode cX2_reckon 184 = .ok (.iload 4, 2) := by decide +kernel
theorem dX2_reckon_186 : decode cX2_reckon 186 = .ok (.invokevirtual 190, 3) := by decide +kernel
theorem dX2_reckon_189 : decode cX2_reckon 189 = .ok (.goto 26, 3) := by decide +kernel
theorem dX2_reckon_192 : decode cX2_reckon 192 = .ok (.aload_n 0, 1) := by decide +kernel
theorem dX2_reckon_193 : decode cX2_reckon 193 = .ok (.iload_n 2, 1) := by decide +kernel
theorem dX2_reckon_194 : decode cX2_reckon 194 = .ok (.iload_n 3, 1) := by decide +kernel
theorem dX2_reckon_195 : decode cX2_reckon 195 = .ok (.ifCond .eq 7, 3) := by decide +kernel
theorem dX2_reckon_198 : decode cX2_reckon 198 = .ok (.iconst 1, 1) := by decide +kernel
theorem dX2_reckon_199 : decode cX2_reckon 199 = .ok (.goto 4, 3) := by decide +kernel
theorem dX2_reckon_202 : decode cX2_reckon 202 = .ok (.iconst 0, 1) := by decide +kernel
theorem dX2_reckon_203 : decode cX2_reckon 203 = .ok (.aload_n 0, 1) := by decide +kernel
theorem dX2_reckon_204 : decode cX2_reckon 204 = .ok (.invokevirtual 214, 3) := by decide +kernel
theorem dX2_reckon_207 : decode cX2_reckon 207 = .ok (.lload 5, 2) := by decide +kernel
theorem dX2_reckon_209 : decode cX2_reckon 209 = .ok (.invokestatic 235, 3) := by decide +kernel
theorem dX2_reckon_212 : decode cX2_reckon 212 = .ok (.invokevirtual 210, 3) := by decide +kernel
theorem dX2_reckon_215 : decode cX2_reckon 215 = .ok (.return_, 1) := by decide +kernel
abbrev cX2_decide : ByteArray := prog_4_method_20_code
def yX2_decide : MethodName := ⟨RX2, "decide", "(ZI)V"⟩
theorem dX2_decide_0 : decode cX2_decide 0 = .ok (.aload_n 0, 1) := by decide +kernel
theorem dX2_decide_1 : decode cX2_decide 1 = .ok (.invokevirtual 214, 3) := by decide +kernel
theorem dX2_decide_4 : decode cX2_decide 4 = .ok (.lconst 0, 1) := by decide +kernel
theorem dX2_decide_5 : decode cX2_decide 5 = .ok (.lcmp, 1) := by decide +kernel
theorem dX2_decide_6 : decode cX2_decide 6 = .ok (.ifCond .eq 7, 3) := by decide +kernel
theorem dX2_decide_9 : decode cX2_decide 9 = .ok (.iconst 1, 1) := by decide +kernel
theorem dX2_decide_10 : decode cX2_decide 10 = .ok (.goto 4, 3) := by decide +kernel
theorem dX2_decide_13 : decode cX2_decide 13 = .ok (.iconst 0, 1) := by decide +kernel
theorem dX2_decide_14 : decode cX2_decide 14 = .ok (.iload_n 1, 1) := by decide +kernel
theorem dX2_decide_15 : decode cX2_decide 15 = .ok (.if_icmp .ne 21, 3) := by decide +kernel
theorem dX2_decide_18 : decode cX2_decide 18 = .ok (.aload_n 0, 1) := by decide +kernel
theorem dX2_decide_19 : decode cX2_decide 19 = .ok (.iload_n 1, 1) := by decide +kernel
theorem dX2_decide_20 : decode cX2_decide 20 = .ok (.ifCond .eq 7, 3) := by decide +kernel
theorem dX2_decide_23 : decode cX2_decide 23 = .ok (.lconst 1, 1) := by decide +kernel
theorem dX2_decide_24 : decode cX2_decide 24 = .ok (.goto 4, 3) := by decide +kernel
theorem dX2_decide_27 : decode cX2_decide 27 = .ok (.lconst 0, 1) := by decide +kernel
theorem dX2_decide_28 : decode cX2_decide 28 = .ok (.invokevirtual 210, 3) := by decide +kernel
theorem dX2_decide_31 : decode cX2_decide 31 = .ok (.aload_n 0, 1) := by decide +kernel
theorem dX2_decide_32 : decode cX2_decide 32 = .ok (.iload_n 2, 1) := by decide +kernel
theorem dX2_decide_33 : decode cX2_decide 33 = .ok (.putfield 137, 3) := by decide +kernel
theorem dX2_decide_36 : decode cX2_decide 36 = .ok (.return_, 1) := by decide +kernel
abbrev cX2_turn : ByteArray := prog_4_method_19_code
def yX2_turn : MethodName := ⟨RX2, "turn", "(III)V"⟩
theorem dX2_turn_0 : decode cX2_turn 0 = .ok (.iload_n 1, 1) := by decide +kernel
theorem dX2_turn_1 : decode cX2_turn 1 = .ok (.tableswitch 155 30 35 #[39, 47, 71, 80, 89, 122], 39) := by decide +kernel
theorem dX2_turn_40 : decode cX2_turn 40 = .ok (.aload_n 0, 1) := by decide +kernel
theorem dX2_turn_41 : decode cX2_turn 41 = .ok (.iload_n 2, 1) := by decide +kernel
theorem dX2_turn_42 : decode cX2_turn 42 = .ok (.putfield 137, 3) := by decide +kernel
theorem dX2_turn_45 : decode cX2_turn 45 = .ok (.goto 147, 3) := by decide +kernel
theorem dX2_turn_48 : decode cX2_turn 48 = .ok (.aload_n 0, 1) := by decide +kernel
theorem dX2_turn_49 : decode cX2_turn 49 = .ok (.aload_n 0, 1) := by decide +kernel
theorem dX2_turn_50 : decode cX2_turn 50 = .ok (.invokevirtual 214, 3) := by decide +kernel
theorem dX2_turn_53 : decode cX2_turn 53 = .ok (.lconst 0, 1) := by decide +kernel
theorem dX2_turn_54 : decode cX2_turn 54 = .ok (.lcmp, 1) := by decide +kernel
theorem dX2_turn_55 : decode cX2_turn 55 = .ok (.ifCond .ne 7, 3) := by decide +kernel
theorem dX2_turn_58 : decode cX2_turn 58 = .ok (.iload_n 2, 1) := by decide +kernel
theorem dX2_turn_59 : decode cX2_turn 59 = .ok (.goto 7, 3) := by decide +kernel
theorem dX2_turn_62 : decode cX2_turn 62 = .ok (.aload_n 0, 1) := by decide +kernel
theorem dX2_turn_63 : decode cX2_turn 63 = .ok (.getfield 137, 3) := by decide +kernel
theorem dX2_turn_66 : decode cX2_turn 66 = .ok (.putfield 137, 3) := by decide +kernel
theorem dX2_turn_69 : decode cX2_turn 69 = .ok (.goto 123, 3) := by decide +kernel
theorem dX2_turn_72 : decode cX2_turn 72 = .ok (.aload_n 0, 1) := by decide +kernel
theorem dX2_turn_73 : decode cX2_turn 73 = .ok (.iconst 0, 1) := by decide +kernel
theorem dX2_turn_74 : decode cX2_turn 74 = .ok (.iload_n 2, 1) := by decide +kernel
theorem dX2_turn_75 : decode cX2_turn 75 = .ok (.invokevirtual 238, 3) := by decide +kernel
theorem dX2_turn_78 : decode cX2_turn 78 = .ok (.goto 114, 3) := by decide +kernel
theorem dX2_turn_81 : decode cX2_turn 81 = .ok (.aload_n 0, 1) := by decide +kernel
theorem dX2_turn_82 : decode cX2_turn 82 = .ok (.iconst 1, 1) := by decide +kernel
theorem dX2_turn_83 : decode cX2_turn 83 = .ok (.iload_n 2, 1) := by decide +kernel
theorem dX2_turn_84 : decode cX2_turn 84 = .ok (.invokevirtual 238, 3) := by decide +kernel
theorem dX2_turn_87 : decode cX2_turn 87 = .ok (.goto 105, 3) := by decide +kernel
theorem dX2_turn_90 : decode cX2_turn 90 = .ok (.aload_n 0, 1) := by decide +kernel
theorem dX2_turn_91 : decode cX2_turn 91 = .ok (.aload_n 0, 1) := by decide +kernel
theorem dX2_turn_92 : decode cX2_turn 92 = .ok (.invokevirtual 214, 3) := by decide +kernel
theorem dX2_turn_95 : decode cX2_turn 95 = .ok (.aload_n 0, 1) := by decide +kernel
theorem dX2_turn_96 : decode cX2_turn 96 = .ok (.aload_n 0, 1) := by decide +kernel
theorem dX2_turn_97 : decode cX2_turn 97 = .ok (.getfield 146, 3) := by decide +kernel
theorem dX2_turn_100 : decode cX2_turn 100 = .ok (.iconst 1, 1) := by decide +kernel
theorem dX2_turn_101 : decode cX2_turn 101 = .ok (.isub, 1) := by decide +kernel
theorem dX2_turn_102 : decode cX2_turn 102 = .ok (.invokevirtual 62, 3) := by decide +kernel
theorem dX2_turn_105 : decode cX2_turn 105 = .ok (.lcmp, 1) := by decide +kernel
theorem dX2_turn_106 : decode cX2_turn 106 = .ok (.ifCond .le 7, 3) := by decide +kernel
theorem dX2_turn_109 : decode cX2_turn 109 = .ok (.iload_n 2, 1) := by decide +kernel
theorem dX2_turn_110 : decode cX2_turn 110 = .ok (.goto 7, 3) := by decide +kernel
theorem dX2_turn_113 : decode cX2_turn 113 = .ok (.aload_n 0, 1) := by decide +kernel
theorem dX2_turn_114 : decode cX2_turn 114 = .ok (.getfield 137, 3) := by decide +kernel
theorem dX2_turn_117 : decode cX2_turn 117 = .ok (.putfield 137, 3) := by decide +kernel
theorem dX2_turn_120 : decode cX2_turn 120 = .ok (.goto 72, 3) := by decide +kernel
theorem dX2_turn_123 : decode cX2_turn 123 = .ok (.aload_n 0, 1) := by decide +kernel
theorem dX2_turn_124 : decode cX2_turn 124 = .ok (.aload_n 0, 1) := by decide +kernel
theorem dX2_turn_125 : decode cX2_turn 125 = .ok (.invokevirtual 214, 3) := by decide +kernel
theorem dX2_turn_128 : decode cX2_turn 128 = .ok (.aload_n 0, 1) := by decide +kernel
theorem dX2_turn_129 : decode cX2_turn 129 = .ok (.aload_n 0, 1) := by decide +kernel
theorem dX2_turn_130 : decode cX2_turn 130 = .ok (.getfield 146, 3) := by decide +kernel
theorem dX2_turn_133 : decode cX2_turn 133 = .ok (.iconst 1, 1) := by decide +kernel
theorem dX2_turn_134 : decode cX2_turn 134 = .ok (.isub, 1) := by decide +kernel
theorem dX2_turn_135 : decode cX2_turn 135 = .ok (.invokevirtual 62, 3) := by decide +kernel
theorem dX2_turn_138 : decode cX2_turn 138 = .ok (.lcmp, 1) := by decide +kernel
theorem dX2_turn_139 : decode cX2_turn 139 = .ok (.ifCond .ne 7, 3) := by decide +kernel
theorem dX2_turn_142 : decode cX2_turn 142 = .ok (.iload_n 2, 1) := by decide +kernel
theorem dX2_turn_143 : decode cX2_turn 143 = .ok (.goto 7, 3) := by decide +kernel
theorem dX2_turn_146 : decode cX2_turn 146 = .ok (.aload_n 0, 1) := by decide +kernel
theorem dX2_turn_147 : decode cX2_turn 147 = .ok (.getfield 137, 3) := by decide +kernel
theorem dX2_turn_150 : decode cX2_turn 150 = .ok (.putfield 137, 3) := by decide +kernel
theorem dX2_turn_153 : decode cX2_turn 153 = .ok (.goto 39, 3) := by decide +kernel
theorem dX2_turn_156 : decode cX2_turn 156 = .ok (.aload_n 0, 1) := by decide +kernel
theorem dX2_turn_157 : decode cX2_turn 157 = .ok (.dup, 1) := by decide +kernel
theorem dX2_turn_158 : decode cX2_turn 158 = .ok (.getfield 137, 3) := by decide +kernel
theorem dX2_turn_161 : decode cX2_turn 161 = .ok (.aload_n 0, 1) := by decide +kernel
theorem dX2_turn_162 : decode cX2_turn 162 = .ok (.getfield 32, 3) := by decide +kernel
theorem dX2_turn_165 : decode cX2_turn 165 = .ok (.aload_n 0, 1) := by decide +kernel
theorem dX2_turn_166 : decode cX2_turn 166 = .ok (.aload_n 0, 1) := by decide +kernel
theorem dX2_turn_167 : decode cX2_turn 167 = .ok (.getfield 146, 3) := by decide +kernel
theorem dX2_turn_170 : decode cX2_turn 170 = .ok (.iconst 1, 1) := by decide +kernel
theorem dX2_turn_171 : decode cX2_turn 171 = .ok (.isub, 1) := by decide +kernel
theorem dX2_turn_172 : decode cX2_turn 172 = .ok (.invokevirtual 62, 3) := by decide +kernel
theorem dX2_turn_175 : decode cX2_turn 175 = .ok (.iload_n 2, 1) := by decide +kernel
theorem dX2_turn_176 : decode cX2_turn 176 = .ok (.iload_n 3, 1) := by decide +kernel
theorem dX2_turn_177 : decode cX2_turn 177 = .ok (.invokevirtual 242, 3) := by decide +kernel
theorem dX2_turn_180 : decode cX2_turn 180 = .ok (.ifCond .eq 7, 3) := by decide +kernel
theorem dX2_turn_183 : decode cX2_turn 183 = .ok (.iconst 1, 1) := by decide +kernel
theorem dX2_turn_184 : decode cX2_turn 184 = .ok (.goto 4, 3) := by decide +kernel
theorem dX2_turn_187 : decode cX2_turn 187 = .ok (.iconst 0, 1) := by decide +kernel
theorem dX2_turn_188 : decode cX2_turn 188 = .ok (.iadd, 1) := by decide +kernel
theorem dX2_turn_189 : decode cX2_turn 189 = .ok (.putfield 137, 3) := by decide +kernel
theorem dX2_turn_192 : decode cX2_turn 192 = .ok (.return_, 1) := by decide +kernel
abbrev cX2_remember : ByteArray := prog_4_method_24_code
def yX2_remember : MethodName := ⟨RX2, "remember", "(I)V"⟩
theorem dX2_remember_0 : decode cX2_remember 0 = .ok (.aload_n 0, 1) := by decide +kernel
theorem dX2_remember_1 : decode cX2_remember 1 = .ok (.getfield 18, 3) := by decide +kernel
theorem dX2_remember_4 : decode cX2_remember 4 = .ok (.aload_n 0, 1) := by decide +kernel
theorem dX2_remember_5 : decode cX2_remember 5 = .ok (.getfield 152, 3) := by decide +kernel
theorem dX2_remember_8 : decode cX2_remember 8 = .ok (.aload_n 0, 1) := by decide +kernel
theorem dX2_remember_9 : decode cX2_remember 9 = .ok (.getfield 137, 3) := by decide +kernel
theorem dX2_remember_12 : decode cX2_remember 12 = .ok (.iastore, 1) := by decide +kernel
theorem dX2_remember_13 : decode cX2_remember 13 = .ok (.aload_n 0, 1) := by decide +kernel
theorem dX2_remember_14 : decode cX2_remember 14 = .ok (.getfield 22, 3) := by decide +kernel
theorem dX2_remember_17 : decode cX2_remember 17 = .ok (.aload_n 0, 1) := by decide +kernel
theorem dX2_remember_18 : decode cX2_remember 18 = .ok (.getfield 152, 3) := by decide +kernel
theorem dX2_remember_21 : decode cX2_remember 21 = .ok (.aload_n 0, 1) := by decide +kernel
theorem dX2_remember_22 : decode cX2_remember 22 = .ok (.getfield 149, 3) := by decide +kernel
theorem dX2_remember_25 : decode cX2_remember 25 = .ok (.iastore, 1) := by decide +kernel
theorem dX2_remember_26 : decode cX2_remember 26 = .ok (.aload_n 0, 1) := by decide +kernel
theorem dX2_remember_27 : decode cX2_remember 27 = .ok (.getfield 25, 3) := by decide +kernel
theorem dX2_remember_30 : decode cX2_remember 30 = .ok (.aload_n 0, 1) := by decide +kernel
theorem dX2_remember_31 : decode cX2_remember 31 = .ok (.getfield 152, 3) := by decide +kernel
theorem dX2_remember_34 : decode cX2_remember 34 = .ok (.iload_n 1, 1) := by decide +kernel
theorem dX2_remember_35 : decode cX2_remember 35 = .ok (.iastore, 1) := by decide +kernel
theorem dX2_remember_36 : decode cX2_remember 36 = .ok (.aload_n 0, 1) := by decide +kernel
theorem dX2_remember_37 : decode cX2_remember 37 = .ok (.dup, 1) := by decide +kernel
theorem dX2_remember_38 : decode cX2_remember 38 = .ok (.getfield 152, 3) := by decide +kernel
theorem dX2_remember_41 : decode cX2_remember 41 = .ok (.iconst 1, 1) := by decide +kernel
theorem dX2_remember_42 : decode cX2_remember 42 = .ok (.iadd, 1) := by decide +kernel
theorem dX2_remember_43 : decode cX2_remember 43 = .ok (.putfield 152, 3) := by decide +kernel
theorem dX2_remember_46 : decode cX2_remember 46 = .ok (.return_, 1) := by decide +kernel
abbrev cX2_comeBack : ByteArray := prog_4_method_25_code
def yX2_comeBack : MethodName := ⟨RX2, "comeBack", "()V"⟩
theorem dX2_comeBack_0 : decode cX2_comeBack 0 = .ok (.aload_n 0, 1) := by decide +kernel
theorem dX2_comeBack_1 : decode cX2_comeBack 1 = .ok (.getfield 152, 3) := by decide +kernel
theorem dX2_comeBack_4 : decode cX2_comeBack 4 = .ok (.ifCond .gt 9, 3) := by decide +kernel
theorem dX2_comeBack_7 : decode cX2_comeBack 7 = .ok (.aload_n 0, 1) := by decide +kernel
theorem dX2_comeBack_8 : decode cX2_comeBack 8 = .ok (.iconst 0, 1) := by decide +kernel
theorem dX2_comeBack_9 : decode cX2_comeBack 9 = .ok (.putfield 167, 3) := by decide +kernel
theorem dX2_comeBack_12 : decode cX2_comeBack 12 = .ok (.return_, 1) := by decide +kernel
theorem dX2_comeBack_13 : decode cX2_comeBack 13 = .ok (.aload_n 0, 1) := by decide +kernel
theorem dX2_comeBack_14 : decode cX2_comeBack 14 = .ok (.dup, 1) := by decide +kernel
theorem dX2_comeBack_15 : decode cX2_comeBack 15 = .ok (.getfield 152, 3) := by decide +kernel
theorem dX2_comeBack_18 : decode cX2_comeBack 18 = .ok (.iconst 1, 1) := by decide +kernel
theorem dX2_comeBack_19 : decode cX2_comeBack 19 = .ok (.isub, 1) := by decide +kernel
theorem dX2_comeBack_20 : decode cX2_comeBack 20 = .ok (.putfield 152, 3) := by decide +kernel
theorem dX2_comeBack_23 : decode cX2_comeBack 23 = .ok (.aload_n 0, 1) := by decide +kernel
theorem dX2_comeBack_24 : decode cX2_comeBack 24 = .ok (.aload_n 0, 1) := by decide +kernel
theorem dX2_comeBack_25 : decode cX2_comeBack 25 = .ok (.getfield 18, 3) := by decide +kernel
theorem dX2_comeBack_28 : decode cX2_comeBack 28 = .ok (.aload_n 0, 1) := by decide +kernel
theorem dX2_comeBack_29 : decode cX2_comeBack 29 = .ok (.getfield 152, 3) := by decide +kernel
theorem dX2_comeBack_32 : decode cX2_comeBack 32 = .ok (.iaload, 1) := by decide +kernel
theorem dX2_comeBack_33 : decode cX2_comeBack 33 = .ok (.putfield 137, 3) := by decide +kernel
theorem dX2_comeBack_36 : decode cX2_comeBack 36 = .ok (.aload_n 0, 1) := by decide +kernel
theorem dX2_comeBack_37 : decode cX2_comeBack 37 = .ok (.aload_n 0, 1) := by decide +kernel
theorem dX2_comeBack_38 : decode cX2_comeBack 38 = .ok (.getfield 22, 3) := by decide +kernel
theorem dX2_comeBack_41 : decode cX2_comeBack 41 = .ok (.aload_n 0, 1) := by decide +kernel
theorem dX2_comeBack_42 : decode cX2_comeBack 42 = .ok (.getfield 152, 3) := by decide +kernel
theorem dX2_comeBack_45 : decode cX2_comeBack 45 = .ok (.iaload, 1) := by decide +kernel
theorem dX2_comeBack_46 : decode cX2_comeBack 46 = .ok (.putfield 149, 3) := by decide +kernel
theorem dX2_comeBack_49 : decode cX2_comeBack 49 = .ok (.aload_n 0, 1) := by decide +kernel
theorem dX2_comeBack_50 : decode cX2_comeBack 50 = .ok (.aload_n 0, 1) := by decide +kernel
theorem dX2_comeBack_51 : decode cX2_comeBack 51 = .ok (.getfield 25, 3) := by decide +kernel
theorem dX2_comeBack_54 : decode cX2_comeBack 54 = .ok (.aload_n 0, 1) := by decide +kernel
theorem dX2_comeBack_55 : decode cX2_comeBack 55 = .ok (.getfield 152, 3) := by decide +kernel
theorem dX2_comeBack_58 : decode cX2_comeBack 58 = .ok (.iaload, 1) := by decide +kernel
theorem dX2_comeBack_59 : decode cX2_comeBack 59 = .ok (.putfield 146, 3) := by decide +kernel
theorem dX2_comeBack_62 : decode cX2_comeBack 62 = .ok (.return_, 1) := by decide +kernel
abbrev cX2_enterFunction : ByteArray := prog_4_method_22_code
def yX2_enterFunction : MethodName := ⟨RX2, "enterFunction", "(LSoftController$Name;I)V"⟩
theorem dX2_enterFunction_0 : decode cX2_enterFunction 0 = .ok (.aload_n 0, 1) := by decide +kernel
theorem dX2_enterFunction_1 : decode cX2_enterFunction 1 = .ok (.getfield 152, 3) := by decide +kernel
theorem dX2_enterFunction_4 : decode cX2_enterFunction 4 = .ok (.bipush 8, 2) := by decide +kernel
theorem dX2_enterFunction_6 : decode cX2_enterFunction 6 = .ok (.if_icmp .lt 10, 3) := by decide +kernel
theorem dX2_enterFunction_9 : decode cX2_enterFunction 9 = .ok (.aload_n 0, 1) := by decide +kernel
theorem dX2_enterFunction_10 : decode cX2_enterFunction 10 = .ok (.iconst 4, 1) := by decide +kernel
theorem dX2_enterFunction_11 : decode cX2_enterFunction 11 = .ok (.iload_n 2, 1) := by decide +kernel
theorem dX2_enterFunction_12 : decode cX2_enterFunction 12 = .ok (.invokevirtual 190, 3) := by decide +kernel
theorem dX2_enterFunction_15 : decode cX2_enterFunction 15 = .ok (.return_, 1) := by decide +kernel
theorem dX2_enterFunction_16 : decode cX2_enterFunction 16 = .ok (.aload_n 0, 1) := by decide +kernel
theorem dX2_enterFunction_17 : decode cX2_enterFunction 17 = .ok (.getfield 146, 3) := by decide +kernel
theorem dX2_enterFunction_20 : decode cX2_enterFunction 20 = .ok (.aload_n 1, 1) := by decide +kernel
theorem dX2_enterFunction_21 : decode cX2_enterFunction 21 = .ok (.getfield 256, 3) := by decide +kernel
theorem dX2_enterFunction_24 : decode cX2_enterFunction 24 = .ok (.isub, 1) := by decide +kernel
theorem dX2_enterFunction_25 : decode cX2_enterFunction 25 = .ok (.istore_n 3, 1) := by decide +kernel
theorem dX2_enterFunction_26 : decode cX2_enterFunction 26 = .ok (.aload_n 0, 1) := by decide +kernel
theorem dX2_enterFunction_27 : decode cX2_enterFunction 27 = .ok (.iload_n 3, 1) := by decide +kernel
theorem dX2_enterFunction_28 : decode cX2_enterFunction 28 = .ok (.invokevirtual 259, 3) := by decide +kernel
theorem dX2_enterFunction_31 : decode cX2_enterFunction 31 = .ok (.aload_n 0, 1) := by decide +kernel
theorem dX2_enterFunction_32 : decode cX2_enterFunction 32 = .ok (.iload_n 3, 1) := by decide +kernel
theorem dX2_enterFunction_33 : decode cX2_enterFunction 33 = .ok (.putfield 149, 3) := by decide +kernel
theorem dX2_enterFunction_36 : decode cX2_enterFunction 36 = .ok (.aload_n 0, 1) := by decide +kernel
theorem dX2_enterFunction_37 : decode cX2_enterFunction 37 = .ok (.iload_n 3, 1) := by decide +kernel
theorem dX2_enterFunction_38 : decode cX2_enterFunction 38 = .ok (.aload_n 1, 1) := by decide +kernel
theorem dX2_enterFunction_39 : decode cX2_enterFunction 39 = .ok (.getfield 92, 3) := by decide +kernel
theorem dX2_enterFunction_42 : decode cX2_enterFunction 42 = .ok (.iadd, 1) := by decide +kernel
theorem dX2_enterFunction_43 : decode cX2_enterFunction 43 = .ok (.putfield 146, 3) := by decide +kernel
theorem dX2_enterFunction_46 : decode cX2_enterFunction 46 = .ok (.aload_n 1, 1) := by decide +kernel
theorem dX2_enterFunction_47 : decode cX2_enterFunction 47 = .ok (.getfield 256, 3) := by decide +kernel
theorem dX2_enterFunction_50 : decode cX2_enterFunction 50 = .ok (.istore 4, 2) := by decide +kernel
theorem dX2_enterFunction_52 : decode cX2_enterFunction 52 = .ok (.iload 4, 2) := by decide +kernel
theorem dX2_enterFunction_54 : decode cX2_enterFunction 54 = .ok (.aload_n 1, 1) := by decide +kernel
theorem dX2_enterFunction_55 : decode cX2_enterFunction 55 = .ok (.getfield 130, 3) := by decide +kernel
theorem dX2_enterFunction_58 : decode cX2_enterFunction 58 = .ok (.if_icmp .ge 42, 3) := by decide +kernel
theorem dX2_enterFunction_61 : decode cX2_enterFunction 61 = .ok (.aload_n 0, 1) := by decide +kernel
theorem dX2_enterFunction_62 : decode cX2_enterFunction 62 = .ok (.getfield 32, 3) := by decide +kernel
theorem dX2_enterFunction_65 : decode cX2_enterFunction 65 = .ok (.aload_n 1, 1) := by decide +kernel
theorem dX2_enterFunction_66 : decode cX2_enterFunction 66 = .ok (.iload 4, 2) := by decide +kernel
theorem dX2_enterFunction_68 : decode cX2_enterFunction 68 = .ok (.invokevirtual 133, 3) := by decide +kernel
theorem dX2_enterFunction_71 : decode cX2_enterFunction 71 = .ok (.astore 5, 2) := by decide +kernel
theorem dX2_enterFunction_73 : decode cX2_enterFunction 73 = .ok (.aload_n 0, 1) := by decide +kernel
theorem dX2_enterFunction_74 : decode cX2_enterFunction 74 = .ok (.iload_n 3, 1) := by decide +kernel
theorem dX2_enterFunction_75 : decode cX2_enterFunction 75 = .ok (.aload 5, 2) := by decide +kernel
theorem dX2_enterFunction_77 : decode cX2_enterFunction 77 = .ok (.getfield 49, 3) := by decide +kernel
theorem dX2_enterFunction_80 : decode cX2_enterFunction 80 = .ok (.iadd, 1) := by decide +kernel
theorem dX2_enterFunction_81 : decode cX2_enterFunction 81 = .ok (.aload 5, 2) := by decide +kernel
theorem dX2_enterFunction_83 : decode cX2_enterFunction 83 = .ok (.getfield 92, 3) := by decide +kernel
theorem dX2_enterFunction_86 : decode cX2_enterFunction 86 = .ok (.aload 5, 2) := by decide +kernel
theorem dX2_enterFunction_88 : decode cX2_enterFunction 88 = .ok (.getfield 95, 3) := by decide +kernel
theorem dX2_enterFunction_91 : decode cX2_enterFunction 91 = .ok (.invokevirtual 99, 3) := by decide +kernel
theorem dX2_enterFunction_94 : decode cX2_enterFunction 94 = .ok (.iinc 4 1, 3) := by decide +kernel
theorem dX2_enterFunction_97 : decode cX2_enterFunction 97 = .ok (.goto (-45), 3) := by decide +kernel
theorem dX2_enterFunction_100 : decode cX2_enterFunction 100 = .ok (.aload_n 0, 1) := by decide +kernel
theorem dX2_enterFunction_101 : decode cX2_enterFunction 101 = .ok (.aload_n 1, 1) := by decide +kernel
theorem dX2_enterFunction_102 : decode cX2_enterFunction 102 = .ok (.getfield 262, 3) := by decide +kernel
theorem dX2_enterFunction_105 : decode cX2_enterFunction 105 = .ok (.putfield 137, 3) := by decide +kernel
theorem dX2_enterFunction_108 : decode cX2_enterFunction 108 = .ok (.return_, 1) := by decide +kernel
abbrev cX2_enterInstance : ByteArray := prog_4_method_23_code
def yX2_enterInstance : MethodName := ⟨RX2, "enterInstance", "(LSoftController$Name;I)V"⟩
theorem dX2_enterInstance_0 : decode cX2_enterInstance 0 = .ok (.aload_n 0, 1) := by decide +kernel
theorem dX2_enterInstance_1 : decode cX2_enterInstance 1 = .ok (.getfield 152, 3) := by decide +kernel
theorem dX2_enterInstance_4 : decode cX2_enterInstance 4 = .ok (.bipush 8, 2) := by decide +kernel
theorem dX2_enterInstance_6 : decode cX2_enterInstance 6 = .ok (.if_icmp .lt 10, 3) := by decide +kernel
theorem dX2_enterInstance_9 : decode cX2_enterInstance 9 = .ok (.aload_n 0, 1) := by decide +kernel
theorem dX2_enterInstance_10 : decode cX2_enterInstance 10 = .ok (.iconst 4, 1) := by decide +kernel
theorem dX2_enterInstance_11 : decode cX2_enterInstance 11 = .ok (.iload_n 2, 1) := by decide +kernel
theorem dX2_enterInstance_12 : decode cX2_enterInstance 12 = .ok (.invokevirtual 190, 3) := by decide +kernel
theorem dX2_enterInstance_15 : decode cX2_enterInstance 15 = .ok (.return_, 1) := by decide +kernel
theorem dX2_enterInstance_16 : decode cX2_enterInstance 16 = .ok (.aload_n 0, 1) := by decide +kernel
theorem dX2_enterInstance_17 : decode cX2_enterInstance 17 = .ok (.aload_n 0, 1) := by decide +kernel
theorem dX2_enterInstance_18 : decode cX2_enterInstance 18 = .ok (.getfield 146, 3) := by decide +kernel
theorem dX2_enterInstance_21 : decode cX2_enterInstance 21 = .ok (.invokevirtual 259, 3) := by decide +kernel
theorem dX2_enterInstance_24 : decode cX2_enterInstance 24 = .ok (.aload_n 0, 1) := by decide +kernel
theorem dX2_enterInstance_25 : decode cX2_enterInstance 25 = .ok (.aload_n 1, 1) := by decide +kernel
theorem dX2_enterInstance_26 : decode cX2_enterInstance 26 = .ok (.getfield 49, 3) := by decide +kernel
theorem dX2_enterInstance_29 : decode cX2_enterInstance 29 = .ok (.putfield 149, 3) := by decide +kernel
theorem dX2_enterInstance_32 : decode cX2_enterInstance 32 = .ok (.aload_n 0, 1) := by decide +kernel
theorem dX2_enterInstance_33 : decode cX2_enterInstance 33 = .ok (.aload_n 0, 1) := by decide +kernel
theorem dX2_enterInstance_34 : decode cX2_enterInstance 34 = .ok (.getfield 32, 3) := by decide +kernel
theorem dX2_enterInstance_37 : decode cX2_enterInstance 37 = .ok (.aload_n 1, 1) := by decide +kernel
theorem dX2_enterInstance_38 : decode cX2_enterInstance 38 = .ok (.getfield 123, 3) := by decide +kernel
theorem dX2_enterInstance_41 : decode cX2_enterInstance 41 = .ok (.invokevirtual 126, 3) := by decide +kernel
theorem dX2_enterInstance_44 : decode cX2_enterInstance 44 = .ok (.getfield 262, 3) := by decide +kernel
theorem dX2_enterInstance_47 : decode cX2_enterInstance 47 = .ok (.putfield 137, 3) := by decide +kernel
theorem dX2_enterInstance_50 : decode cX2_enterInstance 50 = .ok (.return_, 1) := by decide +kernel
abbrev cX2_call : ByteArray := prog_4_method_21_code
def yX2_call : MethodName := ⟨RX2, "call", "(III)V"⟩
theorem dX2_call_0 : decode cX2_call 0 = .ok (.iload_n 1, 1) := by decide +kernel
theorem dX2_call_1 : decode cX2_call 1 = .ok (.tableswitch 93 37 40 #[31, 47, 63, 86], 31) := by decide +kernel
theorem dX2_call_32 : decode cX2_call 32 = .ok (.aload_n 0, 1) := by decide +kernel
theorem dX2_call_33 : decode cX2_call 33 = .ok (.aload_n 0, 1) := by decide +kernel
theorem dX2_call_34 : decode cX2_call 34 = .ok (.getfield 32, 3) := by decide +kernel
theorem dX2_call_37 : decode cX2_call 37 = .ok (.iload_n 2, 1) := by decide +kernel
theorem dX2_call_38 : decode cX2_call 38 = .ok (.invokevirtual 126, 3) := by decide +kernel
theorem dX2_call_41 : decode cX2_call 41 = .ok (.iload_n 3, 1) := by decide +kernel
theorem dX2_call_42 : decode cX2_call 42 = .ok (.invokevirtual 246, 3) := by decide +kernel
theorem dX2_call_45 : decode cX2_call 45 = .ok (.goto 64, 3) := by decide +kernel
theorem dX2_call_48 : decode cX2_call 48 = .ok (.aload_n 0, 1) := by decide +kernel
theorem dX2_call_49 : decode cX2_call 49 = .ok (.aload_n 0, 1) := by decide +kernel
theorem dX2_call_50 : decode cX2_call 50 = .ok (.getfield 32, 3) := by decide +kernel
theorem dX2_call_53 : decode cX2_call 53 = .ok (.iload_n 2, 1) := by decide +kernel
theorem dX2_call_54 : decode cX2_call 54 = .ok (.invokevirtual 126, 3) := by decide +kernel
theorem dX2_call_57 : decode cX2_call 57 = .ok (.iload_n 3, 1) := by decide +kernel
theorem dX2_call_58 : decode cX2_call 58 = .ok (.invokevirtual 250, 3) := by decide +kernel
theorem dX2_call_61 : decode cX2_call 61 = .ok (.goto 48, 3) := by decide +kernel
theorem dX2_call_64 : decode cX2_call 64 = .ok (.iload_n 2, 1) := by decide +kernel
theorem dX2_call_65 : decode cX2_call 65 = .ok (.aload_n 0, 1) := by decide +kernel
theorem dX2_call_66 : decode cX2_call 66 = .ok (.invokevirtual 214, 3) := by decide +kernel
theorem dX2_call_69 : decode cX2_call 69 = .ok (.invokestatic 70, 3) := by decide +kernel
theorem dX2_call_72 : decode cX2_call 72 = .ok (.lstore 4, 2) := by decide +kernel
theorem dX2_call_74 : decode cX2_call 74 = .ok (.aload_n 0, 1) := by decide +kernel
theorem dX2_call_75 : decode cX2_call 75 = .ok (.invokevirtual 253, 3) := by decide +kernel
theorem dX2_call_78 : decode cX2_call 78 = .ok (.aload_n 0, 1) := by decide +kernel
theorem dX2_call_79 : decode cX2_call 79 = .ok (.lload 4, 2) := by decide +kernel
theorem dX2_call_81 : decode cX2_call 81 = .ok (.invokevirtual 210, 3) := by decide +kernel
theorem dX2_call_84 : decode cX2_call 84 = .ok (.goto 25, 3) := by decide +kernel
theorem dX2_call_87 : decode cX2_call 87 = .ok (.aload_n 0, 1) := by decide +kernel
theorem dX2_call_88 : decode cX2_call 88 = .ok (.invokevirtual 253, 3) := by decide +kernel
theorem dX2_call_91 : decode cX2_call 91 = .ok (.goto 18, 3) := by decide +kernel
theorem dX2_call_94 : decode cX2_call 94 = .ok (.aload_n 0, 1) := by decide +kernel
theorem dX2_call_95 : decode cX2_call 95 = .ok (.aload_n 0, 1) := by decide +kernel
theorem dX2_call_96 : decode cX2_call 96 = .ok (.invokevirtual 214, 3) := by decide +kernel
theorem dX2_call_99 : decode cX2_call 99 = .ok (.l2i, 1) := by decide +kernel
theorem dX2_call_100 : decode cX2_call 100 = .ok (.putfield 164, 3) := by decide +kernel
theorem dX2_call_103 : decode cX2_call 103 = .ok (.aload_n 0, 1) := by decide +kernel
theorem dX2_call_104 : decode cX2_call 104 = .ok (.iconst 5, 1) := by decide +kernel
theorem dX2_call_105 : decode cX2_call 105 = .ok (.iload_n 3, 1) := by decide +kernel
theorem dX2_call_106 : decode cX2_call 106 = .ok (.invokevirtual 190, 3) := by decide +kernel
theorem dX2_call_109 : decode cX2_call 109 = .ok (.return_, 1) := by decide +kernel
abbrev cX2_go : ByteArray := prog_4_method_11_code
def yX2_go : MethodName := ⟨RX2, "go", "()V"⟩
theorem dX2_go_0 : decode cX2_go 0 = .ok (.aload_n 0, 1) := by decide +kernel
theorem dX2_go_1 : decode cX2_go 1 = .ok (.getfield 137, 3) := by decide +kernel
theorem dX2_go_4 : decode cX2_go 4 = .ok (.ifCond .lt 17, 3) := by decide +kernel
theorem dX2_go_7 : decode cX2_go 7 = .ok (.aload_n 0, 1) := by decide +kernel
theorem dX2_go_8 : decode cX2_go 8 = .ok (.getfield 137, 3) := by decide +kernel
theorem dX2_go_11 : decode cX2_go 11 = .ok (.aload_n 0, 1) := by decide +kernel
theorem dX2_go_12 : decode cX2_go 12 = .ok (.getfield 32, 3) := by decide +kernel
theorem dX2_go_15 : decode cX2_go 15 = .ok (.getfield 175, 3) := by decide +kernel
theorem dX2_go_18 : decode cX2_go 18 = .ok (.if_icmp .lt 9, 3) := by decide +kernel
theorem dX2_go_21 : decode cX2_go 21 = .ok (.aload_n 0, 1) := by decide +kernel
theorem dX2_go_22 : decode cX2_go 22 = .ok (.iconst 0, 1) := by decide +kernel
theorem dX2_go_23 : decode cX2_go 23 = .ok (.putfield 167, 3) := by decide +kernel
theorem dX2_go_26 : decode cX2_go 26 = .ok (.return_, 1) := by decide +kernel
theorem dX2_go_27 : decode cX2_go 27 = .ok (.aload_n 0, 1) := by decide +kernel
theorem dX2_go_28 : decode cX2_go 28 = .ok (.getfield 32, 3) := by decide +kernel
theorem dX2_go_31 : decode cX2_go 31 = .ok (.getfield 178, 3) := by decide +kernel
theorem dX2_go_34 : decode cX2_go 34 = .ok (.aload_n 0, 1) := by decide +kernel
theorem dX2_go_35 : decode cX2_go 35 = .ok (.getfield 137, 3) := by decide +kernel
theorem dX2_go_38 : decode cX2_go 38 = .ok (.iaload, 1) := by decide +kernel
theorem dX2_go_39 : decode cX2_go 39 = .ok (.istore_n 1, 1) := by decide +kernel
theorem dX2_go_40 : decode cX2_go 40 = .ok (.aload_n 0, 1) := by decide +kernel
theorem dX2_go_41 : decode cX2_go 41 = .ok (.getfield 32, 3) := by decide +kernel
theorem dX2_go_44 : decode cX2_go 44 = .ok (.getfield 181, 3) := by decide +kernel
theorem dX2_go_47 : decode cX2_go 47 = .ok (.aload_n 0, 1) := by decide +kernel
theorem dX2_go_48 : decode cX2_go 48 = .ok (.getfield 137, 3) := by decide +kernel
theorem dX2_go_51 : decode cX2_go 51 = .ok (.iaload, 1) := by decide +kernel
theorem dX2_go_52 : decode cX2_go 52 = .ok (.istore_n 2, 1) := by decide +kernel
theorem dX2_go_53 : decode cX2_go 53 = .ok (.aload_n 0, 1) := by decide +kernel
theorem dX2_go_54 : decode cX2_go 54 = .ok (.getfield 32, 3) := by decide +kernel
theorem dX2_go_57 : decode cX2_go 57 = .ok (.getfield 184, 3) := by decide +kernel
theorem dX2_go_60 : decode cX2_go 60 = .ok (.aload_n 0, 1) := by decide +kernel
theorem dX2_go_61 : decode cX2_go 61 = .ok (.getfield 137, 3) := by decide +kernel
theorem dX2_go_64 : decode cX2_go 64 = .ok (.iaload, 1) := by decide +kernel
theorem dX2_go_65 : decode cX2_go 65 = .ok (.istore_n 3, 1) := by decide +kernel
theorem dX2_go_66 : decode cX2_go 66 = .ok (.aload_n 0, 1) := by decide +kernel
theorem dX2_go_67 : decode cX2_go 67 = .ok (.getfield 32, 3) := by decide +kernel
theorem dX2_go_70 : decode cX2_go 70 = .ok (.getfield 187, 3) := by decide +kernel
theorem dX2_go_73 : decode cX2_go 73 = .ok (.aload_n 0, 1) := by decide +kernel
theorem dX2_go_74 : decode cX2_go 74 = .ok (.getfield 137, 3) := by decide +kernel
theorem dX2_go_77 : decode cX2_go 77 = .ok (.iaload, 1) := by decide +kernel
theorem dX2_go_78 : decode cX2_go 78 = .ok (.istore 4, 2) := by decide +kernel
theorem dX2_go_80 : decode cX2_go 80 = .ok (.aload_n 0, 1) := by decide +kernel
theorem dX2_go_81 : decode cX2_go 81 = .ok (.dup, 1) := by decide +kernel
theorem dX2_go_82 : decode cX2_go 82 = .ok (.getfield 137, 3) := by decide +kernel
theorem dX2_go_85 : decode cX2_go 85 = .ok (.iconst 1, 1) := by decide +kernel
theorem dX2_go_86 : decode cX2_go 86 = .ok (.iadd, 1) := by decide +kernel
theorem dX2_go_87 : decode cX2_go 87 = .ok (.putfield 137, 3) := by decide +kernel
theorem dX2_go_90 : decode cX2_go 90 = .ok (.iload_n 1, 1) := by decide +kernel
theorem dX2_go_91 : decode cX2_go 91 = .ok (.bipush 64, 2) := by decide +kernel
theorem dX2_go_93 : decode cX2_go 93 = .ok (.if_icmp .lt 35, 3) := by decide +kernel
theorem dX2_go_96 : decode cX2_go 96 = .ok (.aload_n 0, 1) := by decide +kernel
theorem dX2_go_97 : decode cX2_go 97 = .ok (.getfield 155, 3) := by decide +kernel
theorem dX2_go_100 : decode cX2_go 100 = .ok (.aload_n 0, 1) := by decide +kernel
theorem dX2_go_101 : decode cX2_go 101 = .ok (.getfield 140, 3) := by decide +kernel
theorem dX2_go_104 : decode cX2_go 104 = .ok (.if_icmp .lt 11, 3) := by decide +kernel
theorem dX2_go_107 : decode cX2_go 107 = .ok (.aload_n 0, 1) := by decide +kernel
theorem dX2_go_108 : decode cX2_go 108 = .ok (.iconst 3, 1) := by decide +kernel
theorem dX2_go_109 : decode cX2_go 109 = .ok (.iload 4, 2) := by decide +kernel
theorem dX2_go_111 : decode cX2_go 111 = .ok (.invokevirtual 190, 3) := by decide +kernel
theorem dX2_go_114 : decode cX2_go 114 = .ok (.return_, 1) := by decide +kernel
theorem dX2_go_115 : decode cX2_go 115 = .ok (.aload_n 0, 1) := by decide +kernel
theorem dX2_go_116 : decode cX2_go 116 = .ok (.dup, 1) := by decide +kernel
theorem dX2_go_117 : decode cX2_go 117 = .ok (.getfield 155, 3) := by decide +kernel
theorem dX2_go_120 : decode cX2_go 120 = .ok (.iconst 1, 1) := by decide +kernel
theorem dX2_go_121 : decode cX2_go 121 = .ok (.iadd, 1) := by decide +kernel
theorem dX2_go_122 : decode cX2_go 122 = .ok (.putfield 155, 3) := by decide +kernel
theorem dX2_go_125 : decode cX2_go 125 = .ok (.iinc 1 (-64), 3) := by decide +kernel
theorem dX2_go_128 : decode cX2_go 128 = .ok (.iload_n 1, 1) := by decide +kernel
theorem dX2_go_129 : decode cX2_go 129 = .ok (.bipush 20, 2) := by decide +kernel
theorem dX2_go_131 : decode cX2_go 131 = .ok (.if_icmp .ge 15, 3) := by decide +kernel
theorem dX2_go_134 : decode cX2_go 134 = .ok (.aload_n 0, 1) := by decide +kernel
theorem dX2_go_135 : decode cX2_go 135 = .ok (.iload_n 1, 1) := by decide +kernel
theorem dX2_go_136 : decode cX2_go 136 = .ok (.iload_n 2, 1) := by decide +kernel
theorem dX2_go_137 : decode cX2_go 137 = .ok (.iload_n 3, 1) := by decide +kernel
theorem dX2_go_138 : decode cX2_go 138 = .ok (.iload 4, 2) := by decide +kernel
theorem dX2_go_140 : decode cX2_go 140 = .ok (.invokevirtual 194, 3) := by decide +kernel
theorem dX2_go_143 : decode cX2_go 143 = .ok (.goto 45, 3) := by decide +kernel
theorem dX2_go_146 : decode cX2_go 146 = .ok (.iload_n 1, 1) := by decide +kernel
theorem dX2_go_147 : decode cX2_go 147 = .ok (.bipush 30, 2) := by decide +kernel
theorem dX2_go_149 : decode cX2_go 149 = .ok (.if_icmp .ge 15, 3) := by decide +kernel
theorem dX2_go_152 : decode cX2_go 152 = .ok (.aload_n 0, 1) := by decide +kernel
theorem dX2_go_153 : decode cX2_go 153 = .ok (.iload_n 1, 1) := by decide +kernel
theorem dX2_go_154 : decode cX2_go 154 = .ok (.iload_n 2, 1) := by decide +kernel
theorem dX2_go_155 : decode cX2_go 155 = .ok (.iload_n 3, 1) := by decide +kernel
theorem dX2_go_156 : decode cX2_go 156 = .ok (.iload 4, 2) := by decide +kernel
theorem dX2_go_158 : decode cX2_go 158 = .ok (.invokevirtual 198, 3) := by decide +kernel
theorem dX2_go_161 : decode cX2_go 161 = .ok (.goto 27, 3) := by decide +kernel
theorem dX2_go_164 : decode cX2_go 164 = .ok (.iload_n 1, 1) := by decide +kernel
theorem dX2_go_165 : decode cX2_go 165 = .ok (.bipush 37, 2) := by decide +kernel
theorem dX2_go_167 : decode cX2_go 167 = .ok (.if_icmp .ge 13, 3) := by decide +kernel
theorem dX2_go_170 : decode cX2_go 170 = .ok (.aload_n 0, 1) := by decide +kernel
theorem dX2_go_171 : decode cX2_go 171 = .ok (.iload_n 1, 1) := by decide +kernel
theorem dX2_go_172 : decode cX2_go 172 = .ok (.iload_n 2, 1) := by decide +kernel
theorem dX2_go_173 : decode cX2_go 173 = .ok (.iload_n 3, 1) := by decide +kernel
theorem dX2_go_174 : decode cX2_go 174 = .ok (.invokevirtual 201, 3) := by decide +kernel
theorem dX2_go_177 : decode cX2_go 177 = .ok (.goto 11, 3) := by decide +kernel
theorem dX2_go_180 : decode cX2_go 180 = .ok (.aload_n 0, 1) := by decide +kernel
theorem dX2_go_181 : decode cX2_go 181 = .ok (.iload_n 1, 1) := by decide +kernel
theorem dX2_go_182 : decode cX2_go 182 = .ok (.iload_n 2, 1) := by decide +kernel
theorem dX2_go_183 : decode cX2_go 183 = .ok (.iload 4, 2) := by decide +kernel
theorem dX2_go_185 : decode cX2_go 185 = .ok (.invokevirtual 205, 3) := by decide +kernel
theorem dX2_go_188 : decode cX2_go 188 = .ok (.return_, 1) := by decide +kernel
abbrev cX2_run : ByteArray := prog_4_method_10_code
def yX2_run : MethodName := ⟨RX2, "run", "(LSoftController$Program;III)V"⟩
theorem dX2_run_0 : decode cX2_run 0 = .ok (.aload_n 0, 1) := by decide +kernel
theorem dX2_run_1 : decode cX2_run 1 = .ok (.aload_n 1, 1) := by decide +kernel
theorem dX2_run_2 : decode cX2_run 2 = .ok (.putfield 32, 3) := by decide +kernel
theorem dX2_run_5 : decode cX2_run 5 = .ok (.aload_n 0, 1) := by decide +kernel
theorem dX2_run_6 : decode cX2_run 6 = .ok (.iload_n 2, 1) := by decide +kernel
theorem dX2_run_7 : decode cX2_run 7 = .ok (.putfield 137, 3) := by decide +kernel
theorem dX2_run_10 : decode cX2_run 10 = .ok (.aload_n 0, 1) := by decide +kernel
theorem dX2_run_11 : decode cX2_run 11 = .ok (.iload_n 3, 1) := by decide +kernel
theorem dX2_run_12 : decode cX2_run 12 = .ok (.putfield 140, 3) := by decide +kernel
theorem dX2_run_15 : decode cX2_run 15 = .ok (.aload_n 0, 1) := by decide +kernel
theorem dX2_run_16 : decode cX2_run 16 = .ok (.iload 4, 2) := by decide +kernel
theorem dX2_run_18 : decode cX2_run 18 = .ok (.putfield 143, 3) := by decide +kernel
theorem dX2_run_21 : decode cX2_run 21 = .ok (.aload_n 0, 1) := by decide +kernel
theorem dX2_run_22 : decode cX2_run 22 = .ok (.sipush 2000, 3) := by decide +kernel
theorem dX2_run_25 : decode cX2_run 25 = .ok (.putfield 146, 3) := by decide +kernel
theorem dX2_run_28 : decode cX2_run 28 = .ok (.aload_n 0, 1) := by decide +kernel
theorem dX2_run_29 : decode cX2_run 29 = .ok (.sipush 2000, 3) := by decide +kernel
theorem dX2_run_32 : decode cX2_run 32 = .ok (.putfield 149, 3) := by decide +kernel
theorem dX2_run_35 : decode cX2_run 35 = .ok (.aload_n 0, 1) := by decide +kernel
theorem dX2_run_36 : decode cX2_run 36 = .ok (.iconst 0, 1) := by decide +kernel
theorem dX2_run_37 : decode cX2_run 37 = .ok (.putfield 152, 3) := by decide +kernel
theorem dX2_run_40 : decode cX2_run 40 = .ok (.aload_n 0, 1) := by decide +kernel
theorem dX2_run_41 : decode cX2_run 41 = .ok (.iconst 0, 1) := by decide +kernel
theorem dX2_run_42 : decode cX2_run 42 = .ok (.putfield 155, 3) := by decide +kernel
theorem dX2_run_45 : decode cX2_run 45 = .ok (.aload_n 0, 1) := by decide +kernel
theorem dX2_run_46 : decode cX2_run 46 = .ok (.iconst 0, 1) := by decide +kernel
theorem dX2_run_47 : decode cX2_run 47 = .ok (.putfield 158, 3) := by decide +kernel
theorem dX2_run_50 : decode cX2_run 50 = .ok (.aload_n 0, 1) := by decide +kernel
theorem dX2_run_51 : decode cX2_run 51 = .ok (.iconst 0, 1) := by decide +kernel
theorem dX2_run_52 : decode cX2_run 52 = .ok (.putfield 161, 3) := by decide +kernel
theorem dX2_run_55 : decode cX2_run 55 = .ok (.aload_n 0, 1) := by decide +kernel
theorem dX2_run_56 : decode cX2_run 56 = .ok (.iconst 0, 1) := by decide +kernel
theorem dX2_run_57 : decode cX2_run 57 = .ok (.putfield 164, 3) := by decide +kernel
theorem dX2_run_60 : decode cX2_run 60 = .ok (.aload_n 0, 1) := by decide +kernel
theorem dX2_run_61 : decode cX2_run 61 = .ok (.iconst 1, 1) := by decide +kernel
theorem dX2_run_62 : decode cX2_run 62 = .ok (.putfield 167, 3) := by decide +kernel
theorem dX2_run_65 : decode cX2_run 65 = .ok (.iconst 0, 1) := by decide +kernel
theorem dX2_run_66 : decode cX2_run 66 = .ok (.istore 5, 2) := by decide +kernel
theorem dX2_run_68 : decode cX2_run 68 = .ok (.iload 5, 2) := by decide +kernel
theorem dX2_run_70 : decode cX2_run 70 = .ok (.ldc 171, 2) := by decide +kernel
theorem dX2_run_72 : decode cX2_run 72 = .ok (.if_icmp .ge 20, 3) := by decide +kernel
theorem dX2_run_75 : decode cX2_run 75 = .ok (.aload_n 0, 1) := by decide +kernel
theorem dX2_run_76 : decode cX2_run 76 = .ok (.getfield 167, 3) := by decide +kernel
theorem dX2_run_79 : decode cX2_run 79 = .ok (.ifCond .eq 13, 3) := by decide +kernel
theorem dX2_run_82 : decode cX2_run 82 = .ok (.aload_n 0, 1) := by decide +kernel
theorem dX2_run_83 : decode cX2_run 83 = .ok (.invokevirtual 172, 3) := by decide +kernel
theorem dX2_run_86 : decode cX2_run 86 = .ok (.iinc 5 1, 3) := by decide +kernel
theorem dX2_run_89 : decode cX2_run 89 = .ok (.goto (-21), 3) := by decide +kernel
theorem dX2_run_92 : decode cX2_run 92 = .ok (.return_, 1) := by decide +kernel
abbrev cX7_note : ByteArray := prog_9_method_4_code
def yX7_note : MethodName := ⟨RX7, "note", "(LSoftController$Machine;I)V"⟩
theorem dX7_note_0 : decode cX7_note 0 = .ok (.aload_n 0, 1) := by decide +kernel
theorem dX7_note_1 : decode cX7_note 1 = .ok (.dup, 1) := by decide +kernel
theorem dX7_note_2 : decode cX7_note 2 = .ok (.getfield 23, 3) := by decide +kernel
theorem dX7_note_5 : decode cX7_note 5 = .ok (.iconst 1, 1) := by decide +kernel
theorem dX7_note_6 : decode cX7_note 6 = .ok (.iadd, 1) := by decide +kernel
theorem dX7_note_7 : decode cX7_note 7 = .ok (.putfield 23, 3) := by decide +kernel
theorem dX7_note_10 : decode cX7_note 10 = .ok (.aload_n 0, 1) := by decide +kernel
theorem dX7_note_11 : decode cX7_note 11 = .ok (.aload_n 1, 1) := by decide +kernel
theorem dX7_note_12 : decode cX7_note 12 = .ok (.getfield 47, 3) := by decide +kernel
theorem dX7_note_15 : decode cX7_note 15 = .ok (.putfield 26, 3) := by decide +kernel
theorem dX7_note_18 : decode cX7_note 18 = .ok (.aload_n 1, 1) := by decide +kernel
theorem dX7_note_19 : decode cX7_note 19 = .ok (.getfield 50, 3) := by decide +kernel
theorem dX7_note_22 : decode cX7_note 22 = .ok (.ifCond .eq 37, 3) := by decide +kernel
theorem dX7_note_25 : decode cX7_note 25 = .ok (.aload_n 0, 1) := by decide +kernel
theorem dX7_note_26 : decode cX7_note 26 = .ok (.iconst 1, 1) := by decide +kernel
theorem dX7_note_27 : decode cX7_note 27 = .ok (.putfield 19, 3) := by decide +kernel
theorem dX7_note_30 : decode cX7_note 30 = .ok (.aload_n 0, 1) := by decide +kernel
theorem dX7_note_31 : decode cX7_note 31 = .ok (.aload_n 1, 1) := by decide +kernel
theorem dX7_note_32 : decode cX7_note 32 = .ok (.getfield 50, 3) := by decide +kernel
theorem dX7_note_35 : decode cX7_note 35 = .ok (.putfield 29, 3) := by decide +kernel
theorem dX7_note_38 : decode cX7_note 38 = .ok (.aload_n 0, 1) := by decide +kernel
theorem dX7_note_39 : decode cX7_note 39 = .ok (.aload_n 1, 1) := by decide +kernel
theorem dX7_note_40 : decode cX7_note 40 = .ok (.getfield 51, 3) := by decide +kernel
theorem dX7_note_43 : decode cX7_note 43 = .ok (.putfield 32, 3) := by decide +kernel
theorem dX7_note_46 : decode cX7_note 46 = .ok (.aload_n 0, 1) := by decide +kernel
theorem dX7_note_47 : decode cX7_note 47 = .ok (.iload_n 2, 1) := by decide +kernel
theorem dX7_note_48 : decode cX7_note 48 = .ok (.putfield 35, 3) := by decide +kernel
theorem dX7_note_51 : decode cX7_note 51 = .ok (.aload_n 0, 1) := by decide +kernel
theorem dX7_note_52 : decode cX7_note 52 = .ok (.aload_n 1, 1) := by decide +kernel
theorem dX7_note_53 : decode cX7_note 53 = .ok (.getfield 52, 3) := by decide +kernel
theorem dX7_note_56 : decode cX7_note 56 = .ok (.putfield 38, 3) := by decide +kernel
theorem dX7_note_59 : decode cX7_note 59 = .ok (.return_, 1) := by decide +kernel
theorem gs_6_10 : Cond.selects "SoftController$Machine" ⟨"SoftController$Machine", "push", "(J)V"⟩ ⟨"SoftController$Machine", "push", "(J)V"⟩ ∈ GW := gw_s (List.mem_map.mpr ⟨_, pin_6 _ (List.mem_of_getElem? (i := 10) rfl), rfl⟩) rfl
theorem gs_6_11 : Cond.selects "SoftController$Machine" ⟨"SoftController$Machine", "pop", "()J"⟩ ⟨"SoftController$Machine", "pop", "()J"⟩ ∈ GW := gw_s (List.mem_map.mpr ⟨_, pin_6 _ (List.mem_of_getElem? (i := 11) rfl), rfl⟩) rfl
theorem gs_6_12 : Cond.selects "SoftController$Machine" ⟨"SoftController$Machine", "address", "(III)V"⟩ ⟨"SoftController$Machine", "address", "(III)V"⟩ ∈ GW := gw_s (List.mem_map.mpr ⟨_, pin_6 _ (List.mem_of_getElem? (i := 12) rfl), rfl⟩) rfl
theorem gs_6_13 : Cond.selects "SoftController$Machine" ⟨"SoftController$Machine", "assign", "(I)V"⟩ ⟨"SoftController$Machine", "assign", "(I)V"⟩ ∈ GW := gw_s (List.mem_map.mpr ⟨_, pin_6 _ (List.mem_of_getElem? (i := 13) rfl), rfl⟩) rfl
theorem gs_6_14 : Cond.selects "SoftController$Machine" ⟨"SoftController$Machine", "reckon", "(IIII)V"⟩ ⟨"SoftController$Machine", "reckon", "(IIII)V"⟩ ∈ GW := gw_s (List.mem_map.mpr ⟨_, pin_6 _ (List.mem_of_getElem? (i := 14) rfl), rfl⟩) rfl
theorem gs_6_15 : Cond.selects "SoftController$Machine" ⟨"SoftController$Machine", "turn", "(III)V"⟩ ⟨"SoftController$Machine", "turn", "(III)V"⟩ ∈ GW := gw_s (List.mem_map.mpr ⟨_, pin_6 _ (List.mem_of_getElem? (i := 15) rfl), rfl⟩) rfl
theorem gs_6_4 : Cond.selects "SoftController$Machine" ⟨"SoftController$Machine", "put", "(IJ)V"⟩ ⟨"SoftController$Machine", "put", "(IJ)V"⟩ ∈ GW := gw_s (List.mem_map.mpr ⟨_, pin_6 _ (List.mem_of_getElem? (i := 4) rfl), rfl⟩) rfl
theorem gs_6_5 : Cond.selects "SoftController$Machine" ⟨"SoftController$Machine", "keep", "(LSoftController$Name;LSoftController$Name;)V"⟩ ⟨"SoftController$Machine", "keep", "(LSoftController$Name;LSoftController$Name;)V"⟩ ∈ GW := gw_s (List.mem_map.mpr ⟨_, pin_6 _ (List.mem_of_getElem? (i := 5) rfl), rfl⟩) rfl
theorem gs_6_7 : Cond.selects "SoftController$Machine" ⟨"SoftController$Machine", "go", "()V"⟩ ⟨"SoftController$Machine", "go", "()V"⟩ ∈ GW := gw_s (List.mem_map.mpr ⟨_, pin_6 _ (List.mem_of_getElem? (i := 7) rfl), rfl⟩) rfl
theorem gs_6_8 : Cond.selects "SoftController$Machine" ⟨"SoftController$Machine", "stop", "(II)V"⟩ ⟨"SoftController$Machine", "stop", "(II)V"⟩ ∈ GW := gw_s (List.mem_map.mpr ⟨_, pin_6 _ (List.mem_of_getElem? (i := 8) rfl), rfl⟩) rfl
theorem gs_6_9 : Cond.selects "SoftController$Machine" ⟨"SoftController$Machine", "move", "(IIII)V"⟩ ⟨"SoftController$Machine", "move", "(IIII)V"⟩ ∈ GW := gw_s (List.mem_map.mpr ⟨_, pin_6 _ (List.mem_of_getElem? (i := 9) rfl), rfl⟩) rfl
theorem gs_7_0 : Cond.selects "SoftController$Machine" ⟨"SoftController$Machine", "decide", "(ZI)V"⟩ ⟨"SoftController$Machine", "decide", "(ZI)V"⟩ ∈ GW := gw_s (List.mem_map.mpr ⟨_, pin_7 _ (List.mem_of_getElem? (i := 0) rfl), rfl⟩) rfl
theorem gs_7_1 : Cond.selects "SoftController$Machine" ⟨"SoftController$Machine", "call", "(III)V"⟩ ⟨"SoftController$Machine", "call", "(III)V"⟩ ∈ GW := gw_s (List.mem_map.mpr ⟨_, pin_7 _ (List.mem_of_getElem? (i := 1) rfl), rfl⟩) rfl
theorem gs_7_2 : Cond.selects "SoftController$Machine" ⟨"SoftController$Machine", "enterFunction", "(LSoftController$Name;I)V"⟩ ⟨"SoftController$Machine", "enterFunction", "(LSoftController$Name;I)V"⟩ ∈ GW := gw_s (List.mem_map.mpr ⟨_, pin_7 _ (List.mem_of_getElem? (i := 2) rfl), rfl⟩) rfl
theorem gs_7_3 : Cond.selects "SoftController$Machine" ⟨"SoftController$Machine", "remember", "(I)V"⟩ ⟨"SoftController$Machine", "remember", "(I)V"⟩ ∈ GW := gw_s (List.mem_map.mpr ⟨_, pin_7 _ (List.mem_of_getElem? (i := 3) rfl), rfl⟩) rfl
theorem gs_7_4 : Cond.selects "SoftController$Machine" ⟨"SoftController$Machine", "enterInstance", "(LSoftController$Name;I)V"⟩ ⟨"SoftController$Machine", "enterInstance", "(LSoftController$Name;I)V"⟩ ∈ GW := gw_s (List.mem_map.mpr ⟨_, pin_7 _ (List.mem_of_getElem? (i := 4) rfl), rfl⟩) rfl
theorem gs_7_5 : Cond.selects "SoftController$Machine" ⟨"SoftController$Machine", "comeBack", "()V"⟩ ⟨"SoftController$Machine", "comeBack", "()V"⟩ ∈ GW := gw_s (List.mem_map.mpr ⟨_, pin_7 _ (List.mem_of_getElem? (i := 5) rfl), rfl⟩) rfl
theorem gw_1376 : (Jvm.Cond.methodLink "SoftController" (360 : Nat) ({ cls := "SoftController$Machine", name := "install", desc := "(LSoftController$Program;LSoftController$Program;Z)V" } : Jvm.MethodName)) ∈ GW := gw_t (tin_6 _ (List.mem_of_getElem? (i := 176) rfl)) rfl
theorem gw_1377 : (Jvm.Cond.instanceMethod ({ cls := "SoftController$Machine", name := "install", desc := "(LSoftController$Program;LSoftController$Program;Z)V" } : Jvm.MethodName)) ∈ GW := gw_t (tin_6 _ (List.mem_of_getElem? (i := 177) rfl)) rfl
theorem gw_1378 : (Jvm.Cond.selects "SoftController$Machine" ({ cls := "SoftController$Machine", name := "install", desc := "(LSoftController$Program;LSoftController$Program;Z)V" } : Jvm.MethodName) ({ cls := "SoftController$Machine", name := "install", desc := "(LSoftController$Program;LSoftController$Program;Z)V" } : Jvm.MethodName)) ∈ GW := gw_t (tin_6 _ (List.mem_of_getElem? (i := 178) rfl)) rfl
theorem gw_1379 : (Jvm.Cond.code ({ cls := "SoftController$Machine", name := "install", desc := "(LSoftController$Program;LSoftController$Program;Z)V" } : Jvm.MethodName) prog_4_method_7_code (6 : Nat) (Option.none : Option Jvm.ClassFile.FieldType)) ∈ GW := gw_t (tin_6 _ (List.mem_of_getElem? (i := 179) rfl)) rfl
theorem gw_1380 : (Jvm.Cond.methodLink "SoftController$Machine" (76 : Nat) ({ cls := "java/lang/System", name := "arraycopy", desc := "(Ljava/lang/Object;ILjava/lang/Object;II)V" } : Jvm.MethodName)) ∈ GW := gw_t (tin_6 _ (List.mem_of_getElem? (i := 180) rfl)) rfl
theorem gw_1381 : (Jvm.Cond.static ({ cls := "java/lang/System", name := "arraycopy", desc := "(Ljava/lang/Object;ILjava/lang/Object;II)V" } : Jvm.MethodName)) ∈ GW := gw_t (tin_6 _ (List.mem_of_getElem? (i := 181) rfl)) rfl
theorem gw_1382 : (Jvm.Cond.native ({ cls := "java/lang/System", name := "arraycopy", desc := "(Ljava/lang/Object;ILjava/lang/Object;II)V" } : Jvm.MethodName)) ∈ GW := gw_t (tin_6 _ (List.mem_of_getElem? (i := 182) rfl)) rfl
theorem gw_1396 : (Jvm.Cond.methodLink "SoftController$Machine" (99 : Nat) ({ cls := "SoftController$Machine", name := "fill", desc := "(IIJ)V" } : Jvm.MethodName)) ∈ GW := gw_t (tin_6 _ (List.mem_of_getElem? (i := 196) rfl)) rfl
theorem gw_1397 : (Jvm.Cond.instanceMethod ({ cls := "SoftController$Machine", name := "fill", desc := "(IIJ)V" } : Jvm.MethodName)) ∈ GW := gw_t (tin_6 _ (List.mem_of_getElem? (i := 197) rfl)) rfl
theorem gw_1398 : (Jvm.Cond.selects "SoftController$Machine" ({ cls := "SoftController$Machine", name := "fill", desc := "(IIJ)V" } : Jvm.MethodName) ({ cls := "SoftController$Machine", name := "fill", desc := "(IIJ)V" } : Jvm.MethodName)) ∈ GW := gw_t (tin_6 _ (List.mem_of_getElem? (i := 198) rfl)) rfl
theorem gw_1399 : (Jvm.Cond.code ({ cls := "SoftController$Machine", name := "fill", desc := "(IIJ)V" } : Jvm.MethodName) prog_4_method_4_code (6 : Nat) (Option.none : Option Jvm.ClassFile.FieldType)) ∈ GW := gw_t (tin_6 _ (List.mem_of_getElem? (i := 199) rfl)) rfl
theorem gw_1400 : (Jvm.Cond.methodLink "SoftController$Machine" (36 : Nat) ({ cls := "SoftController$Machine", name := "put", desc := "(IJ)V" } : Jvm.MethodName)) ∈ GW := gw_t (tin_6 _ (List.mem_of_getElem? (i := 200) rfl)) rfl
theorem gw_1402 : (Jvm.Cond.instanceMethod ({ cls := "SoftController$Machine", name := "put", desc := "(IJ)V" } : Jvm.MethodName)) ∈ GW := gw_t (tin_6 _ (List.mem_of_getElem? (i := 202) rfl)) rfl
theorem gw_1403 : (Jvm.Cond.code ({ cls := "SoftController$Machine", name := "put", desc := "(IJ)V" } : Jvm.MethodName) prog_4_method_3_code (4 : Nat) (Option.none : Option Jvm.ClassFile.FieldType)) ∈ GW := gw_t (tin_6 _ (List.mem_of_getElem? (i := 203) rfl)) rfl
theorem gw_1405 : (Jvm.Cond.methodLink "SoftController$Machine" (112 : Nat) ({ cls := "SoftController$Machine", name := "keep", desc := "(LSoftController$Name;LSoftController$Name;)V" } : Jvm.MethodName)) ∈ GW := gw_t (tin_6 _ (List.mem_of_getElem? (i := 205) rfl)) rfl
theorem gw_1407 : (Jvm.Cond.instanceMethod ({ cls := "SoftController$Machine", name := "keep", desc := "(LSoftController$Name;LSoftController$Name;)V" } : Jvm.MethodName)) ∈ GW := gw_t (tin_6 _ (List.mem_of_getElem? (i := 207) rfl)) rfl
theorem gw_1408 : (Jvm.Cond.code ({ cls := "SoftController$Machine", name := "keep", desc := "(LSoftController$Name;LSoftController$Name;)V" } : Jvm.MethodName) prog_4_method_8_code (4 : Nat) (Option.none : Option Jvm.ClassFile.FieldType)) ∈ GW := gw_t (tin_6 _ (List.mem_of_getElem? (i := 208) rfl)) rfl
theorem gw_1409 : (Jvm.Cond.methodLink "SoftController$Machine" (70 : Nat) ({ cls := "SoftController$Numbers", name := "cutTo", desc := "(IJ)J" } : Jvm.MethodName)) ∈ GW := gw_t (tin_6 _ (List.mem_of_getElem? (i := 209) rfl)) rfl
theorem gw_1410 : (Jvm.Cond.methodLink "SoftController$Machine" (116 : Nat) ({ cls := "SoftController$Machine", name := "resetInstances", desc := "(LSoftController$Program;)V" } : Jvm.MethodName)) ∈ GW := gw_t (tin_6 _ (List.mem_of_getElem? (i := 210) rfl)) rfl
theorem gw_1411 : (Jvm.Cond.instanceMethod ({ cls := "SoftController$Machine", name := "resetInstances", desc := "(LSoftController$Program;)V" } : Jvm.MethodName)) ∈ GW := gw_t (tin_6 _ (List.mem_of_getElem? (i := 211) rfl)) rfl
theorem gw_1412 : (Jvm.Cond.selects "SoftController$Machine" ({ cls := "SoftController$Machine", name := "resetInstances", desc := "(LSoftController$Program;)V" } : Jvm.MethodName) ({ cls := "SoftController$Machine", name := "resetInstances", desc := "(LSoftController$Program;)V" } : Jvm.MethodName)) ∈ GW := gw_t (tin_6 _ (List.mem_of_getElem? (i := 212) rfl)) rfl
theorem gw_1413 : (Jvm.Cond.code ({ cls := "SoftController$Machine", name := "resetInstances", desc := "(LSoftController$Program;)V" } : Jvm.MethodName) prog_4_method_9_code (7 : Nat) (Option.none : Option Jvm.ClassFile.FieldType)) ∈ GW := gw_t (tin_6 _ (List.mem_of_getElem? (i := 213) rfl)) rfl
theorem gw_1435 : (Jvm.Cond.methodLink "SoftController" (140 : Nat) ({ cls := "SoftController$Machine", name := "fill", desc := "(IIJ)V" } : Jvm.MethodName)) ∈ GW := gw_t (tin_6 _ (List.mem_of_getElem? (i := 235) rfl)) rfl
theorem gw_1436 : (Jvm.Cond.methodLink "SoftController" (144 : Nat) ({ cls := "SoftController$Machine", name := "resetInstances", desc := "(LSoftController$Program;)V" } : Jvm.MethodName)) ∈ GW := gw_t (tin_6 _ (List.mem_of_getElem? (i := 236) rfl)) rfl
theorem gw_1442 : (Jvm.Cond.methodLink "SoftController" (212 : Nat) ({ cls := "SoftController$Machine", name := "numberOf", desc := "(LSoftController$Name;I)J" } : Jvm.MethodName)) ∈ GW := gw_t (tin_7 _ (List.mem_of_getElem? (i := 2) rfl)) rfl
theorem gw_1443 : (Jvm.Cond.instanceMethod ({ cls := "SoftController$Machine", name := "numberOf", desc := "(LSoftController$Name;I)J" } : Jvm.MethodName)) ∈ GW := gw_t (tin_7 _ (List.mem_of_getElem? (i := 3) rfl)) rfl
theorem gw_1444 : (Jvm.Cond.selects "SoftController$Machine" ({ cls := "SoftController$Machine", name := "numberOf", desc := "(LSoftController$Name;I)J" } : Jvm.MethodName) ({ cls := "SoftController$Machine", name := "numberOf", desc := "(LSoftController$Name;I)J" } : Jvm.MethodName)) ∈ GW := gw_t (tin_7 _ (List.mem_of_getElem? (i := 4) rfl)) rfl
theorem gw_1445 : (Jvm.Cond.code ({ cls := "SoftController$Machine", name := "numberOf", desc := "(LSoftController$Name;I)J" } : Jvm.MethodName) prog_4_method_5_code (3 : Nat) (Option.some Jvm.ClassFile.FieldType.long)) ∈ GW := gw_t (tin_7 _ (List.mem_of_getElem? (i := 5) rfl)) rfl
theorem gw_1453 : (Jvm.Cond.methodLink "SoftController$Machine" (62 : Nat) ({ cls := "SoftController$Machine", name := "numberAt", desc := "(I)J" } : Jvm.MethodName)) ∈ GW := gw_t (tin_7 _ (List.mem_of_getElem? (i := 13) rfl)) rfl
theorem gw_1454 : (Jvm.Cond.instanceMethod ({ cls := "SoftController$Machine", name := "numberAt", desc := "(I)J" } : Jvm.MethodName)) ∈ GW := gw_t (tin_7 _ (List.mem_of_getElem? (i := 14) rfl)) rfl
theorem gw_1455 : (Jvm.Cond.selects "SoftController$Machine" ({ cls := "SoftController$Machine", name := "numberAt", desc := "(I)J" } : Jvm.MethodName) ({ cls := "SoftController$Machine", name := "numberAt", desc := "(I)J" } : Jvm.MethodName)) ∈ GW := gw_t (tin_7 _ (List.mem_of_getElem? (i := 15) rfl)) rfl
theorem gw_1456 : (Jvm.Cond.code ({ cls := "SoftController$Machine", name := "numberAt", desc := "(I)J" } : Jvm.MethodName) prog_4_method_2_code (2 : Nat) (Option.some Jvm.ClassFile.FieldType.long)) ∈ GW := gw_t (tin_7 _ (List.mem_of_getElem? (i := 16) rfl)) rfl
theorem gw_1458 : (Jvm.Cond.methodLink "SoftController" (257 : Nat) ({ cls := "SoftController$Machine", name := "numberAt", desc := "(I)J" } : Jvm.MethodName)) ∈ GW := gw_t (tin_7 _ (List.mem_of_getElem? (i := 18) rfl)) rfl
theorem gw_1498 : (Jvm.Cond.methodLink "SoftController" (375 : Nat) ({ cls := "SoftController$Machine", name := "run", desc := "(LSoftController$Program;III)V" } : Jvm.MethodName)) ∈ GW := gw_t (tin_7 _ (List.mem_of_getElem? (i := 58) rfl)) rfl
theorem gw_1499 : (Jvm.Cond.instanceMethod ({ cls := "SoftController$Machine", name := "run", desc := "(LSoftController$Program;III)V" } : Jvm.MethodName)) ∈ GW := gw_t (tin_7 _ (List.mem_of_getElem? (i := 59) rfl)) rfl
theorem gw_15 : (Jvm.Cond.initialized "SoftController$Machine") ∈ GW := gw_t (tin_1 _ (List.mem_of_getElem? (i := 15) rfl)) rfl
theorem gw_1500 : (Jvm.Cond.selects "SoftController$Machine" ({ cls := "SoftController$Machine", name := "run", desc := "(LSoftController$Program;III)V" } : Jvm.MethodName) ({ cls := "SoftController$Machine", name := "run", desc := "(LSoftController$Program;III)V" } : Jvm.MethodName)) ∈ GW := gw_t (tin_7 _ (List.mem_of_getElem? (i := 60) rfl)) rfl
theorem gw_1501 : (Jvm.Cond.code ({ cls := "SoftController$Machine", name := "run", desc := "(LSoftController$Program;III)V" } : Jvm.MethodName) prog_4_method_10_code (6 : Nat) (Option.none : Option Jvm.ClassFile.FieldType)) ∈ GW := gw_t (tin_7 _ (List.mem_of_getElem? (i := 61) rfl)) rfl
theorem gw_1502 : (Jvm.Cond.constant "SoftController$Machine" (171 : Nat) (50000000 : Int32)) ∈ GW := gw_t (tin_7 _ (List.mem_of_getElem? (i := 62) rfl)) rfl
theorem gw_1503 : (Jvm.Cond.methodLink "SoftController$Machine" (172 : Nat) ({ cls := "SoftController$Machine", name := "go", desc := "()V" } : Jvm.MethodName)) ∈ GW := gw_t (tin_7 _ (List.mem_of_getElem? (i := 63) rfl)) rfl
theorem gw_1505 : (Jvm.Cond.instanceMethod ({ cls := "SoftController$Machine", name := "go", desc := "()V" } : Jvm.MethodName)) ∈ GW := gw_t (tin_7 _ (List.mem_of_getElem? (i := 65) rfl)) rfl
theorem gw_1506 : (Jvm.Cond.code ({ cls := "SoftController$Machine", name := "go", desc := "()V" } : Jvm.MethodName) prog_4_method_11_code (5 : Nat) (Option.none : Option Jvm.ClassFile.FieldType)) ∈ GW := gw_t (tin_7 _ (List.mem_of_getElem? (i := 66) rfl)) rfl
theorem gw_1507 : (Jvm.Cond.methodLink "SoftController$Machine" (190 : Nat) ({ cls := "SoftController$Machine", name := "stop", desc := "(II)V" } : Jvm.MethodName)) ∈ GW := gw_t (tin_7 _ (List.mem_of_getElem? (i := 67) rfl)) rfl
theorem gw_1509 : (Jvm.Cond.instanceMethod ({ cls := "SoftController$Machine", name := "stop", desc := "(II)V" } : Jvm.MethodName)) ∈ GW := gw_t (tin_7 _ (List.mem_of_getElem? (i := 69) rfl)) rfl
theorem gw_1510 : (Jvm.Cond.code ({ cls := "SoftController$Machine", name := "stop", desc := "(II)V" } : Jvm.MethodName) prog_4_method_12_code (3 : Nat) (Option.none : Option Jvm.ClassFile.FieldType)) ∈ GW := gw_t (tin_7 _ (List.mem_of_getElem? (i := 70) rfl)) rfl
theorem gw_1511 : (Jvm.Cond.methodLink "SoftController$Machine" (194 : Nat) ({ cls := "SoftController$Machine", name := "move", desc := "(IIII)V" } : Jvm.MethodName)) ∈ GW := gw_t (tin_7 _ (List.mem_of_getElem? (i := 71) rfl)) rfl
theorem gw_1513 : (Jvm.Cond.instanceMethod ({ cls := "SoftController$Machine", name := "move", desc := "(IIII)V" } : Jvm.MethodName)) ∈ GW := gw_t (tin_7 _ (List.mem_of_getElem? (i := 73) rfl)) rfl
theorem gw_1514 : (Jvm.Cond.code ({ cls := "SoftController$Machine", name := "move", desc := "(IIII)V" } : Jvm.MethodName) prog_4_method_15_code (5 : Nat) (Option.none : Option Jvm.ClassFile.FieldType)) ∈ GW := gw_t (tin_7 _ (List.mem_of_getElem? (i := 74) rfl)) rfl
theorem gw_1515 : (Jvm.Cond.constantLong "SoftController$Machine" (208 : Nat) (4294967295 : Int64)) ∈ GW := gw_t (tin_7 _ (List.mem_of_getElem? (i := 75) rfl)) rfl
theorem gw_1516 : (Jvm.Cond.methodLink "SoftController$Machine" (210 : Nat) ({ cls := "SoftController$Machine", name := "push", desc := "(J)V" } : Jvm.MethodName)) ∈ GW := gw_t (tin_7 _ (List.mem_of_getElem? (i := 76) rfl)) rfl
theorem gw_1518 : (Jvm.Cond.instanceMethod ({ cls := "SoftController$Machine", name := "push", desc := "(J)V" } : Jvm.MethodName)) ∈ GW := gw_t (tin_7 _ (List.mem_of_getElem? (i := 78) rfl)) rfl
theorem gw_1519 : (Jvm.Cond.code ({ cls := "SoftController$Machine", name := "push", desc := "(J)V" } : Jvm.MethodName) prog_4_method_13_code (3 : Nat) (Option.none : Option Jvm.ClassFile.FieldType)) ∈ GW := gw_t (tin_7 _ (List.mem_of_getElem? (i := 79) rfl)) rfl
theorem gw_1520 : (Jvm.Cond.methodLink "SoftController$Machine" (214 : Nat) ({ cls := "SoftController$Machine", name := "pop", desc := "()J" } : Jvm.MethodName)) ∈ GW := gw_t (tin_7 _ (List.mem_of_getElem? (i := 80) rfl)) rfl
theorem gw_1522 : (Jvm.Cond.instanceMethod ({ cls := "SoftController$Machine", name := "pop", desc := "()J" } : Jvm.MethodName)) ∈ GW := gw_t (tin_7 _ (List.mem_of_getElem? (i := 82) rfl)) rfl
theorem gw_1523 : (Jvm.Cond.code ({ cls := "SoftController$Machine", name := "pop", desc := "()J" } : Jvm.MethodName) prog_4_method_14_code (1 : Nat) (Option.some Jvm.ClassFile.FieldType.long)) ∈ GW := gw_t (tin_7 _ (List.mem_of_getElem? (i := 83) rfl)) rfl
theorem gw_1528 : (Jvm.Cond.methodLink "SoftController$Machine" (218 : Nat) ({ cls := "SoftController$Machine", name := "address", desc := "(III)V" } : Jvm.MethodName)) ∈ GW := gw_t (tin_7 _ (List.mem_of_getElem? (i := 88) rfl)) rfl
theorem gw_1530 : (Jvm.Cond.instanceMethod ({ cls := "SoftController$Machine", name := "address", desc := "(III)V" } : Jvm.MethodName)) ∈ GW := gw_t (tin_7 _ (List.mem_of_getElem? (i := 90) rfl)) rfl
theorem gw_1531 : (Jvm.Cond.code ({ cls := "SoftController$Machine", name := "address", desc := "(III)V" } : Jvm.MethodName) prog_4_method_16_code (6 : Nat) (Option.none : Option Jvm.ClassFile.FieldType)) ∈ GW := gw_t (tin_7 _ (List.mem_of_getElem? (i := 91) rfl)) rfl
theorem gw_1532 : (Jvm.Cond.methodLink "SoftController$Machine" (221 : Nat) ({ cls := "SoftController$Machine", name := "assign", desc := "(I)V" } : Jvm.MethodName)) ∈ GW := gw_t (tin_7 _ (List.mem_of_getElem? (i := 92) rfl)) rfl
theorem gw_1534 : (Jvm.Cond.instanceMethod ({ cls := "SoftController$Machine", name := "assign", desc := "(I)V" } : Jvm.MethodName)) ∈ GW := gw_t (tin_7 _ (List.mem_of_getElem? (i := 94) rfl)) rfl
theorem gw_1535 : (Jvm.Cond.code ({ cls := "SoftController$Machine", name := "assign", desc := "(I)V" } : Jvm.MethodName) prog_4_method_17_code (4 : Nat) (Option.none : Option Jvm.ClassFile.FieldType)) ∈ GW := gw_t (tin_7 _ (List.mem_of_getElem? (i := 95) rfl)) rfl
theorem gw_1536 : (Jvm.Cond.methodLink "SoftController$Machine" (198 : Nat) ({ cls := "SoftController$Machine", name := "reckon", desc := "(IIII)V" } : Jvm.MethodName)) ∈ GW := gw_t (tin_7 _ (List.mem_of_getElem? (i := 96) rfl)) rfl
theorem gw_1538 : (Jvm.Cond.instanceMethod ({ cls := "SoftController$Machine", name := "reckon", desc := "(IIII)V" } : Jvm.MethodName)) ∈ GW := gw_t (tin_7 _ (List.mem_of_getElem? (i := 98) rfl)) rfl
theorem gw_1539 : (Jvm.Cond.code ({ cls := "SoftController$Machine", name := "reckon", desc := "(IIII)V" } : Jvm.MethodName) prog_4_method_18_code (7 : Nat) (Option.none : Option Jvm.ClassFile.FieldType)) ∈ GW := gw_t (tin_7 _ (List.mem_of_getElem? (i := 99) rfl)) rfl
theorem gw_1540 : (Jvm.Cond.constantLong "SoftController$Machine" (225 : Nat) (-1 : Int64)) ∈ GW := gw_t (tin_7 _ (List.mem_of_getElem? (i := 100) rfl)) rfl
theorem gw_1541 : (Jvm.Cond.methodLink "SoftController$Machine" (227 : Nat) ({ cls := "SoftController$Numbers", name := "apply", desc := "(IZJJ)J" } : Jvm.MethodName)) ∈ GW := gw_t (tin_7 _ (List.mem_of_getElem? (i := 101) rfl)) rfl
theorem gw_1542 : (Jvm.Cond.static ({ cls := "SoftController$Numbers", name := "apply", desc := "(IZJJ)J" } : Jvm.MethodName)) ∈ GW := gw_t (tin_7 _ (List.mem_of_getElem? (i := 102) rfl)) rfl
theorem gw_1572 : (Jvm.Cond.methodLink "SoftController$Machine" (231 : Nat) ({ cls := "SoftController$Numbers", name := "divides", desc := "(I)Z" } : Jvm.MethodName)) ∈ GW := gw_t (tin_7 _ (List.mem_of_getElem? (i := 132) rfl)) rfl
theorem gw_1573 : (Jvm.Cond.static ({ cls := "SoftController$Numbers", name := "divides", desc := "(I)Z" } : Jvm.MethodName)) ∈ GW := gw_t (tin_7 _ (List.mem_of_getElem? (i := 133) rfl)) rfl
theorem gw_1575 : (Jvm.Cond.methodLink "SoftController$Machine" (235 : Nat) ({ cls := "SoftController$Numbers", name := "combine", desc := "(IZJJ)J" } : Jvm.MethodName)) ∈ GW := gw_t (tin_7 _ (List.mem_of_getElem? (i := 135) rfl)) rfl
theorem gw_1576 : (Jvm.Cond.static ({ cls := "SoftController$Numbers", name := "combine", desc := "(IZJJ)J" } : Jvm.MethodName)) ∈ GW := gw_t (tin_7 _ (List.mem_of_getElem? (i := 136) rfl)) rfl
theorem gw_1584 : (Jvm.Cond.methodLink "SoftController$Machine" (201 : Nat) ({ cls := "SoftController$Machine", name := "turn", desc := "(III)V" } : Jvm.MethodName)) ∈ GW := gw_t (tin_7 _ (List.mem_of_getElem? (i := 144) rfl)) rfl
theorem gw_1586 : (Jvm.Cond.instanceMethod ({ cls := "SoftController$Machine", name := "turn", desc := "(III)V" } : Jvm.MethodName)) ∈ GW := gw_t (tin_7 _ (List.mem_of_getElem? (i := 146) rfl)) rfl
theorem gw_1587 : (Jvm.Cond.code ({ cls := "SoftController$Machine", name := "turn", desc := "(III)V" } : Jvm.MethodName) prog_4_method_19_code (4 : Nat) (Option.none : Option Jvm.ClassFile.FieldType)) ∈ GW := gw_t (tin_7 _ (List.mem_of_getElem? (i := 147) rfl)) rfl
theorem gw_1588 : (Jvm.Cond.methodLink "SoftController$Machine" (238 : Nat) ({ cls := "SoftController$Machine", name := "decide", desc := "(ZI)V" } : Jvm.MethodName)) ∈ GW := gw_t (tin_7 _ (List.mem_of_getElem? (i := 148) rfl)) rfl
theorem gw_1590 : (Jvm.Cond.instanceMethod ({ cls := "SoftController$Machine", name := "decide", desc := "(ZI)V" } : Jvm.MethodName)) ∈ GW := gw_t (tin_7 _ (List.mem_of_getElem? (i := 150) rfl)) rfl
theorem gw_1591 : (Jvm.Cond.code ({ cls := "SoftController$Machine", name := "decide", desc := "(ZI)V" } : Jvm.MethodName) prog_4_method_20_code (3 : Nat) (Option.none : Option Jvm.ClassFile.FieldType)) ∈ GW := gw_t (tin_7 _ (List.mem_of_getElem? (i := 151) rfl)) rfl
theorem gw_1596 : (Jvm.Cond.methodLink "SoftController$Machine" (205 : Nat) ({ cls := "SoftController$Machine", name := "call", desc := "(III)V" } : Jvm.MethodName)) ∈ GW := gw_t (tin_7 _ (List.mem_of_getElem? (i := 156) rfl)) rfl
theorem gw_1598 : (Jvm.Cond.instanceMethod ({ cls := "SoftController$Machine", name := "call", desc := "(III)V" } : Jvm.MethodName)) ∈ GW := gw_t (tin_7 _ (List.mem_of_getElem? (i := 158) rfl)) rfl
theorem gw_1599 : (Jvm.Cond.code ({ cls := "SoftController$Machine", name := "call", desc := "(III)V" } : Jvm.MethodName) prog_4_method_21_code (6 : Nat) (Option.none : Option Jvm.ClassFile.FieldType)) ∈ GW := gw_t (tin_7 _ (List.mem_of_getElem? (i := 159) rfl)) rfl
theorem gw_1600 : (Jvm.Cond.methodLink "SoftController$Machine" (246 : Nat) ({ cls := "SoftController$Machine", name := "enterFunction", desc := "(LSoftController$Name;I)V" } : Jvm.MethodName)) ∈ GW := gw_t (tin_7 _ (List.mem_of_getElem? (i := 160) rfl)) rfl
theorem gw_1602 : (Jvm.Cond.instanceMethod ({ cls := "SoftController$Machine", name := "enterFunction", desc := "(LSoftController$Name;I)V" } : Jvm.MethodName)) ∈ GW := gw_t (tin_7 _ (List.mem_of_getElem? (i := 162) rfl)) rfl
theorem gw_1603 : (Jvm.Cond.code ({ cls := "SoftController$Machine", name := "enterFunction", desc := "(LSoftController$Name;I)V" } : Jvm.MethodName) prog_4_method_22_code (6 : Nat) (Option.none : Option Jvm.ClassFile.FieldType)) ∈ GW := gw_t (tin_7 _ (List.mem_of_getElem? (i := 163) rfl)) rfl
theorem gw_1604 : (Jvm.Cond.methodLink "SoftController$Machine" (259 : Nat) ({ cls := "SoftController$Machine", name := "remember", desc := "(I)V" } : Jvm.MethodName)) ∈ GW := gw_t (tin_7 _ (List.mem_of_getElem? (i := 164) rfl)) rfl
theorem gw_1606 : (Jvm.Cond.instanceMethod ({ cls := "SoftController$Machine", name := "remember", desc := "(I)V" } : Jvm.MethodName)) ∈ GW := gw_t (tin_7 _ (List.mem_of_getElem? (i := 166) rfl)) rfl
theorem gw_1607 : (Jvm.Cond.code ({ cls := "SoftController$Machine", name := "remember", desc := "(I)V" } : Jvm.MethodName) prog_4_method_24_code (2 : Nat) (Option.none : Option Jvm.ClassFile.FieldType)) ∈ GW := gw_t (tin_7 _ (List.mem_of_getElem? (i := 167) rfl)) rfl
theorem gw_1608 : (Jvm.Cond.methodLink "SoftController$Machine" (250 : Nat) ({ cls := "SoftController$Machine", name := "enterInstance", desc := "(LSoftController$Name;I)V" } : Jvm.MethodName)) ∈ GW := gw_t (tin_7 _ (List.mem_of_getElem? (i := 168) rfl)) rfl
theorem gw_1610 : (Jvm.Cond.instanceMethod ({ cls := "SoftController$Machine", name := "enterInstance", desc := "(LSoftController$Name;I)V" } : Jvm.MethodName)) ∈ GW := gw_t (tin_7 _ (List.mem_of_getElem? (i := 170) rfl)) rfl
theorem gw_1611 : (Jvm.Cond.code ({ cls := "SoftController$Machine", name := "enterInstance", desc := "(LSoftController$Name;I)V" } : Jvm.MethodName) prog_4_method_23_code (3 : Nat) (Option.none : Option Jvm.ClassFile.FieldType)) ∈ GW := gw_t (tin_7 _ (List.mem_of_getElem? (i := 171) rfl)) rfl
theorem gw_1612 : (Jvm.Cond.methodLink "SoftController$Machine" (253 : Nat) ({ cls := "SoftController$Machine", name := "comeBack", desc := "()V" } : Jvm.MethodName)) ∈ GW := gw_t (tin_7 _ (List.mem_of_getElem? (i := 172) rfl)) rfl
theorem gw_1614 : (Jvm.Cond.instanceMethod ({ cls := "SoftController$Machine", name := "comeBack", desc := "()V" } : Jvm.MethodName)) ∈ GW := gw_t (tin_7 _ (List.mem_of_getElem? (i := 174) rfl)) rfl
theorem gw_1615 : (Jvm.Cond.code ({ cls := "SoftController$Machine", name := "comeBack", desc := "()V" } : Jvm.MethodName) prog_4_method_25_code (1 : Nat) (Option.none : Option Jvm.ClassFile.FieldType)) ∈ GW := gw_t (tin_7 _ (List.mem_of_getElem? (i := 175) rfl)) rfl
theorem gw_1616 : (Jvm.Cond.methodLink "SoftController" (379 : Nat) ({ cls := "SoftController$Task", name := "note", desc := "(LSoftController$Machine;I)V" } : Jvm.MethodName)) ∈ GW := gw_t (tin_7 _ (List.mem_of_getElem? (i := 176) rfl)) rfl
theorem gw_1617 : (Jvm.Cond.instanceMethod ({ cls := "SoftController$Task", name := "note", desc := "(LSoftController$Machine;I)V" } : Jvm.MethodName)) ∈ GW := gw_t (tin_7 _ (List.mem_of_getElem? (i := 177) rfl)) rfl
theorem gw_1618 : (Jvm.Cond.selects "SoftController$Task" ({ cls := "SoftController$Task", name := "note", desc := "(LSoftController$Machine;I)V" } : Jvm.MethodName) ({ cls := "SoftController$Task", name := "note", desc := "(LSoftController$Machine;I)V" } : Jvm.MethodName)) ∈ GW := gw_t (tin_7 _ (List.mem_of_getElem? (i := 178) rfl)) rfl
theorem gw_1619 : (Jvm.Cond.code ({ cls := "SoftController$Task", name := "note", desc := "(LSoftController$Machine;I)V" } : Jvm.MethodName) prog_9_method_4_code (3 : Nat) (Option.none : Option Jvm.ClassFile.FieldType)) ∈ GW := gw_t (tin_7 _ (List.mem_of_getElem? (i := 179) rfl)) rfl
theorem gw_1744 : (Jvm.Cond.methodLink "SoftController" (221 : Nat) ({ cls := "SoftController$Machine", name := "change", desc := "(LSoftController$Name;IJ)V" } : Jvm.MethodName)) ∈ GW := gw_t (tin_8 _ (List.mem_of_getElem? (i := 64) rfl)) rfl
theorem gw_1745 : (Jvm.Cond.instanceMethod ({ cls := "SoftController$Machine", name := "change", desc := "(LSoftController$Name;IJ)V" } : Jvm.MethodName)) ∈ GW := gw_t (tin_8 _ (List.mem_of_getElem? (i := 65) rfl)) rfl
theorem gw_1746 : (Jvm.Cond.selects "SoftController$Machine" ({ cls := "SoftController$Machine", name := "change", desc := "(LSoftController$Name;IJ)V" } : Jvm.MethodName) ({ cls := "SoftController$Machine", name := "change", desc := "(LSoftController$Name;IJ)V" } : Jvm.MethodName)) ∈ GW := gw_t (tin_8 _ (List.mem_of_getElem? (i := 66) rfl)) rfl
theorem gw_1747 : (Jvm.Cond.code ({ cls := "SoftController$Machine", name := "change", desc := "(LSoftController$Name;IJ)V" } : Jvm.MethodName) prog_4_method_6_code (5 : Nat) (Option.none : Option Jvm.ClassFile.FieldType)) ∈ GW := gw_t (tin_8 _ (List.mem_of_getElem? (i := 67) rfl)) rfl
theorem gw_25 : (Jvm.Cond.initialized "java/lang/System") ∈ GW := gw_t (tin_1 _ (List.mem_of_getElem? (i := 25) rfl)) rfl
theorem gw_506 : (Jvm.Cond.fieldLink "SoftController$Machine" (9 : Nat) "SoftController$Machine" "memory" "[J") ∈ GW := gw_t (tin_3 _ (List.mem_of_getElem? (i := 26) rfl)) rfl
theorem gw_507 : (Jvm.Cond.fieldLink "SoftController$Machine" (15 : Nat) "SoftController$Machine" "oldNumbers" "[J") ∈ GW := gw_t (tin_3 _ (List.mem_of_getElem? (i := 27) rfl)) rfl
theorem gw_508 : (Jvm.Cond.fieldLink "SoftController$Machine" (28 : Nat) "SoftController$Machine" "images" "LSoftController$Images;") ∈ GW := gw_t (tin_3 _ (List.mem_of_getElem? (i := 28) rfl)) rfl
theorem gw_509 : (Jvm.Cond.fieldLink "SoftController$Machine" (18 : Nat) "SoftController$Machine" "backSteps" "[I") ∈ GW := gw_t (tin_3 _ (List.mem_of_getElem? (i := 29) rfl)) rfl
theorem gw_510 : (Jvm.Cond.fieldLink "SoftController$Machine" (22 : Nat) "SoftController$Machine" "backFrames" "[I") ∈ GW := gw_t (tin_3 _ (List.mem_of_getElem? (i := 30) rfl)) rfl
theorem gw_511 : (Jvm.Cond.fieldLink "SoftController$Machine" (25 : Nat) "SoftController$Machine" "backTops" "[I") ∈ GW := gw_t (tin_3 _ (List.mem_of_getElem? (i := 31) rfl)) rfl
theorem gw_512 : (Jvm.Cond.fieldLink "SoftController$Machine" (32 : Nat) "SoftController$Machine" "program" "LSoftController$Program;") ∈ GW := gw_t (tin_3 _ (List.mem_of_getElem? (i := 32) rfl)) rfl
theorem gw_513 : (Jvm.Cond.fieldLink "SoftController$Machine" (146 : Nat) "SoftController$Machine" "top" "I") ∈ GW := gw_t (tin_3 _ (List.mem_of_getElem? (i := 33) rfl)) rfl
theorem gw_514 : (Jvm.Cond.fieldLink "SoftController$Machine" (149 : Nat) "SoftController$Machine" "frame" "I") ∈ GW := gw_t (tin_3 _ (List.mem_of_getElem? (i := 34) rfl)) rfl
theorem gw_515 : (Jvm.Cond.fieldLink "SoftController$Machine" (137 : Nat) "SoftController$Machine" "step" "I") ∈ GW := gw_t (tin_3 _ (List.mem_of_getElem? (i := 35) rfl)) rfl
theorem gw_516 : (Jvm.Cond.fieldLink "SoftController$Machine" (152 : Nat) "SoftController$Machine" "depth" "I") ∈ GW := gw_t (tin_3 _ (List.mem_of_getElem? (i := 36) rfl)) rfl
theorem gw_517 : (Jvm.Cond.fieldLink "SoftController$Machine" (143 : Nat) "SoftController$Machine" "tick" "I") ∈ GW := gw_t (tin_3 _ (List.mem_of_getElem? (i := 37) rfl)) rfl
theorem gw_518 : (Jvm.Cond.fieldLink "SoftController$Machine" (140 : Nat) "SoftController$Machine" "most" "I") ∈ GW := gw_t (tin_3 _ (List.mem_of_getElem? (i := 38) rfl)) rfl
theorem gw_520 : (Jvm.Cond.fieldLink "SoftController$Machine" (155 : Nat) "SoftController$Machine" "work" "I") ∈ GW := gw_t (tin_3 _ (List.mem_of_getElem? (i := 40) rfl)) rfl
theorem gw_521 : (Jvm.Cond.fieldLink "SoftController$Machine" (167 : Nat) "SoftController$Machine" "running" "Z") ∈ GW := gw_t (tin_3 _ (List.mem_of_getElem? (i := 41) rfl)) rfl
theorem gw_523 : (Jvm.Cond.fieldLink "SoftController$Machine" (158 : Nat) "SoftController$Machine" "fault" "I") ∈ GW := gw_t (tin_3 _ (List.mem_of_getElem? (i := 43) rfl)) rfl
theorem gw_525 : (Jvm.Cond.fieldLink "SoftController$Machine" (161 : Nat) "SoftController$Machine" "faultPlace" "I") ∈ GW := gw_t (tin_3 _ (List.mem_of_getElem? (i := 45) rfl)) rfl
theorem gw_527 : (Jvm.Cond.fieldLink "SoftController$Machine" (164 : Nat) "SoftController$Machine" "faultNumber" "I") ∈ GW := gw_t (tin_3 _ (List.mem_of_getElem? (i := 47) rfl)) rfl
theorem gwp_X5_apply : ∀ w ∈ wsX5_apply, w ∈ GW := gwl [1543, 1544, 1545, 24, 1546, 1547, 1548, 1549, 1550, 1551, 1552, 1568, 1553, 1554, 27, 1555, 1556, 1557, 1558, 1559, 1560, 28, 1561, 1562, 1563, 1564, 1565, 1566, 1567, 1569, 1570, 1571] (by decide +kernel) (by decide +kernel)
theorem gwp_X5_combine : ∀ w ∈ wsX5_combine, w ∈ GW := gwl [1577, 1578, 1579, 24, 1580, 1581, 1582, 1583] (by decide +kernel) (by decide +kernel)
theorem gwp_X5_divides : ∀ w ∈ wsX5_divides, w ∈ GW := gwl [1574] (by decide +kernel) (by decide +kernel)
theorem nw_222 : (Jvm.Cond.fieldLinkNest "SoftController$Machine" (102 : Nat) "SoftController$Name" "head" "J" "SoftController") ∈ NWL := gw_n (tin_1 _ (List.mem_of_getElem? (i := 222) rfl)) rfl
theorem nw_225 : (Jvm.Cond.fieldLinkNest "SoftController$Machine" (105 : Nat) "SoftController$Name" "tail" "I" "SoftController") ∈ NWL := gw_n (tin_1 _ (List.mem_of_getElem? (i := 225) rfl)) rfl
theorem nw_230 : (Jvm.Cond.fieldLinkNest "SoftController$Machine" (120 : Nat) "SoftController$Name" "sort" "I" "SoftController") ∈ NWL := gw_n (tin_1 _ (List.mem_of_getElem? (i := 230) rfl)) rfl
theorem nw_244 : (Jvm.Cond.fieldLinkNest "SoftController$Machine" (53 : Nat) "SoftController$Name" "kind" "I" "SoftController") ∈ NWL := gw_n (tin_2 _ (List.mem_of_getElem? (i := 4) rfl)) rfl
theorem nw_253 : (Jvm.Cond.fieldLinkNest "SoftController$Machine" (92 : Nat) "SoftController$Name" "size" "I" "SoftController") ∈ NWL := gw_n (tin_2 _ (List.mem_of_getElem? (i := 13) rfl)) rfl
theorem nw_260 : (Jvm.Cond.fieldLinkNest "SoftController$Machine" (49 : Nat) "SoftController$Name" "at" "I" "SoftController") ∈ NWL := gw_n (tin_2 _ (List.mem_of_getElem? (i := 20) rfl)) rfl
theorem nw_267 : (Jvm.Cond.fieldLinkNest "SoftController$Machine" (95 : Nat) "SoftController$Name" "first" "J" "SoftController") ∈ NWL := gw_n (tin_2 _ (List.mem_of_getElem? (i := 27) rfl)) rfl
theorem nw_272 : (Jvm.Cond.fieldLinkNest "SoftController$Machine" (256 : Nat) "SoftController$Name" "parameters" "I" "SoftController") ∈ NWL := gw_n (tin_2 _ (List.mem_of_getElem? (i := 32) rfl)) rfl
theorem nw_276 : (Jvm.Cond.fieldLinkNest "SoftController$Machine" (130 : Nat) "SoftController$Name" "locals" "I" "SoftController") ∈ NWL := gw_n (tin_2 _ (List.mem_of_getElem? (i := 36) rfl)) rfl
theorem nw_279 : (Jvm.Cond.fieldLinkNest "SoftController$Machine" (262 : Nat) "SoftController$Name" "entry" "I" "SoftController") ∈ NWL := gw_n (tin_2 _ (List.mem_of_getElem? (i := 39) rfl)) rfl
theorem nw_281 : (Jvm.Cond.fieldLinkNest "SoftController$Machine" (123 : Nat) "SoftController$Name" "block" "I" "SoftController") ∈ NWL := gw_n (tin_2 _ (List.mem_of_getElem? (i := 41) rfl)) rfl
theorem nw_384 : (Jvm.Cond.fieldLinkNest "SoftController$Machine" (178 : Nat) "SoftController$Program" "operations" "[I" "SoftController") ∈ NWL := gw_n (tin_2 _ (List.mem_of_getElem? (i := 144) rfl)) rfl
theorem nw_386 : (Jvm.Cond.fieldLinkNest "SoftController$Machine" (181 : Nat) "SoftController$Program" "firsts" "[I" "SoftController") ∈ NWL := gw_n (tin_2 _ (List.mem_of_getElem? (i := 146) rfl)) rfl
theorem nw_388 : (Jvm.Cond.fieldLinkNest "SoftController$Machine" (184 : Nat) "SoftController$Program" "seconds" "[I" "SoftController") ∈ NWL := gw_n (tin_2 _ (List.mem_of_getElem? (i := 148) rfl)) rfl
theorem nw_390 : (Jvm.Cond.fieldLinkNest "SoftController$Machine" (187 : Nat) "SoftController$Program" "places" "[I" "SoftController") ∈ NWL := gw_n (tin_2 _ (List.mem_of_getElem? (i := 150) rfl)) rfl
theorem nw_395 : (Jvm.Cond.fieldLinkNest "SoftController$Machine" (175 : Nat) "SoftController$Program" "steps" "I" "SoftController") ∈ NWL := gw_n (tin_2 _ (List.mem_of_getElem? (i := 155) rfl)) rfl
theorem nw_519 : (Jvm.Cond.fieldLinkNest "SoftController$Task" (47 : Nat) "SoftController$Machine" "work" "I" "SoftController") ∈ NWL := gw_n (tin_3 _ (List.mem_of_getElem? (i := 39) rfl)) rfl
theorem nw_522 : (Jvm.Cond.fieldLinkNest "SoftController$Task" (50 : Nat) "SoftController$Machine" "fault" "I" "SoftController") ∈ NWL := gw_n (tin_3 _ (List.mem_of_getElem? (i := 42) rfl)) rfl
theorem nw_524 : (Jvm.Cond.fieldLinkNest "SoftController$Task" (51 : Nat) "SoftController$Machine" "faultPlace" "I" "SoftController") ∈ NWL := gw_n (tin_3 _ (List.mem_of_getElem? (i := 44) rfl)) rfl
theorem nw_526 : (Jvm.Cond.fieldLinkNest "SoftController$Task" (52 : Nat) "SoftController$Machine" "faultNumber" "I" "SoftController") ∈ NWL := gw_n (tin_3 _ (List.mem_of_getElem? (i := 46) rfl)) rfl
section C36machineR
variable {p : Program} {l : Launch} {e : Env} {R : Room} {s : State} {m : MethodId} {args : Array Value} {below : List Frame} {meth : Method} {c : Code} {H : Heap} {locs : List Loc} {Q : State → Prop} {cells slots : Nat}
variable {cc : ByteArray} {pc nL : Nat} {c0 : Cond} {own : String} {ls : Array Slot} {rest : List Value} {D : va_G} {kA : Nat → ClassId} {V Z : Nat → Nat} {A : Nat → Prop}
variable {u u1 : CSt}
theorem cg_X2_9 (X : CC p s m args c cc nL c0 RX2 D kA V A) (hS : CS D kA Z A s u H locs) (hd : decode cc pc = .ok (.getfield 9, 3)) (kk : W p l e R s m args below meth c H locs cells slots Q (F0 m (pc + 3) ls (.ref (Z 235) :: rest))) : W p l e R s m args below meth c H locs cells slots Q (F0 m pc ls (.ref (Z 234) :: rest)) := by
  obtain ⟨⟨hx, hb, hml, hown, hts⟩, hK, hE, hA⟩ := X
  have hG : ∀ w ∈ GW, w.before args s = true := fun w h => hts w (List.mem_cons_of_mem _ h)
  exact va_get (D := D) (ci := 2) (v := .ref (Z 235)) (C := RX2) (T := TX2) (N := 18) hx hb hG gwl_X2 hown hK hS.1 34 (cw_lit rfl) rfl 0 (by decide) (hG _ gw_506) (fun _ h9 => h9) rfl hd kk
theorem ca_s235 (X : CC p s m args c cc nL c0 own D kA V A) (hS : CS D kA Z A s u H locs) {i : Int32} {v : Int64} (hi : vp_in i 6096) (hv : cB u 235 i.toNatClampNeg = v) (hd : decode cc pc = .ok (.laload, 1)) (kk : W p l e R s m args below meth c H locs cells slots Q (F0 m (pc + 1) ls (.long v :: rest))) : W p l e R s m args below meth c H locs cells slots Q (F0 m pc ls (.int i :: .ref (Z 235) :: rest)) := by
  subst hv
  exact va_lald X.1.1 X.1.2.1 X.2.1 hS.1 35 1 (cw_lit rfl) rfl hi hd kk
theorem cs_s235 (X : CC p s m args c cc nL c0 own D kA V A) (hS : CS D kA Z A s u H locs) {i : Int32} {v : Int64} (hi : vp_in i 6096) (hu : xB u 235 i.toNatClampNeg v = u1) (hd : decode cc pc = .ok (.lastore, 1)) (kk : ∀ H locs, CS D kA Z A s u1 H locs → W p l e R s m args below meth c H locs cells slots Q (F0 m (pc + 1) ls rest)) : W p l e R s m args below meth c H locs cells slots Q (F0 m pc ls (.long v :: .int i :: .ref (Z 235) :: rest)) := by
  subst hu
  refine va_last X.1.1 X.1.2.1 X.2.1 hS.1 hS.2.1 hS.2.2 35 1 (cw_lit rfl) rfl hi hd (fun H1 locs1 hP hD hS1 => kk H1 locs1 ?_)
  have he := cw_setL (kA := kA) (Z := Z) (u := u) (w := xB u 235 i.toNatClampNeg v) (k := 35) (x := (Z 235, .inl (kA 1, 6096, .inr (.inl (vp_updL (cB u 235) i.toNatClampNeg v))))) (by decide) rfl rfl rfl
  exact cs_put he hP hD hS1
theorem cg_X2_49 (X : CC p s m args c cc nL c0 RX2 D kA V A) {q : Nat} (hq : q < 338) (hS : CS D kA Z A s u H locs) (hd : decode cc pc = .ok (.getfield 49, 3)) (kk : W p l e R s m args below meth c H locs cells slots Q (F0 m (pc + 3) ls (.int (mI u q 9) :: rest))) : W p l e R s m args below meth c H locs cells slots Q (F0 m pc ls (.ref (Z (1000 + q)) :: rest)) := by
  obtain ⟨⟨hx, hb, hml, hown, hts⟩, hK, hE, hA⟩ := X
  have hG : ∀ w ∈ GW, w.before args s = true := fun w h => hts w (List.mem_cons_of_mem _ h)
  exact va_getN (D := D) (ci := 4) (v := .int (mI u q 9)) (C := RX4) (T := TX4) (N := 15) hx hb hG gwl_X4 hown hK hS.1 (90 + q) (cw_name hq) rfl 9 (by decide) (va_Nw.use rfl (hE.1 _ nw_260)) (fun _ h9 => h9) rfl hd kk
theorem cg_X2_53 (X : CC p s m args c cc nL c0 RX2 D kA V A) {q : Nat} (hq : q < 338) (hS : CS D kA Z A s u H locs) (hd : decode cc pc = .ok (.getfield 53, 3)) (kk : W p l e R s m args below meth c H locs cells slots Q (F0 m (pc + 3) ls (.int (mI u q 5) :: rest))) : W p l e R s m args below meth c H locs cells slots Q (F0 m pc ls (.ref (Z (1000 + q)) :: rest)) := by
  obtain ⟨⟨hx, hb, hml, hown, hts⟩, hK, hE, hA⟩ := X
  have hG : ∀ w ∈ GW, w.before args s = true := fun w h => hts w (List.mem_cons_of_mem _ h)
  exact va_getN (D := D) (ci := 4) (v := .int (mI u q 5)) (C := RX4) (T := TX4) (N := 15) hx hb hG gwl_X4 hown hK hS.1 (90 + q) (cw_name hq) rfl 5 (by decide) (va_Nw.use rfl (hE.1 _ nw_244)) (fun _ h9 => h9) rfl hd kk
theorem cg_X2_28 (X : CC p s m args c cc nL c0 RX2 D kA V A) (hS : CS D kA Z A s u H locs) (hd : decode cc pc = .ok (.getfield 28, 3)) (kk : W p l e R s m args below meth c H locs cells slots Q (F0 m (pc + 3) ls (.ref (Z 209) :: rest))) : W p l e R s m args below meth c H locs cells slots Q (F0 m pc ls (.ref (Z 234) :: rest)) := by
  obtain ⟨⟨hx, hb, hml, hown, hts⟩, hK, hE, hA⟩ := X
  have hG : ∀ w ∈ GW, w.before args s = true := fun w h => hts w (List.mem_cons_of_mem _ h)
  exact va_get (D := D) (ci := 2) (v := .ref (Z 209)) (C := RX2) (T := TX2) (N := 18) hx hb hG gwl_X2 hown hK hS.1 34 (cw_lit rfl) rfl 2 (by decide) (hG _ gw_508) (fun _ h9 => h9) rfl hd kk
theorem cg_X2_92 (X : CC p s m args c cc nL c0 RX2 D kA V A) {q : Nat} (hq : q < 338) (hS : CS D kA Z A s u H locs) (hd : decode cc pc = .ok (.getfield 92, 3)) (kk : W p l e R s m args below meth c H locs cells slots Q (F0 m (pc + 3) ls (.int (mI u q 7) :: rest))) : W p l e R s m args below meth c H locs cells slots Q (F0 m pc ls (.ref (Z (1000 + q)) :: rest)) := by
  obtain ⟨⟨hx, hb, hml, hown, hts⟩, hK, hE, hA⟩ := X
  have hG : ∀ w ∈ GW, w.before args s = true := fun w h => hts w (List.mem_cons_of_mem _ h)
  exact va_getN (D := D) (ci := 4) (v := .int (mI u q 7)) (C := RX4) (T := TX4) (N := 15) hx hb hG gwl_X4 hown hK hS.1 (90 + q) (cw_name hq) rfl 7 (by decide) (va_Nw.use rfl (hE.1 _ nw_253)) (fun _ h9 => h9) rfl hd kk
theorem cg_X2_15 (X : CC p s m args c cc nL c0 RX2 D kA V A) (hS : CS D kA Z A s u H locs) (hd : decode cc pc = .ok (.getfield 15, 3)) (kk : W p l e R s m args below meth c H locs cells slots Q (F0 m (pc + 3) ls (.ref (Z 236) :: rest))) : W p l e R s m args below meth c H locs cells slots Q (F0 m pc ls (.ref (Z 234) :: rest)) := by
  obtain ⟨⟨hx, hb, hml, hown, hts⟩, hK, hE, hA⟩ := X
  have hG : ∀ w ∈ GW, w.before args s = true := fun w h => hts w (List.mem_cons_of_mem _ h)
  exact va_get (D := D) (ci := 2) (v := .ref (Z 236)) (C := RX2) (T := TX2) (N := 18) hx hb hG gwl_X2 hown hK hS.1 34 (cw_lit rfl) rfl 1 (by decide) (hG _ gw_507) (fun _ h9 => h9) rfl hd kk
theorem ca_s236 (X : CC p s m args c cc nL c0 own D kA V A) (hS : CS D kA Z A s u H locs) {i : Int32} {v : Int64} (hi : vp_in i 2000) (hv : cB u 236 i.toNatClampNeg = v) (hd : decode cc pc = .ok (.laload, 1)) (kk : W p l e R s m args below meth c H locs cells slots Q (F0 m (pc + 1) ls (.long v :: rest))) : W p l e R s m args below meth c H locs cells slots Q (F0 m pc ls (.int i :: .ref (Z 236) :: rest)) := by
  subst hv
  exact va_lald X.1.1 X.1.2.1 X.2.1 hS.1 36 1 (cw_lit rfl) rfl hi hd kk
theorem cg_X2_120 (X : CC p s m args c cc nL c0 RX2 D kA V A) {q : Nat} (hq : q < 338) (hS : CS D kA Z A s u H locs) (hd : decode cc pc = .ok (.getfield 120, 3)) (kk : W p l e R s m args below meth c H locs cells slots Q (F0 m (pc + 3) ls (.int (mI u q 2) :: rest))) : W p l e R s m args below meth c H locs cells slots Q (F0 m pc ls (.ref (Z (1000 + q)) :: rest)) := by
  obtain ⟨⟨hx, hb, hml, hown, hts⟩, hK, hE, hA⟩ := X
  have hG : ∀ w ∈ GW, w.before args s = true := fun w h => hts w (List.mem_cons_of_mem _ h)
  exact va_getN (D := D) (ci := 4) (v := .int (mI u q 2)) (C := RX4) (T := TX4) (N := 15) hx hb hG gwl_X4 hown hK hS.1 (90 + q) (cw_name hq) rfl 2 (by decide) (va_Nw.use rfl (hE.1 _ nw_230)) (fun _ h9 => h9) rfl hd kk
theorem cg_X2_130 (X : CC p s m args c cc nL c0 RX2 D kA V A) {q : Nat} (hq : q < 338) (hS : CS D kA Z A s u H locs) (hd : decode cc pc = .ok (.getfield 130, 3)) (kk : W p l e R s m args below meth c H locs cells slots Q (F0 m (pc + 3) ls (.int (mI u q 12) :: rest))) : W p l e R s m args below meth c H locs cells slots Q (F0 m pc ls (.ref (Z (1000 + q)) :: rest)) := by
  obtain ⟨⟨hx, hb, hml, hown, hts⟩, hK, hE, hA⟩ := X
  have hG : ∀ w ∈ GW, w.before args s = true := fun w h => hts w (List.mem_cons_of_mem _ h)
  exact va_getN (D := D) (ci := 4) (v := .int (mI u q 12)) (C := RX4) (T := TX4) (N := 15) hx hb hG gwl_X4 hown hK hS.1 (90 + q) (cw_name hq) rfl 12 (by decide) (va_Nw.use rfl (hE.1 _ nw_276)) (fun _ h9 => h9) rfl hd kk
theorem cg_X2_95 (X : CC p s m args c cc nL c0 RX2 D kA V A) {q : Nat} (hq : q < 338) (hS : CS D kA Z A s u H locs) (hd : decode cc pc = .ok (.getfield 95, 3)) (kk : W p l e R s m args below meth c H locs cells slots Q (F0 m (pc + 3) ls (.long (mL u q 10) :: rest))) : W p l e R s m args below meth c H locs cells slots Q (F0 m pc ls (.ref (Z (1000 + q)) :: rest)) := by
  obtain ⟨⟨hx, hb, hml, hown, hts⟩, hK, hE, hA⟩ := X
  have hG : ∀ w ∈ GW, w.before args s = true := fun w h => hts w (List.mem_cons_of_mem _ h)
  exact va_getN (D := D) (ci := 4) (v := .long (mL u q 10)) (C := RX4) (T := TX4) (N := 15) hx hb hG gwl_X4 hown hK hS.1 (90 + q) (cw_name hq) rfl 10 (by decide) (va_Nw.use rfl (hE.1 _ nw_267)) (fun _ h9 => h9) rfl hd kk
theorem cg_X2_123 (X : CC p s m args c cc nL c0 RX2 D kA V A) {q : Nat} (hq : q < 338) (hS : CS D kA Z A s u H locs) (hd : decode cc pc = .ok (.getfield 123, 3)) (kk : W p l e R s m args below meth c H locs cells slots Q (F0 m (pc + 3) ls (.int (mI u q 14) :: rest))) : W p l e R s m args below meth c H locs cells slots Q (F0 m pc ls (.ref (Z (1000 + q)) :: rest)) := by
  obtain ⟨⟨hx, hb, hml, hown, hts⟩, hK, hE, hA⟩ := X
  have hG : ∀ w ∈ GW, w.before args s = true := fun w h => hts w (List.mem_cons_of_mem _ h)
  exact va_getN (D := D) (ci := 4) (v := .int (mI u q 14)) (C := RX4) (T := TX4) (N := 15) hx hb hG gwl_X4 hown hK hS.1 (90 + q) (cw_name hq) rfl 14 (by decide) (va_Nw.use rfl (hE.1 _ nw_281)) (fun _ h9 => h9) rfl hd kk
theorem cg_X2_102 (X : CC p s m args c cc nL c0 RX2 D kA V A) {q : Nat} (hq : q < 338) (hS : CS D kA Z A s u H locs) (hd : decode cc pc = .ok (.getfield 102, 3)) (kk : W p l e R s m args below meth c H locs cells slots Q (F0 m (pc + 3) ls (.long (mL u q 0) :: rest))) : W p l e R s m args below meth c H locs cells slots Q (F0 m pc ls (.ref (Z (1000 + q)) :: rest)) := by
  obtain ⟨⟨hx, hb, hml, hown, hts⟩, hK, hE, hA⟩ := X
  have hG : ∀ w ∈ GW, w.before args s = true := fun w h => hts w (List.mem_cons_of_mem _ h)
  exact va_getN (D := D) (ci := 4) (v := .long (mL u q 0)) (C := RX4) (T := TX4) (N := 15) hx hb hG gwl_X4 hown hK hS.1 (90 + q) (cw_name hq) rfl 0 (by decide) (va_Nw.use rfl (hE.1 _ nw_222)) (fun _ h9 => h9) rfl hd kk
theorem cg_X2_105 (X : CC p s m args c cc nL c0 RX2 D kA V A) {q : Nat} (hq : q < 338) (hS : CS D kA Z A s u H locs) (hd : decode cc pc = .ok (.getfield 105, 3)) (kk : W p l e R s m args below meth c H locs cells slots Q (F0 m (pc + 3) ls (.int (mI u q 1) :: rest))) : W p l e R s m args below meth c H locs cells slots Q (F0 m pc ls (.ref (Z (1000 + q)) :: rest)) := by
  obtain ⟨⟨hx, hb, hml, hown, hts⟩, hK, hE, hA⟩ := X
  have hG : ∀ w ∈ GW, w.before args s = true := fun w h => hts w (List.mem_cons_of_mem _ h)
  exact va_getN (D := D) (ci := 4) (v := .int (mI u q 1)) (C := RX4) (T := TX4) (N := 15) hx hb hG gwl_X4 hown hK hS.1 (90 + q) (cw_name hq) rfl 1 (by decide) (va_Nw.use rfl (hE.1 _ nw_225)) (fun _ h9 => h9) rfl hd kk
theorem cp_X2_158 (X : CC p s m args c cc nL c0 RX2 D kA V A) (hS : CS D kA Z A s u H locs) {v : Int32} (hu : xI u 26 v = u1) (hd : decode cc pc = .ok (.putfield 158, 3)) (kk : ∀ H locs, CS D kA Z A s u1 H locs → W p l e R s m args below meth c H locs cells slots Q (F0 m (pc + 3) ls rest)) : W p l e R s m args below meth c H locs cells slots Q (F0 m pc ls (.int v :: .ref (Z 234) :: rest)) := by
  obtain ⟨⟨hx, hb, hml, hown, hts⟩, hK, hE, hA⟩ := X
  have hG : ∀ w ∈ GW, w.before args s = true := fun w h => hts w (List.mem_cons_of_mem _ h)
  subst hu
  refine va_put (D := D) (ci := 2) (v := .int v) (ty := .int) (C := RX2) (T := TX2) (N := 18) hx hb hG gwl_X2 tyX2 tyX2_ok nmX2 hown hK hS.1 hS.2.1 hS.2.2 34 (cw_lit rfl) rfl 15 (by decide) (hG _ gw_523) (fun _ h9 => h9) rfl (by decide +kernel) rfl rfl (Nat.le_of_ble_eq_true rfl) hd (fun H1 locs1 hP hD hS1 => kk H1 locs1 ?_)
  have he := cw_setL (kA := kA) (Z := Z) (u := u) (w := xI u 26 v) (k := 34) (x := (Z 234, .inr (2, ([.ref (Z 235), .ref (Z 236), .ref (Z 209), .ref (Z 237), .ref (Z 238), .ref (Z 239), .ref (Z (300 + 50 * cR u 4)), .int (cI u 18), .int (cI u 19), .int (cI u 20), .int (cI u 21), .int (cI u 22), .int (cI u 23), .int (cI u 24), .int (cI u 25), .int (cI u 26), .int (cI u 27), .int (cI u 28)] : List Value).set 15 (.int v)))) (by decide) rfl rfl rfl
  exact cs_put he hP hD hS1
theorem cp_X2_161 (X : CC p s m args c cc nL c0 RX2 D kA V A) (hS : CS D kA Z A s u H locs) {v : Int32} (hu : xI u 27 v = u1) (hd : decode cc pc = .ok (.putfield 161, 3)) (kk : ∀ H locs, CS D kA Z A s u1 H locs → W p l e R s m args below meth c H locs cells slots Q (F0 m (pc + 3) ls rest)) : W p l e R s m args below meth c H locs cells slots Q (F0 m pc ls (.int v :: .ref (Z 234) :: rest)) := by
  obtain ⟨⟨hx, hb, hml, hown, hts⟩, hK, hE, hA⟩ := X
  have hG : ∀ w ∈ GW, w.before args s = true := fun w h => hts w (List.mem_cons_of_mem _ h)
  subst hu
  refine va_put (D := D) (ci := 2) (v := .int v) (ty := .int) (C := RX2) (T := TX2) (N := 18) hx hb hG gwl_X2 tyX2 tyX2_ok nmX2 hown hK hS.1 hS.2.1 hS.2.2 34 (cw_lit rfl) rfl 16 (by decide) (hG _ gw_525) (fun _ h9 => h9) rfl (by decide +kernel) rfl rfl (Nat.le_of_ble_eq_true rfl) hd (fun H1 locs1 hP hD hS1 => kk H1 locs1 ?_)
  have he := cw_setL (kA := kA) (Z := Z) (u := u) (w := xI u 27 v) (k := 34) (x := (Z 234, .inr (2, ([.ref (Z 235), .ref (Z 236), .ref (Z 209), .ref (Z 237), .ref (Z 238), .ref (Z 239), .ref (Z (300 + 50 * cR u 4)), .int (cI u 18), .int (cI u 19), .int (cI u 20), .int (cI u 21), .int (cI u 22), .int (cI u 23), .int (cI u 24), .int (cI u 25), .int (cI u 26), .int (cI u 27), .int (cI u 28)] : List Value).set 16 (.int v)))) (by decide) rfl rfl rfl
  exact cs_put he hP hD hS1
theorem cp_X2_167 (X : CC p s m args c cc nL c0 RX2 D kA V A) (hS : CS D kA Z A s u H locs) {v : Int32} (hu : xI u 25 v = u1) (hn : v = 0 ∨ v = 1) (hd : decode cc pc = .ok (.putfield 167, 3)) (kk : ∀ H locs, CS D kA Z A s u1 H locs → W p l e R s m args below meth c H locs cells slots Q (F0 m (pc + 3) ls rest)) : W p l e R s m args below meth c H locs cells slots Q (F0 m pc ls (.int v :: .ref (Z 234) :: rest)) := by
  obtain ⟨⟨hx, hb, hml, hown, hts⟩, hK, hE, hA⟩ := X
  have hG : ∀ w ∈ GW, w.before args s = true := fun w h => hts w (List.mem_cons_of_mem _ h)
  subst hu
  refine va_put (D := D) (ci := 2) (v := .int v) (ty := .boolean) (C := RX2) (T := TX2) (N := 18) hx hb hG gwl_X2 tyX2 tyX2_ok nmX2 hown hK hS.1 hS.2.1 hS.2.2 34 (cw_lit rfl) rfl 14 (by decide) (hG _ gw_521) (fun _ h9 => h9) rfl (by decide +kernel) (zr_n hn) (zr_f hn) (Nat.le_of_ble_eq_true rfl) hd (fun H1 locs1 hP hD hS1 => kk H1 locs1 ?_)
  have he := cw_setL (kA := kA) (Z := Z) (u := u) (w := xI u 25 v) (k := 34) (x := (Z 234, .inr (2, ([.ref (Z 235), .ref (Z 236), .ref (Z 209), .ref (Z 237), .ref (Z 238), .ref (Z 239), .ref (Z (300 + 50 * cR u 4)), .int (cI u 18), .int (cI u 19), .int (cI u 20), .int (cI u 21), .int (cI u 22), .int (cI u 23), .int (cI u 24), .int (cI u 25), .int (cI u 26), .int (cI u 27), .int (cI u 28)] : List Value).set 14 (.int v)))) (by decide) rfl rfl rfl
  exact cs_put he hP hD hS1
theorem cg_X2_146 (X : CC p s m args c cc nL c0 RX2 D kA V A) (hS : CS D kA Z A s u H locs) (hd : decode cc pc = .ok (.getfield 146, 3)) (kk : W p l e R s m args below meth c H locs cells slots Q (F0 m (pc + 3) ls (.int (cI u 18) :: rest))) : W p l e R s m args below meth c H locs cells slots Q (F0 m pc ls (.ref (Z 234) :: rest)) := by
  obtain ⟨⟨hx, hb, hml, hown, hts⟩, hK, hE, hA⟩ := X
  have hG : ∀ w ∈ GW, w.before args s = true := fun w h => hts w (List.mem_cons_of_mem _ h)
  exact va_get (D := D) (ci := 2) (v := .int (cI u 18)) (C := RX2) (T := TX2) (N := 18) hx hb hG gwl_X2 hown hK hS.1 34 (cw_lit rfl) rfl 7 (by decide) (hG _ gw_513) (fun _ h9 => h9) rfl hd kk
theorem cp_X2_146 (X : CC p s m args c cc nL c0 RX2 D kA V A) (hS : CS D kA Z A s u H locs) {v : Int32} (hu : xI u 18 v = u1) (hd : decode cc pc = .ok (.putfield 146, 3)) (kk : ∀ H locs, CS D kA Z A s u1 H locs → W p l e R s m args below meth c H locs cells slots Q (F0 m (pc + 3) ls rest)) : W p l e R s m args below meth c H locs cells slots Q (F0 m pc ls (.int v :: .ref (Z 234) :: rest)) := by
  obtain ⟨⟨hx, hb, hml, hown, hts⟩, hK, hE, hA⟩ := X
  have hG : ∀ w ∈ GW, w.before args s = true := fun w h => hts w (List.mem_cons_of_mem _ h)
  subst hu
  refine va_put (D := D) (ci := 2) (v := .int v) (ty := .int) (C := RX2) (T := TX2) (N := 18) hx hb hG gwl_X2 tyX2 tyX2_ok nmX2 hown hK hS.1 hS.2.1 hS.2.2 34 (cw_lit rfl) rfl 7 (by decide) (hG _ gw_513) (fun _ h9 => h9) rfl (by decide +kernel) rfl rfl (Nat.le_of_ble_eq_true rfl) hd (fun H1 locs1 hP hD hS1 => kk H1 locs1 ?_)
  have he := cw_setL (kA := kA) (Z := Z) (u := u) (w := xI u 18 v) (k := 34) (x := (Z 234, .inr (2, ([.ref (Z 235), .ref (Z 236), .ref (Z 209), .ref (Z 237), .ref (Z 238), .ref (Z 239), .ref (Z (300 + 50 * cR u 4)), .int (cI u 18), .int (cI u 19), .int (cI u 20), .int (cI u 21), .int (cI u 22), .int (cI u 23), .int (cI u 24), .int (cI u 25), .int (cI u 26), .int (cI u 27), .int (cI u 28)] : List Value).set 7 (.int v)))) (by decide) rfl rfl rfl
  exact cs_put he hP hD hS1
theorem cg_X2_143 (X : CC p s m args c cc nL c0 RX2 D kA V A) (hS : CS D kA Z A s u H locs) (hd : decode cc pc = .ok (.getfield 143, 3)) (kk : W p l e R s m args below meth c H locs cells slots Q (F0 m (pc + 3) ls (.int (cI u 22) :: rest))) : W p l e R s m args below meth c H locs cells slots Q (F0 m pc ls (.ref (Z 234) :: rest)) := by
  obtain ⟨⟨hx, hb, hml, hown, hts⟩, hK, hE, hA⟩ := X
  have hG : ∀ w ∈ GW, w.before args s = true := fun w h => hts w (List.mem_cons_of_mem _ h)
  exact va_get (D := D) (ci := 2) (v := .int (cI u 22)) (C := RX2) (T := TX2) (N := 18) hx hb hG gwl_X2 hown hK hS.1 34 (cw_lit rfl) rfl 11 (by decide) (hG _ gw_517) (fun _ h9 => h9) rfl hd kk
theorem cg_X2_149 (X : CC p s m args c cc nL c0 RX2 D kA V A) (hS : CS D kA Z A s u H locs) (hd : decode cc pc = .ok (.getfield 149, 3)) (kk : W p l e R s m args below meth c H locs cells slots Q (F0 m (pc + 3) ls (.int (cI u 19) :: rest))) : W p l e R s m args below meth c H locs cells slots Q (F0 m pc ls (.ref (Z 234) :: rest)) := by
  obtain ⟨⟨hx, hb, hml, hown, hts⟩, hK, hE, hA⟩ := X
  have hG : ∀ w ∈ GW, w.before args s = true := fun w h => hts w (List.mem_cons_of_mem _ h)
  exact va_get (D := D) (ci := 2) (v := .int (cI u 19)) (C := RX2) (T := TX2) (N := 18) hx hb hG gwl_X2 hown hK hS.1 34 (cw_lit rfl) rfl 8 (by decide) (hG _ gw_514) (fun _ h9 => h9) rfl hd kk
theorem cp_X2_137 (X : CC p s m args c cc nL c0 RX2 D kA V A) (hS : CS D kA Z A s u H locs) {v : Int32} (hu : xI u 20 v = u1) (hd : decode cc pc = .ok (.putfield 137, 3)) (kk : ∀ H locs, CS D kA Z A s u1 H locs → W p l e R s m args below meth c H locs cells slots Q (F0 m (pc + 3) ls rest)) : W p l e R s m args below meth c H locs cells slots Q (F0 m pc ls (.int v :: .ref (Z 234) :: rest)) := by
  obtain ⟨⟨hx, hb, hml, hown, hts⟩, hK, hE, hA⟩ := X
  have hG : ∀ w ∈ GW, w.before args s = true := fun w h => hts w (List.mem_cons_of_mem _ h)
  subst hu
  refine va_put (D := D) (ci := 2) (v := .int v) (ty := .int) (C := RX2) (T := TX2) (N := 18) hx hb hG gwl_X2 tyX2 tyX2_ok nmX2 hown hK hS.1 hS.2.1 hS.2.2 34 (cw_lit rfl) rfl 9 (by decide) (hG _ gw_515) (fun _ h9 => h9) rfl (by decide +kernel) rfl rfl (Nat.le_of_ble_eq_true rfl) hd (fun H1 locs1 hP hD hS1 => kk H1 locs1 ?_)
  have he := cw_setL (kA := kA) (Z := Z) (u := u) (w := xI u 20 v) (k := 34) (x := (Z 234, .inr (2, ([.ref (Z 235), .ref (Z 236), .ref (Z 209), .ref (Z 237), .ref (Z 238), .ref (Z 239), .ref (Z (300 + 50 * cR u 4)), .int (cI u 18), .int (cI u 19), .int (cI u 20), .int (cI u 21), .int (cI u 22), .int (cI u 23), .int (cI u 24), .int (cI u 25), .int (cI u 26), .int (cI u 27), .int (cI u 28)] : List Value).set 9 (.int v)))) (by decide) rfl rfl rfl
  exact cs_put he hP hD hS1
theorem cg_X2_137 (X : CC p s m args c cc nL c0 RX2 D kA V A) (hS : CS D kA Z A s u H locs) (hd : decode cc pc = .ok (.getfield 137, 3)) (kk : W p l e R s m args below meth c H locs cells slots Q (F0 m (pc + 3) ls (.int (cI u 20) :: rest))) : W p l e R s m args below meth c H locs cells slots Q (F0 m pc ls (.ref (Z 234) :: rest)) := by
  obtain ⟨⟨hx, hb, hml, hown, hts⟩, hK, hE, hA⟩ := X
  have hG : ∀ w ∈ GW, w.before args s = true := fun w h => hts w (List.mem_cons_of_mem _ h)
  exact va_get (D := D) (ci := 2) (v := .int (cI u 20)) (C := RX2) (T := TX2) (N := 18) hx hb hG gwl_X2 hown hK hS.1 34 (cw_lit rfl) rfl 9 (by decide) (hG _ gw_515) (fun _ h9 => h9) rfl hd kk
theorem cg_X2_32 (X : CC p s m args c cc nL c0 RX2 D kA V A) (hS : CS D kA Z A s u H locs) (hd : decode cc pc = .ok (.getfield 32, 3)) (kk : W p l e R s m args below meth c H locs cells slots Q (F0 m (pc + 3) ls (.ref (Z (300 + 50 * cR u 4)) :: rest))) : W p l e R s m args below meth c H locs cells slots Q (F0 m pc ls (.ref (Z 234) :: rest)) := by
  obtain ⟨⟨hx, hb, hml, hown, hts⟩, hK, hE, hA⟩ := X
  have hG : ∀ w ∈ GW, w.before args s = true := fun w h => hts w (List.mem_cons_of_mem _ h)
  exact va_get (D := D) (ci := 2) (v := .ref (Z (300 + 50 * cR u 4))) (C := RX2) (T := TX2) (N := 18) hx hb hG gwl_X2 hown hK hS.1 34 (cw_lit rfl) rfl 6 (by decide) (hG _ gw_512) (fun _ h9 => h9) rfl hd kk
theorem cg_X2_18 (X : CC p s m args c cc nL c0 RX2 D kA V A) (hS : CS D kA Z A s u H locs) (hd : decode cc pc = .ok (.getfield 18, 3)) (kk : W p l e R s m args below meth c H locs cells slots Q (F0 m (pc + 3) ls (.ref (Z 237) :: rest))) : W p l e R s m args below meth c H locs cells slots Q (F0 m pc ls (.ref (Z 234) :: rest)) := by
  obtain ⟨⟨hx, hb, hml, hown, hts⟩, hK, hE, hA⟩ := X
  have hG : ∀ w ∈ GW, w.before args s = true := fun w h => hts w (List.mem_cons_of_mem _ h)
  exact va_get (D := D) (ci := 2) (v := .ref (Z 237)) (C := RX2) (T := TX2) (N := 18) hx hb hG gwl_X2 hown hK hS.1 34 (cw_lit rfl) rfl 3 (by decide) (hG _ gw_509) (fun _ h9 => h9) rfl hd kk
theorem cg_X2_152 (X : CC p s m args c cc nL c0 RX2 D kA V A) (hS : CS D kA Z A s u H locs) (hd : decode cc pc = .ok (.getfield 152, 3)) (kk : W p l e R s m args below meth c H locs cells slots Q (F0 m (pc + 3) ls (.int (cI u 21) :: rest))) : W p l e R s m args below meth c H locs cells slots Q (F0 m pc ls (.ref (Z 234) :: rest)) := by
  obtain ⟨⟨hx, hb, hml, hown, hts⟩, hK, hE, hA⟩ := X
  have hG : ∀ w ∈ GW, w.before args s = true := fun w h => hts w (List.mem_cons_of_mem _ h)
  exact va_get (D := D) (ci := 2) (v := .int (cI u 21)) (C := RX2) (T := TX2) (N := 18) hx hb hG gwl_X2 hown hK hS.1 34 (cw_lit rfl) rfl 10 (by decide) (hG _ gw_516) (fun _ h9 => h9) rfl hd kk
theorem cs_s237 (X : CC p s m args c cc nL c0 own D kA V A) (hS : CS D kA Z A s u H locs) {i : Int32} {v : Int32} (hi : vp_in i 8) (hu : xA u 237 i.toNatClampNeg v = u1) (hd : decode cc pc = .ok (.iastore, 1)) (kk : ∀ H locs, CS D kA Z A s u1 H locs → W p l e R s m args below meth c H locs cells slots Q (F0 m (pc + 1) ls rest)) : W p l e R s m args below meth c H locs cells slots Q (F0 m pc ls (.int v :: .int i :: .ref (Z 237) :: rest)) := by
  subst hu
  refine va_iast X.1.1 X.1.2.1 X.2.1 hS.1 hS.2.1 hS.2.2 37 0 (cw_lit rfl) rfl hi hd (fun H1 locs1 hP hD hS1 => kk H1 locs1 ?_)
  have he := cw_setL (kA := kA) (Z := Z) (u := u) (w := xA u 237 i.toNatClampNeg v) (k := 37) (x := (Z 237, .inl (kA 0, 8, .inl (upd (cA u 237) i.toNatClampNeg v)))) (by decide) rfl rfl rfl
  exact cs_put he hP hD hS1
theorem cg_X2_22 (X : CC p s m args c cc nL c0 RX2 D kA V A) (hS : CS D kA Z A s u H locs) (hd : decode cc pc = .ok (.getfield 22, 3)) (kk : W p l e R s m args below meth c H locs cells slots Q (F0 m (pc + 3) ls (.ref (Z 238) :: rest))) : W p l e R s m args below meth c H locs cells slots Q (F0 m pc ls (.ref (Z 234) :: rest)) := by
  obtain ⟨⟨hx, hb, hml, hown, hts⟩, hK, hE, hA⟩ := X
  have hG : ∀ w ∈ GW, w.before args s = true := fun w h => hts w (List.mem_cons_of_mem _ h)
  exact va_get (D := D) (ci := 2) (v := .ref (Z 238)) (C := RX2) (T := TX2) (N := 18) hx hb hG gwl_X2 hown hK hS.1 34 (cw_lit rfl) rfl 4 (by decide) (hG _ gw_510) (fun _ h9 => h9) rfl hd kk
theorem cs_s238 (X : CC p s m args c cc nL c0 own D kA V A) (hS : CS D kA Z A s u H locs) {i : Int32} {v : Int32} (hi : vp_in i 8) (hu : xA u 238 i.toNatClampNeg v = u1) (hd : decode cc pc = .ok (.iastore, 1)) (kk : ∀ H locs, CS D kA Z A s u1 H locs → W p l e R s m args below meth c H locs cells slots Q (F0 m (pc + 1) ls rest)) : W p l e R s m args below meth c H locs cells slots Q (F0 m pc ls (.int v :: .int i :: .ref (Z 238) :: rest)) := by
  subst hu
  refine va_iast X.1.1 X.1.2.1 X.2.1 hS.1 hS.2.1 hS.2.2 38 0 (cw_lit rfl) rfl hi hd (fun H1 locs1 hP hD hS1 => kk H1 locs1 ?_)
  have he := cw_setL (kA := kA) (Z := Z) (u := u) (w := xA u 238 i.toNatClampNeg v) (k := 38) (x := (Z 238, .inl (kA 0, 8, .inl (upd (cA u 238) i.toNatClampNeg v)))) (by decide) rfl rfl rfl
  exact cs_put he hP hD hS1
theorem cg_X2_25 (X : CC p s m args c cc nL c0 RX2 D kA V A) (hS : CS D kA Z A s u H locs) (hd : decode cc pc = .ok (.getfield 25, 3)) (kk : W p l e R s m args below meth c H locs cells slots Q (F0 m (pc + 3) ls (.ref (Z 239) :: rest))) : W p l e R s m args below meth c H locs cells slots Q (F0 m pc ls (.ref (Z 234) :: rest)) := by
  obtain ⟨⟨hx, hb, hml, hown, hts⟩, hK, hE, hA⟩ := X
  have hG : ∀ w ∈ GW, w.before args s = true := fun w h => hts w (List.mem_cons_of_mem _ h)
  exact va_get (D := D) (ci := 2) (v := .ref (Z 239)) (C := RX2) (T := TX2) (N := 18) hx hb hG gwl_X2 hown hK hS.1 34 (cw_lit rfl) rfl 5 (by decide) (hG _ gw_511) (fun _ h9 => h9) rfl hd kk
theorem cs_s239 (X : CC p s m args c cc nL c0 own D kA V A) (hS : CS D kA Z A s u H locs) {i : Int32} {v : Int32} (hi : vp_in i 8) (hu : xA u 239 i.toNatClampNeg v = u1) (hd : decode cc pc = .ok (.iastore, 1)) (kk : ∀ H locs, CS D kA Z A s u1 H locs → W p l e R s m args below meth c H locs cells slots Q (F0 m (pc + 1) ls rest)) : W p l e R s m args below meth c H locs cells slots Q (F0 m pc ls (.int v :: .int i :: .ref (Z 239) :: rest)) := by
  subst hu
  refine va_iast X.1.1 X.1.2.1 X.2.1 hS.1 hS.2.1 hS.2.2 39 0 (cw_lit rfl) rfl hi hd (fun H1 locs1 hP hD hS1 => kk H1 locs1 ?_)
  have he := cw_setL (kA := kA) (Z := Z) (u := u) (w := xA u 239 i.toNatClampNeg v) (k := 39) (x := (Z 239, .inl (kA 0, 8, .inl (upd (cA u 239) i.toNatClampNeg v)))) (by decide) rfl rfl rfl
  exact cs_put he hP hD hS1
theorem cp_X2_152 (X : CC p s m args c cc nL c0 RX2 D kA V A) (hS : CS D kA Z A s u H locs) {v : Int32} (hu : xI u 21 v = u1) (hd : decode cc pc = .ok (.putfield 152, 3)) (kk : ∀ H locs, CS D kA Z A s u1 H locs → W p l e R s m args below meth c H locs cells slots Q (F0 m (pc + 3) ls rest)) : W p l e R s m args below meth c H locs cells slots Q (F0 m pc ls (.int v :: .ref (Z 234) :: rest)) := by
  obtain ⟨⟨hx, hb, hml, hown, hts⟩, hK, hE, hA⟩ := X
  have hG : ∀ w ∈ GW, w.before args s = true := fun w h => hts w (List.mem_cons_of_mem _ h)
  subst hu
  refine va_put (D := D) (ci := 2) (v := .int v) (ty := .int) (C := RX2) (T := TX2) (N := 18) hx hb hG gwl_X2 tyX2 tyX2_ok nmX2 hown hK hS.1 hS.2.1 hS.2.2 34 (cw_lit rfl) rfl 10 (by decide) (hG _ gw_516) (fun _ h9 => h9) rfl (by decide +kernel) rfl rfl (Nat.le_of_ble_eq_true rfl) hd (fun H1 locs1 hP hD hS1 => kk H1 locs1 ?_)
  have he := cw_setL (kA := kA) (Z := Z) (u := u) (w := xI u 21 v) (k := 34) (x := (Z 234, .inr (2, ([.ref (Z 235), .ref (Z 236), .ref (Z 209), .ref (Z 237), .ref (Z 238), .ref (Z 239), .ref (Z (300 + 50 * cR u 4)), .int (cI u 18), .int (cI u 19), .int (cI u 20), .int (cI u 21), .int (cI u 22), .int (cI u 23), .int (cI u 24), .int (cI u 25), .int (cI u 26), .int (cI u 27), .int (cI u 28)] : List Value).set 10 (.int v)))) (by decide) rfl rfl rfl
  exact cs_put he hP hD hS1
theorem ca_s237 (X : CC p s m args c cc nL c0 own D kA V A) (hS : CS D kA Z A s u H locs) {i : Int32} {v : Int32} (hi : vp_in i 8) (hv : cA u 237 i.toNatClampNeg = v) (hd : decode cc pc = .ok (.iaload, 1)) (kk : W p l e R s m args below meth c H locs cells slots Q (F0 m (pc + 1) ls (.int v :: rest))) : W p l e R s m args below meth c H locs cells slots Q (F0 m pc ls (.int i :: .ref (Z 237) :: rest)) := by
  subst hv
  exact va_iald X.1.1 X.1.2.1 X.2.1 hS.1 37 0 (cw_lit rfl) rfl hi hd kk
theorem ca_s238 (X : CC p s m args c cc nL c0 own D kA V A) (hS : CS D kA Z A s u H locs) {i : Int32} {v : Int32} (hi : vp_in i 8) (hv : cA u 238 i.toNatClampNeg = v) (hd : decode cc pc = .ok (.iaload, 1)) (kk : W p l e R s m args below meth c H locs cells slots Q (F0 m (pc + 1) ls (.int v :: rest))) : W p l e R s m args below meth c H locs cells slots Q (F0 m pc ls (.int i :: .ref (Z 238) :: rest)) := by
  subst hv
  exact va_iald X.1.1 X.1.2.1 X.2.1 hS.1 38 0 (cw_lit rfl) rfl hi hd kk
theorem cp_X2_149 (X : CC p s m args c cc nL c0 RX2 D kA V A) (hS : CS D kA Z A s u H locs) {v : Int32} (hu : xI u 19 v = u1) (hd : decode cc pc = .ok (.putfield 149, 3)) (kk : ∀ H locs, CS D kA Z A s u1 H locs → W p l e R s m args below meth c H locs cells slots Q (F0 m (pc + 3) ls rest)) : W p l e R s m args below meth c H locs cells slots Q (F0 m pc ls (.int v :: .ref (Z 234) :: rest)) := by
  obtain ⟨⟨hx, hb, hml, hown, hts⟩, hK, hE, hA⟩ := X
  have hG : ∀ w ∈ GW, w.before args s = true := fun w h => hts w (List.mem_cons_of_mem _ h)
  subst hu
  refine va_put (D := D) (ci := 2) (v := .int v) (ty := .int) (C := RX2) (T := TX2) (N := 18) hx hb hG gwl_X2 tyX2 tyX2_ok nmX2 hown hK hS.1 hS.2.1 hS.2.2 34 (cw_lit rfl) rfl 8 (by decide) (hG _ gw_514) (fun _ h9 => h9) rfl (by decide +kernel) rfl rfl (Nat.le_of_ble_eq_true rfl) hd (fun H1 locs1 hP hD hS1 => kk H1 locs1 ?_)
  have he := cw_setL (kA := kA) (Z := Z) (u := u) (w := xI u 19 v) (k := 34) (x := (Z 234, .inr (2, ([.ref (Z 235), .ref (Z 236), .ref (Z 209), .ref (Z 237), .ref (Z 238), .ref (Z 239), .ref (Z (300 + 50 * cR u 4)), .int (cI u 18), .int (cI u 19), .int (cI u 20), .int (cI u 21), .int (cI u 22), .int (cI u 23), .int (cI u 24), .int (cI u 25), .int (cI u 26), .int (cI u 27), .int (cI u 28)] : List Value).set 8 (.int v)))) (by decide) rfl rfl rfl
  exact cs_put he hP hD hS1
theorem ca_s239 (X : CC p s m args c cc nL c0 own D kA V A) (hS : CS D kA Z A s u H locs) {i : Int32} {v : Int32} (hi : vp_in i 8) (hv : cA u 239 i.toNatClampNeg = v) (hd : decode cc pc = .ok (.iaload, 1)) (kk : W p l e R s m args below meth c H locs cells slots Q (F0 m (pc + 1) ls (.int v :: rest))) : W p l e R s m args below meth c H locs cells slots Q (F0 m pc ls (.int i :: .ref (Z 239) :: rest)) := by
  subst hv
  exact va_iald X.1.1 X.1.2.1 X.2.1 hS.1 39 0 (cw_lit rfl) rfl hi hd kk
theorem cg_X2_262 (X : CC p s m args c cc nL c0 RX2 D kA V A) {q : Nat} (hq : q < 338) (hS : CS D kA Z A s u H locs) (hd : decode cc pc = .ok (.getfield 262, 3)) (kk : W p l e R s m args below meth c H locs cells slots Q (F0 m (pc + 3) ls (.int (mI u q 13) :: rest))) : W p l e R s m args below meth c H locs cells slots Q (F0 m pc ls (.ref (Z (1000 + q)) :: rest)) := by
  obtain ⟨⟨hx, hb, hml, hown, hts⟩, hK, hE, hA⟩ := X
  have hG : ∀ w ∈ GW, w.before args s = true := fun w h => hts w (List.mem_cons_of_mem _ h)
  exact va_getN (D := D) (ci := 4) (v := .int (mI u q 13)) (C := RX4) (T := TX4) (N := 15) hx hb hG gwl_X4 hown hK hS.1 (90 + q) (cw_name hq) rfl 13 (by decide) (va_Nw.use rfl (hE.1 _ nw_279)) (fun _ h9 => h9) rfl hd kk
theorem cg_X2_256 (X : CC p s m args c cc nL c0 RX2 D kA V A) {q : Nat} (hq : q < 338) (hS : CS D kA Z A s u H locs) (hd : decode cc pc = .ok (.getfield 256, 3)) (kk : W p l e R s m args below meth c H locs cells slots Q (F0 m (pc + 3) ls (.int (mI u q 11) :: rest))) : W p l e R s m args below meth c H locs cells slots Q (F0 m pc ls (.ref (Z (1000 + q)) :: rest)) := by
  obtain ⟨⟨hx, hb, hml, hown, hts⟩, hK, hE, hA⟩ := X
  have hG : ∀ w ∈ GW, w.before args s = true := fun w h => hts w (List.mem_cons_of_mem _ h)
  exact va_getN (D := D) (ci := 4) (v := .int (mI u q 11)) (C := RX4) (T := TX4) (N := 15) hx hb hG gwl_X4 hown hK hS.1 (90 + q) (cw_name hq) rfl 11 (by decide) (va_Nw.use rfl (hE.1 _ nw_272)) (fun _ h9 => h9) rfl hd kk
theorem cp_X2_164 (X : CC p s m args c cc nL c0 RX2 D kA V A) (hS : CS D kA Z A s u H locs) {v : Int32} (hu : xI u 28 v = u1) (hd : decode cc pc = .ok (.putfield 164, 3)) (kk : ∀ H locs, CS D kA Z A s u1 H locs → W p l e R s m args below meth c H locs cells slots Q (F0 m (pc + 3) ls rest)) : W p l e R s m args below meth c H locs cells slots Q (F0 m pc ls (.int v :: .ref (Z 234) :: rest)) := by
  obtain ⟨⟨hx, hb, hml, hown, hts⟩, hK, hE, hA⟩ := X
  have hG : ∀ w ∈ GW, w.before args s = true := fun w h => hts w (List.mem_cons_of_mem _ h)
  subst hu
  refine va_put (D := D) (ci := 2) (v := .int v) (ty := .int) (C := RX2) (T := TX2) (N := 18) hx hb hG gwl_X2 tyX2 tyX2_ok nmX2 hown hK hS.1 hS.2.1 hS.2.2 34 (cw_lit rfl) rfl 17 (by decide) (hG _ gw_527) (fun _ h9 => h9) rfl (by decide +kernel) rfl rfl (Nat.le_of_ble_eq_true rfl) hd (fun H1 locs1 hP hD hS1 => kk H1 locs1 ?_)
  have he := cw_setL (kA := kA) (Z := Z) (u := u) (w := xI u 28 v) (k := 34) (x := (Z 234, .inr (2, ([.ref (Z 235), .ref (Z 236), .ref (Z 209), .ref (Z 237), .ref (Z 238), .ref (Z 239), .ref (Z (300 + 50 * cR u 4)), .int (cI u 18), .int (cI u 19), .int (cI u 20), .int (cI u 21), .int (cI u 22), .int (cI u 23), .int (cI u 24), .int (cI u 25), .int (cI u 26), .int (cI u 27), .int (cI u 28)] : List Value).set 17 (.int v)))) (by decide) rfl rfl rfl
  exact cs_put he hP hD hS1
theorem cg_X2_175 (X : CC p s m args c cc nL c0 RX2 D kA V A) {q : Nat} (hq : q < 2) (hS : CS D kA Z A s u H locs) (hd : decode cc pc = .ok (.getfield 175, 3)) (kk : W p l e R s m args below meth c H locs cells slots Q (F0 m (pc + 3) ls (.int (pI u q 13) :: rest))) : W p l e R s m args below meth c H locs cells slots Q (F0 m pc ls (.ref (Z (300 + 50 * q)) :: rest)) := by
  obtain ⟨⟨hx, hb, hml, hown, hts⟩, hK, hE, hA⟩ := X
  have hG : ∀ w ∈ GW, w.before args s = true := fun w h => hts w (List.mem_cons_of_mem _ h)
  rcases (show q = 0 ∨ q = 1 by omega) with rfl | rfl
  · exact va_getN (D := D) (ci := 5) (v := .int (pI u 0 13)) (C := RX6) (T := TX6) (N := 16) hx hb hG gwl_X6 hown hK hS.1 40 (cw_lit rfl) rfl 13 (by decide) (va_Nw.use rfl (hE.1 _ nw_395)) (fun _ h9 => h9) rfl hd kk
  · exact va_getN (D := D) (ci := 5) (v := .int (pI u 1 13)) (C := RX6) (T := TX6) (N := 16) hx hb hG gwl_X6 hown hK hS.1 57 (cw_lit rfl) rfl 13 (by decide) (va_Nw.use rfl (hE.1 _ nw_395)) (fun _ h9 => h9) rfl hd kk
theorem cg_X2_178 (X : CC p s m args c cc nL c0 RX2 D kA V A) {q : Nat} (hq : q < 2) (hS : CS D kA Z A s u H locs) (hd : decode cc pc = .ok (.getfield 178, 3)) (kk : W p l e R s m args below meth c H locs cells slots Q (F0 m (pc + 3) ls (.ref (Z (300 + 50 * q + 11)) :: rest))) : W p l e R s m args below meth c H locs cells slots Q (F0 m pc ls (.ref (Z (300 + 50 * q)) :: rest)) := by
  obtain ⟨⟨hx, hb, hml, hown, hts⟩, hK, hE, hA⟩ := X
  have hG : ∀ w ∈ GW, w.before args s = true := fun w h => hts w (List.mem_cons_of_mem _ h)
  rcases (show q = 0 ∨ q = 1 by omega) with rfl | rfl
  · exact va_getN (D := D) (ci := 5) (v := .ref (Z (300 + 50 * 0 + 11))) (C := RX6) (T := TX6) (N := 16) hx hb hG gwl_X6 hown hK hS.1 40 (cw_lit rfl) rfl 6 (by decide) (va_Nw.use rfl (hE.1 _ nw_384)) (fun _ h9 => h9) rfl hd kk
  · exact va_getN (D := D) (ci := 5) (v := .ref (Z (300 + 50 * 1 + 11))) (C := RX6) (T := TX6) (N := 16) hx hb hG gwl_X6 hown hK hS.1 57 (cw_lit rfl) rfl 6 (by decide) (va_Nw.use rfl (hE.1 _ nw_384)) (fun _ h9 => h9) rfl hd kk
theorem ca_p11 (X : CC p s m args c cc nL c0 own D kA V A) {q : Nat} (hq : q < 2) (hS : CS D kA Z A s u H locs) {i : Int32} {v : Int32} (hi : vp_in i 3200) (hv : pA u q 11 i.toNatClampNeg = v) (hd : decode cc pc = .ok (.iaload, 1)) (kk : W p l e R s m args below meth c H locs cells slots Q (F0 m (pc + 1) ls (.int v :: rest))) : W p l e R s m args below meth c H locs cells slots Q (F0 m pc ls (.int i :: .ref (Z (300 + 50 * q + 11)) :: rest)) := by
  subst hv
  rcases (show q = 0 ∨ q = 1 by omega) with rfl | rfl
  · exact va_iald X.1.1 X.1.2.1 X.2.1 hS.1 51 0 (cw_lit rfl) rfl hi hd kk
  · exact va_iald X.1.1 X.1.2.1 X.2.1 hS.1 68 0 (cw_lit rfl) rfl hi hd kk
theorem cg_X2_181 (X : CC p s m args c cc nL c0 RX2 D kA V A) {q : Nat} (hq : q < 2) (hS : CS D kA Z A s u H locs) (hd : decode cc pc = .ok (.getfield 181, 3)) (kk : W p l e R s m args below meth c H locs cells slots Q (F0 m (pc + 3) ls (.ref (Z (300 + 50 * q + 12)) :: rest))) : W p l e R s m args below meth c H locs cells slots Q (F0 m pc ls (.ref (Z (300 + 50 * q)) :: rest)) := by
  obtain ⟨⟨hx, hb, hml, hown, hts⟩, hK, hE, hA⟩ := X
  have hG : ∀ w ∈ GW, w.before args s = true := fun w h => hts w (List.mem_cons_of_mem _ h)
  rcases (show q = 0 ∨ q = 1 by omega) with rfl | rfl
  · exact va_getN (D := D) (ci := 5) (v := .ref (Z (300 + 50 * 0 + 12))) (C := RX6) (T := TX6) (N := 16) hx hb hG gwl_X6 hown hK hS.1 40 (cw_lit rfl) rfl 7 (by decide) (va_Nw.use rfl (hE.1 _ nw_386)) (fun _ h9 => h9) rfl hd kk
  · exact va_getN (D := D) (ci := 5) (v := .ref (Z (300 + 50 * 1 + 12))) (C := RX6) (T := TX6) (N := 16) hx hb hG gwl_X6 hown hK hS.1 57 (cw_lit rfl) rfl 7 (by decide) (va_Nw.use rfl (hE.1 _ nw_386)) (fun _ h9 => h9) rfl hd kk
theorem cg_X2_184 (X : CC p s m args c cc nL c0 RX2 D kA V A) {q : Nat} (hq : q < 2) (hS : CS D kA Z A s u H locs) (hd : decode cc pc = .ok (.getfield 184, 3)) (kk : W p l e R s m args below meth c H locs cells slots Q (F0 m (pc + 3) ls (.ref (Z (300 + 50 * q + 13)) :: rest))) : W p l e R s m args below meth c H locs cells slots Q (F0 m pc ls (.ref (Z (300 + 50 * q)) :: rest)) := by
  obtain ⟨⟨hx, hb, hml, hown, hts⟩, hK, hE, hA⟩ := X
  have hG : ∀ w ∈ GW, w.before args s = true := fun w h => hts w (List.mem_cons_of_mem _ h)
  rcases (show q = 0 ∨ q = 1 by omega) with rfl | rfl
  · exact va_getN (D := D) (ci := 5) (v := .ref (Z (300 + 50 * 0 + 13))) (C := RX6) (T := TX6) (N := 16) hx hb hG gwl_X6 hown hK hS.1 40 (cw_lit rfl) rfl 8 (by decide) (va_Nw.use rfl (hE.1 _ nw_388)) (fun _ h9 => h9) rfl hd kk
  · exact va_getN (D := D) (ci := 5) (v := .ref (Z (300 + 50 * 1 + 13))) (C := RX6) (T := TX6) (N := 16) hx hb hG gwl_X6 hown hK hS.1 57 (cw_lit rfl) rfl 8 (by decide) (va_Nw.use rfl (hE.1 _ nw_388)) (fun _ h9 => h9) rfl hd kk
theorem ca_p13 (X : CC p s m args c cc nL c0 own D kA V A) {q : Nat} (hq : q < 2) (hS : CS D kA Z A s u H locs) {i : Int32} {v : Int32} (hi : vp_in i 3200) (hv : pA u q 13 i.toNatClampNeg = v) (hd : decode cc pc = .ok (.iaload, 1)) (kk : W p l e R s m args below meth c H locs cells slots Q (F0 m (pc + 1) ls (.int v :: rest))) : W p l e R s m args below meth c H locs cells slots Q (F0 m pc ls (.int i :: .ref (Z (300 + 50 * q + 13)) :: rest)) := by
  subst hv
  rcases (show q = 0 ∨ q = 1 by omega) with rfl | rfl
  · exact va_iald X.1.1 X.1.2.1 X.2.1 hS.1 53 0 (cw_lit rfl) rfl hi hd kk
  · exact va_iald X.1.1 X.1.2.1 X.2.1 hS.1 70 0 (cw_lit rfl) rfl hi hd kk
theorem cg_X2_187 (X : CC p s m args c cc nL c0 RX2 D kA V A) {q : Nat} (hq : q < 2) (hS : CS D kA Z A s u H locs) (hd : decode cc pc = .ok (.getfield 187, 3)) (kk : W p l e R s m args below meth c H locs cells slots Q (F0 m (pc + 3) ls (.ref (Z (300 + 50 * q + 14)) :: rest))) : W p l e R s m args below meth c H locs cells slots Q (F0 m pc ls (.ref (Z (300 + 50 * q)) :: rest)) := by
  obtain ⟨⟨hx, hb, hml, hown, hts⟩, hK, hE, hA⟩ := X
  have hG : ∀ w ∈ GW, w.before args s = true := fun w h => hts w (List.mem_cons_of_mem _ h)
  rcases (show q = 0 ∨ q = 1 by omega) with rfl | rfl
  · exact va_getN (D := D) (ci := 5) (v := .ref (Z (300 + 50 * 0 + 14))) (C := RX6) (T := TX6) (N := 16) hx hb hG gwl_X6 hown hK hS.1 40 (cw_lit rfl) rfl 9 (by decide) (va_Nw.use rfl (hE.1 _ nw_390)) (fun _ h9 => h9) rfl hd kk
  · exact va_getN (D := D) (ci := 5) (v := .ref (Z (300 + 50 * 1 + 14))) (C := RX6) (T := TX6) (N := 16) hx hb hG gwl_X6 hown hK hS.1 57 (cw_lit rfl) rfl 9 (by decide) (va_Nw.use rfl (hE.1 _ nw_390)) (fun _ h9 => h9) rfl hd kk
theorem ca_p14 (X : CC p s m args c cc nL c0 own D kA V A) {q : Nat} (hq : q < 2) (hS : CS D kA Z A s u H locs) {i : Int32} {v : Int32} (hi : vp_in i 3200) (hv : pA u q 14 i.toNatClampNeg = v) (hd : decode cc pc = .ok (.iaload, 1)) (kk : W p l e R s m args below meth c H locs cells slots Q (F0 m (pc + 1) ls (.int v :: rest))) : W p l e R s m args below meth c H locs cells slots Q (F0 m pc ls (.int i :: .ref (Z (300 + 50 * q + 14)) :: rest)) := by
  subst hv
  rcases (show q = 0 ∨ q = 1 by omega) with rfl | rfl
  · exact va_iald X.1.1 X.1.2.1 X.2.1 hS.1 54 0 (cw_lit rfl) rfl hi hd kk
  · exact va_iald X.1.1 X.1.2.1 X.2.1 hS.1 71 0 (cw_lit rfl) rfl hi hd kk
theorem cg_X2_155 (X : CC p s m args c cc nL c0 RX2 D kA V A) (hS : CS D kA Z A s u H locs) (hd : decode cc pc = .ok (.getfield 155, 3)) (kk : W p l e R s m args below meth c H locs cells slots Q (F0 m (pc + 3) ls (.int (cI u 24) :: rest))) : W p l e R s m args below meth c H locs cells slots Q (F0 m pc ls (.ref (Z 234) :: rest)) := by
  obtain ⟨⟨hx, hb, hml, hown, hts⟩, hK, hE, hA⟩ := X
  have hG : ∀ w ∈ GW, w.before args s = true := fun w h => hts w (List.mem_cons_of_mem _ h)
  exact va_get (D := D) (ci := 2) (v := .int (cI u 24)) (C := RX2) (T := TX2) (N := 18) hx hb hG gwl_X2 hown hK hS.1 34 (cw_lit rfl) rfl 13 (by decide) (hG _ gw_520) (fun _ h9 => h9) rfl hd kk
theorem cg_X2_140 (X : CC p s m args c cc nL c0 RX2 D kA V A) (hS : CS D kA Z A s u H locs) (hd : decode cc pc = .ok (.getfield 140, 3)) (kk : W p l e R s m args below meth c H locs cells slots Q (F0 m (pc + 3) ls (.int (cI u 23) :: rest))) : W p l e R s m args below meth c H locs cells slots Q (F0 m pc ls (.ref (Z 234) :: rest)) := by
  obtain ⟨⟨hx, hb, hml, hown, hts⟩, hK, hE, hA⟩ := X
  have hG : ∀ w ∈ GW, w.before args s = true := fun w h => hts w (List.mem_cons_of_mem _ h)
  exact va_get (D := D) (ci := 2) (v := .int (cI u 23)) (C := RX2) (T := TX2) (N := 18) hx hb hG gwl_X2 hown hK hS.1 34 (cw_lit rfl) rfl 12 (by decide) (hG _ gw_518) (fun _ h9 => h9) rfl hd kk
theorem cp_X2_155 (X : CC p s m args c cc nL c0 RX2 D kA V A) (hS : CS D kA Z A s u H locs) {v : Int32} (hu : xI u 24 v = u1) (hd : decode cc pc = .ok (.putfield 155, 3)) (kk : ∀ H locs, CS D kA Z A s u1 H locs → W p l e R s m args below meth c H locs cells slots Q (F0 m (pc + 3) ls rest)) : W p l e R s m args below meth c H locs cells slots Q (F0 m pc ls (.int v :: .ref (Z 234) :: rest)) := by
  obtain ⟨⟨hx, hb, hml, hown, hts⟩, hK, hE, hA⟩ := X
  have hG : ∀ w ∈ GW, w.before args s = true := fun w h => hts w (List.mem_cons_of_mem _ h)
  subst hu
  refine va_put (D := D) (ci := 2) (v := .int v) (ty := .int) (C := RX2) (T := TX2) (N := 18) hx hb hG gwl_X2 tyX2 tyX2_ok nmX2 hown hK hS.1 hS.2.1 hS.2.2 34 (cw_lit rfl) rfl 13 (by decide) (hG _ gw_520) (fun _ h9 => h9) rfl (by decide +kernel) rfl rfl (Nat.le_of_ble_eq_true rfl) hd (fun H1 locs1 hP hD hS1 => kk H1 locs1 ?_)
  have he := cw_setL (kA := kA) (Z := Z) (u := u) (w := xI u 24 v) (k := 34) (x := (Z 234, .inr (2, ([.ref (Z 235), .ref (Z 236), .ref (Z 209), .ref (Z 237), .ref (Z 238), .ref (Z 239), .ref (Z (300 + 50 * cR u 4)), .int (cI u 18), .int (cI u 19), .int (cI u 20), .int (cI u 21), .int (cI u 22), .int (cI u 23), .int (cI u 24), .int (cI u 25), .int (cI u 26), .int (cI u 27), .int (cI u 28)] : List Value).set 13 (.int v)))) (by decide) rfl rfl rfl
  exact cs_put he hP hD hS1
theorem cg_X2_167 (X : CC p s m args c cc nL c0 RX2 D kA V A) (hS : CS D kA Z A s u H locs) (hd : decode cc pc = .ok (.getfield 167, 3)) (kk : W p l e R s m args below meth c H locs cells slots Q (F0 m (pc + 3) ls (.int (cI u 25) :: rest))) : W p l e R s m args below meth c H locs cells slots Q (F0 m pc ls (.ref (Z 234) :: rest)) := by
  obtain ⟨⟨hx, hb, hml, hown, hts⟩, hK, hE, hA⟩ := X
  have hG : ∀ w ∈ GW, w.before args s = true := fun w h => hts w (List.mem_cons_of_mem _ h)
  exact va_get (D := D) (ci := 2) (v := .int (cI u 25)) (C := RX2) (T := TX2) (N := 18) hx hb hG gwl_X2 hown hK hS.1 34 (cw_lit rfl) rfl 14 (by decide) (hG _ gw_521) (fun _ h9 => h9) rfl hd kk
theorem cp_X2_32 (X : CC p s m args c cc nL c0 RX2 D kA V A) (hS : CS D kA Z A s u H locs) {v : Nat} (hu : xR u 4 v = u1) (hd : decode cc pc = .ok (.putfield 32, 3)) (kk : ∀ H locs, CS D kA Z A s u1 H locs → W p l e R s m args below meth c H locs cells slots Q (F0 m (pc + 3) ls rest)) : W p l e R s m args below meth c H locs cells slots Q (F0 m pc ls (.ref (Z (300 + 50 * v)) :: .ref (Z 234) :: rest)) := by
  obtain ⟨⟨hx, hb, hml, hown, hts⟩, hK, hE, hA⟩ := X
  have hG : ∀ w ∈ GW, w.before args s = true := fun w h => hts w (List.mem_cons_of_mem _ h)
  subst hu
  refine va_put (D := D) (ci := 2) (v := .ref (Z (300 + 50 * v))) (ty := (.object "SoftController$Program")) (C := RX2) (T := TX2) (N := 18) hx hb hG gwl_X2 tyX2 tyX2_ok nmX2 hown hK hS.1 hS.2.1 hS.2.2 34 (cw_lit rfl) rfl 6 (by decide) (hG _ gw_512) (fun _ h9 => h9) rfl (by decide +kernel) rfl rfl (Nat.le_of_ble_eq_true rfl) hd (fun H1 locs1 hP hD hS1 => kk H1 locs1 ?_)
  have he := cw_setL (kA := kA) (Z := Z) (u := u) (w := xR u 4 v) (k := 34) (x := (Z 234, .inr (2, ([.ref (Z 235), .ref (Z 236), .ref (Z 209), .ref (Z 237), .ref (Z 238), .ref (Z 239), .ref (Z (300 + 50 * cR u 4)), .int (cI u 18), .int (cI u 19), .int (cI u 20), .int (cI u 21), .int (cI u 22), .int (cI u 23), .int (cI u 24), .int (cI u 25), .int (cI u 26), .int (cI u 27), .int (cI u 28)] : List Value).set 6 (.ref (Z (300 + 50 * v)))))) (by decide) rfl rfl rfl
  exact cs_put he hP hD hS1
theorem cp_X2_140 (X : CC p s m args c cc nL c0 RX2 D kA V A) (hS : CS D kA Z A s u H locs) {v : Int32} (hu : xI u 23 v = u1) (hd : decode cc pc = .ok (.putfield 140, 3)) (kk : ∀ H locs, CS D kA Z A s u1 H locs → W p l e R s m args below meth c H locs cells slots Q (F0 m (pc + 3) ls rest)) : W p l e R s m args below meth c H locs cells slots Q (F0 m pc ls (.int v :: .ref (Z 234) :: rest)) := by
  obtain ⟨⟨hx, hb, hml, hown, hts⟩, hK, hE, hA⟩ := X
  have hG : ∀ w ∈ GW, w.before args s = true := fun w h => hts w (List.mem_cons_of_mem _ h)
  subst hu
  refine va_put (D := D) (ci := 2) (v := .int v) (ty := .int) (C := RX2) (T := TX2) (N := 18) hx hb hG gwl_X2 tyX2 tyX2_ok nmX2 hown hK hS.1 hS.2.1 hS.2.2 34 (cw_lit rfl) rfl 12 (by decide) (hG _ gw_518) (fun _ h9 => h9) rfl (by decide +kernel) rfl rfl (Nat.le_of_ble_eq_true rfl) hd (fun H1 locs1 hP hD hS1 => kk H1 locs1 ?_)
  have he := cw_setL (kA := kA) (Z := Z) (u := u) (w := xI u 23 v) (k := 34) (x := (Z 234, .inr (2, ([.ref (Z 235), .ref (Z 236), .ref (Z 209), .ref (Z 237), .ref (Z 238), .ref (Z 239), .ref (Z (300 + 50 * cR u 4)), .int (cI u 18), .int (cI u 19), .int (cI u 20), .int (cI u 21), .int (cI u 22), .int (cI u 23), .int (cI u 24), .int (cI u 25), .int (cI u 26), .int (cI u 27), .int (cI u 28)] : List Value).set 12 (.int v)))) (by decide) rfl rfl rfl
  exact cs_put he hP hD hS1
theorem cp_X2_143 (X : CC p s m args c cc nL c0 RX2 D kA V A) (hS : CS D kA Z A s u H locs) {v : Int32} (hu : xI u 22 v = u1) (hd : decode cc pc = .ok (.putfield 143, 3)) (kk : ∀ H locs, CS D kA Z A s u1 H locs → W p l e R s m args below meth c H locs cells slots Q (F0 m (pc + 3) ls rest)) : W p l e R s m args below meth c H locs cells slots Q (F0 m pc ls (.int v :: .ref (Z 234) :: rest)) := by
  obtain ⟨⟨hx, hb, hml, hown, hts⟩, hK, hE, hA⟩ := X
  have hG : ∀ w ∈ GW, w.before args s = true := fun w h => hts w (List.mem_cons_of_mem _ h)
  subst hu
  refine va_put (D := D) (ci := 2) (v := .int v) (ty := .int) (C := RX2) (T := TX2) (N := 18) hx hb hG gwl_X2 tyX2 tyX2_ok nmX2 hown hK hS.1 hS.2.1 hS.2.2 34 (cw_lit rfl) rfl 11 (by decide) (hG _ gw_517) (fun _ h9 => h9) rfl (by decide +kernel) rfl rfl (Nat.le_of_ble_eq_true rfl) hd (fun H1 locs1 hP hD hS1 => kk H1 locs1 ?_)
  have he := cw_setL (kA := kA) (Z := Z) (u := u) (w := xI u 22 v) (k := 34) (x := (Z 234, .inr (2, ([.ref (Z 235), .ref (Z 236), .ref (Z 209), .ref (Z 237), .ref (Z 238), .ref (Z 239), .ref (Z (300 + 50 * cR u 4)), .int (cI u 18), .int (cI u 19), .int (cI u 20), .int (cI u 21), .int (cI u 22), .int (cI u 23), .int (cI u 24), .int (cI u 25), .int (cI u 26), .int (cI u 27), .int (cI u 28)] : List Value).set 11 (.int v)))) (by decide) rfl rfl rfl
  exact cs_put he hP hD hS1
theorem cg_X7_23 (X : CC p s m args c cc nL c0 RX7 D kA V A) {q : Nat} (hq : q < 16) (hS : CS D kA Z A s u H locs) (hd : decode cc pc = .ok (.getfield 23, 3)) (kk : W p l e R s m args below meth c H locs cells slots Q (F0 m (pc + 3) ls (.int (tI u q 4) :: rest))) : W p l e R s m args below meth c H locs cells slots Q (F0 m pc ls (.ref (Z (400 + q)) :: rest)) := by
  obtain ⟨⟨hx, hb, hml, hown, hts⟩, hK, hE, hA⟩ := X
  have hG : ∀ w ∈ GW, w.before args s = true := fun w h => hts w (List.mem_cons_of_mem _ h)
  exact va_get (D := D) (ci := 6) (v := .int (tI u q 4)) (C := RX7) (T := TX7) (N := 10) hx hb hG gwl_X7 hown hK hS.1 (74 + q) (cw_task hq) rfl 4 (by decide) (hG _ gw_333) (fun _ h9 => h9) rfl hd kk
theorem cg_X7_47 (X : CC p s m args c cc nL c0 RX7 D kA V A) (hS : CS D kA Z A s u H locs) (hd : decode cc pc = .ok (.getfield 47, 3)) (kk : W p l e R s m args below meth c H locs cells slots Q (F0 m (pc + 3) ls (.int (cI u 24) :: rest))) : W p l e R s m args below meth c H locs cells slots Q (F0 m pc ls (.ref (Z 234) :: rest)) := by
  obtain ⟨⟨hx, hb, hml, hown, hts⟩, hK, hE, hA⟩ := X
  have hG : ∀ w ∈ GW, w.before args s = true := fun w h => hts w (List.mem_cons_of_mem _ h)
  exact va_getN (D := D) (ci := 2) (v := .int (cI u 24)) (C := RX2) (T := TX2) (N := 18) hx hb hG gwl_X2 hown hK hS.1 34 (cw_lit rfl) rfl 13 (by decide) (va_Nw.use rfl (hE.1 _ nw_519)) (fun _ h9 => h9) rfl hd kk
theorem cg_X7_50 (X : CC p s m args c cc nL c0 RX7 D kA V A) (hS : CS D kA Z A s u H locs) (hd : decode cc pc = .ok (.getfield 50, 3)) (kk : W p l e R s m args below meth c H locs cells slots Q (F0 m (pc + 3) ls (.int (cI u 26) :: rest))) : W p l e R s m args below meth c H locs cells slots Q (F0 m pc ls (.ref (Z 234) :: rest)) := by
  obtain ⟨⟨hx, hb, hml, hown, hts⟩, hK, hE, hA⟩ := X
  have hG : ∀ w ∈ GW, w.before args s = true := fun w h => hts w (List.mem_cons_of_mem _ h)
  exact va_getN (D := D) (ci := 2) (v := .int (cI u 26)) (C := RX2) (T := TX2) (N := 18) hx hb hG gwl_X2 hown hK hS.1 34 (cw_lit rfl) rfl 15 (by decide) (va_Nw.use rfl (hE.1 _ nw_522)) (fun _ h9 => h9) rfl hd kk
theorem cg_X7_51 (X : CC p s m args c cc nL c0 RX7 D kA V A) (hS : CS D kA Z A s u H locs) (hd : decode cc pc = .ok (.getfield 51, 3)) (kk : W p l e R s m args below meth c H locs cells slots Q (F0 m (pc + 3) ls (.int (cI u 27) :: rest))) : W p l e R s m args below meth c H locs cells slots Q (F0 m pc ls (.ref (Z 234) :: rest)) := by
  obtain ⟨⟨hx, hb, hml, hown, hts⟩, hK, hE, hA⟩ := X
  have hG : ∀ w ∈ GW, w.before args s = true := fun w h => hts w (List.mem_cons_of_mem _ h)
  exact va_getN (D := D) (ci := 2) (v := .int (cI u 27)) (C := RX2) (T := TX2) (N := 18) hx hb hG gwl_X2 hown hK hS.1 34 (cw_lit rfl) rfl 16 (by decide) (va_Nw.use rfl (hE.1 _ nw_524)) (fun _ h9 => h9) rfl hd kk
theorem cg_X7_52 (X : CC p s m args c cc nL c0 RX7 D kA V A) (hS : CS D kA Z A s u H locs) (hd : decode cc pc = .ok (.getfield 52, 3)) (kk : W p l e R s m args below meth c H locs cells slots Q (F0 m (pc + 3) ls (.int (cI u 28) :: rest))) : W p l e R s m args below meth c H locs cells slots Q (F0 m pc ls (.ref (Z 234) :: rest)) := by
  obtain ⟨⟨hx, hb, hml, hown, hts⟩, hK, hE, hA⟩ := X
  have hG : ∀ w ∈ GW, w.before args s = true := fun w h => hts w (List.mem_cons_of_mem _ h)
  exact va_getN (D := D) (ci := 2) (v := .int (cI u 28)) (C := RX2) (T := TX2) (N := 18) hx hb hG gwl_X2 hown hK hS.1 34 (cw_lit rfl) rfl 17 (by decide) (va_Nw.use rfl (hE.1 _ nw_526)) (fun _ h9 => h9) rfl hd kk
end C36machineR
section C36machine
variable {p : Program} {l : Launch} {e : Env} {R : Room} {s : State} {m : MethodId} {args : Array Value} {below : List Frame} {meth : Method} {c : Code} {H : Heap} {locs : List Loc} {Q : State → Prop} {cells slots : Nat}
variable {ls : Array Slot} {D : va_G} {kA : Nat → ClassId} {V Z : Nat → Nat} {A : Nat → Prop} {N d : Nat} {w : CSt}
def B_X2_numberAt_0 (N : Nat) (l1 : Int32) (u : CSt) : Option (Int64 × CSt) := if l1 < (0 : Int32) then (some (0, u)) else (if (6096 : Int32) ≤ l1 then (some (0, u)) else (rd (cB u 235) 6096 l1 fun v_4 => some (v_4, u)))
set_option maxHeartbeats 4000000 in
theorem b_X2_numberAt_0 {r : Int64} (X : CC p s m args c cX2_numberAt 2 (Cond.code yX2_numberAt cX2_numberAt 2 (some .long)) RX2 D kA V A) (hE : CEl p l e R s m args below meth c cX2_numberAt D kA Z A Q r w) (hF : 0 ≤ R.frames) (hL : 0 ≤ R.locals) {l1 : Int32} {u : CSt}  (h : B_X2_numberAt_0 N l1 u = some (r, w))  (hS : CS D kA Z A s u H locs) (hl : lv_has ls 2 [(0, .ref (Z 234)), (1, .int l1)]) : W p l e R s m args below meth c H locs 0 0 Q (F0 m 0 ls []) := by
  obtain ⟨⟨hx, hb, hml, hown, hts⟩, hK, hEV, hA⟩ := id X
  have hG : ∀ w ∈ GW, w.before args s = true := fun w h => hts w (List.mem_cons_of_mem _ h)
  unfold B_X2_numberAt_0 at h
  refine lv_iload_n hx hb dX2_numberAt_0 rfl (lv_at hl 1 rfl) ?_
  refine lv_if_lt (tgt := 20) hx hb dX2_numberAt_1 (by decide) (fun c_1 => ?_) (fun c_1 => ?_)
  · have h := ip (c_1) h
    refine lv_lconst (v := 0) hx hb dX2_numberAt_20 (by decide) ?_
    obtain ⟨rfl, rfl⟩ := so9 h
    exact hE _ _ _ _ hS dX2_numberAt_21
  · have h := im (c_1) h
    refine lv_iload_n hx hb dX2_numberAt_4 rfl (lv_at hl 1 rfl) ?_
    refine lv_sipush (v := 6096) hx hb dX2_numberAt_5 (by decide) ?_
    refine lv_icmp_ge (tgt := 20) hx hb dX2_numberAt_8 (by decide) (fun c_2 => ?_) (fun c_2 => ?_)
    · have h := ip (c_2) h
      refine lv_lconst (v := 0) hx hb dX2_numberAt_20 (by decide) ?_
      obtain ⟨rfl, rfl⟩ := so9 h
      exact hE _ _ _ _ hS dX2_numberAt_21
    · have h := im (c_2) h
      refine lv_aload_n hx hb dX2_numberAt_11 rfl (lv_at hl 0 rfl) ?_
      refine cg_X2_9 X hS dX2_numberAt_12 ?_
      refine lv_iload_n hx hb dX2_numberAt_15 rfl (lv_at hl 1 rfl) ?_
      obtain ⟨v_4, e_v_4, i_3, h⟩ := rd_of h
      refine ca_s235 X hS i_3 e_v_4 dX2_numberAt_16 ?_
      refine lv_goto (tgt := 21) hx hb dX2_numberAt_17 (by decide) ?_
      obtain ⟨rfl, rfl⟩ := so9 h
      exact hE _ _ _ _ hS dX2_numberAt_21
def F_X2_numberAt (N : Nat) (l1 : Int32) (u : CSt) : Option (Int64 × CSt) := B_X2_numberAt_0 N l1 u
set_option maxHeartbeats 4000000 in
theorem k_X2_numberAt (l : Launch) (D : va_G) (kA : Nat → ClassId) (V Z : Nat → Nat) (N : Nat) (l1 : Int32) (u : CSt) (sz : Nat) {r : Int64} {w : CSt} (h : F_X2_numberAt N l1 u = some (r, w)) : Met l yX2_numberAt (Cond.code yX2_numberAt cX2_numberAt 2 (some .long) :: GW) { frames := 0, cells := 0, slots := 0, locals := 0 } (cPc D kA V Z [.ref (Z 234), .int l1] u sz) (cQl D kA Z u sz r w) 0 0 (va_A (CW kA Z u) sz) := by
  refine Met.ofW (cc := cX2_numberAt) (maxL := 2) (ret := (some .long)) (by decide) rfl ?_
  intro p e s m args below meth c s₁ Bd hml hv
  obtain ⟨rfl, hsz, hP, hK, hD0, hE⟩ := hv
  have hts := atoms_spec (ws := Cond.code yX2_numberAt cX2_numberAt 2 (some .long) :: GW) Bd.pre
  have hl := lv_entry ([.ref (Z 234), .int l1]) (n := 2) (Nat.le_of_ble_eq_true rfl)
  rw [lg_entry_eq]
  generalize (lg_sl ([.ref (Z 234), .int l1]) ++ List.replicate (2 - (lg_sl ([.ref (Z 234), .int l1])).length) Slot.unset).toArray = ls at hl ⊢
  have hl : lv_has ls 2 [(0, .ref (Z 234)), (1, .int l1)] := hl
  subst hsz
  have X : CC p s m ([.ref (Z 234), .int l1]).toArray c cX2_numberAt 2 (Cond.code yX2_numberAt cX2_numberAt 2 (some .long)) RX2 D kA V (va_A (CW kA Z u) s.heap.size) := ⟨⟨Bd.exec, Bd.bytes, hml, findClass_of_methodNamed Bd.named, hts⟩, hK, hE, fun q h => Or.inr h⟩
  refine b_X2_numberAt_0 X (cend_l X Bd.returns Bd.notSynchronized) (Nat.le_refl _) (Nat.le_refl _) h  ⟨hP, hD0.self, va_S.rf⟩ (lv_sub hl [0, 1] rfl)
theorem kc_X2_numberAt_RX2 {cc : ByteArray} {pc nL : Nat} {c0 : Cond} {rest : List Value} {l1 : Int32} {u w1 : CSt} {r : Int64} (X : CC p s m args c cc nL c0 RX2 D kA V A)  (hS : CS D kA Z A s u H locs) (h : F_X2_numberAt N l1 u = some (r, w1)) (hF : 0 + 1 ≤ R.frames) (hL : 8 + (2 + 11) + 0 ≤ R.locals) (hl : ls.size = nL) (hc : (rest.map fun v => v.category).sum ≤ 8) (hdg : decode cc pc = .ok (.invokevirtual 62, 3)) (kk : ∀ H locs, CS D kA Z A s w1 H locs → W p l e R s m args below meth c H locs 0 0 Q (F0 m (pc + 3) ls (.long r :: rest))) : W p l e R s m args below meth c H locs 0 0 Q (F0 m pc ls (.int l1 :: .ref (Z 234) :: rest)) :=
  ccall_l (n := 1) X hS (k_X2_numberAt l D kA V Z N l1  u H.size h) (gw_V gw_1453 gw_1454 gw_1455 gw_15 gw_1456) (by decide +kernel) (va_recv X.2.1 hS.1 (ci := 2) (q0 := 34) rfl (cw_lit rfl)) hF hL rfl hl hc rfl hdg kk
theorem kc_X2_numberAt_RX11 {cc : ByteArray} {pc nL : Nat} {c0 : Cond} {rest : List Value} {l1 : Int32} {u w1 : CSt} {r : Int64} (X : CC p s m args c cc nL c0 RX11 D kA V A)  (hS : CS D kA Z A s u H locs) (h : F_X2_numberAt N l1 u = some (r, w1)) (hF : 0 + 1 ≤ R.frames) (hL : 8 + (2 + 11) + 0 ≤ R.locals) (hl : ls.size = nL) (hc : (rest.map fun v => v.category).sum ≤ 8) (hdg : decode cc pc = .ok (.invokevirtual 257, 3)) (kk : ∀ H locs, CS D kA Z A s w1 H locs → W p l e R s m args below meth c H locs 0 0 Q (F0 m (pc + 3) ls (.long r :: rest))) : W p l e R s m args below meth c H locs 0 0 Q (F0 m pc ls (.int l1 :: .ref (Z 234) :: rest)) :=
  ccall_l (n := 1) X hS (k_X2_numberAt l D kA V Z N l1  u H.size h) (gw_V gw_1458 gw_1454 gw_1455 gw_15 gw_1456) (by decide +kernel) (va_recv X.2.1 hS.1 (ci := 2) (q0 := 34) rfl (cw_lit rfl)) hF hL rfl hl hc rfl hdg kk
def B_X2_put_0 (N : Nat) (l1 : Int32) (l2 : Int64) (u : CSt) : Option (Int32 × CSt) := if l1 < (0 : Int32) then (some (0, u)) else (if (6096 : Int32) ≤ l1 then (some (0, u)) else (wc 6096 l1 (xB u 235 l1.toNatClampNeg l2) fun u_4 => some (0, u_4)))
set_option maxHeartbeats 4000000 in
theorem b_X2_put_0 {r : Int32} (X : CC p s m args c cX2_put 4 (Cond.code yX2_put cX2_put 4 none) RX2 D kA V A) (hE : CEv p l e R s m args below meth c cX2_put D kA Z A Q w) (hF : 0 ≤ R.frames) (hL : 0 ≤ R.locals) {l1 : Int32} {l2 : Int64} {u : CSt}  (h : B_X2_put_0 N l1 l2 u = some (r, w))  (hS : CS D kA Z A s u H locs) (hl : lv_has ls 4 [(0, .ref (Z 234)), (1, .int l1), (2, .long l2)]) : W p l e R s m args below meth c H locs 0 0 Q (F0 m 0 ls []) := by
  obtain ⟨⟨hx, hb, hml, hown, hts⟩, hK, hEV, hA⟩ := id X
  have hG : ∀ w ∈ GW, w.before args s = true := fun w h => hts w (List.mem_cons_of_mem _ h)
  unfold B_X2_put_0 at h
  refine lv_iload_n hx hb dX2_put_0 rfl (lv_at hl 1 rfl) ?_
  refine lv_if_lt (tgt := 18) hx hb dX2_put_1 (by decide) (fun c_1 => ?_) (fun c_1 => ?_)
  · have h := ip (c_1) h
    obtain ⟨-, rfl⟩ := so9 h
    exact hE _ _ _ _ hS dX2_put_18
  · have h := im (c_1) h
    refine lv_iload_n hx hb dX2_put_4 rfl (lv_at hl 1 rfl) ?_
    refine lv_sipush (v := 6096) hx hb dX2_put_5 (by decide) ?_
    refine lv_icmp_ge (tgt := 18) hx hb dX2_put_8 (by decide) (fun c_2 => ?_) (fun c_2 => ?_)
    · have h := ip (c_2) h
      obtain ⟨-, rfl⟩ := so9 h
      exact hE _ _ _ _ hS dX2_put_18
    · have h := im (c_2) h
      refine lv_aload_n hx hb dX2_put_11 rfl (lv_at hl 0 rfl) ?_
      refine cg_X2_9 X hS dX2_put_12 ?_
      refine lv_iload_n hx hb dX2_put_15 rfl (lv_at hl 1 rfl) ?_
      refine lv_lload_n hx hb dX2_put_16 rfl (lv_at hl 2 rfl) ?_
      obtain ⟨u_4, e_u_4, i_3, h⟩ := wc_of h
      refine cs_s235 X hS i_3 e_u_4 dX2_put_17 (fun H locs hS => ?_)
      obtain ⟨-, rfl⟩ := so9 h
      exact hE _ _ _ _ hS dX2_put_18
def F_X2_put (N : Nat) (l1 : Int32) (l2 : Int64) (u : CSt) : Option (Int32 × CSt) := B_X2_put_0 N l1 l2 u
set_option maxHeartbeats 4000000 in
theorem k_X2_put (l : Launch) (D : va_G) (kA : Nat → ClassId) (V Z : Nat → Nat) (N : Nat) (l1 : Int32) (l2 : Int64) (u : CSt) (sz : Nat) {r : Int32} {w : CSt} (h : F_X2_put N l1 l2 u = some (r, w)) : Met l yX2_put (Cond.code yX2_put cX2_put 4 none :: GW) { frames := 0, cells := 0, slots := 0, locals := 0 } (cPc D kA V Z [.ref (Z 234), .int l1, .long l2] u sz) (cQv D kA Z u sz w) 0 0 (va_A (CW kA Z u) sz) := by
  refine Met.ofW (cc := cX2_put) (maxL := 4) (ret := none) (by decide) rfl ?_
  intro p e s m args below meth c s₁ Bd hml hv
  obtain ⟨rfl, hsz, hP, hK, hD0, hE⟩ := hv
  have hts := atoms_spec (ws := Cond.code yX2_put cX2_put 4 none :: GW) Bd.pre
  have hl := lv_entry ([.ref (Z 234), .int l1, .long l2]) (n := 4) (Nat.le_of_ble_eq_true rfl)
  rw [lg_entry_eq]
  generalize (lg_sl ([.ref (Z 234), .int l1, .long l2]) ++ List.replicate (4 - (lg_sl ([.ref (Z 234), .int l1, .long l2])).length) Slot.unset).toArray = ls at hl ⊢
  have hl : lv_has ls 4 [(0, .ref (Z 234)), (1, .int l1), (2, .long l2)] := hl
  subst hsz
  have X : CC p s m ([.ref (Z 234), .int l1, .long l2]).toArray c cX2_put 4 (Cond.code yX2_put cX2_put 4 none) RX2 D kA V (va_A (CW kA Z u) s.heap.size) := ⟨⟨Bd.exec, Bd.bytes, hml, findClass_of_methodNamed Bd.named, hts⟩, hK, hE, fun q h => Or.inr h⟩
  refine b_X2_put_0 X (cend_v X Bd.returns Bd.notSynchronized) (Nat.le_refl _) (Nat.le_refl _) h  ⟨hP, hD0.self, va_S.rf⟩ (lv_sub hl [0, 1, 2] rfl)
theorem kc_X2_put_RX2 {cc : ByteArray} {pc nL : Nat} {c0 : Cond} {rest : List Value} {l1 : Int32} {l2 : Int64} {u w1 : CSt} {r : Int32} (X : CC p s m args c cc nL c0 RX2 D kA V A)  (hS : CS D kA Z A s u H locs) (h : F_X2_put N l1 l2 u = some (r, w1)) (hF : 0 + 1 ≤ R.frames) (hL : 8 + (4 + 11) + 0 ≤ R.locals) (hl : ls.size = nL) (hc : (rest.map fun v => v.category).sum ≤ 8) (hdg : decode cc pc = .ok (.invokevirtual 36, 3)) (kk : ∀ H locs, CS D kA Z A s w1 H locs → W p l e R s m args below meth c H locs 0 0 Q (F0 m (pc + 3) ls (rest))) : W p l e R s m args below meth c H locs 0 0 Q (F0 m pc ls (.long l2 :: .int l1 :: .ref (Z 234) :: rest)) :=
  ccall_v (n := 2) X hS (k_X2_put l D kA V Z N l1 l2  u H.size h) (gw_V gw_1400 gw_1402 gs_6_4 gw_15 gw_1403) (by decide +kernel) (va_recv X.2.1 hS.1 (ci := 2) (q0 := 34) rfl (cw_lit rfl)) hF hL rfl hl hc rfl hdg kk
def B_X2_fill_3 (N : Nat) (R_3 : Int32 × Int32 × Int64 × Int32 × CSt → Option (Int32 × CSt)) (l1 : Int32) (l2 : Int32) (l3 : Int64) (l5 : Int32) (u : CSt) : Option (Int32 × CSt) := if l2 ≤ l5 then (some (0, u)) else (bc (F_X2_put N (l1 + l5) l3 u) fun _ u_2 => R_3 (l1, l2, l3, (l5 + 1), u_2))
set_option maxHeartbeats 4000000 in
theorem b_X2_fill_3 {r : Int32} (X : CC p s m args c cX2_fill 6 (Cond.code yX2_fill cX2_fill 6 none) RX2 D kA V A) (hE : CEv p l e R s m args below meth c cX2_fill D kA Z A Q w) (hF : 1 ≤ R.frames) (hL : 23 ≤ R.locals) {R_3 : Int32 × Int32 × Int64 × Int32 × CSt → Option (Int32 × CSt)} {l1 : Int32} {l2 : Int32} {l3 : Int64} {l5 : Int32} {u : CSt} (hR_3 : ∀ (l1 : Int32) (l2 : Int32) (l3 : Int64) (l5 : Int32) (u : CSt), R_3 (l1, l2, l3, l5, u) = some (r, w) → ∀ (H : Heap) (locs : List Loc) (ls : Array Slot), CS D kA Z A s u H locs → lv_has ls 6 [(0, .ref (Z 234)), (1, .int l1), (2, .int l2), (3, .long l3), (5, .int l5)] → W p l e R s m args below meth c H locs 0 0 Q (F0 m 3 ls [])) (h : B_X2_fill_3 N R_3 l1 l2 l3 l5 u = some (r, w))  (hS : CS D kA Z A s u H locs) (hl : lv_has ls 6 [(0, .ref (Z 234)), (1, .int l1), (2, .int l2), (3, .long l3), (5, .int l5)]) : W p l e R s m args below meth c H locs 0 0 Q (F0 m 3 ls []) := by
  obtain ⟨⟨hx, hb, hml, hown, hts⟩, hK, hEV, hA⟩ := id X
  have hG : ∀ w ∈ GW, w.before args s = true := fun w h => hts w (List.mem_cons_of_mem _ h)
  unfold B_X2_fill_3 at h
  refine lv_iload hx hb dX2_fill_3 (lv_at hl 4 rfl) ?_
  refine lv_iload_n hx hb dX2_fill_5 rfl (lv_at hl 2 rfl) ?_
  refine lv_icmp_ge (tgt := 24) hx hb dX2_fill_6 (by decide) (fun c_1 => ?_) (fun c_1 => ?_)
  · have h := ip (c_1) h
    obtain ⟨-, rfl⟩ := so9 h
    exact hE _ _ _ _ hS dX2_fill_24
  · have h := im (c_1) h
    refine lv_aload_n hx hb dX2_fill_9 rfl (lv_at hl 0 rfl) ?_
    refine lv_iload_n hx hb dX2_fill_10 rfl (lv_at hl 1 rfl) ?_
    refine lv_iload hx hb dX2_fill_11 (lv_at hl 4 rfl) ?_
    refine lv_iadd hx hb dX2_fill_13 ?_
    refine lv_lload_n hx hb dX2_fill_14 rfl (lv_at hl 3 rfl) ?_
    obtain ⟨r_u_2, u_2, h_u_2, h⟩ := bc_of h
    refine kc_X2_put_RX2 X  hS h_u_2 (Nat.le_trans (Nat.le_of_ble_eq_true rfl) hF) (Nat.le_trans (Nat.le_of_ble_eq_true rfl) hL) hl.1 (Nat.le_of_ble_eq_true rfl) dX2_fill_15 (fun H locs hS => ?_)
    refine lv_iinc (v := l5 + 1) (lv' := [(5, .int (l5 + 1)), (0, .ref (Z 234)), (1, .int l1), (2, .int l2), (3, .long l3)]) hx hb dX2_fill_18 hl (k := 4) rfl rfl (by decide) rfl (fun ls hl => ?_)
    refine lv_goto (tgt := 3) hx hb dX2_fill_21 (by decide) ?_
    exact hR_3 _ _ _ _ _  h _ _ _ hS (lv_sub hl [1, 2, 3, 4, 0] rfl)
def LP_X2_fill_3 (N : Nat) : Nat → Int32 × Int32 × Int64 × Int32 × CSt → Option (Int32 × CSt) := lp (fun R a => B_X2_fill_3 N R a.1 a.2.1 a.2.2.1 a.2.2.2.1 a.2.2.2.2)
theorem bl_X2_fill_3 {r : Int32} (X : CC p s m args c cX2_fill 6 (Cond.code yX2_fill cX2_fill 6 none) RX2 D kA V A) (hE : CEv p l e R s m args below meth c cX2_fill D kA Z A Q w) (hF : 1 ≤ R.frames) (hL : 23 ≤ R.locals)  : ∀ (n : Nat) (l1 : Int32) (l2 : Int32) (l3 : Int64) (l5 : Int32) (u : CSt), LP_X2_fill_3 N n (l1, l2, l3, l5, u) = some (r, w) → ∀ (H : Heap) (locs : List Loc) (ls : Array Slot), CS D kA Z A s u H locs → lv_has ls 6 [(0, .ref (Z 234)), (1, .int l1), (2, .int l2), (3, .long l3), (5, .int l5)] → W p l e R s m args below meth c H locs 0 0 Q (F0 m 3 ls []) := by
  intro n
  induction n with
  | zero => intro l1 l2 l3 l5 u h; exact nomatch h
  | succ n ih => intro l1 l2 l3 l5 u h H locs ls hS hl; exact b_X2_fill_3 (N := N) (R_3 := LP_X2_fill_3 N n) X hE  hF hL  ih h  hS hl
def B_X2_fill_0 (N : Nat) (l1 : Int32) (l2 : Int32) (l3 : Int64) (u : CSt) : Option (Int32 × CSt) := LP_X2_fill_3 N N (l1, l2, l3, 0, u)
set_option maxHeartbeats 4000000 in
theorem b_X2_fill_0 {r : Int32} (X : CC p s m args c cX2_fill 6 (Cond.code yX2_fill cX2_fill 6 none) RX2 D kA V A) (hE : CEv p l e R s m args below meth c cX2_fill D kA Z A Q w) (hF : 1 ≤ R.frames) (hL : 23 ≤ R.locals) {l1 : Int32} {l2 : Int32} {l3 : Int64} {u : CSt}  (h : B_X2_fill_0 N l1 l2 l3 u = some (r, w))  (hS : CS D kA Z A s u H locs) (hl : lv_has ls 6 [(0, .ref (Z 234)), (1, .int l1), (2, .int l2), (3, .long l3)]) : W p l e R s m args below meth c H locs 0 0 Q (F0 m 0 ls []) := by
  obtain ⟨⟨hx, hb, hml, hown, hts⟩, hK, hEV, hA⟩ := id X
  have hG : ∀ w ∈ GW, w.before args s = true := fun w h => hts w (List.mem_cons_of_mem _ h)
  unfold B_X2_fill_0 at h
  refine lv_iconst (v := 0) hx hb dX2_fill_0 (by decide) ?_
  refine lv_istore (lv' := [(5, .int 0), (0, .ref (Z 234)), (1, .int l1), (2, .int l2), (3, .long l3)]) hx hb dX2_fill_1 hl (by decide) rfl (fun ls hl => ?_)
  exact bl_X2_fill_3 X hE  hF hL  _ _ _ _ _ _  h _ _ _ hS (lv_sub hl [1, 2, 3, 4, 0] rfl)
def F_X2_fill (N : Nat) (l1 : Int32) (l2 : Int32) (l3 : Int64) (u : CSt) : Option (Int32 × CSt) := B_X2_fill_0 N l1 l2 l3 u
set_option maxHeartbeats 4000000 in
theorem k_X2_fill (l : Launch) (D : va_G) (kA : Nat → ClassId) (V Z : Nat → Nat) (N : Nat) (l1 : Int32) (l2 : Int32) (l3 : Int64) (u : CSt) (sz : Nat) {r : Int32} {w : CSt} (h : F_X2_fill N l1 l2 l3 u = some (r, w)) : Met l yX2_fill (Cond.code yX2_fill cX2_fill 6 none :: GW) { frames := 1, cells := 0, slots := 0, locals := 23 } (cPc D kA V Z [.ref (Z 234), .int l1, .int l2, .long l3] u sz) (cQv D kA Z u sz w) 0 0 (va_A (CW kA Z u) sz) := by
  refine Met.ofW (cc := cX2_fill) (maxL := 6) (ret := none) (by decide) rfl ?_
  intro p e s m args below meth c s₁ Bd hml hv
  obtain ⟨rfl, hsz, hP, hK, hD0, hE⟩ := hv
  have hts := atoms_spec (ws := Cond.code yX2_fill cX2_fill 6 none :: GW) Bd.pre
  have hl := lv_entry ([.ref (Z 234), .int l1, .int l2, .long l3]) (n := 6) (Nat.le_of_ble_eq_true rfl)
  rw [lg_entry_eq]
  generalize (lg_sl ([.ref (Z 234), .int l1, .int l2, .long l3]) ++ List.replicate (6 - (lg_sl ([.ref (Z 234), .int l1, .int l2, .long l3])).length) Slot.unset).toArray = ls at hl ⊢
  have hl : lv_has ls 6 [(0, .ref (Z 234)), (1, .int l1), (2, .int l2), (3, .long l3)] := hl
  subst hsz
  have X : CC p s m ([.ref (Z 234), .int l1, .int l2, .long l3]).toArray c cX2_fill 6 (Cond.code yX2_fill cX2_fill 6 none) RX2 D kA V (va_A (CW kA Z u) s.heap.size) := ⟨⟨Bd.exec, Bd.bytes, hml, findClass_of_methodNamed Bd.named, hts⟩, hK, hE, fun q h => Or.inr h⟩
  refine b_X2_fill_0 X (cend_v X Bd.returns Bd.notSynchronized) (Nat.le_refl _) (Nat.le_refl _) h  ⟨hP, hD0.self, va_S.rf⟩ (lv_sub hl [0, 1, 2, 3] rfl)
theorem kc_X2_fill_RX2 {cc : ByteArray} {pc nL : Nat} {c0 : Cond} {rest : List Value} {l1 : Int32} {l2 : Int32} {l3 : Int64} {u w1 : CSt} {r : Int32} (X : CC p s m args c cc nL c0 RX2 D kA V A)  (hS : CS D kA Z A s u H locs) (h : F_X2_fill N l1 l2 l3 u = some (r, w1)) (hF : 1 + 1 ≤ R.frames) (hL : 8 + (6 + 11) + 23 ≤ R.locals) (hl : ls.size = nL) (hc : (rest.map fun v => v.category).sum ≤ 8) (hdg : decode cc pc = .ok (.invokevirtual 99, 3)) (kk : ∀ H locs, CS D kA Z A s w1 H locs → W p l e R s m args below meth c H locs 0 0 Q (F0 m (pc + 3) ls (rest))) : W p l e R s m args below meth c H locs 0 0 Q (F0 m pc ls (.long l3 :: .int l2 :: .int l1 :: .ref (Z 234) :: rest)) :=
  ccall_v (n := 3) X hS (k_X2_fill l D kA V Z N l1 l2 l3  u H.size h) (gw_V gw_1396 gw_1397 gw_1398 gw_15 gw_1399) (by decide +kernel) (va_recv X.2.1 hS.1 (ci := 2) (q0 := 34) rfl (cw_lit rfl)) hF hL rfl hl hc rfl hdg kk
theorem kc_X2_fill_RX11 {cc : ByteArray} {pc nL : Nat} {c0 : Cond} {rest : List Value} {l1 : Int32} {l2 : Int32} {l3 : Int64} {u w1 : CSt} {r : Int32} (X : CC p s m args c cc nL c0 RX11 D kA V A)  (hS : CS D kA Z A s u H locs) (h : F_X2_fill N l1 l2 l3 u = some (r, w1)) (hF : 1 + 1 ≤ R.frames) (hL : 8 + (6 + 11) + 23 ≤ R.locals) (hl : ls.size = nL) (hc : (rest.map fun v => v.category).sum ≤ 8) (hdg : decode cc pc = .ok (.invokevirtual 140, 3)) (kk : ∀ H locs, CS D kA Z A s w1 H locs → W p l e R s m args below meth c H locs 0 0 Q (F0 m (pc + 3) ls (rest))) : W p l e R s m args below meth c H locs 0 0 Q (F0 m pc ls (.long l3 :: .int l2 :: .int l1 :: .ref (Z 234) :: rest)) :=
  ccall_v (n := 3) X hS (k_X2_fill l D kA V Z N l1 l2 l3  u H.size h) (gw_V gw_1435 gw_1397 gw_1398 gw_15 gw_1399) (by decide +kernel) (va_recv X.2.1 hS.1 (ci := 2) (q0 := 34) rfl (cw_lit rfl)) hF hL rfl hl hc rfl hdg kk
def B_X2_numberOf_23 (N : Nat) (l1 : Nat) (s1 : Int32) (u : CSt) : Option (Int64 × CSt) := bc (F_X1_get N s1 (mI u l1 9) (mI u l1 5) u) fun r_2 u_1 => some (r_2, u_1)
set_option maxHeartbeats 4000000 in
theorem b_X2_numberOf_23 {r : Int64} (X : CC p s m args c cX2_numberOf 3 (Cond.code yX2_numberOf cX2_numberOf 3 (some .long)) RX2 D kA V A) (hE : CEl p l e R s m args below meth c cX2_numberOf D kA Z A Q r w) (hF : 2 ≤ R.frames) (hL : 48 ≤ R.locals) {l1 : Nat} {s1 : Int32} {u : CSt}  (h : B_X2_numberOf_23 N l1 s1 u = some (r, w)) (h_l1 : l1 < 338) (hS : CS D kA Z A s u H locs) (hl : lv_has ls 3 [(1, .ref (Z (1000 + l1)))]) : W p l e R s m args below meth c H locs 0 0 Q (F0 m 23 ls [.int s1, .ref (Z 209)]) := by
  obtain ⟨⟨hx, hb, hml, hown, hts⟩, hK, hEV, hA⟩ := id X
  have hG : ∀ w ∈ GW, w.before args s = true := fun w h => hts w (List.mem_cons_of_mem _ h)
  unfold B_X2_numberOf_23 at h
  refine lv_aload_n hx hb dX2_numberOf_23 rfl (lv_at hl 0 rfl) ?_
  refine cg_X2_49 X h_l1 hS dX2_numberOf_24 ?_
  refine lv_aload_n hx hb dX2_numberOf_27 rfl (lv_at hl 0 rfl) ?_
  refine cg_X2_53 X h_l1 hS dX2_numberOf_28 ?_
  obtain ⟨r_2, u_1, h_u_1, h⟩ := bc_of h
  refine kc_X1_get_RX2 X  hS h_u_1 (Nat.le_trans (Nat.le_of_ble_eq_true rfl) hF) (Nat.le_trans (Nat.le_of_ble_eq_true rfl) hL) hl.1 (Nat.le_of_ble_eq_true rfl) dX2_numberOf_31 (fun H locs hS => ?_)
  obtain ⟨rfl, rfl⟩ := so9 h
  exact hE _ _ _ _ hS dX2_numberOf_34
def B_X2_numberOf_0 (N : Nat) (l1 : Nat) (l2 : Int32) (u : CSt) : Option (Int64 × CSt) := bc (F_X4_isPlaced N l1 u) fun r_4 u_3 => if r_4 = (0 : Int32) then (bc (F_X2_numberAt N ((mI u_3 l1 9) + l2) u_3) fun r_7 u_6 => some (r_7, u_6)) else (bc (F_X4_isInput N l1 u_3) fun r_9 u_8 => if r_9 = (0 : Int32) then (B_X2_numberOf_23 N l1 3 u_8) else (B_X2_numberOf_23 N l1 2 u_8))
set_option maxHeartbeats 4000000 in
theorem b_X2_numberOf_0 {r : Int64} (X : CC p s m args c cX2_numberOf 3 (Cond.code yX2_numberOf cX2_numberOf 3 (some .long)) RX2 D kA V A) (hE : CEl p l e R s m args below meth c cX2_numberOf D kA Z A Q r w) (hF : 2 ≤ R.frames) (hL : 48 ≤ R.locals) {l1 : Nat} {l2 : Int32} {u : CSt}  (h : B_X2_numberOf_0 N l1 l2 u = some (r, w)) (h_l1 : l1 < 338) (hS : CS D kA Z A s u H locs) (hl : lv_has ls 3 [(0, .ref (Z 234)), (1, .ref (Z (1000 + l1))), (2, .int l2)]) : W p l e R s m args below meth c H locs 0 0 Q (F0 m 0 ls []) := by
  obtain ⟨⟨hx, hb, hml, hown, hts⟩, hK, hEV, hA⟩ := id X
  have hG : ∀ w ∈ GW, w.before args s = true := fun w h => hts w (List.mem_cons_of_mem _ h)
  unfold B_X2_numberOf_0 at h
  refine lv_aload_n hx hb dX2_numberOf_0 rfl (lv_at hl 1 rfl) ?_
  obtain ⟨r_4, u_3, h_u_3, h⟩ := bc_of h
  refine kc_X4_isPlaced_RX2 X h_l1 hS h_u_3 (Nat.le_trans (Nat.le_of_ble_eq_true rfl) hF) (Nat.le_trans (Nat.le_of_ble_eq_true rfl) hL) hl.1 (Nat.le_of_ble_eq_true rfl) dX2_numberOf_1 (fun H locs hS => ?_)
  refine lv_if_eq (tgt := 35) hx hb dX2_numberOf_4 (by decide) (fun c_5 => ?_) (fun c_5 => ?_)
  · have h := ip (c_5) h
    refine lv_aload_n hx hb dX2_numberOf_35 rfl (lv_at hl 0 rfl) ?_
    refine lv_aload_n hx hb dX2_numberOf_36 rfl (lv_at hl 1 rfl) ?_
    refine cg_X2_49 X h_l1 hS dX2_numberOf_37 ?_
    refine lv_iload_n hx hb dX2_numberOf_40 rfl (lv_at hl 2 rfl) ?_
    refine lv_iadd hx hb dX2_numberOf_41 ?_
    obtain ⟨r_7, u_6, h_u_6, h⟩ := bc_of h
    refine kc_X2_numberAt_RX2 X  hS h_u_6 (Nat.le_trans (Nat.le_of_ble_eq_true rfl) hF) (Nat.le_trans (Nat.le_of_ble_eq_true rfl) hL) hl.1 (Nat.le_of_ble_eq_true rfl) dX2_numberOf_42 (fun H locs hS => ?_)
    obtain ⟨rfl, rfl⟩ := so9 h
    exact hE _ _ _ _ hS dX2_numberOf_45
  · have h := im (c_5) h
    refine lv_aload_n hx hb dX2_numberOf_7 rfl (lv_at hl 0 rfl) ?_
    refine cg_X2_28 X hS dX2_numberOf_8 ?_
    refine lv_aload_n hx hb dX2_numberOf_11 rfl (lv_at hl 1 rfl) ?_
    obtain ⟨r_9, u_8, h_u_8, h⟩ := bc_of h
    refine kc_X4_isInput_RX2 X h_l1 hS h_u_8 (Nat.le_trans (Nat.le_of_ble_eq_true rfl) hF) (Nat.le_trans (Nat.le_of_ble_eq_true rfl) hL) hl.1 (Nat.le_of_ble_eq_true rfl) dX2_numberOf_12 (fun H locs hS => ?_)
    refine lv_if_eq (tgt := 22) hx hb dX2_numberOf_15 (by decide) (fun c_10 => ?_) (fun c_10 => ?_)
    · have h := ip (c_10) h
      refine lv_iconst (v := 3) hx hb dX2_numberOf_22 (by decide) ?_
      exact b_X2_numberOf_23 X hE  hF hL  h h_l1 hS (lv_sub hl [1] rfl)
    · have h := im (c_10) h
      refine lv_iconst (v := 2) hx hb dX2_numberOf_18 (by decide) ?_
      refine lv_goto (tgt := 23) hx hb dX2_numberOf_19 (by decide) ?_
      exact b_X2_numberOf_23 X hE  hF hL  h h_l1 hS (lv_sub hl [1] rfl)
def F_X2_numberOf (N : Nat) (l1 : Nat) (l2 : Int32) (u : CSt) : Option (Int64 × CSt) := B_X2_numberOf_0 N l1 l2 u
set_option maxHeartbeats 4000000 in
theorem k_X2_numberOf (l : Launch) (D : va_G) (kA : Nat → ClassId) (V Z : Nat → Nat) (N : Nat) (l1 : Nat) (l2 : Int32) (h_l1 : l1 < 338) (u : CSt) (sz : Nat) {r : Int64} {w : CSt} (h : F_X2_numberOf N l1 l2 u = some (r, w)) : Met l yX2_numberOf (Cond.code yX2_numberOf cX2_numberOf 3 (some .long) :: GW) { frames := 2, cells := 0, slots := 0, locals := 48 } (cPc D kA V Z [.ref (Z 234), .ref (Z (1000 + l1)), .int l2] u sz) (cQl D kA Z u sz r w) 0 0 (va_A (CW kA Z u) sz) := by
  refine Met.ofW (cc := cX2_numberOf) (maxL := 3) (ret := (some .long)) (by decide) rfl ?_
  intro p e s m args below meth c s₁ Bd hml hv
  obtain ⟨rfl, hsz, hP, hK, hD0, hE⟩ := hv
  have hts := atoms_spec (ws := Cond.code yX2_numberOf cX2_numberOf 3 (some .long) :: GW) Bd.pre
  have hl := lv_entry ([.ref (Z 234), .ref (Z (1000 + l1)), .int l2]) (n := 3) (Nat.le_of_ble_eq_true rfl)
  rw [lg_entry_eq]
  generalize (lg_sl ([.ref (Z 234), .ref (Z (1000 + l1)), .int l2]) ++ List.replicate (3 - (lg_sl ([.ref (Z 234), .ref (Z (1000 + l1)), .int l2])).length) Slot.unset).toArray = ls at hl ⊢
  have hl : lv_has ls 3 [(0, .ref (Z 234)), (1, .ref (Z (1000 + l1))), (2, .int l2)] := hl
  subst hsz
  have X : CC p s m ([.ref (Z 234), .ref (Z (1000 + l1)), .int l2]).toArray c cX2_numberOf 3 (Cond.code yX2_numberOf cX2_numberOf 3 (some .long)) RX2 D kA V (va_A (CW kA Z u) s.heap.size) := ⟨⟨Bd.exec, Bd.bytes, hml, findClass_of_methodNamed Bd.named, hts⟩, hK, hE, fun q h => Or.inr h⟩
  refine b_X2_numberOf_0 X (cend_l X Bd.returns Bd.notSynchronized) (Nat.le_refl _) (Nat.le_refl _) h h_l1 ⟨hP, hD0.self, va_S.rf⟩ (lv_sub hl [0, 1, 2] rfl)
theorem kc_X2_numberOf_RX11 {cc : ByteArray} {pc nL : Nat} {c0 : Cond} {rest : List Value} {l1 : Nat} {l2 : Int32} {u w1 : CSt} {r : Int64} (X : CC p s m args c cc nL c0 RX11 D kA V A) (h_l1 : l1 < 338) (hS : CS D kA Z A s u H locs) (h : F_X2_numberOf N l1 l2 u = some (r, w1)) (hF : 2 + 1 ≤ R.frames) (hL : 8 + (3 + 11) + 48 ≤ R.locals) (hl : ls.size = nL) (hc : (rest.map fun v => v.category).sum ≤ 8) (hdg : decode cc pc = .ok (.invokevirtual 212, 3)) (kk : ∀ H locs, CS D kA Z A s w1 H locs → W p l e R s m args below meth c H locs 0 0 Q (F0 m (pc + 3) ls (.long r :: rest))) : W p l e R s m args below meth c H locs 0 0 Q (F0 m pc ls (.int l2 :: .ref (Z (1000 + l1)) :: .ref (Z 234) :: rest)) :=
  ccall_l (n := 2) X hS (k_X2_numberOf l D kA V Z N l1 l2 h_l1 u H.size h) (gw_V gw_1442 gw_1443 gw_1444 gw_15 gw_1445) (by decide +kernel) (va_recv X.2.1 hS.1 (ci := 2) (q0 := 34) rfl (cw_lit rfl)) hF hL rfl hl hc rfl hdg kk
def B_X2_change_0 (N : Nat) (l1 : Nat) (l2 : Int32) (l3 : Int64) (u : CSt) : Option (Int32 × CSt) := bc (F_X4_isPlaced N l1 u) fun r_2 u_1 => if r_2 = (0 : Int32) then (bc (F_X2_put N ((mI u_1 l1 9) + l2) (n_cut (mI u_1 l1 5) l3) u_1) fun _ u_6 => some (0, u_6)) else (bc (F_X1_set N (mI u_1 l1 9) (mI u_1 l1 5) l3 u_1) fun _ u_7 => some (0, u_7))
set_option maxHeartbeats 4000000 in
theorem b_X2_change_0 {r : Int32} (X : CC p s m args c cX2_change 5 (Cond.code yX2_change cX2_change 5 none) RX2 D kA V A) (hE : CEv p l e R s m args below meth c cX2_change D kA Z A Q w) (hF : 1 ≤ R.frames) (hL : 26 ≤ R.locals) {l1 : Nat} {l2 : Int32} {l3 : Int64} {u : CSt}  (h : B_X2_change_0 N l1 l2 l3 u = some (r, w)) (h_l1 : l1 < 338) (hS : CS D kA Z A s u H locs) (hl : lv_has ls 5 [(0, .ref (Z 234)), (1, .ref (Z (1000 + l1))), (2, .int l2), (3, .long l3)]) : W p l e R s m args below meth c H locs 0 0 Q (F0 m 0 ls []) := by
  obtain ⟨⟨hx, hb, hml, hown, hts⟩, hK, hEV, hA⟩ := id X
  have hG : ∀ w ∈ GW, w.before args s = true := fun w h => hts w (List.mem_cons_of_mem _ h)
  unfold B_X2_change_0 at h
  refine lv_aload_n hx hb dX2_change_0 rfl (lv_at hl 1 rfl) ?_
  obtain ⟨r_2, u_1, h_u_1, h⟩ := bc_of h
  refine kc_X4_isPlaced_RX2 X h_l1 hS h_u_1 (Nat.le_trans (Nat.le_of_ble_eq_true rfl) hF) (Nat.le_trans (Nat.le_of_ble_eq_true rfl) hL) hl.1 (Nat.le_of_ble_eq_true rfl) dX2_change_1 (fun H locs hS => ?_)
  refine lv_if_eq (tgt := 26) hx hb dX2_change_4 (by decide) (fun c_3 => ?_) (fun c_3 => ?_)
  · have h := ip (c_3) h
    refine lv_aload_n hx hb dX2_change_26 rfl (lv_at hl 0 rfl) ?_
    refine lv_aload_n hx hb dX2_change_27 rfl (lv_at hl 1 rfl) ?_
    refine cg_X2_49 X h_l1 hS dX2_change_28 ?_
    refine lv_iload_n hx hb dX2_change_31 rfl (lv_at hl 2 rfl) ?_
    refine lv_iadd hx hb dX2_change_32 ?_
    refine lv_aload_n hx hb dX2_change_33 rfl (lv_at hl 1 rfl) ?_
    refine cg_X2_53 X h_l1 hS dX2_change_34 ?_
    refine lv_lload_n hx hb dX2_change_37 rfl (lv_at hl 3 rfl) ?_
    refine vp_callSl (W.runS (As := [.int (mI u_1 l1 5), .long l3]) (rest := [.int ((mI u_1 l1 9) + l2), .ref (Z 234)]) X.1 (c_X5_cutTo l (mI u_1 l1 5) l3) (va_cwS 2 hts (gw_P gw_1409 gw_1077 gw_24 gwp_X5_cutTo) rfl rfl rfl (by decide +kernel) ⟨Nat.le_trans (Nat.le_of_ble_eq_true rfl) hF, Nat.le_trans (Nat.le_of_ble_eq_true rfl) hL⟩) ⟨fun _ _ _ _ q => q, fun _ _ _ => ⟨rfl, trivial⟩⟩ rfl rfl hl.1 rfl (lv_room (Nat.le_of_ble_eq_true rfl)) dX2_change_38 ⟨Nat.zero_le _, Nat.zero_le _⟩) (fun r_4 q_5 => ?_)
    subst q_5
    obtain ⟨r_u_6, u_6, h_u_6, h⟩ := bc_of h
    refine kc_X2_put_RX2 X  hS h_u_6 (Nat.le_trans (Nat.le_of_ble_eq_true rfl) hF) (Nat.le_trans (Nat.le_of_ble_eq_true rfl) hL) hl.1 (Nat.le_of_ble_eq_true rfl) dX2_change_41 (fun H locs hS => ?_)
    obtain ⟨-, rfl⟩ := so9 h
    exact hE _ _ _ _ hS dX2_change_44
  · have h := im (c_3) h
    refine lv_aload_n hx hb dX2_change_7 rfl (lv_at hl 0 rfl) ?_
    refine cg_X2_28 X hS dX2_change_8 ?_
    refine lv_aload_n hx hb dX2_change_11 rfl (lv_at hl 1 rfl) ?_
    refine cg_X2_49 X h_l1 hS dX2_change_12 ?_
    refine lv_aload_n hx hb dX2_change_15 rfl (lv_at hl 1 rfl) ?_
    refine cg_X2_53 X h_l1 hS dX2_change_16 ?_
    refine lv_lload_n hx hb dX2_change_19 rfl (lv_at hl 3 rfl) ?_
    obtain ⟨r_u_7, u_7, h_u_7, h⟩ := bc_of h
    refine kc_X1_set_RX2 X  hS h_u_7 (Nat.le_trans (Nat.le_of_ble_eq_true rfl) hF) (Nat.le_trans (Nat.le_of_ble_eq_true rfl) hL) hl.1 (Nat.le_of_ble_eq_true rfl) dX2_change_20 (fun H locs hS => ?_)
    refine lv_goto (tgt := 44) hx hb dX2_change_23 (by decide) ?_
    obtain ⟨-, rfl⟩ := so9 h
    exact hE _ _ _ _ hS dX2_change_44
def F_X2_change (N : Nat) (l1 : Nat) (l2 : Int32) (l3 : Int64) (u : CSt) : Option (Int32 × CSt) := B_X2_change_0 N l1 l2 l3 u
set_option maxHeartbeats 4000000 in
theorem k_X2_change (l : Launch) (D : va_G) (kA : Nat → ClassId) (V Z : Nat → Nat) (N : Nat) (l1 : Nat) (l2 : Int32) (l3 : Int64) (h_l1 : l1 < 338) (u : CSt) (sz : Nat) {r : Int32} {w : CSt} (h : F_X2_change N l1 l2 l3 u = some (r, w)) : Met l yX2_change (Cond.code yX2_change cX2_change 5 none :: GW) { frames := 1, cells := 0, slots := 0, locals := 26 } (cPc D kA V Z [.ref (Z 234), .ref (Z (1000 + l1)), .int l2, .long l3] u sz) (cQv D kA Z u sz w) 0 0 (va_A (CW kA Z u) sz) := by
  refine Met.ofW (cc := cX2_change) (maxL := 5) (ret := none) (by decide) rfl ?_
  intro p e s m args below meth c s₁ Bd hml hv
  obtain ⟨rfl, hsz, hP, hK, hD0, hE⟩ := hv
  have hts := atoms_spec (ws := Cond.code yX2_change cX2_change 5 none :: GW) Bd.pre
  have hl := lv_entry ([.ref (Z 234), .ref (Z (1000 + l1)), .int l2, .long l3]) (n := 5) (Nat.le_of_ble_eq_true rfl)
  rw [lg_entry_eq]
  generalize (lg_sl ([.ref (Z 234), .ref (Z (1000 + l1)), .int l2, .long l3]) ++ List.replicate (5 - (lg_sl ([.ref (Z 234), .ref (Z (1000 + l1)), .int l2, .long l3])).length) Slot.unset).toArray = ls at hl ⊢
  have hl : lv_has ls 5 [(0, .ref (Z 234)), (1, .ref (Z (1000 + l1))), (2, .int l2), (3, .long l3)] := hl
  subst hsz
  have X : CC p s m ([.ref (Z 234), .ref (Z (1000 + l1)), .int l2, .long l3]).toArray c cX2_change 5 (Cond.code yX2_change cX2_change 5 none) RX2 D kA V (va_A (CW kA Z u) s.heap.size) := ⟨⟨Bd.exec, Bd.bytes, hml, findClass_of_methodNamed Bd.named, hts⟩, hK, hE, fun q h => Or.inr h⟩
  refine b_X2_change_0 X (cend_v X Bd.returns Bd.notSynchronized) (Nat.le_refl _) (Nat.le_refl _) h h_l1 ⟨hP, hD0.self, va_S.rf⟩ (lv_sub hl [0, 1, 2, 3] rfl)
theorem kc_X2_change_RX11 {cc : ByteArray} {pc nL : Nat} {c0 : Cond} {rest : List Value} {l1 : Nat} {l2 : Int32} {l3 : Int64} {u w1 : CSt} {r : Int32} (X : CC p s m args c cc nL c0 RX11 D kA V A) (h_l1 : l1 < 338) (hS : CS D kA Z A s u H locs) (h : F_X2_change N l1 l2 l3 u = some (r, w1)) (hF : 1 + 1 ≤ R.frames) (hL : 8 + (5 + 11) + 26 ≤ R.locals) (hl : ls.size = nL) (hc : (rest.map fun v => v.category).sum ≤ 8) (hdg : decode cc pc = .ok (.invokevirtual 221, 3)) (kk : ∀ H locs, CS D kA Z A s w1 H locs → W p l e R s m args below meth c H locs 0 0 Q (F0 m (pc + 3) ls (rest))) : W p l e R s m args below meth c H locs 0 0 Q (F0 m pc ls (.long l3 :: .int l2 :: .ref (Z (1000 + l1)) :: .ref (Z 234) :: rest)) :=
  ccall_v (n := 3) X hS (k_X2_change l D kA V Z N l1 l2 l3 h_l1 u H.size h) (gw_V gw_1744 gw_1745 gw_1746 gw_15 gw_1747) (by decide +kernel) (va_recv X.2.1 hS.1 (ci := 2) (q0 := 34) rfl (cw_lit rfl)) hF hL rfl hl hc rfl hdg kk
def B_X2_keep_17 (N : Nat) (R_17 : Nat × Nat × Int32 × CSt → Option (Int32 × CSt)) (l1 : Nat) (l2 : Nat) (l3 : Int32) (u : CSt) : Option (Int32 × CSt) := if (mI u l1 7) ≤ l3 then (some (0, u)) else (if (mI u l2 7) ≤ l3 then (some (0, u)) else (if (2000 : Int32) ≤ ((mI u l2 9) + l3) then (some (0, u)) else (rd (cB u 236) 2000 ((mI u l2 9) + l3) fun v_5 => bc (F_X2_put N ((mI u l1 9) + l3) (n_cut (mI u l1 5) v_5) u) fun _ u_8 => R_17 (l1, l2, (l3 + 1), u_8))))
set_option maxHeartbeats 4000000 in
theorem b_X2_keep_17 {r : Int32} (X : CC p s m args c cX2_keep 4 (Cond.code yX2_keep cX2_keep 4 none) RX2 D kA V A) (hE : CEv p l e R s m args below meth c cX2_keep D kA Z A Q w) (hF : 1 ≤ R.frames) (hL : 23 ≤ R.locals) {R_17 : Nat × Nat × Int32 × CSt → Option (Int32 × CSt)} {l1 : Nat} {l2 : Nat} {l3 : Int32} {u : CSt} (hR_17 : ∀ (l1 : Nat) (l2 : Nat) (l3 : Int32) (u : CSt), l1 < 338 → l2 < 338 → R_17 (l1, l2, l3, u) = some (r, w) → ∀ (H : Heap) (locs : List Loc) (ls : Array Slot), CS D kA Z A s u H locs → lv_has ls 4 [(0, .ref (Z 234)), (1, .ref (Z (1000 + l1))), (2, .ref (Z (1000 + l2))), (3, .int l3)] → W p l e R s m args below meth c H locs 0 0 Q (F0 m 17 ls [])) (h : B_X2_keep_17 N R_17 l1 l2 l3 u = some (r, w)) (h_l1 : l1 < 338) (h_l2 : l2 < 338) (hS : CS D kA Z A s u H locs) (hl : lv_has ls 4 [(0, .ref (Z 234)), (1, .ref (Z (1000 + l1))), (2, .ref (Z (1000 + l2))), (3, .int l3)]) : W p l e R s m args below meth c H locs 0 0 Q (F0 m 17 ls []) := by
  obtain ⟨⟨hx, hb, hml, hown, hts⟩, hK, hEV, hA⟩ := id X
  have hG : ∀ w ∈ GW, w.before args s = true := fun w h => hts w (List.mem_cons_of_mem _ h)
  unfold B_X2_keep_17 at h
  refine lv_iload_n hx hb dX2_keep_17 rfl (lv_at hl 3 rfl) ?_
  refine lv_aload_n hx hb dX2_keep_18 rfl (lv_at hl 1 rfl) ?_
  refine cg_X2_92 X h_l1 hS dX2_keep_19 ?_
  refine lv_icmp_ge (tgt := 79) hx hb dX2_keep_22 (by decide) (fun c_1 => ?_) (fun c_1 => ?_)
  · have h := ip (c_1) h
    obtain ⟨-, rfl⟩ := so9 h
    exact hE _ _ _ _ hS dX2_keep_79
  · have h := im (c_1) h
    refine lv_iload_n hx hb dX2_keep_25 rfl (lv_at hl 3 rfl) ?_
    refine lv_aload_n hx hb dX2_keep_26 rfl (lv_at hl 2 rfl) ?_
    refine cg_X2_92 X h_l2 hS dX2_keep_27 ?_
    refine lv_icmp_ge (tgt := 79) hx hb dX2_keep_30 (by decide) (fun c_2 => ?_) (fun c_2 => ?_)
    · have h := ip (c_2) h
      obtain ⟨-, rfl⟩ := so9 h
      exact hE _ _ _ _ hS dX2_keep_79
    · have h := im (c_2) h
      refine lv_aload_n hx hb dX2_keep_33 rfl (lv_at hl 2 rfl) ?_
      refine cg_X2_49 X h_l2 hS dX2_keep_34 ?_
      refine lv_iload_n hx hb dX2_keep_37 rfl (lv_at hl 3 rfl) ?_
      refine lv_iadd hx hb dX2_keep_38 ?_
      refine lv_sipush (v := 2000) hx hb dX2_keep_39 (by decide) ?_
      refine lv_icmp_ge (tgt := 79) hx hb dX2_keep_42 (by decide) (fun c_3 => ?_) (fun c_3 => ?_)
      · have h := ip (c_3) h
        obtain ⟨-, rfl⟩ := so9 h
        exact hE _ _ _ _ hS dX2_keep_79
      · have h := im (c_3) h
        refine lv_aload_n hx hb dX2_keep_45 rfl (lv_at hl 0 rfl) ?_
        refine lv_aload_n hx hb dX2_keep_46 rfl (lv_at hl 1 rfl) ?_
        refine cg_X2_49 X h_l1 hS dX2_keep_47 ?_
        refine lv_iload_n hx hb dX2_keep_50 rfl (lv_at hl 3 rfl) ?_
        refine lv_iadd hx hb dX2_keep_51 ?_
        refine lv_aload_n hx hb dX2_keep_52 rfl (lv_at hl 1 rfl) ?_
        refine cg_X2_53 X h_l1 hS dX2_keep_53 ?_
        refine lv_aload_n hx hb dX2_keep_56 rfl (lv_at hl 0 rfl) ?_
        refine cg_X2_15 X hS dX2_keep_57 ?_
        refine lv_aload_n hx hb dX2_keep_60 rfl (lv_at hl 2 rfl) ?_
        refine cg_X2_49 X h_l2 hS dX2_keep_61 ?_
        refine lv_iload_n hx hb dX2_keep_64 rfl (lv_at hl 3 rfl) ?_
        refine lv_iadd hx hb dX2_keep_65 ?_
        obtain ⟨v_5, e_v_5, i_4, h⟩ := rd_of h
        refine ca_s236 X hS i_4 e_v_5 dX2_keep_66 ?_
        refine vp_callSl (W.runS (As := [.int (mI u l1 5), .long v_5]) (rest := [.int ((mI u l1 9) + l3), .ref (Z 234)]) X.1 (c_X5_cutTo l (mI u l1 5) v_5) (va_cwS 2 hts (gw_P gw_1409 gw_1077 gw_24 gwp_X5_cutTo) rfl rfl rfl (by decide +kernel) ⟨Nat.le_trans (Nat.le_of_ble_eq_true rfl) hF, Nat.le_trans (Nat.le_of_ble_eq_true rfl) hL⟩) ⟨fun _ _ _ _ q => q, fun _ _ _ => ⟨rfl, trivial⟩⟩ rfl rfl hl.1 rfl (lv_room (Nat.le_of_ble_eq_true rfl)) dX2_keep_67 ⟨Nat.zero_le _, Nat.zero_le _⟩) (fun r_6 q_7 => ?_)
        subst q_7
        obtain ⟨r_u_8, u_8, h_u_8, h⟩ := bc_of h
        refine kc_X2_put_RX2 X  hS h_u_8 (Nat.le_trans (Nat.le_of_ble_eq_true rfl) hF) (Nat.le_trans (Nat.le_of_ble_eq_true rfl) hL) hl.1 (Nat.le_of_ble_eq_true rfl) dX2_keep_70 (fun H locs hS => ?_)
        refine lv_iinc (v := l3 + 1) (lv' := [(3, .int (l3 + 1)), (0, .ref (Z 234)), (1, .ref (Z (1000 + l1))), (2, .ref (Z (1000 + l2)))]) hx hb dX2_keep_73 hl (k := 3) rfl rfl (by decide) rfl (fun ls hl => ?_)
        refine lv_goto (tgt := 17) hx hb dX2_keep_76 (by decide) ?_
        exact hR_17 _ _ _ _ h_l1 h_l2 h _ _ _ hS (lv_sub hl [1, 2, 3, 0] rfl)
def LP_X2_keep_17 (N : Nat) : Nat → Nat × Nat × Int32 × CSt → Option (Int32 × CSt) := lp (fun R a => B_X2_keep_17 N R a.1 a.2.1 a.2.2.1 a.2.2.2)
theorem bl_X2_keep_17 {r : Int32} (X : CC p s m args c cX2_keep 4 (Cond.code yX2_keep cX2_keep 4 none) RX2 D kA V A) (hE : CEv p l e R s m args below meth c cX2_keep D kA Z A Q w) (hF : 1 ≤ R.frames) (hL : 23 ≤ R.locals)  : ∀ (n : Nat) (l1 : Nat) (l2 : Nat) (l3 : Int32) (u : CSt), l1 < 338 → l2 < 338 → LP_X2_keep_17 N n (l1, l2, l3, u) = some (r, w) → ∀ (H : Heap) (locs : List Loc) (ls : Array Slot), CS D kA Z A s u H locs → lv_has ls 4 [(0, .ref (Z 234)), (1, .ref (Z (1000 + l1))), (2, .ref (Z (1000 + l2))), (3, .int l3)] → W p l e R s m args below meth c H locs 0 0 Q (F0 m 17 ls []) := by
  intro n
  induction n with
  | zero => intro l1 l2 l3 u h_l1 h_l2 h; exact nomatch h
  | succ n ih => intro l1 l2 l3 u h_l1 h_l2 h H locs ls hS hl; exact b_X2_keep_17 (N := N) (R_17 := LP_X2_keep_17 N n) X hE  hF hL  ih h h_l1 h_l2 hS hl
def B_X2_keep_0 (N : Nat) (l1 : Nat) (l2 : Nat) (u : CSt) : Option (Int32 × CSt) := if (mI u l2 2) = (0 : Int32) then (bc (F_X4_isPlaced N l2 u) fun r_11 u_10 => if r_11 = (0 : Int32) then (LP_X2_keep_17 N N (l1, l2, 0, u_10)) else (some (0, u_10))) else (some (0, u))
set_option maxHeartbeats 4000000 in
theorem b_X2_keep_0 {r : Int32} (X : CC p s m args c cX2_keep 4 (Cond.code yX2_keep cX2_keep 4 none) RX2 D kA V A) (hE : CEv p l e R s m args below meth c cX2_keep D kA Z A Q w) (hF : 1 ≤ R.frames) (hL : 23 ≤ R.locals) {l1 : Nat} {l2 : Nat} {u : CSt}  (h : B_X2_keep_0 N l1 l2 u = some (r, w)) (h_l1 : l1 < 338) (h_l2 : l2 < 338) (hS : CS D kA Z A s u H locs) (hl : lv_has ls 4 [(0, .ref (Z 234)), (1, .ref (Z (1000 + l1))), (2, .ref (Z (1000 + l2)))]) : W p l e R s m args below meth c H locs 0 0 Q (F0 m 0 ls []) := by
  obtain ⟨⟨hx, hb, hml, hown, hts⟩, hK, hEV, hA⟩ := id X
  have hG : ∀ w ∈ GW, w.before args s = true := fun w h => hts w (List.mem_cons_of_mem _ h)
  unfold B_X2_keep_0 at h
  refine lv_aload_n hx hb dX2_keep_0 rfl (lv_at hl 2 rfl) ?_
  refine cg_X2_120 X h_l2 hS dX2_keep_1 ?_
  refine lv_if_ne (tgt := 14) hx hb dX2_keep_4 (by decide) (fun c_9 => ?_) (fun c_9 => ?_)
  · have h := im (c_9) h
    obtain ⟨-, rfl⟩ := so9 h
    exact hE _ _ _ _ hS dX2_keep_14
  · have h := ip (c_9) h
    refine lv_aload_n hx hb dX2_keep_7 rfl (lv_at hl 2 rfl) ?_
    obtain ⟨r_11, u_10, h_u_10, h⟩ := bc_of h
    refine kc_X4_isPlaced_RX2 X h_l2 hS h_u_10 (Nat.le_trans (Nat.le_of_ble_eq_true rfl) hF) (Nat.le_trans (Nat.le_of_ble_eq_true rfl) hL) hl.1 (Nat.le_of_ble_eq_true rfl) dX2_keep_8 (fun H locs hS => ?_)
    refine lv_if_eq (tgt := 15) hx hb dX2_keep_11 (by decide) (fun c_12 => ?_) (fun c_12 => ?_)
    · have h := ip (c_12) h
      refine lv_iconst (v := 0) hx hb dX2_keep_15 (by decide) ?_
      refine lv_istore_n (lv' := [(3, .int 0), (0, .ref (Z 234)), (1, .ref (Z (1000 + l1))), (2, .ref (Z (1000 + l2)))]) hx hb dX2_keep_16 rfl hl (by decide) rfl (fun ls hl => ?_)
      exact bl_X2_keep_17 X hE  hF hL  _ _ _ _ _ h_l1 h_l2 h _ _ _ hS (lv_sub hl [1, 2, 3, 0] rfl)
    · have h := im (c_12) h
      obtain ⟨-, rfl⟩ := so9 h
      exact hE _ _ _ _ hS dX2_keep_14
def F_X2_keep (N : Nat) (l1 : Nat) (l2 : Nat) (u : CSt) : Option (Int32 × CSt) := B_X2_keep_0 N l1 l2 u
set_option maxHeartbeats 4000000 in
theorem k_X2_keep (l : Launch) (D : va_G) (kA : Nat → ClassId) (V Z : Nat → Nat) (N : Nat) (l1 : Nat) (l2 : Nat) (h_l1 : l1 < 338) (h_l2 : l2 < 338) (u : CSt) (sz : Nat) {r : Int32} {w : CSt} (h : F_X2_keep N l1 l2 u = some (r, w)) : Met l yX2_keep (Cond.code yX2_keep cX2_keep 4 none :: GW) { frames := 1, cells := 0, slots := 0, locals := 23 } (cPc D kA V Z [.ref (Z 234), .ref (Z (1000 + l1)), .ref (Z (1000 + l2))] u sz) (cQv D kA Z u sz w) 0 0 (va_A (CW kA Z u) sz) := by
  refine Met.ofW (cc := cX2_keep) (maxL := 4) (ret := none) (by decide) rfl ?_
  intro p e s m args below meth c s₁ Bd hml hv
  obtain ⟨rfl, hsz, hP, hK, hD0, hE⟩ := hv
  have hts := atoms_spec (ws := Cond.code yX2_keep cX2_keep 4 none :: GW) Bd.pre
  have hl := lv_entry ([.ref (Z 234), .ref (Z (1000 + l1)), .ref (Z (1000 + l2))]) (n := 4) (Nat.le_of_ble_eq_true rfl)
  rw [lg_entry_eq]
  generalize (lg_sl ([.ref (Z 234), .ref (Z (1000 + l1)), .ref (Z (1000 + l2))]) ++ List.replicate (4 - (lg_sl ([.ref (Z 234), .ref (Z (1000 + l1)), .ref (Z (1000 + l2))])).length) Slot.unset).toArray = ls at hl ⊢
  have hl : lv_has ls 4 [(0, .ref (Z 234)), (1, .ref (Z (1000 + l1))), (2, .ref (Z (1000 + l2)))] := hl
  subst hsz
  have X : CC p s m ([.ref (Z 234), .ref (Z (1000 + l1)), .ref (Z (1000 + l2))]).toArray c cX2_keep 4 (Cond.code yX2_keep cX2_keep 4 none) RX2 D kA V (va_A (CW kA Z u) s.heap.size) := ⟨⟨Bd.exec, Bd.bytes, hml, findClass_of_methodNamed Bd.named, hts⟩, hK, hE, fun q h => Or.inr h⟩
  refine b_X2_keep_0 X (cend_v X Bd.returns Bd.notSynchronized) (Nat.le_refl _) (Nat.le_refl _) h h_l1 h_l2 ⟨hP, hD0.self, va_S.rf⟩ (lv_sub hl [0, 1, 2] rfl)
theorem kc_X2_keep_RX2 {cc : ByteArray} {pc nL : Nat} {c0 : Cond} {rest : List Value} {l1 : Nat} {l2 : Nat} {u w1 : CSt} {r : Int32} (X : CC p s m args c cc nL c0 RX2 D kA V A) (h_l1 : l1 < 338) (h_l2 : l2 < 338) (hS : CS D kA Z A s u H locs) (h : F_X2_keep N l1 l2 u = some (r, w1)) (hF : 1 + 1 ≤ R.frames) (hL : 8 + (4 + 11) + 23 ≤ R.locals) (hl : ls.size = nL) (hc : (rest.map fun v => v.category).sum ≤ 8) (hdg : decode cc pc = .ok (.invokevirtual 112, 3)) (kk : ∀ H locs, CS D kA Z A s w1 H locs → W p l e R s m args below meth c H locs 0 0 Q (F0 m (pc + 3) ls (rest))) : W p l e R s m args below meth c H locs 0 0 Q (F0 m pc ls (.ref (Z (1000 + l2)) :: .ref (Z (1000 + l1)) :: .ref (Z 234) :: rest)) :=
  ccall_v (n := 2) X hS (k_X2_keep l D kA V Z N l1 l2 h_l1 h_l2 u H.size h) (gw_V gw_1405 gw_1407 gs_6_5 gw_15 gw_1408) (by decide +kernel) (va_recv X.2.1 hS.1 (ci := 2) (q0 := 34) rfl (cw_lit rfl)) hF hL rfl hl hc rfl hdg kk
def B_X2_resetInstances_31 (N : Nat) (R_2 : Nat × Int32 × CSt → Option (Int32 × CSt)) (R_31 : Nat × Int32 × Nat × Nat × Int32 × CSt → Option (Int32 × CSt)) (l1 : Nat) (l2 : Int32) (l3 : Nat) (l4 : Nat) (l5 : Int32) (u : CSt) : Option (Int32 × CSt) := if (mI u l4 12) ≤ l5 then (R_2 (l1, (l2 + 1), u)) else (bc (F_X6_local N l1 l4 l5 u) fun r_3 u_2 => ok (r_3 < 338) inferInstance <| bc (F_X2_fill N ((mI u_2 l3 9) + (mI u_2 r_3 9)) (mI u_2 r_3 7) (mL u_2 r_3 10) u_2) fun _ u_5 => R_31 (l1, l2, l3, l4, (l5 + 1), u_5))
set_option maxHeartbeats 4000000 in
theorem b_X2_resetInstances_31 {r : Int32} (X : CC p s m args c cX2_resetInstances 7 (Cond.code yX2_resetInstances cX2_resetInstances 7 none) RX2 D kA V A) (hE : CEv p l e R s m args below meth c cX2_resetInstances D kA Z A Q w) (hF : 2 ≤ R.frames) (hL : 48 ≤ R.locals) {R_2 : Nat × Int32 × CSt → Option (Int32 × CSt)} {R_31 : Nat × Int32 × Nat × Nat × Int32 × CSt → Option (Int32 × CSt)} {l1 : Nat} {l2 : Int32} {l3 : Nat} {l4 : Nat} {l5 : Int32} {u : CSt} (hR_2 : ∀ (l1 : Nat) (l2 : Int32) (u : CSt), l1 < 2 → R_2 (l1, l2, u) = some (r, w) → ∀ (H : Heap) (locs : List Loc) (ls : Array Slot), CS D kA Z A s u H locs → lv_has ls 7 [(0, .ref (Z 234)), (1, .ref (Z (300 + 50 * l1))), (2, .int l2)] → W p l e R s m args below meth c H locs 0 0 Q (F0 m 2 ls [])) (hR_31 : ∀ (l1 : Nat) (l2 : Int32) (l3 : Nat) (l4 : Nat) (l5 : Int32) (u : CSt), l1 < 2 → l3 < 338 → l4 < 338 → R_31 (l1, l2, l3, l4, l5, u) = some (r, w) → ∀ (H : Heap) (locs : List Loc) (ls : Array Slot), CS D kA Z A s u H locs → lv_has ls 7 [(0, .ref (Z 234)), (1, .ref (Z (300 + 50 * l1))), (2, .int l2), (3, .ref (Z (1000 + l3))), (4, .ref (Z (1000 + l4))), (5, .int l5)] → W p l e R s m args below meth c H locs 0 0 Q (F0 m 31 ls [])) (h : B_X2_resetInstances_31 N R_2 R_31 l1 l2 l3 l4 l5 u = some (r, w)) (h_l1 : l1 < 2) (h_l3 : l3 < 338) (h_l4 : l4 < 338) (hS : CS D kA Z A s u H locs) (hl : lv_has ls 7 [(0, .ref (Z 234)), (1, .ref (Z (300 + 50 * l1))), (2, .int l2), (3, .ref (Z (1000 + l3))), (4, .ref (Z (1000 + l4))), (5, .int l5)]) : W p l e R s m args below meth c H locs 0 0 Q (F0 m 31 ls []) := by
  obtain ⟨⟨hx, hb, hml, hown, hts⟩, hK, hEV, hA⟩ := id X
  have hG : ∀ w ∈ GW, w.before args s = true := fun w h => hts w (List.mem_cons_of_mem _ h)
  unfold B_X2_resetInstances_31 at h
  refine lv_iload hx hb dX2_resetInstances_31 (lv_at hl 5 rfl) ?_
  refine lv_aload hx hb dX2_resetInstances_33 (lv_at hl 4 rfl) ?_
  refine cg_X2_130 X h_l4 hS dX2_resetInstances_35 ?_
  refine lv_icmp_ge (tgt := 81) hx hb dX2_resetInstances_38 (by decide) (fun c_1 => ?_) (fun c_1 => ?_)
  · have h := ip (c_1) h
    refine lv_iinc (v := l2 + 1) (lv' := [(2, .int (l2 + 1)), (0, .ref (Z 234)), (1, .ref (Z (300 + 50 * l1))), (3, .ref (Z (1000 + l3))), (4, .ref (Z (1000 + l4))), (5, .int l5)]) hx hb dX2_resetInstances_81 hl (k := 2) rfl rfl (by decide) rfl (fun ls hl => ?_)
    refine lv_goto (tgt := 2) hx hb dX2_resetInstances_84 (by decide) ?_
    exact hR_2 _ _ _ h_l1 h _ _ _ hS (lv_sub hl [1, 2, 0] rfl)
  · have h := im (c_1) h
    refine lv_aload_n hx hb dX2_resetInstances_41 rfl (lv_at hl 1 rfl) ?_
    refine lv_aload hx hb dX2_resetInstances_42 (lv_at hl 4 rfl) ?_
    refine lv_iload hx hb dX2_resetInstances_44 (lv_at hl 5 rfl) ?_
    obtain ⟨r_3, u_2, h_u_2, h⟩ := bc_of h
    refine kc_X6_local_RX2 X h_l1 h_l4 hS h_u_2 (Nat.le_trans (Nat.le_of_ble_eq_true rfl) hF) (Nat.le_trans (Nat.le_of_ble_eq_true rfl) hL) hl.1 (Nat.le_of_ble_eq_true rfl) dX2_resetInstances_46 (fun H locs hS => ?_)
    obtain ⟨z_4, h⟩ := ok_of h
    refine lv_astore (lv' := [(6, .ref (Z (1000 + r_3))), (0, .ref (Z 234)), (1, .ref (Z (300 + 50 * l1))), (2, .int l2), (3, .ref (Z (1000 + l3))), (4, .ref (Z (1000 + l4))), (5, .int l5)]) hx hb dX2_resetInstances_49 hl (by decide) rfl (fun ls hl => ?_)
    refine lv_aload_n hx hb dX2_resetInstances_51 rfl (lv_at hl 1 rfl) ?_
    refine lv_aload_n hx hb dX2_resetInstances_52 rfl (lv_at hl 4 rfl) ?_
    refine cg_X2_49 X h_l3 hS dX2_resetInstances_53 ?_
    refine lv_aload hx hb dX2_resetInstances_56 (lv_at hl 0 rfl) ?_
    refine cg_X2_49 X z_4 hS dX2_resetInstances_58 ?_
    refine lv_iadd hx hb dX2_resetInstances_61 ?_
    refine lv_aload hx hb dX2_resetInstances_62 (lv_at hl 0 rfl) ?_
    refine cg_X2_92 X z_4 hS dX2_resetInstances_64 ?_
    refine lv_aload hx hb dX2_resetInstances_67 (lv_at hl 0 rfl) ?_
    refine cg_X2_95 X z_4 hS dX2_resetInstances_69 ?_
    obtain ⟨r_u_5, u_5, h_u_5, h⟩ := bc_of h
    refine kc_X2_fill_RX2 X  hS h_u_5 (Nat.le_trans (Nat.le_of_ble_eq_true rfl) hF) (Nat.le_trans (Nat.le_of_ble_eq_true rfl) hL) hl.1 (Nat.le_of_ble_eq_true rfl) dX2_resetInstances_72 (fun H locs hS => ?_)
    refine lv_iinc (v := l5 + 1) (lv' := [(5, .int (l5 + 1)), (6, .ref (Z (1000 + r_3))), (0, .ref (Z 234)), (1, .ref (Z (300 + 50 * l1))), (2, .int l2), (3, .ref (Z (1000 + l3))), (4, .ref (Z (1000 + l4)))]) hx hb dX2_resetInstances_75 hl (k := 6) rfl rfl (by decide) rfl (fun ls hl => ?_)
    refine lv_goto (tgt := 31) hx hb dX2_resetInstances_78 (by decide) ?_
    exact hR_31 _ _ _ _ _ _ h_l1 h_l3 h_l4 h _ _ _ hS (lv_sub hl [2, 3, 4, 5, 6, 0] rfl)
def LP_X2_resetInstances_31 (N : Nat) (R_2 : Nat × Int32 × CSt → Option (Int32 × CSt)) : Nat → Nat × Int32 × Nat × Nat × Int32 × CSt → Option (Int32 × CSt) := lp (fun R a => B_X2_resetInstances_31 N R_2 R a.1 a.2.1 a.2.2.1 a.2.2.2.1 a.2.2.2.2.1 a.2.2.2.2.2)
theorem bl_X2_resetInstances_31 {r : Int32} (X : CC p s m args c cX2_resetInstances 7 (Cond.code yX2_resetInstances cX2_resetInstances 7 none) RX2 D kA V A) (hE : CEv p l e R s m args below meth c cX2_resetInstances D kA Z A Q w) (hF : 2 ≤ R.frames) (hL : 48 ≤ R.locals) {R_2 : Nat × Int32 × CSt → Option (Int32 × CSt)} (hR_2 : ∀ (l1 : Nat) (l2 : Int32) (u : CSt), l1 < 2 → R_2 (l1, l2, u) = some (r, w) → ∀ (H : Heap) (locs : List Loc) (ls : Array Slot), CS D kA Z A s u H locs → lv_has ls 7 [(0, .ref (Z 234)), (1, .ref (Z (300 + 50 * l1))), (2, .int l2)] → W p l e R s m args below meth c H locs 0 0 Q (F0 m 2 ls [])) : ∀ (n : Nat) (l1 : Nat) (l2 : Int32) (l3 : Nat) (l4 : Nat) (l5 : Int32) (u : CSt), l1 < 2 → l3 < 338 → l4 < 338 → LP_X2_resetInstances_31 N R_2 n (l1, l2, l3, l4, l5, u) = some (r, w) → ∀ (H : Heap) (locs : List Loc) (ls : Array Slot), CS D kA Z A s u H locs → lv_has ls 7 [(0, .ref (Z 234)), (1, .ref (Z (300 + 50 * l1))), (2, .int l2), (3, .ref (Z (1000 + l3))), (4, .ref (Z (1000 + l4))), (5, .int l5)] → W p l e R s m args below meth c H locs 0 0 Q (F0 m 31 ls []) := by
  intro n
  induction n with
  | zero => intro l1 l2 l3 l4 l5 u h_l1 h_l3 h_l4 h; exact nomatch h
  | succ n ih => intro l1 l2 l3 l4 l5 u h_l1 h_l3 h_l4 h H locs ls hS hl; exact b_X2_resetInstances_31 (N := N) (R_31 := LP_X2_resetInstances_31 N R_2 n) X hE  hF hL hR_2 ih h h_l1 h_l3 h_l4 hS hl
def B_X2_resetInstances_2 (N : Nat) (R_2 : Nat × Int32 × CSt → Option (Int32 × CSt)) (l1 : Nat) (l2 : Int32) (u : CSt) : Option (Int32 × CSt) := bc (F_X6_ofSort N l1 1 u) fun r_7 u_6 => if r_7 ≤ l2 then (some (0, u_6)) else (bc (F_X6_nth N l1 1 l2 u_6) fun r_10 u_9 => ok (r_10 < 338) inferInstance <| bc (F_X6_name N l1 (mI u_9 r_10 14) u_9) fun r_13 u_12 => ok (r_13 < 338) inferInstance <| LP_X2_resetInstances_31 N R_2 N (l1, l2, r_10, r_13, 0, u_12))
set_option maxHeartbeats 4000000 in
theorem b_X2_resetInstances_2 {r : Int32} (X : CC p s m args c cX2_resetInstances 7 (Cond.code yX2_resetInstances cX2_resetInstances 7 none) RX2 D kA V A) (hE : CEv p l e R s m args below meth c cX2_resetInstances D kA Z A Q w) (hF : 2 ≤ R.frames) (hL : 48 ≤ R.locals) {R_2 : Nat × Int32 × CSt → Option (Int32 × CSt)} {l1 : Nat} {l2 : Int32} {u : CSt} (hR_2 : ∀ (l1 : Nat) (l2 : Int32) (u : CSt), l1 < 2 → R_2 (l1, l2, u) = some (r, w) → ∀ (H : Heap) (locs : List Loc) (ls : Array Slot), CS D kA Z A s u H locs → lv_has ls 7 [(0, .ref (Z 234)), (1, .ref (Z (300 + 50 * l1))), (2, .int l2)] → W p l e R s m args below meth c H locs 0 0 Q (F0 m 2 ls [])) (h : B_X2_resetInstances_2 N R_2 l1 l2 u = some (r, w)) (h_l1 : l1 < 2) (hS : CS D kA Z A s u H locs) (hl : lv_has ls 7 [(0, .ref (Z 234)), (1, .ref (Z (300 + 50 * l1))), (2, .int l2)]) : W p l e R s m args below meth c H locs 0 0 Q (F0 m 2 ls []) := by
  obtain ⟨⟨hx, hb, hml, hown, hts⟩, hK, hEV, hA⟩ := id X
  have hG : ∀ w ∈ GW, w.before args s = true := fun w h => hts w (List.mem_cons_of_mem _ h)
  unfold B_X2_resetInstances_2 at h
  refine lv_iload_n hx hb dX2_resetInstances_2 rfl (lv_at hl 2 rfl) ?_
  refine lv_aload_n hx hb dX2_resetInstances_3 rfl (lv_at hl 1 rfl) ?_
  refine lv_iconst (v := 1) hx hb dX2_resetInstances_4 (by decide) ?_
  obtain ⟨r_7, u_6, h_u_6, h⟩ := bc_of h
  refine kc_X6_ofSort_RX2 X h_l1 hS h_u_6 (Nat.le_trans (Nat.le_of_ble_eq_true rfl) hF) (Nat.le_trans (Nat.le_of_ble_eq_true rfl) hL) hl.1 (Nat.le_of_ble_eq_true rfl) dX2_resetInstances_5 (fun H locs hS => ?_)
  refine lv_icmp_ge (tgt := 87) hx hb dX2_resetInstances_8 (by decide) (fun c_8 => ?_) (fun c_8 => ?_)
  · have h := ip (c_8) h
    obtain ⟨-, rfl⟩ := so9 h
    exact hE _ _ _ _ hS dX2_resetInstances_87
  · have h := im (c_8) h
    refine lv_aload_n hx hb dX2_resetInstances_11 rfl (lv_at hl 1 rfl) ?_
    refine lv_iconst (v := 1) hx hb dX2_resetInstances_12 (by decide) ?_
    refine lv_iload_n hx hb dX2_resetInstances_13 rfl (lv_at hl 2 rfl) ?_
    obtain ⟨r_10, u_9, h_u_9, h⟩ := bc_of h
    refine kc_X6_nth_RX2 X h_l1 hS h_u_9 (Nat.le_trans (Nat.le_of_ble_eq_true rfl) hF) (Nat.le_trans (Nat.le_of_ble_eq_true rfl) hL) hl.1 (Nat.le_of_ble_eq_true rfl) dX2_resetInstances_14 (fun H locs hS => ?_)
    obtain ⟨z_11, h⟩ := ok_of h
    refine lv_astore_n (lv' := [(3, .ref (Z (1000 + r_10))), (0, .ref (Z 234)), (1, .ref (Z (300 + 50 * l1))), (2, .int l2)]) hx hb dX2_resetInstances_17 rfl hl (by decide) rfl (fun ls hl => ?_)
    refine lv_aload_n hx hb dX2_resetInstances_18 rfl (lv_at hl 2 rfl) ?_
    refine lv_aload_n hx hb dX2_resetInstances_19 rfl (lv_at hl 0 rfl) ?_
    refine cg_X2_123 X z_11 hS dX2_resetInstances_20 ?_
    obtain ⟨r_13, u_12, h_u_12, h⟩ := bc_of h
    refine kc_X6_name_RX2 X h_l1 hS h_u_12 (Nat.le_trans (Nat.le_of_ble_eq_true rfl) hF) (Nat.le_trans (Nat.le_of_ble_eq_true rfl) hL) hl.1 (Nat.le_of_ble_eq_true rfl) dX2_resetInstances_23 (fun H locs hS => ?_)
    obtain ⟨z_14, h⟩ := ok_of h
    refine lv_astore (lv' := [(4, .ref (Z (1000 + r_13))), (3, .ref (Z (1000 + r_10))), (0, .ref (Z 234)), (1, .ref (Z (300 + 50 * l1))), (2, .int l2)]) hx hb dX2_resetInstances_26 hl (by decide) rfl (fun ls hl => ?_)
    refine lv_iconst (v := 0) hx hb dX2_resetInstances_28 (by decide) ?_
    refine lv_istore (lv' := [(5, .int 0), (4, .ref (Z (1000 + r_13))), (3, .ref (Z (1000 + r_10))), (0, .ref (Z 234)), (1, .ref (Z (300 + 50 * l1))), (2, .int l2)]) hx hb dX2_resetInstances_29 hl (by decide) rfl (fun ls hl => ?_)
    exact bl_X2_resetInstances_31 X hE  hF hL hR_2 _ _ _ _ _ _ _ h_l1 z_11 z_14 h _ _ _ hS (lv_sub hl [3, 4, 5, 2, 1, 0] rfl)
def LP_X2_resetInstances_2 (N : Nat) : Nat → Nat × Int32 × CSt → Option (Int32 × CSt) := lp (fun R a => B_X2_resetInstances_2 N R a.1 a.2.1 a.2.2)
theorem bl_X2_resetInstances_2 {r : Int32} (X : CC p s m args c cX2_resetInstances 7 (Cond.code yX2_resetInstances cX2_resetInstances 7 none) RX2 D kA V A) (hE : CEv p l e R s m args below meth c cX2_resetInstances D kA Z A Q w) (hF : 2 ≤ R.frames) (hL : 48 ≤ R.locals)  : ∀ (n : Nat) (l1 : Nat) (l2 : Int32) (u : CSt), l1 < 2 → LP_X2_resetInstances_2 N n (l1, l2, u) = some (r, w) → ∀ (H : Heap) (locs : List Loc) (ls : Array Slot), CS D kA Z A s u H locs → lv_has ls 7 [(0, .ref (Z 234)), (1, .ref (Z (300 + 50 * l1))), (2, .int l2)] → W p l e R s m args below meth c H locs 0 0 Q (F0 m 2 ls []) := by
  intro n
  induction n with
  | zero => intro l1 l2 u h_l1 h; exact nomatch h
  | succ n ih => intro l1 l2 u h_l1 h H locs ls hS hl; exact b_X2_resetInstances_2 (N := N) (R_2 := LP_X2_resetInstances_2 N n) X hE  hF hL  ih h h_l1 hS hl
def B_X2_resetInstances_0 (N : Nat) (l1 : Nat) (u : CSt) : Option (Int32 × CSt) := LP_X2_resetInstances_2 N N (l1, 0, u)
set_option maxHeartbeats 4000000 in
theorem b_X2_resetInstances_0 {r : Int32} (X : CC p s m args c cX2_resetInstances 7 (Cond.code yX2_resetInstances cX2_resetInstances 7 none) RX2 D kA V A) (hE : CEv p l e R s m args below meth c cX2_resetInstances D kA Z A Q w) (hF : 2 ≤ R.frames) (hL : 48 ≤ R.locals) {l1 : Nat} {u : CSt}  (h : B_X2_resetInstances_0 N l1 u = some (r, w)) (h_l1 : l1 < 2) (hS : CS D kA Z A s u H locs) (hl : lv_has ls 7 [(0, .ref (Z 234)), (1, .ref (Z (300 + 50 * l1)))]) : W p l e R s m args below meth c H locs 0 0 Q (F0 m 0 ls []) := by
  obtain ⟨⟨hx, hb, hml, hown, hts⟩, hK, hEV, hA⟩ := id X
  have hG : ∀ w ∈ GW, w.before args s = true := fun w h => hts w (List.mem_cons_of_mem _ h)
  unfold B_X2_resetInstances_0 at h
  refine lv_iconst (v := 0) hx hb dX2_resetInstances_0 (by decide) ?_
  refine lv_istore_n (lv' := [(2, .int 0), (0, .ref (Z 234)), (1, .ref (Z (300 + 50 * l1)))]) hx hb dX2_resetInstances_1 rfl hl (by decide) rfl (fun ls hl => ?_)
  exact bl_X2_resetInstances_2 X hE  hF hL  _ _ _ _ h_l1 h _ _ _ hS (lv_sub hl [1, 2, 0] rfl)
def F_X2_resetInstances (N : Nat) (l1 : Nat) (u : CSt) : Option (Int32 × CSt) := B_X2_resetInstances_0 N l1 u
set_option maxHeartbeats 4000000 in
theorem k_X2_resetInstances (l : Launch) (D : va_G) (kA : Nat → ClassId) (V Z : Nat → Nat) (N : Nat) (l1 : Nat) (h_l1 : l1 < 2) (u : CSt) (sz : Nat) {r : Int32} {w : CSt} (h : F_X2_resetInstances N l1 u = some (r, w)) : Met l yX2_resetInstances (Cond.code yX2_resetInstances cX2_resetInstances 7 none :: GW) { frames := 2, cells := 0, slots := 0, locals := 48 } (cPc D kA V Z [.ref (Z 234), .ref (Z (300 + 50 * l1))] u sz) (cQv D kA Z u sz w) 0 0 (va_A (CW kA Z u) sz) := by
  refine Met.ofW (cc := cX2_resetInstances) (maxL := 7) (ret := none) (by decide) rfl ?_
  intro p e s m args below meth c s₁ Bd hml hv
  obtain ⟨rfl, hsz, hP, hK, hD0, hE⟩ := hv
  have hts := atoms_spec (ws := Cond.code yX2_resetInstances cX2_resetInstances 7 none :: GW) Bd.pre
  have hl := lv_entry ([.ref (Z 234), .ref (Z (300 + 50 * l1))]) (n := 7) (Nat.le_of_ble_eq_true rfl)
  rw [lg_entry_eq]
  generalize (lg_sl ([.ref (Z 234), .ref (Z (300 + 50 * l1))]) ++ List.replicate (7 - (lg_sl ([.ref (Z 234), .ref (Z (300 + 50 * l1))])).length) Slot.unset).toArray = ls at hl ⊢
  have hl : lv_has ls 7 [(0, .ref (Z 234)), (1, .ref (Z (300 + 50 * l1)))] := hl
  subst hsz
  have X : CC p s m ([.ref (Z 234), .ref (Z (300 + 50 * l1))]).toArray c cX2_resetInstances 7 (Cond.code yX2_resetInstances cX2_resetInstances 7 none) RX2 D kA V (va_A (CW kA Z u) s.heap.size) := ⟨⟨Bd.exec, Bd.bytes, hml, findClass_of_methodNamed Bd.named, hts⟩, hK, hE, fun q h => Or.inr h⟩
  refine b_X2_resetInstances_0 X (cend_v X Bd.returns Bd.notSynchronized) (Nat.le_refl _) (Nat.le_refl _) h h_l1 ⟨hP, hD0.self, va_S.rf⟩ (lv_sub hl [0, 1] rfl)
theorem kc_X2_resetInstances_RX2 {cc : ByteArray} {pc nL : Nat} {c0 : Cond} {rest : List Value} {l1 : Nat} {u w1 : CSt} {r : Int32} (X : CC p s m args c cc nL c0 RX2 D kA V A) (h_l1 : l1 < 2) (hS : CS D kA Z A s u H locs) (h : F_X2_resetInstances N l1 u = some (r, w1)) (hF : 2 + 1 ≤ R.frames) (hL : 8 + (7 + 11) + 48 ≤ R.locals) (hl : ls.size = nL) (hc : (rest.map fun v => v.category).sum ≤ 8) (hdg : decode cc pc = .ok (.invokevirtual 116, 3)) (kk : ∀ H locs, CS D kA Z A s w1 H locs → W p l e R s m args below meth c H locs 0 0 Q (F0 m (pc + 3) ls (rest))) : W p l e R s m args below meth c H locs 0 0 Q (F0 m pc ls (.ref (Z (300 + 50 * l1)) :: .ref (Z 234) :: rest)) :=
  ccall_v (n := 1) X hS (k_X2_resetInstances l D kA V Z N l1 h_l1 u H.size h) (gw_V gw_1410 gw_1411 gw_1412 gw_15 gw_1413) (by decide +kernel) (va_recv X.2.1 hS.1 (ci := 2) (q0 := 34) rfl (cw_lit rfl)) hF hL rfl hl hc rfl hdg kk
theorem kc_X2_resetInstances_RX11 {cc : ByteArray} {pc nL : Nat} {c0 : Cond} {rest : List Value} {l1 : Nat} {u w1 : CSt} {r : Int32} (X : CC p s m args c cc nL c0 RX11 D kA V A) (h_l1 : l1 < 2) (hS : CS D kA Z A s u H locs) (h : F_X2_resetInstances N l1 u = some (r, w1)) (hF : 2 + 1 ≤ R.frames) (hL : 8 + (7 + 11) + 48 ≤ R.locals) (hl : ls.size = nL) (hc : (rest.map fun v => v.category).sum ≤ 8) (hdg : decode cc pc = .ok (.invokevirtual 144, 3)) (kk : ∀ H locs, CS D kA Z A s w1 H locs → W p l e R s m args below meth c H locs 0 0 Q (F0 m (pc + 3) ls (rest))) : W p l e R s m args below meth c H locs 0 0 Q (F0 m pc ls (.ref (Z (300 + 50 * l1)) :: .ref (Z 234) :: rest)) :=
  ccall_v (n := 1) X hS (k_X2_resetInstances l D kA V Z N l1 h_l1 u H.size h) (gw_V gw_1436 gw_1411 gw_1412 gw_15 gw_1413) (by decide +kernel) (va_recv X.2.1 hS.1 (ci := 2) (q0 := 34) rfl (cw_lit rfl)) hF hL rfl hl hc rfl hdg kk
def B_X2_install_89 (N : Nat) (R_19 : Nat × Nat × Int32 × Int32 × CSt → Option (Int32 × CSt)) (l1 : Nat) (l2 : Nat) (l3 : Int32) (l4 : Int32) (u : CSt) : Option (Int32 × CSt) := R_19 (l1, l2, l3, (l4 + 1), u)
set_option maxHeartbeats 4000000 in
theorem b_X2_install_89 {r : Int32} (X : CC p s m args c cX2_install 6 (Cond.code yX2_install cX2_install 6 none) RX2 D kA V A) (hE : CEv p l e R s m args below meth c cX2_install D kA Z A Q w) (hF : 3 ≤ R.frames) (hL : 74 ≤ R.locals) {R_19 : Nat × Nat × Int32 × Int32 × CSt → Option (Int32 × CSt)} {l1 : Nat} {l2 : Nat} {l3 : Int32} {l4 : Int32} {u : CSt} (hR_19 : ∀ (l1 : Nat) (l2 : Nat) (l3 : Int32) (l4 : Int32) (u : CSt), l1 < 2 → l2 < 2 → R_19 (l1, l2, l3, l4, u) = some (r, w) → ∀ (H : Heap) (locs : List Loc) (ls : Array Slot), CS D kA Z A s u H locs → lv_has ls 6 [(0, .ref (Z 234)), (1, .ref (Z (300 + 50 * l1))), (2, .ref (Z (300 + 50 * l2))), (3, .int l3), (4, .int l4)] → W p l e R s m args below meth c H locs 0 0 Q (F0 m 19 ls [])) (h : B_X2_install_89 N R_19 l1 l2 l3 l4 u = some (r, w)) (h_l1 : l1 < 2) (h_l2 : l2 < 2) (hS : CS D kA Z A s u H locs) (hl : lv_has ls 6 [(0, .ref (Z 234)), (1, .ref (Z (300 + 50 * l1))), (2, .ref (Z (300 + 50 * l2))), (3, .int l3), (4, .int l4)]) : W p l e R s m args below meth c H locs 0 0 Q (F0 m 89 ls []) := by
  obtain ⟨⟨hx, hb, hml, hown, hts⟩, hK, hEV, hA⟩ := id X
  have hG : ∀ w ∈ GW, w.before args s = true := fun w h => hts w (List.mem_cons_of_mem _ h)
  unfold B_X2_install_89 at h
  refine lv_iinc (v := l4 + 1) (lv' := [(4, .int (l4 + 1)), (0, .ref (Z 234)), (1, .ref (Z (300 + 50 * l1))), (2, .ref (Z (300 + 50 * l2))), (3, .int l3)]) hx hb dX2_install_89 hl (k := 4) rfl rfl (by decide) rfl (fun ls hl => ?_)
  refine lv_goto (tgt := 19) hx hb dX2_install_92 (by decide) ?_
  exact hR_19 _ _ _ _ _ h_l1 h_l2 h _ _ _ hS (lv_sub hl [1, 2, 3, 4, 0] rfl)
def B_X2_install_19 (N : Nat) (R_19 : Nat × Nat × Int32 × Int32 × CSt → Option (Int32 × CSt)) (l1 : Nat) (l2 : Nat) (l3 : Int32) (l4 : Int32) (u : CSt) : Option (Int32 × CSt) := bc (F_X6_ofSort N l1 0 u) fun r_2 u_1 => if r_2 ≤ l4 then (bc (F_X2_resetInstances N l1 u_1) fun _ u_4 => some (0, u_4)) else (bc (F_X6_nth N l1 0 l4 u_1) fun r_6 u_5 => ok (r_6 < 338) inferInstance <| bc (F_X4_isPlaced N r_6 u_5) fun r_9 u_8 => if r_9 = (0 : Int32) then (bc (F_X2_fill N (mI u_8 r_6 9) (mI u_8 r_6 7) (mL u_8 r_6 10) u_8) fun _ u_11 => if l3 = (0 : Int32) then (B_X2_install_89 N R_19 l1 l2 l3 l4 u_11) else (bc (F_X6_ofText N l2 (mL u_11 r_6 0) (mI u_11 r_6 1) u_11) fun r_14 u_13 => ok (r_14 < 338) inferInstance <| bc (F_X2_keep N r_6 r_14 u_13) fun _ u_16 => B_X2_install_89 N R_19 l1 l2 l3 l4 u_16)) else (B_X2_install_89 N R_19 l1 l2 l3 l4 u_8))
set_option maxHeartbeats 4000000 in
theorem b_X2_install_19 {r : Int32} (X : CC p s m args c cX2_install 6 (Cond.code yX2_install cX2_install 6 none) RX2 D kA V A) (hE : CEv p l e R s m args below meth c cX2_install D kA Z A Q w) (hF : 3 ≤ R.frames) (hL : 74 ≤ R.locals) {R_19 : Nat × Nat × Int32 × Int32 × CSt → Option (Int32 × CSt)} {l1 : Nat} {l2 : Nat} {l3 : Int32} {l4 : Int32} {u : CSt} (hR_19 : ∀ (l1 : Nat) (l2 : Nat) (l3 : Int32) (l4 : Int32) (u : CSt), l1 < 2 → l2 < 2 → R_19 (l1, l2, l3, l4, u) = some (r, w) → ∀ (H : Heap) (locs : List Loc) (ls : Array Slot), CS D kA Z A s u H locs → lv_has ls 6 [(0, .ref (Z 234)), (1, .ref (Z (300 + 50 * l1))), (2, .ref (Z (300 + 50 * l2))), (3, .int l3), (4, .int l4)] → W p l e R s m args below meth c H locs 0 0 Q (F0 m 19 ls [])) (h : B_X2_install_19 N R_19 l1 l2 l3 l4 u = some (r, w)) (h_l1 : l1 < 2) (h_l2 : l2 < 2) (hS : CS D kA Z A s u H locs) (hl : lv_has ls 6 [(0, .ref (Z 234)), (1, .ref (Z (300 + 50 * l1))), (2, .ref (Z (300 + 50 * l2))), (3, .int l3), (4, .int l4)]) : W p l e R s m args below meth c H locs 0 0 Q (F0 m 19 ls []) := by
  obtain ⟨⟨hx, hb, hml, hown, hts⟩, hK, hEV, hA⟩ := id X
  have hG : ∀ w ∈ GW, w.before args s = true := fun w h => hts w (List.mem_cons_of_mem _ h)
  unfold B_X2_install_19 at h
  refine lv_iload hx hb dX2_install_19 (lv_at hl 4 rfl) ?_
  refine lv_aload_n hx hb dX2_install_21 rfl (lv_at hl 1 rfl) ?_
  refine lv_iconst (v := 0) hx hb dX2_install_22 (by decide) ?_
  obtain ⟨r_2, u_1, h_u_1, h⟩ := bc_of h
  refine kc_X6_ofSort_RX2 X h_l1 hS h_u_1 (Nat.le_trans (Nat.le_of_ble_eq_true rfl) hF) (Nat.le_trans (Nat.le_of_ble_eq_true rfl) hL) hl.1 (Nat.le_of_ble_eq_true rfl) dX2_install_23 (fun H locs hS => ?_)
  refine lv_icmp_ge (tgt := 95) hx hb dX2_install_26 (by decide) (fun c_3 => ?_) (fun c_3 => ?_)
  · have h := ip (c_3) h
    refine lv_aload_n hx hb dX2_install_95 rfl (lv_at hl 0 rfl) ?_
    refine lv_aload_n hx hb dX2_install_96 rfl (lv_at hl 1 rfl) ?_
    obtain ⟨r_u_4, u_4, h_u_4, h⟩ := bc_of h
    refine kc_X2_resetInstances_RX2 X h_l1 hS h_u_4 (Nat.le_trans (Nat.le_of_ble_eq_true rfl) hF) (Nat.le_trans (Nat.le_of_ble_eq_true rfl) hL) hl.1 (Nat.le_of_ble_eq_true rfl) dX2_install_97 (fun H locs hS => ?_)
    obtain ⟨-, rfl⟩ := so9 h
    exact hE _ _ _ _ hS dX2_install_100
  · have h := im (c_3) h
    refine lv_aload_n hx hb dX2_install_29 rfl (lv_at hl 1 rfl) ?_
    refine lv_iconst (v := 0) hx hb dX2_install_30 (by decide) ?_
    refine lv_iload hx hb dX2_install_31 (lv_at hl 4 rfl) ?_
    obtain ⟨r_6, u_5, h_u_5, h⟩ := bc_of h
    refine kc_X6_nth_RX2 X h_l1 hS h_u_5 (Nat.le_trans (Nat.le_of_ble_eq_true rfl) hF) (Nat.le_trans (Nat.le_of_ble_eq_true rfl) hL) hl.1 (Nat.le_of_ble_eq_true rfl) dX2_install_33 (fun H locs hS => ?_)
    obtain ⟨z_7, h⟩ := ok_of h
    refine lv_astore (lv' := [(5, .ref (Z (1000 + r_6))), (0, .ref (Z 234)), (1, .ref (Z (300 + 50 * l1))), (2, .ref (Z (300 + 50 * l2))), (3, .int l3), (4, .int l4)]) hx hb dX2_install_36 hl (by decide) rfl (fun ls hl => ?_)
    refine lv_aload hx hb dX2_install_38 (lv_at hl 0 rfl) ?_
    obtain ⟨r_9, u_8, h_u_8, h⟩ := bc_of h
    refine kc_X4_isPlaced_RX2 X z_7 hS h_u_8 (Nat.le_trans (Nat.le_of_ble_eq_true rfl) hF) (Nat.le_trans (Nat.le_of_ble_eq_true rfl) hL) hl.1 (Nat.le_of_ble_eq_true rfl) dX2_install_40 (fun H locs hS => ?_)
    refine lv_if_ne (tgt := 89) hx hb dX2_install_43 (by decide) (fun c_10 => ?_) (fun c_10 => ?_)
    · have h := im (c_10) h
      exact b_X2_install_89 X hE  hF hL hR_19 h h_l1 h_l2 hS (lv_sub hl [1, 2, 3, 4, 5] rfl)
    · have h := ip (c_10) h
      refine lv_aload_n hx hb dX2_install_46 rfl (lv_at hl 1 rfl) ?_
      refine lv_aload hx hb dX2_install_47 (lv_at hl 0 rfl) ?_
      refine cg_X2_49 X z_7 hS dX2_install_49 ?_
      refine lv_aload hx hb dX2_install_52 (lv_at hl 0 rfl) ?_
      refine cg_X2_92 X z_7 hS dX2_install_54 ?_
      refine lv_aload hx hb dX2_install_57 (lv_at hl 0 rfl) ?_
      refine cg_X2_95 X z_7 hS dX2_install_59 ?_
      obtain ⟨r_u_11, u_11, h_u_11, h⟩ := bc_of h
      refine kc_X2_fill_RX2 X  hS h_u_11 (Nat.le_trans (Nat.le_of_ble_eq_true rfl) hF) (Nat.le_trans (Nat.le_of_ble_eq_true rfl) hL) hl.1 (Nat.le_of_ble_eq_true rfl) dX2_install_62 (fun H locs hS => ?_)
      refine lv_iload_n hx hb dX2_install_65 rfl (lv_at hl 4 rfl) ?_
      refine lv_if_eq (tgt := 89) hx hb dX2_install_66 (by decide) (fun c_12 => ?_) (fun c_12 => ?_)
      · have h := ip (c_12) h
        exact b_X2_install_89 X hE  hF hL hR_19 h h_l1 h_l2 hS (lv_sub hl [1, 2, 3, 4, 5] rfl)
      · have h := im (c_12) h
        refine lv_aload_n hx hb dX2_install_69 rfl (lv_at hl 1 rfl) ?_
        refine lv_aload hx hb dX2_install_70 (lv_at hl 0 rfl) ?_
        refine lv_aload_n hx hb dX2_install_72 rfl (lv_at hl 3 rfl) ?_
        refine lv_aload hx hb dX2_install_73 (lv_at hl 0 rfl) ?_
        refine cg_X2_102 X z_7 hS dX2_install_75 ?_
        refine lv_aload hx hb dX2_install_78 (lv_at hl 0 rfl) ?_
        refine cg_X2_105 X z_7 hS dX2_install_80 ?_
        obtain ⟨r_14, u_13, h_u_13, h⟩ := bc_of h
        refine kc_X6_ofText_RX2 X h_l2 hS h_u_13 (Nat.le_trans (Nat.le_of_ble_eq_true rfl) hF) (Nat.le_trans (Nat.le_of_ble_eq_true rfl) hL) hl.1 (Nat.le_of_ble_eq_true rfl) dX2_install_83 (fun H locs hS => ?_)
        obtain ⟨z_15, h⟩ := ok_of h
        obtain ⟨r_u_16, u_16, h_u_16, h⟩ := bc_of h
        refine kc_X2_keep_RX2 X z_7 z_15 hS h_u_16 (Nat.le_trans (Nat.le_of_ble_eq_true rfl) hF) (Nat.le_trans (Nat.le_of_ble_eq_true rfl) hL) hl.1 (Nat.le_of_ble_eq_true rfl) dX2_install_86 (fun H locs hS => ?_)
        exact b_X2_install_89 X hE  hF hL hR_19 h h_l1 h_l2 hS (lv_sub hl [1, 2, 3, 4, 5] rfl)
def LP_X2_install_19 (N : Nat) : Nat → Nat × Nat × Int32 × Int32 × CSt → Option (Int32 × CSt) := lp (fun R a => B_X2_install_19 N R a.1 a.2.1 a.2.2.1 a.2.2.2.1 a.2.2.2.2)
theorem bl_X2_install_19 {r : Int32} (X : CC p s m args c cX2_install 6 (Cond.code yX2_install cX2_install 6 none) RX2 D kA V A) (hE : CEv p l e R s m args below meth c cX2_install D kA Z A Q w) (hF : 3 ≤ R.frames) (hL : 74 ≤ R.locals)  : ∀ (n : Nat) (l1 : Nat) (l2 : Nat) (l3 : Int32) (l4 : Int32) (u : CSt), l1 < 2 → l2 < 2 → LP_X2_install_19 N n (l1, l2, l3, l4, u) = some (r, w) → ∀ (H : Heap) (locs : List Loc) (ls : Array Slot), CS D kA Z A s u H locs → lv_has ls 6 [(0, .ref (Z 234)), (1, .ref (Z (300 + 50 * l1))), (2, .ref (Z (300 + 50 * l2))), (3, .int l3), (4, .int l4)] → W p l e R s m args below meth c H locs 0 0 Q (F0 m 19 ls []) := by
  intro n
  induction n with
  | zero => intro l1 l2 l3 l4 u h_l1 h_l2 h; exact nomatch h
  | succ n ih => intro l1 l2 l3 l4 u h_l1 h_l2 h H locs ls hS hl; exact b_X2_install_19 (N := N) (R_19 := LP_X2_install_19 N n) X hE  hF hL  ih h h_l1 h_l2 hS hl
def B_X2_install_0 (N : Nat) (l1 : Nat) (l2 : Nat) (l3 : Int32) (u : CSt) : Option (Int32 × CSt) := pc (xG u 236 (va_cpy (cB u 235) (cB u 236) (0 : Int32).toNatClampNeg (0 : Int32).toNatClampNeg (2000 : Int32).toNatClampNeg)) fun u_17 => LP_X2_install_19 N N (l1, l2, l3, 0, u_17)
set_option maxHeartbeats 4000000 in
theorem b_X2_install_0 {r : Int32} (X : CC p s m args c cX2_install 6 (Cond.code yX2_install cX2_install 6 none) RX2 D kA V A) (hE : CEv p l e R s m args below meth c cX2_install D kA Z A Q w) (hF : 3 ≤ R.frames) (hL : 74 ≤ R.locals) {l1 : Nat} {l2 : Nat} {l3 : Int32} {u : CSt}  (h : B_X2_install_0 N l1 l2 l3 u = some (r, w)) (h_l1 : l1 < 2) (h_l2 : l2 < 2) (hS : CS D kA Z A s u H locs) (hl : lv_has ls 6 [(0, .ref (Z 234)), (1, .ref (Z (300 + 50 * l1))), (2, .ref (Z (300 + 50 * l2))), (3, .int l3)]) : W p l e R s m args below meth c H locs 0 0 Q (F0 m 0 ls []) := by
  obtain ⟨⟨hx, hb, hml, hown, hts⟩, hK, hEV, hA⟩ := id X
  have hG : ∀ w ∈ GW, w.before args s = true := fun w h => hts w (List.mem_cons_of_mem _ h)
  unfold B_X2_install_0 at h
  refine lv_aload_n hx hb dX2_install_0 rfl (lv_at hl 0 rfl) ?_
  refine cg_X2_9 X hS dX2_install_1 ?_
  refine lv_iconst (v := 0) hx hb dX2_install_4 (by decide) ?_
  refine lv_aload_n hx hb dX2_install_5 rfl (lv_at hl 0 rfl) ?_
  refine cg_X2_15 X hS dX2_install_6 ?_
  refine lv_iconst (v := 0) hx hb dX2_install_9 (by decide) ?_
  refine lv_sipush (v := 2000) hx hb dX2_install_10 (by decide) ?_
  obtain ⟨u_17, e_u_17, h⟩ := pc_of h
  refine va_copyl hx hb (by rw [hml]; exact hl.1.symm) hown (hG _ gw_1380) (hG _ gw_1382) (hG _ gw_1381) (hG _ gw_25) hK hS.1 hS.2.1 hS.2.2 35 36 1 1 (cw_lit rfl) (cw_lit rfl) rfl rfl rfl (by decide) (by decide) (by decide) (by decide) (by decide) (fun _ _ => rfl) (Nat.le_trans (Nat.le_of_ble_eq_true rfl) hF) (Nat.le_trans (Nat.le_of_ble_eq_true rfl) hL) dX2_install_13 (fun H locs hP hD hS9 => ?_)
  have hS := cs_put (kA := kA) (w := u_17) (by subst e_u_17; exact cw_setL (by decide) rfl rfl rfl) hP hD hS9
  refine lv_iconst (v := 0) hx hb dX2_install_16 (by decide) ?_
  refine lv_istore (lv' := [(4, .int 0), (0, .ref (Z 234)), (1, .ref (Z (300 + 50 * l1))), (2, .ref (Z (300 + 50 * l2))), (3, .int l3)]) hx hb dX2_install_17 hl (by decide) rfl (fun ls hl => ?_)
  exact bl_X2_install_19 X hE  hF hL  _ _ _ _ _ _ h_l1 h_l2 h _ _ _ hS (lv_sub hl [1, 2, 3, 4, 0] rfl)
def F_X2_install (N : Nat) (l1 : Nat) (l2 : Nat) (l3 : Int32) (u : CSt) : Option (Int32 × CSt) := B_X2_install_0 N l1 l2 l3 u
set_option maxHeartbeats 4000000 in
theorem k_X2_install (l : Launch) (D : va_G) (kA : Nat → ClassId) (V Z : Nat → Nat) (N : Nat) (l1 : Nat) (l2 : Nat) (l3 : Int32) (h_l1 : l1 < 2) (h_l2 : l2 < 2) (u : CSt) (sz : Nat) {r : Int32} {w : CSt} (h : F_X2_install N l1 l2 l3 u = some (r, w)) : Met l yX2_install (Cond.code yX2_install cX2_install 6 none :: GW) { frames := 3, cells := 0, slots := 0, locals := 74 } (cPc D kA V Z [.ref (Z 234), .ref (Z (300 + 50 * l1)), .ref (Z (300 + 50 * l2)), .int l3] u sz) (cQv D kA Z u sz w) 0 0 (va_A (CW kA Z u) sz) := by
  refine Met.ofW (cc := cX2_install) (maxL := 6) (ret := none) (by decide) rfl ?_
  intro p e s m args below meth c s₁ Bd hml hv
  obtain ⟨rfl, hsz, hP, hK, hD0, hE⟩ := hv
  have hts := atoms_spec (ws := Cond.code yX2_install cX2_install 6 none :: GW) Bd.pre
  have hl := lv_entry ([.ref (Z 234), .ref (Z (300 + 50 * l1)), .ref (Z (300 + 50 * l2)), .int l3]) (n := 6) (Nat.le_of_ble_eq_true rfl)
  rw [lg_entry_eq]
  generalize (lg_sl ([.ref (Z 234), .ref (Z (300 + 50 * l1)), .ref (Z (300 + 50 * l2)), .int l3]) ++ List.replicate (6 - (lg_sl ([.ref (Z 234), .ref (Z (300 + 50 * l1)), .ref (Z (300 + 50 * l2)), .int l3])).length) Slot.unset).toArray = ls at hl ⊢
  have hl : lv_has ls 6 [(0, .ref (Z 234)), (1, .ref (Z (300 + 50 * l1))), (2, .ref (Z (300 + 50 * l2))), (3, .int l3)] := hl
  subst hsz
  have X : CC p s m ([.ref (Z 234), .ref (Z (300 + 50 * l1)), .ref (Z (300 + 50 * l2)), .int l3]).toArray c cX2_install 6 (Cond.code yX2_install cX2_install 6 none) RX2 D kA V (va_A (CW kA Z u) s.heap.size) := ⟨⟨Bd.exec, Bd.bytes, hml, findClass_of_methodNamed Bd.named, hts⟩, hK, hE, fun q h => Or.inr h⟩
  refine b_X2_install_0 X (cend_v X Bd.returns Bd.notSynchronized) (Nat.le_refl _) (Nat.le_refl _) h h_l1 h_l2 ⟨hP, hD0.self, va_S.rf⟩ (lv_sub hl [0, 1, 2, 3] rfl)
theorem kc_X2_install_RX11 {cc : ByteArray} {pc nL : Nat} {c0 : Cond} {rest : List Value} {l1 : Nat} {l2 : Nat} {l3 : Int32} {u w1 : CSt} {r : Int32} (X : CC p s m args c cc nL c0 RX11 D kA V A) (h_l1 : l1 < 2) (h_l2 : l2 < 2) (hS : CS D kA Z A s u H locs) (h : F_X2_install N l1 l2 l3 u = some (r, w1)) (hF : 3 + 1 ≤ R.frames) (hL : 8 + (6 + 11) + 74 ≤ R.locals) (hl : ls.size = nL) (hc : (rest.map fun v => v.category).sum ≤ 8) (hdg : decode cc pc = .ok (.invokevirtual 360, 3)) (kk : ∀ H locs, CS D kA Z A s w1 H locs → W p l e R s m args below meth c H locs 0 0 Q (F0 m (pc + 3) ls (rest))) : W p l e R s m args below meth c H locs 0 0 Q (F0 m pc ls (.int l3 :: .ref (Z (300 + 50 * l2)) :: .ref (Z (300 + 50 * l1)) :: .ref (Z 234) :: rest)) :=
  ccall_v (n := 3) X hS (k_X2_install l D kA V Z N l1 l2 l3 h_l1 h_l2 u H.size h) (gw_V gw_1376 gw_1377 gw_1378 gw_15 gw_1379) (by decide +kernel) (va_recv X.2.1 hS.1 (ci := 2) (q0 := 34) rfl (cw_lit rfl)) hF hL rfl hl hc rfl hdg kk
def B_X2_stop_0 (N : Nat) (l1 : Int32) (l2 : Int32) (u : CSt) : Option (Int32 × CSt) := pc (xI u 26 l1) fun u_1 => pc (xI u_1 27 l2) fun u_2 => pc (xI u_2 25 0) fun u_3 => some (0, u_3)
set_option maxHeartbeats 4000000 in
theorem b_X2_stop_0 {r : Int32} (X : CC p s m args c cX2_stop 3 (Cond.code yX2_stop cX2_stop 3 none) RX2 D kA V A) (hE : CEv p l e R s m args below meth c cX2_stop D kA Z A Q w) (hF : 0 ≤ R.frames) (hL : 0 ≤ R.locals) {l1 : Int32} {l2 : Int32} {u : CSt}  (h : B_X2_stop_0 N l1 l2 u = some (r, w))  (hS : CS D kA Z A s u H locs) (hl : lv_has ls 3 [(0, .ref (Z 234)), (1, .int l1), (2, .int l2)]) : W p l e R s m args below meth c H locs 0 0 Q (F0 m 0 ls []) := by
  obtain ⟨⟨hx, hb, hml, hown, hts⟩, hK, hEV, hA⟩ := id X
  have hG : ∀ w ∈ GW, w.before args s = true := fun w h => hts w (List.mem_cons_of_mem _ h)
  unfold B_X2_stop_0 at h
  refine lv_aload_n hx hb dX2_stop_0 rfl (lv_at hl 0 rfl) ?_
  refine lv_iload_n hx hb dX2_stop_1 rfl (lv_at hl 1 rfl) ?_
  obtain ⟨u_1, e_u_1, h⟩ := pc_of h
  refine cp_X2_158 X hS e_u_1 dX2_stop_2 (fun H locs hS => ?_)
  refine lv_aload_n hx hb dX2_stop_5 rfl (lv_at hl 0 rfl) ?_
  refine lv_iload_n hx hb dX2_stop_6 rfl (lv_at hl 2 rfl) ?_
  obtain ⟨u_2, e_u_2, h⟩ := pc_of h
  refine cp_X2_161 X hS e_u_2 dX2_stop_7 (fun H locs hS => ?_)
  refine lv_aload_n hx hb dX2_stop_10 rfl (lv_at hl 0 rfl) ?_
  refine lv_iconst (v := 0) hx hb dX2_stop_11 (by decide) ?_
  obtain ⟨u_3, e_u_3, h⟩ := pc_of h
  refine cp_X2_167 X hS e_u_3 (Or.inl rfl) dX2_stop_12 (fun H locs hS => ?_)
  obtain ⟨-, rfl⟩ := so9 h
  exact hE _ _ _ _ hS dX2_stop_15
def F_X2_stop (N : Nat) (l1 : Int32) (l2 : Int32) (u : CSt) : Option (Int32 × CSt) := B_X2_stop_0 N l1 l2 u
set_option maxHeartbeats 4000000 in
theorem k_X2_stop (l : Launch) (D : va_G) (kA : Nat → ClassId) (V Z : Nat → Nat) (N : Nat) (l1 : Int32) (l2 : Int32) (u : CSt) (sz : Nat) {r : Int32} {w : CSt} (h : F_X2_stop N l1 l2 u = some (r, w)) : Met l yX2_stop (Cond.code yX2_stop cX2_stop 3 none :: GW) { frames := 0, cells := 0, slots := 0, locals := 0 } (cPc D kA V Z [.ref (Z 234), .int l1, .int l2] u sz) (cQv D kA Z u sz w) 0 0 (va_A (CW kA Z u) sz) := by
  refine Met.ofW (cc := cX2_stop) (maxL := 3) (ret := none) (by decide) rfl ?_
  intro p e s m args below meth c s₁ Bd hml hv
  obtain ⟨rfl, hsz, hP, hK, hD0, hE⟩ := hv
  have hts := atoms_spec (ws := Cond.code yX2_stop cX2_stop 3 none :: GW) Bd.pre
  have hl := lv_entry ([.ref (Z 234), .int l1, .int l2]) (n := 3) (Nat.le_of_ble_eq_true rfl)
  rw [lg_entry_eq]
  generalize (lg_sl ([.ref (Z 234), .int l1, .int l2]) ++ List.replicate (3 - (lg_sl ([.ref (Z 234), .int l1, .int l2])).length) Slot.unset).toArray = ls at hl ⊢
  have hl : lv_has ls 3 [(0, .ref (Z 234)), (1, .int l1), (2, .int l2)] := hl
  subst hsz
  have X : CC p s m ([.ref (Z 234), .int l1, .int l2]).toArray c cX2_stop 3 (Cond.code yX2_stop cX2_stop 3 none) RX2 D kA V (va_A (CW kA Z u) s.heap.size) := ⟨⟨Bd.exec, Bd.bytes, hml, findClass_of_methodNamed Bd.named, hts⟩, hK, hE, fun q h => Or.inr h⟩
  refine b_X2_stop_0 X (cend_v X Bd.returns Bd.notSynchronized) (Nat.le_refl _) (Nat.le_refl _) h  ⟨hP, hD0.self, va_S.rf⟩ (lv_sub hl [0, 1, 2] rfl)
theorem kc_X2_stop_RX2 {cc : ByteArray} {pc nL : Nat} {c0 : Cond} {rest : List Value} {l1 : Int32} {l2 : Int32} {u w1 : CSt} {r : Int32} (X : CC p s m args c cc nL c0 RX2 D kA V A)  (hS : CS D kA Z A s u H locs) (h : F_X2_stop N l1 l2 u = some (r, w1)) (hF : 0 + 1 ≤ R.frames) (hL : 8 + (3 + 11) + 0 ≤ R.locals) (hl : ls.size = nL) (hc : (rest.map fun v => v.category).sum ≤ 8) (hdg : decode cc pc = .ok (.invokevirtual 190, 3)) (kk : ∀ H locs, CS D kA Z A s w1 H locs → W p l e R s m args below meth c H locs 0 0 Q (F0 m (pc + 3) ls (rest))) : W p l e R s m args below meth c H locs 0 0 Q (F0 m pc ls (.int l2 :: .int l1 :: .ref (Z 234) :: rest)) :=
  ccall_v (n := 2) X hS (k_X2_stop l D kA V Z N l1 l2  u H.size h) (gw_V gw_1507 gw_1509 gs_6_8 gw_15 gw_1510) (by decide +kernel) (va_recv X.2.1 hS.1 (ci := 2) (q0 := 34) rfl (cw_lit rfl)) hF hL rfl hl hc rfl hdg kk
def B_X2_push_0 (N : Nat) (l1 : Int64) (u : CSt) : Option (Int32 × CSt) := bc (F_X2_put N (cI u 18) l1 u) fun _ u_1 => pc (xI u_1 18 ((cI u_1 18) + 1)) fun u_2 => some (0, u_2)
set_option maxHeartbeats 4000000 in
theorem b_X2_push_0 {r : Int32} (X : CC p s m args c cX2_push 3 (Cond.code yX2_push cX2_push 3 none) RX2 D kA V A) (hE : CEv p l e R s m args below meth c cX2_push D kA Z A Q w) (hF : 1 ≤ R.frames) (hL : 23 ≤ R.locals) {l1 : Int64} {u : CSt}  (h : B_X2_push_0 N l1 u = some (r, w))  (hS : CS D kA Z A s u H locs) (hl : lv_has ls 3 [(0, .ref (Z 234)), (1, .long l1)]) : W p l e R s m args below meth c H locs 0 0 Q (F0 m 0 ls []) := by
  obtain ⟨⟨hx, hb, hml, hown, hts⟩, hK, hEV, hA⟩ := id X
  have hG : ∀ w ∈ GW, w.before args s = true := fun w h => hts w (List.mem_cons_of_mem _ h)
  unfold B_X2_push_0 at h
  refine lv_aload_n hx hb dX2_push_0 rfl (lv_at hl 0 rfl) ?_
  refine lv_aload_n hx hb dX2_push_1 rfl (lv_at hl 0 rfl) ?_
  refine cg_X2_146 X hS dX2_push_2 ?_
  refine lv_lload_n hx hb dX2_push_5 rfl (lv_at hl 1 rfl) ?_
  obtain ⟨r_u_1, u_1, h_u_1, h⟩ := bc_of h
  refine kc_X2_put_RX2 X  hS h_u_1 (Nat.le_trans (Nat.le_of_ble_eq_true rfl) hF) (Nat.le_trans (Nat.le_of_ble_eq_true rfl) hL) hl.1 (Nat.le_of_ble_eq_true rfl) dX2_push_6 (fun H locs hS => ?_)
  refine lv_aload_n hx hb dX2_push_9 rfl (lv_at hl 0 rfl) ?_
  refine lv_dup hx hb dX2_push_10 rfl ?_
  refine cg_X2_146 X hS dX2_push_11 ?_
  refine lv_iconst (v := 1) hx hb dX2_push_14 (by decide) ?_
  refine lv_iadd hx hb dX2_push_15 ?_
  obtain ⟨u_2, e_u_2, h⟩ := pc_of h
  refine cp_X2_146 X hS e_u_2 dX2_push_16 (fun H locs hS => ?_)
  obtain ⟨-, rfl⟩ := so9 h
  exact hE _ _ _ _ hS dX2_push_19
def F_X2_push (N : Nat) (l1 : Int64) (u : CSt) : Option (Int32 × CSt) := B_X2_push_0 N l1 u
set_option maxHeartbeats 4000000 in
theorem k_X2_push (l : Launch) (D : va_G) (kA : Nat → ClassId) (V Z : Nat → Nat) (N : Nat) (l1 : Int64) (u : CSt) (sz : Nat) {r : Int32} {w : CSt} (h : F_X2_push N l1 u = some (r, w)) : Met l yX2_push (Cond.code yX2_push cX2_push 3 none :: GW) { frames := 1, cells := 0, slots := 0, locals := 23 } (cPc D kA V Z [.ref (Z 234), .long l1] u sz) (cQv D kA Z u sz w) 0 0 (va_A (CW kA Z u) sz) := by
  refine Met.ofW (cc := cX2_push) (maxL := 3) (ret := none) (by decide) rfl ?_
  intro p e s m args below meth c s₁ Bd hml hv
  obtain ⟨rfl, hsz, hP, hK, hD0, hE⟩ := hv
  have hts := atoms_spec (ws := Cond.code yX2_push cX2_push 3 none :: GW) Bd.pre
  have hl := lv_entry ([.ref (Z 234), .long l1]) (n := 3) (Nat.le_of_ble_eq_true rfl)
  rw [lg_entry_eq]
  generalize (lg_sl ([.ref (Z 234), .long l1]) ++ List.replicate (3 - (lg_sl ([.ref (Z 234), .long l1])).length) Slot.unset).toArray = ls at hl ⊢
  have hl : lv_has ls 3 [(0, .ref (Z 234)), (1, .long l1)] := hl
  subst hsz
  have X : CC p s m ([.ref (Z 234), .long l1]).toArray c cX2_push 3 (Cond.code yX2_push cX2_push 3 none) RX2 D kA V (va_A (CW kA Z u) s.heap.size) := ⟨⟨Bd.exec, Bd.bytes, hml, findClass_of_methodNamed Bd.named, hts⟩, hK, hE, fun q h => Or.inr h⟩
  refine b_X2_push_0 X (cend_v X Bd.returns Bd.notSynchronized) (Nat.le_refl _) (Nat.le_refl _) h  ⟨hP, hD0.self, va_S.rf⟩ (lv_sub hl [0, 1] rfl)
theorem kc_X2_push_RX2 {cc : ByteArray} {pc nL : Nat} {c0 : Cond} {rest : List Value} {l1 : Int64} {u w1 : CSt} {r : Int32} (X : CC p s m args c cc nL c0 RX2 D kA V A)  (hS : CS D kA Z A s u H locs) (h : F_X2_push N l1 u = some (r, w1)) (hF : 1 + 1 ≤ R.frames) (hL : 8 + (3 + 11) + 23 ≤ R.locals) (hl : ls.size = nL) (hc : (rest.map fun v => v.category).sum ≤ 8) (hdg : decode cc pc = .ok (.invokevirtual 210, 3)) (kk : ∀ H locs, CS D kA Z A s w1 H locs → W p l e R s m args below meth c H locs 0 0 Q (F0 m (pc + 3) ls (rest))) : W p l e R s m args below meth c H locs 0 0 Q (F0 m pc ls (.long l1 :: .ref (Z 234) :: rest)) :=
  ccall_v (n := 1) X hS (k_X2_push l D kA V Z N l1  u H.size h) (gw_V gw_1516 gw_1518 gs_6_10 gw_15 gw_1519) (by decide +kernel) (va_recv X.2.1 hS.1 (ci := 2) (q0 := 34) rfl (cw_lit rfl)) hF hL rfl hl hc rfl hdg kk
def B_X2_pop_0 (N : Nat) (u : CSt) : Option (Int64 × CSt) := pc (xI u 18 ((cI u 18) - 1)) fun u_1 => bc (F_X2_numberAt N (cI u_1 18) u_1) fun r_3 u_2 => some (r_3, u_2)
set_option maxHeartbeats 4000000 in
theorem b_X2_pop_0 {r : Int64} (X : CC p s m args c cX2_pop 1 (Cond.code yX2_pop cX2_pop 1 (some .long)) RX2 D kA V A) (hE : CEl p l e R s m args below meth c cX2_pop D kA Z A Q r w) (hF : 1 ≤ R.frames) (hL : 21 ≤ R.locals) {u : CSt}  (h : B_X2_pop_0 N u = some (r, w))  (hS : CS D kA Z A s u H locs) (hl : lv_has ls 1 [(0, .ref (Z 234))]) : W p l e R s m args below meth c H locs 0 0 Q (F0 m 0 ls []) := by
  obtain ⟨⟨hx, hb, hml, hown, hts⟩, hK, hEV, hA⟩ := id X
  have hG : ∀ w ∈ GW, w.before args s = true := fun w h => hts w (List.mem_cons_of_mem _ h)
  unfold B_X2_pop_0 at h
  refine lv_aload_n hx hb dX2_pop_0 rfl (lv_at hl 0 rfl) ?_
  refine lv_dup hx hb dX2_pop_1 rfl ?_
  refine cg_X2_146 X hS dX2_pop_2 ?_
  refine lv_iconst (v := 1) hx hb dX2_pop_5 (by decide) ?_
  refine lv_isub hx hb dX2_pop_6 ?_
  obtain ⟨u_1, e_u_1, h⟩ := pc_of h
  refine cp_X2_146 X hS e_u_1 dX2_pop_7 (fun H locs hS => ?_)
  refine lv_aload_n hx hb dX2_pop_10 rfl (lv_at hl 0 rfl) ?_
  refine lv_aload_n hx hb dX2_pop_11 rfl (lv_at hl 0 rfl) ?_
  refine cg_X2_146 X hS dX2_pop_12 ?_
  obtain ⟨r_3, u_2, h_u_2, h⟩ := bc_of h
  refine kc_X2_numberAt_RX2 X  hS h_u_2 (Nat.le_trans (Nat.le_of_ble_eq_true rfl) hF) (Nat.le_trans (Nat.le_of_ble_eq_true rfl) hL) hl.1 (Nat.le_of_ble_eq_true rfl) dX2_pop_15 (fun H locs hS => ?_)
  obtain ⟨rfl, rfl⟩ := so9 h
  exact hE _ _ _ _ hS dX2_pop_18
def F_X2_pop (N : Nat) (u : CSt) : Option (Int64 × CSt) := B_X2_pop_0 N u
set_option maxHeartbeats 4000000 in
theorem k_X2_pop (l : Launch) (D : va_G) (kA : Nat → ClassId) (V Z : Nat → Nat) (N : Nat) (u : CSt) (sz : Nat) {r : Int64} {w : CSt} (h : F_X2_pop N u = some (r, w)) : Met l yX2_pop (Cond.code yX2_pop cX2_pop 1 (some .long) :: GW) { frames := 1, cells := 0, slots := 0, locals := 21 } (cPc D kA V Z [.ref (Z 234)] u sz) (cQl D kA Z u sz r w) 0 0 (va_A (CW kA Z u) sz) := by
  refine Met.ofW (cc := cX2_pop) (maxL := 1) (ret := (some .long)) (by decide) rfl ?_
  intro p e s m args below meth c s₁ Bd hml hv
  obtain ⟨rfl, hsz, hP, hK, hD0, hE⟩ := hv
  have hts := atoms_spec (ws := Cond.code yX2_pop cX2_pop 1 (some .long) :: GW) Bd.pre
  have hl := lv_entry ([.ref (Z 234)]) (n := 1) (Nat.le_of_ble_eq_true rfl)
  rw [lg_entry_eq]
  generalize (lg_sl ([.ref (Z 234)]) ++ List.replicate (1 - (lg_sl ([.ref (Z 234)])).length) Slot.unset).toArray = ls at hl ⊢
  have hl : lv_has ls 1 [(0, .ref (Z 234))] := hl
  subst hsz
  have X : CC p s m ([.ref (Z 234)]).toArray c cX2_pop 1 (Cond.code yX2_pop cX2_pop 1 (some .long)) RX2 D kA V (va_A (CW kA Z u) s.heap.size) := ⟨⟨Bd.exec, Bd.bytes, hml, findClass_of_methodNamed Bd.named, hts⟩, hK, hE, fun q h => Or.inr h⟩
  refine b_X2_pop_0 X (cend_l X Bd.returns Bd.notSynchronized) (Nat.le_refl _) (Nat.le_refl _) h  ⟨hP, hD0.self, va_S.rf⟩ (lv_sub hl [0] rfl)
theorem kc_X2_pop_RX2 {cc : ByteArray} {pc nL : Nat} {c0 : Cond} {rest : List Value} {u w1 : CSt} {r : Int64} (X : CC p s m args c cc nL c0 RX2 D kA V A)  (hS : CS D kA Z A s u H locs) (h : F_X2_pop N u = some (r, w1)) (hF : 1 + 1 ≤ R.frames) (hL : 8 + (1 + 11) + 21 ≤ R.locals) (hl : ls.size = nL) (hc : (rest.map fun v => v.category).sum ≤ 8) (hdg : decode cc pc = .ok (.invokevirtual 214, 3)) (kk : ∀ H locs, CS D kA Z A s w1 H locs → W p l e R s m args below meth c H locs 0 0 Q (F0 m (pc + 3) ls (.long r :: rest))) : W p l e R s m args below meth c H locs 0 0 Q (F0 m pc ls (.ref (Z 234) :: rest)) :=
  ccall_l (n := 0) X hS (k_X2_pop l D kA V Z N   u H.size h) (gw_V gw_1520 gw_1522 gs_6_11 gw_15 gw_1523) (by decide +kernel) (va_recv X.2.1 hS.1 (ci := 2) (q0 := 34) rfl (cw_lit rfl)) hF hL rfl hl hc rfl hdg kk
def B_X2_address_21 (N : Nat) (l3 : Int32) (u : CSt) : Option (Int32 × CSt) := bc (F_X2_stop N 2 l3 u) fun _ u_1 => some (0, u_1)
set_option maxHeartbeats 4000000 in
theorem b_X2_address_21 {r : Int32} (X : CC p s m args c cX2_address 6 (Cond.code yX2_address cX2_address 6 none) RX2 D kA V A) (hE : CEv p l e R s m args below meth c cX2_address D kA Z A Q w) (hF : 2 ≤ R.frames) (hL : 45 ≤ R.locals) {l3 : Int32} {u : CSt}  (h : B_X2_address_21 N l3 u = some (r, w))  (hS : CS D kA Z A s u H locs) (hl : lv_has ls 6 [(0, .ref (Z 234)), (3, .int l3)]) : W p l e R s m args below meth c H locs 0 0 Q (F0 m 21 ls []) := by
  obtain ⟨⟨hx, hb, hml, hown, hts⟩, hK, hEV, hA⟩ := id X
  have hG : ∀ w ∈ GW, w.before args s = true := fun w h => hts w (List.mem_cons_of_mem _ h)
  unfold B_X2_address_21 at h
  refine lv_aload_n hx hb dX2_address_21 rfl (lv_at hl 0 rfl) ?_
  refine lv_iconst (v := 2) hx hb dX2_address_22 (by decide) ?_
  refine lv_iload_n hx hb dX2_address_23 rfl (lv_at hl 1 rfl) ?_
  obtain ⟨r_u_1, u_1, h_u_1, h⟩ := bc_of h
  refine kc_X2_stop_RX2 X  hS h_u_1 (Nat.le_trans (Nat.le_of_ble_eq_true rfl) hF) (Nat.le_trans (Nat.le_of_ble_eq_true rfl) hL) hl.1 (Nat.le_of_ble_eq_true rfl) dX2_address_24 (fun H locs hS => ?_)
  refine lv_goto (tgt := 39) hx hb dX2_address_27 (by decide) ?_
  obtain ⟨-, rfl⟩ := so9 h
  exact hE _ _ _ _ hS dX2_address_39
def B_X2_address_0 (N : Nat) (l1 : Int32) (l2 : Int32) (l3 : Int32) (u : CSt) : Option (Int32 × CSt) := bc (F_X2_pop N u) fun r_3 u_2 => if r_3 < (0 : Int64) then (B_X2_address_21 N l3 u_2) else (if r_3 < l2.toInt64 then (bc (F_X2_push N (l1.toInt64 + r_3) u_2) fun _ u_6 => some (0, u_6)) else (B_X2_address_21 N l3 u_2))
set_option maxHeartbeats 4000000 in
theorem b_X2_address_0 {r : Int32} (X : CC p s m args c cX2_address 6 (Cond.code yX2_address cX2_address 6 none) RX2 D kA V A) (hE : CEv p l e R s m args below meth c cX2_address D kA Z A Q w) (hF : 2 ≤ R.frames) (hL : 45 ≤ R.locals) {l1 : Int32} {l2 : Int32} {l3 : Int32} {u : CSt}  (h : B_X2_address_0 N l1 l2 l3 u = some (r, w))  (hS : CS D kA Z A s u H locs) (hl : lv_has ls 6 [(0, .ref (Z 234)), (1, .int l1), (2, .int l2), (3, .int l3)]) : W p l e R s m args below meth c H locs 0 0 Q (F0 m 0 ls []) := by
  obtain ⟨⟨hx, hb, hml, hown, hts⟩, hK, hEV, hA⟩ := id X
  have hG : ∀ w ∈ GW, w.before args s = true := fun w h => hts w (List.mem_cons_of_mem _ h)
  unfold B_X2_address_0 at h
  refine lv_aload_n hx hb dX2_address_0 rfl (lv_at hl 0 rfl) ?_
  obtain ⟨r_3, u_2, h_u_2, h⟩ := bc_of h
  refine kc_X2_pop_RX2 X  hS h_u_2 (Nat.le_trans (Nat.le_of_ble_eq_true rfl) hF) (Nat.le_trans (Nat.le_of_ble_eq_true rfl) hL) hl.1 (Nat.le_of_ble_eq_true rfl) dX2_address_1 (fun H locs hS => ?_)
  refine lv_lstore (lv' := [(4, .long r_3), (0, .ref (Z 234)), (1, .int l1), (2, .int l2), (3, .int l3)]) hx hb dX2_address_4 hl (by decide) rfl (fun ls hl => ?_)
  refine lv_lload hx hb dX2_address_6 (lv_at hl 0 rfl) ?_
  refine lv_lconst (v := 0) hx hb dX2_address_8 (by decide) ?_
  refine W.lcmp hx hb dX2_address_9 ?_
  refine lv_if_lt (tgt := 21) hx hb dX2_address_10 (by decide) (fun c_4 => ?_) (fun c_4 => ?_)
  · have h := ip ((lg_cmp_lt _ _).mp c_4) h
    exact b_X2_address_21 X hE  hF hL  h  hS (lv_sub hl [1, 4] rfl)
  · have h := im (mt (lg_cmp_lt _ _).mpr c_4) h
    refine lv_lload hx hb dX2_address_13 (lv_at hl 0 rfl) ?_
    refine lv_iload_n hx hb dX2_address_15 rfl (lv_at hl 3 rfl) ?_
    refine lv_i2l (v := l2.toInt64) hx hb dX2_address_16 rfl ?_
    refine W.lcmp hx hb dX2_address_17 ?_
    refine lv_if_lt (tgt := 30) hx hb dX2_address_18 (by decide) (fun c_5 => ?_) (fun c_5 => ?_)
    · have h := ip ((lg_cmp_lt _ _).mp c_5) h
      refine lv_aload_n hx hb dX2_address_30 rfl (lv_at hl 1 rfl) ?_
      refine lv_iload_n hx hb dX2_address_31 rfl (lv_at hl 2 rfl) ?_
      refine lv_i2l (v := l1.toInt64) hx hb dX2_address_32 rfl ?_
      refine lv_lload hx hb dX2_address_33 (lv_at hl 0 rfl) ?_
      refine lv_ladd hx hb dX2_address_35 ?_
      obtain ⟨r_u_6, u_6, h_u_6, h⟩ := bc_of h
      refine kc_X2_push_RX2 X  hS h_u_6 (Nat.le_trans (Nat.le_of_ble_eq_true rfl) hF) (Nat.le_trans (Nat.le_of_ble_eq_true rfl) hL) hl.1 (Nat.le_of_ble_eq_true rfl) dX2_address_36 (fun H locs hS => ?_)
      obtain ⟨-, rfl⟩ := so9 h
      exact hE _ _ _ _ hS dX2_address_39
    · have h := im (mt (lg_cmp_lt _ _).mpr c_5) h
      exact b_X2_address_21 X hE  hF hL  h  hS (lv_sub hl [1, 4] rfl)
def F_X2_address (N : Nat) (l1 : Int32) (l2 : Int32) (l3 : Int32) (u : CSt) : Option (Int32 × CSt) := B_X2_address_0 N l1 l2 l3 u
set_option maxHeartbeats 4000000 in
theorem k_X2_address (l : Launch) (D : va_G) (kA : Nat → ClassId) (V Z : Nat → Nat) (N : Nat) (l1 : Int32) (l2 : Int32) (l3 : Int32) (u : CSt) (sz : Nat) {r : Int32} {w : CSt} (h : F_X2_address N l1 l2 l3 u = some (r, w)) : Met l yX2_address (Cond.code yX2_address cX2_address 6 none :: GW) { frames := 2, cells := 0, slots := 0, locals := 45 } (cPc D kA V Z [.ref (Z 234), .int l1, .int l2, .int l3] u sz) (cQv D kA Z u sz w) 0 0 (va_A (CW kA Z u) sz) := by
  refine Met.ofW (cc := cX2_address) (maxL := 6) (ret := none) (by decide) rfl ?_
  intro p e s m args below meth c s₁ Bd hml hv
  obtain ⟨rfl, hsz, hP, hK, hD0, hE⟩ := hv
  have hts := atoms_spec (ws := Cond.code yX2_address cX2_address 6 none :: GW) Bd.pre
  have hl := lv_entry ([.ref (Z 234), .int l1, .int l2, .int l3]) (n := 6) (Nat.le_of_ble_eq_true rfl)
  rw [lg_entry_eq]
  generalize (lg_sl ([.ref (Z 234), .int l1, .int l2, .int l3]) ++ List.replicate (6 - (lg_sl ([.ref (Z 234), .int l1, .int l2, .int l3])).length) Slot.unset).toArray = ls at hl ⊢
  have hl : lv_has ls 6 [(0, .ref (Z 234)), (1, .int l1), (2, .int l2), (3, .int l3)] := hl
  subst hsz
  have X : CC p s m ([.ref (Z 234), .int l1, .int l2, .int l3]).toArray c cX2_address 6 (Cond.code yX2_address cX2_address 6 none) RX2 D kA V (va_A (CW kA Z u) s.heap.size) := ⟨⟨Bd.exec, Bd.bytes, hml, findClass_of_methodNamed Bd.named, hts⟩, hK, hE, fun q h => Or.inr h⟩
  refine b_X2_address_0 X (cend_v X Bd.returns Bd.notSynchronized) (Nat.le_refl _) (Nat.le_refl _) h  ⟨hP, hD0.self, va_S.rf⟩ (lv_sub hl [0, 1, 2, 3] rfl)
theorem kc_X2_address_RX2 {cc : ByteArray} {pc nL : Nat} {c0 : Cond} {rest : List Value} {l1 : Int32} {l2 : Int32} {l3 : Int32} {u w1 : CSt} {r : Int32} (X : CC p s m args c cc nL c0 RX2 D kA V A)  (hS : CS D kA Z A s u H locs) (h : F_X2_address N l1 l2 l3 u = some (r, w1)) (hF : 2 + 1 ≤ R.frames) (hL : 8 + (6 + 11) + 45 ≤ R.locals) (hl : ls.size = nL) (hc : (rest.map fun v => v.category).sum ≤ 8) (hdg : decode cc pc = .ok (.invokevirtual 218, 3)) (kk : ∀ H locs, CS D kA Z A s w1 H locs → W p l e R s m args below meth c H locs 0 0 Q (F0 m (pc + 3) ls (rest))) : W p l e R s m args below meth c H locs 0 0 Q (F0 m pc ls (.int l3 :: .int l2 :: .int l1 :: .ref (Z 234) :: rest)) :=
  ccall_v (n := 3) X hS (k_X2_address l D kA V Z N l1 l2 l3  u H.size h) (gw_V gw_1528 gw_1530 gs_6_12 gw_15 gw_1531) (by decide +kernel) (va_recv X.2.1 hS.1 (ci := 2) (q0 := 34) rfl (cw_lit rfl)) hF hL rfl hl hc rfl hdg kk
def B_X2_assign_0 (N : Nat) (l1 : Int32) (u : CSt) : Option (Int32 × CSt) := bc (F_X2_pop N u) fun r_2 u_1 => bc (F_X2_pop N u_1) fun r_4 u_3 => bc (F_X2_put N r_4.toInt32 (n_cut l1 r_2) u_3) fun _ u_7 => some (0, u_7)
set_option maxHeartbeats 4000000 in
theorem b_X2_assign_0 {r : Int32} (X : CC p s m args c cX2_assign 4 (Cond.code yX2_assign cX2_assign 4 none) RX2 D kA V A) (hE : CEv p l e R s m args below meth c cX2_assign D kA Z A Q w) (hF : 2 ≤ R.frames) (hL : 41 ≤ R.locals) {l1 : Int32} {u : CSt}  (h : B_X2_assign_0 N l1 u = some (r, w))  (hS : CS D kA Z A s u H locs) (hl : lv_has ls 4 [(0, .ref (Z 234)), (1, .int l1)]) : W p l e R s m args below meth c H locs 0 0 Q (F0 m 0 ls []) := by
  obtain ⟨⟨hx, hb, hml, hown, hts⟩, hK, hEV, hA⟩ := id X
  have hG : ∀ w ∈ GW, w.before args s = true := fun w h => hts w (List.mem_cons_of_mem _ h)
  unfold B_X2_assign_0 at h
  refine lv_aload_n hx hb dX2_assign_0 rfl (lv_at hl 0 rfl) ?_
  obtain ⟨r_2, u_1, h_u_1, h⟩ := bc_of h
  refine kc_X2_pop_RX2 X  hS h_u_1 (Nat.le_trans (Nat.le_of_ble_eq_true rfl) hF) (Nat.le_trans (Nat.le_of_ble_eq_true rfl) hL) hl.1 (Nat.le_of_ble_eq_true rfl) dX2_assign_1 (fun H locs hS => ?_)
  refine lv_lstore_n (lv' := [(2, .long r_2), (0, .ref (Z 234)), (1, .int l1)]) hx hb dX2_assign_4 rfl hl (by decide) rfl (fun ls hl => ?_)
  refine lv_aload_n hx hb dX2_assign_5 rfl (lv_at hl 1 rfl) ?_
  refine lv_aload_n hx hb dX2_assign_6 rfl (lv_at hl 1 rfl) ?_
  obtain ⟨r_4, u_3, h_u_3, h⟩ := bc_of h
  refine kc_X2_pop_RX2 X  hS h_u_3 (Nat.le_trans (Nat.le_of_ble_eq_true rfl) hF) (Nat.le_trans (Nat.le_of_ble_eq_true rfl) hL) hl.1 (Nat.le_of_ble_eq_true rfl) dX2_assign_7 (fun H locs hS => ?_)
  refine lv_l2i (v := r_4.toInt32) hx hb dX2_assign_10 rfl ?_
  refine lv_iload_n hx hb dX2_assign_11 rfl (lv_at hl 2 rfl) ?_
  refine lv_lload_n hx hb dX2_assign_12 rfl (lv_at hl 0 rfl) ?_
  refine vp_callSl (W.runS (As := [.int l1, .long r_2]) (rest := [.int r_4.toInt32, .ref (Z 234)]) X.1 (c_X5_cutTo l l1 r_2) (va_cwS 2 hts (gw_P gw_1409 gw_1077 gw_24 gwp_X5_cutTo) rfl rfl rfl (by decide +kernel) ⟨Nat.le_trans (Nat.le_of_ble_eq_true rfl) hF, Nat.le_trans (Nat.le_of_ble_eq_true rfl) hL⟩) ⟨fun _ _ _ _ q => q, fun _ _ _ => ⟨rfl, trivial⟩⟩ rfl rfl hl.1 rfl (lv_room (Nat.le_of_ble_eq_true rfl)) dX2_assign_13 ⟨Nat.zero_le _, Nat.zero_le _⟩) (fun r_5 q_6 => ?_)
  subst q_6
  obtain ⟨r_u_7, u_7, h_u_7, h⟩ := bc_of h
  refine kc_X2_put_RX2 X  hS h_u_7 (Nat.le_trans (Nat.le_of_ble_eq_true rfl) hF) (Nat.le_trans (Nat.le_of_ble_eq_true rfl) hL) hl.1 (Nat.le_of_ble_eq_true rfl) dX2_assign_16 (fun H locs hS => ?_)
  obtain ⟨-, rfl⟩ := so9 h
  exact hE _ _ _ _ hS dX2_assign_19
def F_X2_assign (N : Nat) (l1 : Int32) (u : CSt) : Option (Int32 × CSt) := B_X2_assign_0 N l1 u
set_option maxHeartbeats 4000000 in
theorem k_X2_assign (l : Launch) (D : va_G) (kA : Nat → ClassId) (V Z : Nat → Nat) (N : Nat) (l1 : Int32) (u : CSt) (sz : Nat) {r : Int32} {w : CSt} (h : F_X2_assign N l1 u = some (r, w)) : Met l yX2_assign (Cond.code yX2_assign cX2_assign 4 none :: GW) { frames := 2, cells := 0, slots := 0, locals := 41 } (cPc D kA V Z [.ref (Z 234), .int l1] u sz) (cQv D kA Z u sz w) 0 0 (va_A (CW kA Z u) sz) := by
  refine Met.ofW (cc := cX2_assign) (maxL := 4) (ret := none) (by decide) rfl ?_
  intro p e s m args below meth c s₁ Bd hml hv
  obtain ⟨rfl, hsz, hP, hK, hD0, hE⟩ := hv
  have hts := atoms_spec (ws := Cond.code yX2_assign cX2_assign 4 none :: GW) Bd.pre
  have hl := lv_entry ([.ref (Z 234), .int l1]) (n := 4) (Nat.le_of_ble_eq_true rfl)
  rw [lg_entry_eq]
  generalize (lg_sl ([.ref (Z 234), .int l1]) ++ List.replicate (4 - (lg_sl ([.ref (Z 234), .int l1])).length) Slot.unset).toArray = ls at hl ⊢
  have hl : lv_has ls 4 [(0, .ref (Z 234)), (1, .int l1)] := hl
  subst hsz
  have X : CC p s m ([.ref (Z 234), .int l1]).toArray c cX2_assign 4 (Cond.code yX2_assign cX2_assign 4 none) RX2 D kA V (va_A (CW kA Z u) s.heap.size) := ⟨⟨Bd.exec, Bd.bytes, hml, findClass_of_methodNamed Bd.named, hts⟩, hK, hE, fun q h => Or.inr h⟩
  refine b_X2_assign_0 X (cend_v X Bd.returns Bd.notSynchronized) (Nat.le_refl _) (Nat.le_refl _) h  ⟨hP, hD0.self, va_S.rf⟩ (lv_sub hl [0, 1] rfl)
theorem kc_X2_assign_RX2 {cc : ByteArray} {pc nL : Nat} {c0 : Cond} {rest : List Value} {l1 : Int32} {u w1 : CSt} {r : Int32} (X : CC p s m args c cc nL c0 RX2 D kA V A)  (hS : CS D kA Z A s u H locs) (h : F_X2_assign N l1 u = some (r, w1)) (hF : 2 + 1 ≤ R.frames) (hL : 8 + (4 + 11) + 41 ≤ R.locals) (hl : ls.size = nL) (hc : (rest.map fun v => v.category).sum ≤ 8) (hdg : decode cc pc = .ok (.invokevirtual 221, 3)) (kk : ∀ H locs, CS D kA Z A s w1 H locs → W p l e R s m args below meth c H locs 0 0 Q (F0 m (pc + 3) ls (rest))) : W p l e R s m args below meth c H locs 0 0 Q (F0 m pc ls (.int l1 :: .ref (Z 234) :: rest)) :=
  ccall_v (n := 1) X hS (k_X2_assign l D kA V Z N l1  u H.size h) (gw_V gw_1532 gw_1534 gs_6_13 gw_15 gw_1535) (by decide +kernel) (va_recv X.2.1 hS.1 (ci := 2) (q0 := 34) rfl (cw_lit rfl)) hF hL rfl hl hc rfl hdg kk
def B_X2_move_0 (N : Nat) (l1 : Int32) (l2 : Int32) (l3 : Int32) (l4 : Int32) (u : CSt) : Option (Int32 × CSt) := if l1 = 1 then (bc (F_X2_push N ((l2.toInt64 <<< ((32 : Int32).toInt64 &&& 63)) ||| (l3.toInt64 &&& 4294967295)) u) fun _ u_2 => some (0, u_2)) else (if l1 = 2 then (bc (F_X2_push N ((cI u 22).toInt64) u) fun _ u_4 => some (0, u_4)) else (if l1 = 3 then (bc (F_X2_numberAt N l2 u) fun r_7 u_6 => bc (F_X2_push N r_7 u_6) fun _ u_8 => some (0, u_8)) else (if l1 = 4 then (bc (F_X2_numberAt N ((cI u 19) + l2) u) fun r_11 u_10 => bc (F_X2_push N r_11 u_10) fun _ u_12 => some (0, u_12)) else (if l1 = 5 then (bc (F_X1_get N 2 l2 l3 u) fun r_15 u_14 => bc (F_X2_push N r_15 u_14) fun _ u_16 => some (0, u_16)) else (if l1 = 6 then (bc (F_X1_get N 3 l2 l3 u) fun r_19 u_18 => bc (F_X2_push N r_19 u_18) fun _ u_20 => some (0, u_20)) else (if l1 = 7 then (bc (F_X2_pop N u) fun r_23 u_22 => bc (F_X2_put N l2 (n_cut l3 r_23) u_22) fun _ u_26 => some (0, u_26)) else (if l1 = 8 then (bc (F_X2_pop N u) fun r_29 u_28 => bc (F_X2_put N ((cI u 19) + l2) (n_cut l3 r_29) u_28) fun _ u_32 => some (0, u_32)) else (if l1 = 9 then (bc (F_X2_pop N u) fun r_35 u_34 => bc (F_X1_set N l2 l3 r_35 u_34) fun _ u_36 => some (0, u_36)) else (if l1 = 10 then (bc (F_X2_address N l2 l3 l4 u) fun _ u_38 => some (0, u_38)) else (if l1 = 11 then (bc (F_X2_address N ((cI u 19) + l2) l3 l4 u) fun _ u_40 => some (0, u_40)) else (if l1 = 12 then (bc (F_X2_pop N u) fun r_43 u_42 => bc (F_X2_numberAt N r_43.toInt32 u_42) fun r_45 u_44 => bc (F_X2_push N r_45 u_44) fun _ u_46 => some (0, u_46)) else (if l1 = 13 then (bc (F_X2_numberAt N ((cI u 18) - 1) u) fun r_49 u_48 => bc (F_X2_numberAt N r_49.toInt32 u_48) fun r_51 u_50 => bc (F_X2_push N r_51 u_50) fun _ u_52 => some (0, u_52)) else (if l1 = 14 then (bc (F_X2_numberAt N ((cI u 18) - 2) u) fun r_55 u_54 => bc (F_X2_numberAt N r_55.toInt32 u_54) fun r_57 u_56 => bc (F_X2_push N r_57 u_56) fun _ u_58 => some (0, u_58)) else (if l1 = 15 then (bc (F_X2_assign N l3 u) fun _ u_60 => some (0, u_60)) else (if l1 = 16 then (bc (F_X2_pop N u) fun r_63 u_62 => some (0, u_62)) else (some (0, u)))))))))))))))))
set_option maxHeartbeats 4000000 in
theorem b_X2_move_0 {r : Int32} (X : CC p s m args c cX2_move 5 (Cond.code yX2_move cX2_move 5 none) RX2 D kA V A) (hE : CEv p l e R s m args below meth c cX2_move D kA Z A Q w) (hF : 3 ≤ R.frames) (hL : 70 ≤ R.locals) {l1 : Int32} {l2 : Int32} {l3 : Int32} {l4 : Int32} {u : CSt}  (h : B_X2_move_0 N l1 l2 l3 l4 u = some (r, w))  (hS : CS D kA Z A s u H locs) (hl : lv_has ls 5 [(0, .ref (Z 234)), (1, .int l1), (2, .int l2), (3, .int l3), (4, .int l4)]) : W p l e R s m args below meth c H locs 0 0 Q (F0 m 0 ls []) := by
  obtain ⟨⟨hx, hb, hml, hown, hts⟩, hK, hEV, hA⟩ := id X
  have hG : ∀ w ∈ GW, w.before args s = true := fun w h => hts w (List.mem_cons_of_mem _ h)
  unfold B_X2_move_0 at h
  refine lv_iload_n hx hb dX2_move_0 rfl (lv_at hl 1 rfl) ?_
  by_cases e_1 : l1 = 1
  · have h := ip e_1 h
    refine lv_tableIn (off := 79) (tgt := 80) hx hb dX2_move_1 (by rw [e_1]; decide) (by rw [e_1]; decide) (by rw [e_1]; rfl) (by decide) ?_
    refine lv_aload_n hx hb dX2_move_80 rfl (lv_at hl 0 rfl) ?_
    refine lv_iload_n hx hb dX2_move_81 rfl (lv_at hl 2 rfl) ?_
    refine lv_i2l (v := l2.toInt64) hx hb dX2_move_82 rfl ?_
    refine lv_bipush (v := 32) hx hb dX2_move_83 (by decide) ?_
    refine lv_lshl (v := l2.toInt64 <<< ((32 : Int32).toInt64 &&& 63)) hx hb dX2_move_85 rfl ?_
    refine lv_iload_n hx hb dX2_move_86 rfl (lv_at hl 3 rfl) ?_
    refine lv_i2l (v := l3.toInt64) hx hb dX2_move_87 rfl ?_
    refine lv_ldc2 (v := 4294967295) hx hb hown (hG _ gw_1515) dX2_move_88 ?_
    refine lv_land hx hb dX2_move_91 ?_
    refine lv_lor hx hb dX2_move_92 ?_
    obtain ⟨r_u_2, u_2, h_u_2, h⟩ := bc_of h
    refine kc_X2_push_RX2 X  hS h_u_2 (Nat.le_trans (Nat.le_of_ble_eq_true rfl) hF) (Nat.le_trans (Nat.le_of_ble_eq_true rfl) hL) hl.1 (Nat.le_of_ble_eq_true rfl) dX2_move_93 (fun H locs hS => ?_)
    refine lv_goto (tgt := 330) hx hb dX2_move_96 (by decide) ?_
    obtain ⟨-, rfl⟩ := so9 h
    exact hE _ _ _ _ hS dX2_move_330
  have h := im e_1 h
  by_cases e_3 : l1 = 2
  · have h := ip e_3 h
    refine lv_tableIn (off := 98) (tgt := 99) hx hb dX2_move_1 (by rw [e_3]; decide) (by rw [e_3]; decide) (by rw [e_3]; rfl) (by decide) ?_
    refine lv_aload_n hx hb dX2_move_99 rfl (lv_at hl 0 rfl) ?_
    refine lv_aload_n hx hb dX2_move_100 rfl (lv_at hl 0 rfl) ?_
    refine cg_X2_143 X hS dX2_move_101 ?_
    refine lv_i2l (v := (cI u 22).toInt64) hx hb dX2_move_104 rfl ?_
    obtain ⟨r_u_4, u_4, h_u_4, h⟩ := bc_of h
    refine kc_X2_push_RX2 X  hS h_u_4 (Nat.le_trans (Nat.le_of_ble_eq_true rfl) hF) (Nat.le_trans (Nat.le_of_ble_eq_true rfl) hL) hl.1 (Nat.le_of_ble_eq_true rfl) dX2_move_105 (fun H locs hS => ?_)
    refine lv_goto (tgt := 330) hx hb dX2_move_108 (by decide) ?_
    obtain ⟨-, rfl⟩ := so9 h
    exact hE _ _ _ _ hS dX2_move_330
  have h := im e_3 h
  by_cases e_5 : l1 = 3
  · have h := ip e_5 h
    refine lv_tableIn (off := 110) (tgt := 111) hx hb dX2_move_1 (by rw [e_5]; decide) (by rw [e_5]; decide) (by rw [e_5]; rfl) (by decide) ?_
    refine lv_aload_n hx hb dX2_move_111 rfl (lv_at hl 0 rfl) ?_
    refine lv_aload_n hx hb dX2_move_112 rfl (lv_at hl 0 rfl) ?_
    refine lv_iload_n hx hb dX2_move_113 rfl (lv_at hl 2 rfl) ?_
    obtain ⟨r_7, u_6, h_u_6, h⟩ := bc_of h
    refine kc_X2_numberAt_RX2 X  hS h_u_6 (Nat.le_trans (Nat.le_of_ble_eq_true rfl) hF) (Nat.le_trans (Nat.le_of_ble_eq_true rfl) hL) hl.1 (Nat.le_of_ble_eq_true rfl) dX2_move_114 (fun H locs hS => ?_)
    obtain ⟨r_u_8, u_8, h_u_8, h⟩ := bc_of h
    refine kc_X2_push_RX2 X  hS h_u_8 (Nat.le_trans (Nat.le_of_ble_eq_true rfl) hF) (Nat.le_trans (Nat.le_of_ble_eq_true rfl) hL) hl.1 (Nat.le_of_ble_eq_true rfl) dX2_move_117 (fun H locs hS => ?_)
    refine lv_goto (tgt := 330) hx hb dX2_move_120 (by decide) ?_
    obtain ⟨-, rfl⟩ := so9 h
    exact hE _ _ _ _ hS dX2_move_330
  have h := im e_5 h
  by_cases e_9 : l1 = 4
  · have h := ip e_9 h
    refine lv_tableIn (off := 122) (tgt := 123) hx hb dX2_move_1 (by rw [e_9]; decide) (by rw [e_9]; decide) (by rw [e_9]; rfl) (by decide) ?_
    refine lv_aload_n hx hb dX2_move_123 rfl (lv_at hl 0 rfl) ?_
    refine lv_aload_n hx hb dX2_move_124 rfl (lv_at hl 0 rfl) ?_
    refine lv_aload_n hx hb dX2_move_125 rfl (lv_at hl 0 rfl) ?_
    refine cg_X2_149 X hS dX2_move_126 ?_
    refine lv_iload_n hx hb dX2_move_129 rfl (lv_at hl 2 rfl) ?_
    refine lv_iadd hx hb dX2_move_130 ?_
    obtain ⟨r_11, u_10, h_u_10, h⟩ := bc_of h
    refine kc_X2_numberAt_RX2 X  hS h_u_10 (Nat.le_trans (Nat.le_of_ble_eq_true rfl) hF) (Nat.le_trans (Nat.le_of_ble_eq_true rfl) hL) hl.1 (Nat.le_of_ble_eq_true rfl) dX2_move_131 (fun H locs hS => ?_)
    obtain ⟨r_u_12, u_12, h_u_12, h⟩ := bc_of h
    refine kc_X2_push_RX2 X  hS h_u_12 (Nat.le_trans (Nat.le_of_ble_eq_true rfl) hF) (Nat.le_trans (Nat.le_of_ble_eq_true rfl) hL) hl.1 (Nat.le_of_ble_eq_true rfl) dX2_move_134 (fun H locs hS => ?_)
    refine lv_goto (tgt := 330) hx hb dX2_move_137 (by decide) ?_
    obtain ⟨-, rfl⟩ := so9 h
    exact hE _ _ _ _ hS dX2_move_330
  have h := im e_9 h
  by_cases e_13 : l1 = 5
  · have h := ip e_13 h
    refine lv_tableIn (off := 139) (tgt := 140) hx hb dX2_move_1 (by rw [e_13]; decide) (by rw [e_13]; decide) (by rw [e_13]; rfl) (by decide) ?_
    refine lv_aload_n hx hb dX2_move_140 rfl (lv_at hl 0 rfl) ?_
    refine lv_aload_n hx hb dX2_move_141 rfl (lv_at hl 0 rfl) ?_
    refine cg_X2_28 X hS dX2_move_142 ?_
    refine lv_iconst (v := 2) hx hb dX2_move_145 (by decide) ?_
    refine lv_iload_n hx hb dX2_move_146 rfl (lv_at hl 2 rfl) ?_
    refine lv_iload_n hx hb dX2_move_147 rfl (lv_at hl 3 rfl) ?_
    obtain ⟨r_15, u_14, h_u_14, h⟩ := bc_of h
    refine kc_X1_get_RX2 X  hS h_u_14 (Nat.le_trans (Nat.le_of_ble_eq_true rfl) hF) (Nat.le_trans (Nat.le_of_ble_eq_true rfl) hL) hl.1 (Nat.le_of_ble_eq_true rfl) dX2_move_148 (fun H locs hS => ?_)
    obtain ⟨r_u_16, u_16, h_u_16, h⟩ := bc_of h
    refine kc_X2_push_RX2 X  hS h_u_16 (Nat.le_trans (Nat.le_of_ble_eq_true rfl) hF) (Nat.le_trans (Nat.le_of_ble_eq_true rfl) hL) hl.1 (Nat.le_of_ble_eq_true rfl) dX2_move_151 (fun H locs hS => ?_)
    refine lv_goto (tgt := 330) hx hb dX2_move_154 (by decide) ?_
    obtain ⟨-, rfl⟩ := so9 h
    exact hE _ _ _ _ hS dX2_move_330
  have h := im e_13 h
  by_cases e_17 : l1 = 6
  · have h := ip e_17 h
    refine lv_tableIn (off := 156) (tgt := 157) hx hb dX2_move_1 (by rw [e_17]; decide) (by rw [e_17]; decide) (by rw [e_17]; rfl) (by decide) ?_
    refine lv_aload_n hx hb dX2_move_157 rfl (lv_at hl 0 rfl) ?_
    refine lv_aload_n hx hb dX2_move_158 rfl (lv_at hl 0 rfl) ?_
    refine cg_X2_28 X hS dX2_move_159 ?_
    refine lv_iconst (v := 3) hx hb dX2_move_162 (by decide) ?_
    refine lv_iload_n hx hb dX2_move_163 rfl (lv_at hl 2 rfl) ?_
    refine lv_iload_n hx hb dX2_move_164 rfl (lv_at hl 3 rfl) ?_
    obtain ⟨r_19, u_18, h_u_18, h⟩ := bc_of h
    refine kc_X1_get_RX2 X  hS h_u_18 (Nat.le_trans (Nat.le_of_ble_eq_true rfl) hF) (Nat.le_trans (Nat.le_of_ble_eq_true rfl) hL) hl.1 (Nat.le_of_ble_eq_true rfl) dX2_move_165 (fun H locs hS => ?_)
    obtain ⟨r_u_20, u_20, h_u_20, h⟩ := bc_of h
    refine kc_X2_push_RX2 X  hS h_u_20 (Nat.le_trans (Nat.le_of_ble_eq_true rfl) hF) (Nat.le_trans (Nat.le_of_ble_eq_true rfl) hL) hl.1 (Nat.le_of_ble_eq_true rfl) dX2_move_168 (fun H locs hS => ?_)
    refine lv_goto (tgt := 330) hx hb dX2_move_171 (by decide) ?_
    obtain ⟨-, rfl⟩ := so9 h
    exact hE _ _ _ _ hS dX2_move_330
  have h := im e_17 h
  by_cases e_21 : l1 = 7
  · have h := ip e_21 h
    refine lv_tableIn (off := 173) (tgt := 174) hx hb dX2_move_1 (by rw [e_21]; decide) (by rw [e_21]; decide) (by rw [e_21]; rfl) (by decide) ?_
    refine lv_aload_n hx hb dX2_move_174 rfl (lv_at hl 0 rfl) ?_
    refine lv_iload_n hx hb dX2_move_175 rfl (lv_at hl 2 rfl) ?_
    refine lv_iload_n hx hb dX2_move_176 rfl (lv_at hl 3 rfl) ?_
    refine lv_aload_n hx hb dX2_move_177 rfl (lv_at hl 0 rfl) ?_
    obtain ⟨r_23, u_22, h_u_22, h⟩ := bc_of h
    refine kc_X2_pop_RX2 X  hS h_u_22 (Nat.le_trans (Nat.le_of_ble_eq_true rfl) hF) (Nat.le_trans (Nat.le_of_ble_eq_true rfl) hL) hl.1 (Nat.le_of_ble_eq_true rfl) dX2_move_178 (fun H locs hS => ?_)
    refine vp_callSl (W.runS (As := [.int l3, .long r_23]) (rest := [.int l2, .ref (Z 234)]) X.1 (c_X5_cutTo l l3 r_23) (va_cwS 2 hts (gw_P gw_1409 gw_1077 gw_24 gwp_X5_cutTo) rfl rfl rfl (by decide +kernel) ⟨Nat.le_trans (Nat.le_of_ble_eq_true rfl) hF, Nat.le_trans (Nat.le_of_ble_eq_true rfl) hL⟩) ⟨fun _ _ _ _ q => q, fun _ _ _ => ⟨rfl, trivial⟩⟩ rfl rfl hl.1 rfl (lv_room (Nat.le_of_ble_eq_true rfl)) dX2_move_181 ⟨Nat.zero_le _, Nat.zero_le _⟩) (fun r_24 q_25 => ?_)
    subst q_25
    obtain ⟨r_u_26, u_26, h_u_26, h⟩ := bc_of h
    refine kc_X2_put_RX2 X  hS h_u_26 (Nat.le_trans (Nat.le_of_ble_eq_true rfl) hF) (Nat.le_trans (Nat.le_of_ble_eq_true rfl) hL) hl.1 (Nat.le_of_ble_eq_true rfl) dX2_move_184 (fun H locs hS => ?_)
    refine lv_goto (tgt := 330) hx hb dX2_move_187 (by decide) ?_
    obtain ⟨-, rfl⟩ := so9 h
    exact hE _ _ _ _ hS dX2_move_330
  have h := im e_21 h
  by_cases e_27 : l1 = 8
  · have h := ip e_27 h
    refine lv_tableIn (off := 189) (tgt := 190) hx hb dX2_move_1 (by rw [e_27]; decide) (by rw [e_27]; decide) (by rw [e_27]; rfl) (by decide) ?_
    refine lv_aload_n hx hb dX2_move_190 rfl (lv_at hl 0 rfl) ?_
    refine lv_aload_n hx hb dX2_move_191 rfl (lv_at hl 0 rfl) ?_
    refine cg_X2_149 X hS dX2_move_192 ?_
    refine lv_iload_n hx hb dX2_move_195 rfl (lv_at hl 2 rfl) ?_
    refine lv_iadd hx hb dX2_move_196 ?_
    refine lv_iload_n hx hb dX2_move_197 rfl (lv_at hl 3 rfl) ?_
    refine lv_aload_n hx hb dX2_move_198 rfl (lv_at hl 0 rfl) ?_
    obtain ⟨r_29, u_28, h_u_28, h⟩ := bc_of h
    refine kc_X2_pop_RX2 X  hS h_u_28 (Nat.le_trans (Nat.le_of_ble_eq_true rfl) hF) (Nat.le_trans (Nat.le_of_ble_eq_true rfl) hL) hl.1 (Nat.le_of_ble_eq_true rfl) dX2_move_199 (fun H locs hS => ?_)
    refine vp_callSl (W.runS (As := [.int l3, .long r_29]) (rest := [.int ((cI u 19) + l2), .ref (Z 234)]) X.1 (c_X5_cutTo l l3 r_29) (va_cwS 2 hts (gw_P gw_1409 gw_1077 gw_24 gwp_X5_cutTo) rfl rfl rfl (by decide +kernel) ⟨Nat.le_trans (Nat.le_of_ble_eq_true rfl) hF, Nat.le_trans (Nat.le_of_ble_eq_true rfl) hL⟩) ⟨fun _ _ _ _ q => q, fun _ _ _ => ⟨rfl, trivial⟩⟩ rfl rfl hl.1 rfl (lv_room (Nat.le_of_ble_eq_true rfl)) dX2_move_202 ⟨Nat.zero_le _, Nat.zero_le _⟩) (fun r_30 q_31 => ?_)
    subst q_31
    obtain ⟨r_u_32, u_32, h_u_32, h⟩ := bc_of h
    refine kc_X2_put_RX2 X  hS h_u_32 (Nat.le_trans (Nat.le_of_ble_eq_true rfl) hF) (Nat.le_trans (Nat.le_of_ble_eq_true rfl) hL) hl.1 (Nat.le_of_ble_eq_true rfl) dX2_move_205 (fun H locs hS => ?_)
    refine lv_goto (tgt := 330) hx hb dX2_move_208 (by decide) ?_
    obtain ⟨-, rfl⟩ := so9 h
    exact hE _ _ _ _ hS dX2_move_330
  have h := im e_27 h
  by_cases e_33 : l1 = 9
  · have h := ip e_33 h
    refine lv_tableIn (off := 210) (tgt := 211) hx hb dX2_move_1 (by rw [e_33]; decide) (by rw [e_33]; decide) (by rw [e_33]; rfl) (by decide) ?_
    refine lv_aload_n hx hb dX2_move_211 rfl (lv_at hl 0 rfl) ?_
    refine cg_X2_28 X hS dX2_move_212 ?_
    refine lv_iload_n hx hb dX2_move_215 rfl (lv_at hl 2 rfl) ?_
    refine lv_iload_n hx hb dX2_move_216 rfl (lv_at hl 3 rfl) ?_
    refine lv_aload_n hx hb dX2_move_217 rfl (lv_at hl 0 rfl) ?_
    obtain ⟨r_35, u_34, h_u_34, h⟩ := bc_of h
    refine kc_X2_pop_RX2 X  hS h_u_34 (Nat.le_trans (Nat.le_of_ble_eq_true rfl) hF) (Nat.le_trans (Nat.le_of_ble_eq_true rfl) hL) hl.1 (Nat.le_of_ble_eq_true rfl) dX2_move_218 (fun H locs hS => ?_)
    obtain ⟨r_u_36, u_36, h_u_36, h⟩ := bc_of h
    refine kc_X1_set_RX2 X  hS h_u_36 (Nat.le_trans (Nat.le_of_ble_eq_true rfl) hF) (Nat.le_trans (Nat.le_of_ble_eq_true rfl) hL) hl.1 (Nat.le_of_ble_eq_true rfl) dX2_move_221 (fun H locs hS => ?_)
    refine lv_goto (tgt := 330) hx hb dX2_move_224 (by decide) ?_
    obtain ⟨-, rfl⟩ := so9 h
    exact hE _ _ _ _ hS dX2_move_330
  have h := im e_33 h
  by_cases e_37 : l1 = 10
  · have h := ip e_37 h
    refine lv_tableIn (off := 226) (tgt := 227) hx hb dX2_move_1 (by rw [e_37]; decide) (by rw [e_37]; decide) (by rw [e_37]; rfl) (by decide) ?_
    refine lv_aload_n hx hb dX2_move_227 rfl (lv_at hl 0 rfl) ?_
    refine lv_iload_n hx hb dX2_move_228 rfl (lv_at hl 2 rfl) ?_
    refine lv_iload_n hx hb dX2_move_229 rfl (lv_at hl 3 rfl) ?_
    refine lv_iload hx hb dX2_move_230 (lv_at hl 4 rfl) ?_
    obtain ⟨r_u_38, u_38, h_u_38, h⟩ := bc_of h
    refine kc_X2_address_RX2 X  hS h_u_38 (Nat.le_trans (Nat.le_of_ble_eq_true rfl) hF) (Nat.le_trans (Nat.le_of_ble_eq_true rfl) hL) hl.1 (Nat.le_of_ble_eq_true rfl) dX2_move_232 (fun H locs hS => ?_)
    refine lv_goto (tgt := 330) hx hb dX2_move_235 (by decide) ?_
    obtain ⟨-, rfl⟩ := so9 h
    exact hE _ _ _ _ hS dX2_move_330
  have h := im e_37 h
  by_cases e_39 : l1 = 11
  · have h := ip e_39 h
    refine lv_tableIn (off := 237) (tgt := 238) hx hb dX2_move_1 (by rw [e_39]; decide) (by rw [e_39]; decide) (by rw [e_39]; rfl) (by decide) ?_
    refine lv_aload_n hx hb dX2_move_238 rfl (lv_at hl 0 rfl) ?_
    refine lv_aload_n hx hb dX2_move_239 rfl (lv_at hl 0 rfl) ?_
    refine cg_X2_149 X hS dX2_move_240 ?_
    refine lv_iload_n hx hb dX2_move_243 rfl (lv_at hl 2 rfl) ?_
    refine lv_iadd hx hb dX2_move_244 ?_
    refine lv_iload_n hx hb dX2_move_245 rfl (lv_at hl 3 rfl) ?_
    refine lv_iload hx hb dX2_move_246 (lv_at hl 4 rfl) ?_
    obtain ⟨r_u_40, u_40, h_u_40, h⟩ := bc_of h
    refine kc_X2_address_RX2 X  hS h_u_40 (Nat.le_trans (Nat.le_of_ble_eq_true rfl) hF) (Nat.le_trans (Nat.le_of_ble_eq_true rfl) hL) hl.1 (Nat.le_of_ble_eq_true rfl) dX2_move_248 (fun H locs hS => ?_)
    refine lv_goto (tgt := 330) hx hb dX2_move_251 (by decide) ?_
    obtain ⟨-, rfl⟩ := so9 h
    exact hE _ _ _ _ hS dX2_move_330
  have h := im e_39 h
  by_cases e_41 : l1 = 12
  · have h := ip e_41 h
    refine lv_tableIn (off := 253) (tgt := 254) hx hb dX2_move_1 (by rw [e_41]; decide) (by rw [e_41]; decide) (by rw [e_41]; rfl) (by decide) ?_
    refine lv_aload_n hx hb dX2_move_254 rfl (lv_at hl 0 rfl) ?_
    refine lv_aload_n hx hb dX2_move_255 rfl (lv_at hl 0 rfl) ?_
    refine lv_aload_n hx hb dX2_move_256 rfl (lv_at hl 0 rfl) ?_
    obtain ⟨r_43, u_42, h_u_42, h⟩ := bc_of h
    refine kc_X2_pop_RX2 X  hS h_u_42 (Nat.le_trans (Nat.le_of_ble_eq_true rfl) hF) (Nat.le_trans (Nat.le_of_ble_eq_true rfl) hL) hl.1 (Nat.le_of_ble_eq_true rfl) dX2_move_257 (fun H locs hS => ?_)
    refine lv_l2i (v := r_43.toInt32) hx hb dX2_move_260 rfl ?_
    obtain ⟨r_45, u_44, h_u_44, h⟩ := bc_of h
    refine kc_X2_numberAt_RX2 X  hS h_u_44 (Nat.le_trans (Nat.le_of_ble_eq_true rfl) hF) (Nat.le_trans (Nat.le_of_ble_eq_true rfl) hL) hl.1 (Nat.le_of_ble_eq_true rfl) dX2_move_261 (fun H locs hS => ?_)
    obtain ⟨r_u_46, u_46, h_u_46, h⟩ := bc_of h
    refine kc_X2_push_RX2 X  hS h_u_46 (Nat.le_trans (Nat.le_of_ble_eq_true rfl) hF) (Nat.le_trans (Nat.le_of_ble_eq_true rfl) hL) hl.1 (Nat.le_of_ble_eq_true rfl) dX2_move_264 (fun H locs hS => ?_)
    refine lv_goto (tgt := 330) hx hb dX2_move_267 (by decide) ?_
    obtain ⟨-, rfl⟩ := so9 h
    exact hE _ _ _ _ hS dX2_move_330
  have h := im e_41 h
  by_cases e_47 : l1 = 13
  · have h := ip e_47 h
    refine lv_tableIn (off := 269) (tgt := 270) hx hb dX2_move_1 (by rw [e_47]; decide) (by rw [e_47]; decide) (by rw [e_47]; rfl) (by decide) ?_
    refine lv_aload_n hx hb dX2_move_270 rfl (lv_at hl 0 rfl) ?_
    refine lv_aload_n hx hb dX2_move_271 rfl (lv_at hl 0 rfl) ?_
    refine lv_aload_n hx hb dX2_move_272 rfl (lv_at hl 0 rfl) ?_
    refine lv_aload_n hx hb dX2_move_273 rfl (lv_at hl 0 rfl) ?_
    refine cg_X2_146 X hS dX2_move_274 ?_
    refine lv_iconst (v := 1) hx hb dX2_move_277 (by decide) ?_
    refine lv_isub hx hb dX2_move_278 ?_
    obtain ⟨r_49, u_48, h_u_48, h⟩ := bc_of h
    refine kc_X2_numberAt_RX2 X  hS h_u_48 (Nat.le_trans (Nat.le_of_ble_eq_true rfl) hF) (Nat.le_trans (Nat.le_of_ble_eq_true rfl) hL) hl.1 (Nat.le_of_ble_eq_true rfl) dX2_move_279 (fun H locs hS => ?_)
    refine lv_l2i (v := r_49.toInt32) hx hb dX2_move_282 rfl ?_
    obtain ⟨r_51, u_50, h_u_50, h⟩ := bc_of h
    refine kc_X2_numberAt_RX2 X  hS h_u_50 (Nat.le_trans (Nat.le_of_ble_eq_true rfl) hF) (Nat.le_trans (Nat.le_of_ble_eq_true rfl) hL) hl.1 (Nat.le_of_ble_eq_true rfl) dX2_move_283 (fun H locs hS => ?_)
    obtain ⟨r_u_52, u_52, h_u_52, h⟩ := bc_of h
    refine kc_X2_push_RX2 X  hS h_u_52 (Nat.le_trans (Nat.le_of_ble_eq_true rfl) hF) (Nat.le_trans (Nat.le_of_ble_eq_true rfl) hL) hl.1 (Nat.le_of_ble_eq_true rfl) dX2_move_286 (fun H locs hS => ?_)
    refine lv_goto (tgt := 330) hx hb dX2_move_289 (by decide) ?_
    obtain ⟨-, rfl⟩ := so9 h
    exact hE _ _ _ _ hS dX2_move_330
  have h := im e_47 h
  by_cases e_53 : l1 = 14
  · have h := ip e_53 h
    refine lv_tableIn (off := 291) (tgt := 292) hx hb dX2_move_1 (by rw [e_53]; decide) (by rw [e_53]; decide) (by rw [e_53]; rfl) (by decide) ?_
    refine lv_aload_n hx hb dX2_move_292 rfl (lv_at hl 0 rfl) ?_
    refine lv_aload_n hx hb dX2_move_293 rfl (lv_at hl 0 rfl) ?_
    refine lv_aload_n hx hb dX2_move_294 rfl (lv_at hl 0 rfl) ?_
    refine lv_aload_n hx hb dX2_move_295 rfl (lv_at hl 0 rfl) ?_
    refine cg_X2_146 X hS dX2_move_296 ?_
    refine lv_iconst (v := 2) hx hb dX2_move_299 (by decide) ?_
    refine lv_isub hx hb dX2_move_300 ?_
    obtain ⟨r_55, u_54, h_u_54, h⟩ := bc_of h
    refine kc_X2_numberAt_RX2 X  hS h_u_54 (Nat.le_trans (Nat.le_of_ble_eq_true rfl) hF) (Nat.le_trans (Nat.le_of_ble_eq_true rfl) hL) hl.1 (Nat.le_of_ble_eq_true rfl) dX2_move_301 (fun H locs hS => ?_)
    refine lv_l2i (v := r_55.toInt32) hx hb dX2_move_304 rfl ?_
    obtain ⟨r_57, u_56, h_u_56, h⟩ := bc_of h
    refine kc_X2_numberAt_RX2 X  hS h_u_56 (Nat.le_trans (Nat.le_of_ble_eq_true rfl) hF) (Nat.le_trans (Nat.le_of_ble_eq_true rfl) hL) hl.1 (Nat.le_of_ble_eq_true rfl) dX2_move_305 (fun H locs hS => ?_)
    obtain ⟨r_u_58, u_58, h_u_58, h⟩ := bc_of h
    refine kc_X2_push_RX2 X  hS h_u_58 (Nat.le_trans (Nat.le_of_ble_eq_true rfl) hF) (Nat.le_trans (Nat.le_of_ble_eq_true rfl) hL) hl.1 (Nat.le_of_ble_eq_true rfl) dX2_move_308 (fun H locs hS => ?_)
    refine lv_goto (tgt := 330) hx hb dX2_move_311 (by decide) ?_
    obtain ⟨-, rfl⟩ := so9 h
    exact hE _ _ _ _ hS dX2_move_330
  have h := im e_53 h
  by_cases e_59 : l1 = 15
  · have h := ip e_59 h
    refine lv_tableIn (off := 313) (tgt := 314) hx hb dX2_move_1 (by rw [e_59]; decide) (by rw [e_59]; decide) (by rw [e_59]; rfl) (by decide) ?_
    refine lv_aload_n hx hb dX2_move_314 rfl (lv_at hl 0 rfl) ?_
    refine lv_iload_n hx hb dX2_move_315 rfl (lv_at hl 3 rfl) ?_
    obtain ⟨r_u_60, u_60, h_u_60, h⟩ := bc_of h
    refine kc_X2_assign_RX2 X  hS h_u_60 (Nat.le_trans (Nat.le_of_ble_eq_true rfl) hF) (Nat.le_trans (Nat.le_of_ble_eq_true rfl) hL) hl.1 (Nat.le_of_ble_eq_true rfl) dX2_move_316 (fun H locs hS => ?_)
    refine lv_goto (tgt := 330) hx hb dX2_move_319 (by decide) ?_
    obtain ⟨-, rfl⟩ := so9 h
    exact hE _ _ _ _ hS dX2_move_330
  have h := im e_59 h
  by_cases e_61 : l1 = 16
  · have h := ip e_61 h
    refine lv_tableIn (off := 321) (tgt := 322) hx hb dX2_move_1 (by rw [e_61]; decide) (by rw [e_61]; decide) (by rw [e_61]; rfl) (by decide) ?_
    refine lv_aload_n hx hb dX2_move_322 rfl (lv_at hl 0 rfl) ?_
    obtain ⟨r_63, u_62, h_u_62, h⟩ := bc_of h
    refine kc_X2_pop_RX2 X  hS h_u_62 (Nat.le_trans (Nat.le_of_ble_eq_true rfl) hF) (Nat.le_trans (Nat.le_of_ble_eq_true rfl) hL) hl.1 (Nat.le_of_ble_eq_true rfl) dX2_move_323 (fun H locs hS => ?_)
    refine lv_pop2_2 hx hb dX2_move_326 rfl ?_
    refine lv_goto (tgt := 330) hx hb dX2_move_327 (by decide) ?_
    obtain ⟨-, rfl⟩ := so9 h
    exact hE _ _ _ _ hS dX2_move_330
  have h := im e_61 h
  refine lv_tableDef (tgt := 330) hx hb dX2_move_1 (by decide) (fun off h1 h2 ho => by
    have hI : (l1).toInt = 1 ∨ (l1).toInt = 2 ∨ (l1).toInt = 3 ∨ (l1).toInt = 4 ∨ (l1).toInt = 5 ∨ (l1).toInt = 6 ∨ (l1).toInt = 7 ∨ (l1).toInt = 8 ∨ (l1).toInt = 9 ∨ (l1).toInt = 10 ∨ (l1).toInt = 11 ∨ (l1).toInt = 12 ∨ (l1).toInt = 13 ∨ (l1).toInt = 14 ∨ (l1).toInt = 15 ∨ (l1).toInt = 16 := by omega
    rcases hI with q | q | q | q | q | q | q | q | q | q | q | q | q | q | q | q
    · exact absurd (Int32.toInt_inj.mp (q.trans (by decide))) e_1
    · exact absurd (Int32.toInt_inj.mp (q.trans (by decide))) e_3
    · exact absurd (Int32.toInt_inj.mp (q.trans (by decide))) e_5
    · exact absurd (Int32.toInt_inj.mp (q.trans (by decide))) e_9
    · exact absurd (Int32.toInt_inj.mp (q.trans (by decide))) e_13
    · exact absurd (Int32.toInt_inj.mp (q.trans (by decide))) e_17
    · exact absurd (Int32.toInt_inj.mp (q.trans (by decide))) e_21
    · exact absurd (Int32.toInt_inj.mp (q.trans (by decide))) e_27
    · exact absurd (Int32.toInt_inj.mp (q.trans (by decide))) e_33
    · exact absurd (Int32.toInt_inj.mp (q.trans (by decide))) e_37
    · exact absurd (Int32.toInt_inj.mp (q.trans (by decide))) e_39
    · exact absurd (Int32.toInt_inj.mp (q.trans (by decide))) e_41
    · exact absurd (Int32.toInt_inj.mp (q.trans (by decide))) e_47
    · exact absurd (Int32.toInt_inj.mp (q.trans (by decide))) e_53
    · exact absurd (Int32.toInt_inj.mp (q.trans (by decide))) e_59
    · exact absurd (Int32.toInt_inj.mp (q.trans (by decide))) e_61) (by decide) ?_
  obtain ⟨-, rfl⟩ := so9 h
  exact hE _ _ _ _ hS dX2_move_330
def F_X2_move (N : Nat) (l1 : Int32) (l2 : Int32) (l3 : Int32) (l4 : Int32) (u : CSt) : Option (Int32 × CSt) := B_X2_move_0 N l1 l2 l3 l4 u
set_option maxHeartbeats 4000000 in
theorem k_X2_move (l : Launch) (D : va_G) (kA : Nat → ClassId) (V Z : Nat → Nat) (N : Nat) (l1 : Int32) (l2 : Int32) (l3 : Int32) (l4 : Int32) (u : CSt) (sz : Nat) {r : Int32} {w : CSt} (h : F_X2_move N l1 l2 l3 l4 u = some (r, w)) : Met l yX2_move (Cond.code yX2_move cX2_move 5 none :: GW) { frames := 3, cells := 0, slots := 0, locals := 70 } (cPc D kA V Z [.ref (Z 234), .int l1, .int l2, .int l3, .int l4] u sz) (cQv D kA Z u sz w) 0 0 (va_A (CW kA Z u) sz) := by
  refine Met.ofW (cc := cX2_move) (maxL := 5) (ret := none) (by decide) rfl ?_
  intro p e s m args below meth c s₁ Bd hml hv
  obtain ⟨rfl, hsz, hP, hK, hD0, hE⟩ := hv
  have hts := atoms_spec (ws := Cond.code yX2_move cX2_move 5 none :: GW) Bd.pre
  have hl := lv_entry ([.ref (Z 234), .int l1, .int l2, .int l3, .int l4]) (n := 5) (Nat.le_of_ble_eq_true rfl)
  rw [lg_entry_eq]
  generalize (lg_sl ([.ref (Z 234), .int l1, .int l2, .int l3, .int l4]) ++ List.replicate (5 - (lg_sl ([.ref (Z 234), .int l1, .int l2, .int l3, .int l4])).length) Slot.unset).toArray = ls at hl ⊢
  have hl : lv_has ls 5 [(0, .ref (Z 234)), (1, .int l1), (2, .int l2), (3, .int l3), (4, .int l4)] := hl
  subst hsz
  have X : CC p s m ([.ref (Z 234), .int l1, .int l2, .int l3, .int l4]).toArray c cX2_move 5 (Cond.code yX2_move cX2_move 5 none) RX2 D kA V (va_A (CW kA Z u) s.heap.size) := ⟨⟨Bd.exec, Bd.bytes, hml, findClass_of_methodNamed Bd.named, hts⟩, hK, hE, fun q h => Or.inr h⟩
  refine b_X2_move_0 X (cend_v X Bd.returns Bd.notSynchronized) (Nat.le_refl _) (Nat.le_refl _) h  ⟨hP, hD0.self, va_S.rf⟩ (lv_sub hl [0, 1, 2, 3, 4] rfl)
theorem kc_X2_move_RX2 {cc : ByteArray} {pc nL : Nat} {c0 : Cond} {rest : List Value} {l1 : Int32} {l2 : Int32} {l3 : Int32} {l4 : Int32} {u w1 : CSt} {r : Int32} (X : CC p s m args c cc nL c0 RX2 D kA V A)  (hS : CS D kA Z A s u H locs) (h : F_X2_move N l1 l2 l3 l4 u = some (r, w1)) (hF : 3 + 1 ≤ R.frames) (hL : 8 + (5 + 11) + 70 ≤ R.locals) (hl : ls.size = nL) (hc : (rest.map fun v => v.category).sum ≤ 8) (hdg : decode cc pc = .ok (.invokevirtual 194, 3)) (kk : ∀ H locs, CS D kA Z A s w1 H locs → W p l e R s m args below meth c H locs 0 0 Q (F0 m (pc + 3) ls (rest))) : W p l e R s m args below meth c H locs 0 0 Q (F0 m pc ls (.int l4 :: .int l3 :: .int l2 :: .int l1 :: .ref (Z 234) :: rest)) :=
  ccall_v (n := 4) X hS (k_X2_move l D kA V Z N l1 l2 l3 l4  u H.size h) (gw_V gw_1511 gw_1513 gs_6_9 gw_15 gw_1514) (by decide +kernel) (va_recv X.2.1 hS.1 (ci := 2) (q0 := 34) rfl (cw_lit rfl)) hF hL rfl hl hc rfl hdg kk
def B_X2_reckon_98 (N : Nat) (l5 : Int64) (s1 : Int32) (s2 : Int32) (u : CSt) : Option (Int32 × CSt) := bc (F_X2_pop N u) fun r_2 u_1 => bc (F_X2_push N (n_apply s1 s2 r_2 l5) u_1) fun _ u_5 => some (0, u_5)
set_option maxHeartbeats 4000000 in
theorem b_X2_reckon_98 {r : Int32} (X : CC p s m args c cX2_reckon 7 (Cond.code yX2_reckon cX2_reckon 7 none) RX2 D kA V A) (hE : CEv p l e R s m args below meth c cX2_reckon D kA Z A Q w) (hF : 3 ≤ R.frames) (hL : 75 ≤ R.locals) {l5 : Int64} {s1 : Int32} {s2 : Int32} {u : CSt}  (h : B_X2_reckon_98 N l5 s1 s2 u = some (r, w))  (hS : CS D kA Z A s u H locs) (hl : lv_has ls 7 [(0, .ref (Z 234)), (5, .long l5)]) : W p l e R s m args below meth c H locs 0 0 Q (F0 m 98 ls [.int s2, .int s1, .ref (Z 234)]) := by
  obtain ⟨⟨hx, hb, hml, hown, hts⟩, hK, hEV, hA⟩ := id X
  have hG : ∀ w ∈ GW, w.before args s = true := fun w h => hts w (List.mem_cons_of_mem _ h)
  unfold B_X2_reckon_98 at h
  refine lv_aload_n hx hb dX2_reckon_98 rfl (lv_at hl 0 rfl) ?_
  obtain ⟨r_2, u_1, h_u_1, h⟩ := bc_of h
  refine kc_X2_pop_RX2 X  hS h_u_1 (Nat.le_trans (Nat.le_of_ble_eq_true rfl) hF) (Nat.le_trans (Nat.le_of_ble_eq_true rfl) hL) hl.1 (Nat.le_of_ble_eq_true rfl) dX2_reckon_99 (fun H locs hS => ?_)
  refine lv_lload hx hb dX2_reckon_102 (lv_at hl 1 rfl) ?_
  refine vp_callSl (W.runS (As := [.int s1, .int s2, .long r_2, .long l5]) (rest := [.ref (Z 234)]) X.1 (c_X5_apply l s1 s2 r_2 l5) (va_cwS 4 hts (gw_P gw_1541 gw_1542 gw_24 gwp_X5_apply) rfl rfl rfl (by decide +kernel) ⟨Nat.le_trans (Nat.le_of_ble_eq_true rfl) hF, Nat.le_trans (Nat.le_of_ble_eq_true rfl) hL⟩) ⟨fun _ _ _ _ q => q, fun _ _ _ => ⟨rfl, trivial⟩⟩ rfl rfl hl.1 rfl (lv_room (Nat.le_of_ble_eq_true rfl)) dX2_reckon_104 ⟨Nat.zero_le _, Nat.zero_le _⟩) (fun r_3 q_4 => ?_)
  subst q_4
  obtain ⟨r_u_5, u_5, h_u_5, h⟩ := bc_of h
  refine kc_X2_push_RX2 X  hS h_u_5 (Nat.le_trans (Nat.le_of_ble_eq_true rfl) hF) (Nat.le_trans (Nat.le_of_ble_eq_true rfl) hL) hl.1 (Nat.le_of_ble_eq_true rfl) dX2_reckon_107 (fun H locs hS => ?_)
  refine lv_goto (tgt := 215) hx hb dX2_reckon_110 (by decide) ?_
  obtain ⟨-, rfl⟩ := so9 h
  exact hE _ _ _ _ hS dX2_reckon_215
def B_X2_reckon_124 (N : Nat) (l5 : Int64) (s1 : Int32) (s2 : Int32) (u : CSt) : Option (Int32 × CSt) := bc (F_X2_push N (n_apply s1 s2 l5 0) u) fun _ u_8 => some (0, u_8)
set_option maxHeartbeats 4000000 in
theorem b_X2_reckon_124 {r : Int32} (X : CC p s m args c cX2_reckon 7 (Cond.code yX2_reckon cX2_reckon 7 none) RX2 D kA V A) (hE : CEv p l e R s m args below meth c cX2_reckon D kA Z A Q w) (hF : 3 ≤ R.frames) (hL : 75 ≤ R.locals) {l5 : Int64} {s1 : Int32} {s2 : Int32} {u : CSt}  (h : B_X2_reckon_124 N l5 s1 s2 u = some (r, w))  (hS : CS D kA Z A s u H locs) (hl : lv_has ls 7 [(5, .long l5)]) : W p l e R s m args below meth c H locs 0 0 Q (F0 m 124 ls [.int s2, .int s1, .ref (Z 234)]) := by
  obtain ⟨⟨hx, hb, hml, hown, hts⟩, hK, hEV, hA⟩ := id X
  have hG : ∀ w ∈ GW, w.before args s = true := fun w h => hts w (List.mem_cons_of_mem _ h)
  unfold B_X2_reckon_124 at h
  refine lv_lload hx hb dX2_reckon_124 (lv_at hl 0 rfl) ?_
  refine lv_lconst (v := 0) hx hb dX2_reckon_126 (by decide) ?_
  refine vp_callSl (W.runS (As := [.int s1, .int s2, .long l5, .long 0]) (rest := [.ref (Z 234)]) X.1 (c_X5_apply l s1 s2 l5 0) (va_cwS 4 hts (gw_P gw_1541 gw_1542 gw_24 gwp_X5_apply) rfl rfl rfl (by decide +kernel) ⟨Nat.le_trans (Nat.le_of_ble_eq_true rfl) hF, Nat.le_trans (Nat.le_of_ble_eq_true rfl) hL⟩) ⟨fun _ _ _ _ q => q, fun _ _ _ => ⟨rfl, trivial⟩⟩ rfl rfl hl.1 rfl (lv_room (Nat.le_of_ble_eq_true rfl)) dX2_reckon_127 ⟨Nat.zero_le _, Nat.zero_le _⟩) (fun r_6 q_7 => ?_)
  subst q_7
  obtain ⟨r_u_8, u_8, h_u_8, h⟩ := bc_of h
  refine kc_X2_push_RX2 X  hS h_u_8 (Nat.le_trans (Nat.le_of_ble_eq_true rfl) hF) (Nat.le_trans (Nat.le_of_ble_eq_true rfl) hL) hl.1 (Nat.le_of_ble_eq_true rfl) dX2_reckon_130 (fun H locs hS => ?_)
  refine lv_goto (tgt := 215) hx hb dX2_reckon_133 (by decide) ?_
  obtain ⟨-, rfl⟩ := so9 h
  exact hE _ _ _ _ hS dX2_reckon_215
def B_X2_reckon_162 (N : Nat) (s1 : Int64) (u : CSt) : Option (Int32 × CSt) := bc (F_X2_push N s1 u) fun _ u_9 => some (0, u_9)
set_option maxHeartbeats 4000000 in
theorem b_X2_reckon_162 {r : Int32} (X : CC p s m args c cX2_reckon 7 (Cond.code yX2_reckon cX2_reckon 7 none) RX2 D kA V A) (hE : CEv p l e R s m args below meth c cX2_reckon D kA Z A Q w) (hF : 3 ≤ R.frames) (hL : 75 ≤ R.locals) {s1 : Int64} {u : CSt}  (h : B_X2_reckon_162 N s1 u = some (r, w))  (hS : CS D kA Z A s u H locs) (hl : lv_has ls 7 []) : W p l e R s m args below meth c H locs 0 0 Q (F0 m 162 ls [.long s1, .ref (Z 234)]) := by
  obtain ⟨⟨hx, hb, hml, hown, hts⟩, hK, hEV, hA⟩ := id X
  have hG : ∀ w ∈ GW, w.before args s = true := fun w h => hts w (List.mem_cons_of_mem _ h)
  unfold B_X2_reckon_162 at h
  obtain ⟨r_u_9, u_9, h_u_9, h⟩ := bc_of h
  refine kc_X2_push_RX2 X  hS h_u_9 (Nat.le_trans (Nat.le_of_ble_eq_true rfl) hF) (Nat.le_trans (Nat.le_of_ble_eq_true rfl) hL) hl.1 (Nat.le_of_ble_eq_true rfl) dX2_reckon_162 (fun H locs hS => ?_)
  refine lv_goto (tgt := 215) hx hb dX2_reckon_165 (by decide) ?_
  obtain ⟨-, rfl⟩ := so9 h
  exact hE _ _ _ _ hS dX2_reckon_215
def B_X2_reckon_203 (N : Nat) (l5 : Int64) (s1 : Int32) (s2 : Int32) (u : CSt) : Option (Int32 × CSt) := bc (F_X2_pop N u) fun r_11 u_10 => bc (F_X2_push N (n_combine s1 s2 r_11 l5) u_10) fun _ u_14 => some (0, u_14)
set_option maxHeartbeats 4000000 in
theorem b_X2_reckon_203 {r : Int32} (X : CC p s m args c cX2_reckon 7 (Cond.code yX2_reckon cX2_reckon 7 none) RX2 D kA V A) (hE : CEv p l e R s m args below meth c cX2_reckon D kA Z A Q w) (hF : 3 ≤ R.frames) (hL : 75 ≤ R.locals) {l5 : Int64} {s1 : Int32} {s2 : Int32} {u : CSt}  (h : B_X2_reckon_203 N l5 s1 s2 u = some (r, w))  (hS : CS D kA Z A s u H locs) (hl : lv_has ls 7 [(0, .ref (Z 234)), (5, .long l5)]) : W p l e R s m args below meth c H locs 0 0 Q (F0 m 203 ls [.int s2, .int s1, .ref (Z 234)]) := by
  obtain ⟨⟨hx, hb, hml, hown, hts⟩, hK, hEV, hA⟩ := id X
  have hG : ∀ w ∈ GW, w.before args s = true := fun w h => hts w (List.mem_cons_of_mem _ h)
  unfold B_X2_reckon_203 at h
  refine lv_aload_n hx hb dX2_reckon_203 rfl (lv_at hl 0 rfl) ?_
  obtain ⟨r_11, u_10, h_u_10, h⟩ := bc_of h
  refine kc_X2_pop_RX2 X  hS h_u_10 (Nat.le_trans (Nat.le_of_ble_eq_true rfl) hF) (Nat.le_trans (Nat.le_of_ble_eq_true rfl) hL) hl.1 (Nat.le_of_ble_eq_true rfl) dX2_reckon_204 (fun H locs hS => ?_)
  refine lv_lload hx hb dX2_reckon_207 (lv_at hl 1 rfl) ?_
  refine vp_callSl (W.runS (As := [.int s1, .int s2, .long r_11, .long l5]) (rest := [.ref (Z 234)]) X.1 (c_X5_combine l s1 s2 r_11 l5) (va_cwS 4 hts (gw_P gw_1575 gw_1576 gw_24 gwp_X5_combine) rfl rfl rfl (by decide +kernel) ⟨Nat.le_trans (Nat.le_of_ble_eq_true rfl) hF, Nat.le_trans (Nat.le_of_ble_eq_true rfl) hL⟩) ⟨fun _ _ _ _ q => q, fun _ _ _ => ⟨rfl, trivial⟩⟩ rfl rfl hl.1 rfl (lv_room (Nat.le_of_ble_eq_true rfl)) dX2_reckon_209 ⟨Nat.zero_le _, Nat.zero_le _⟩) (fun r_12 q_13 => ?_)
  subst q_13
  obtain ⟨r_u_14, u_14, h_u_14, h⟩ := bc_of h
  refine kc_X2_push_RX2 X  hS h_u_14 (Nat.le_trans (Nat.le_of_ble_eq_true rfl) hF) (Nat.le_trans (Nat.le_of_ble_eq_true rfl) hL) hl.1 (Nat.le_of_ble_eq_true rfl) dX2_reckon_212 (fun H locs hS => ?_)
  obtain ⟨-, rfl⟩ := so9 h
  exact hE _ _ _ _ hS dX2_reckon_215
def B_X2_reckon_192 (N : Nat) (l2 : Int32) (l3 : Int32) (l5 : Int64) (u : CSt) : Option (Int32 × CSt) := if l3 = (0 : Int32) then (B_X2_reckon_203 N l5 l2 0 u) else (B_X2_reckon_203 N l5 l2 1 u)
set_option maxHeartbeats 4000000 in
theorem b_X2_reckon_192 {r : Int32} (X : CC p s m args c cX2_reckon 7 (Cond.code yX2_reckon cX2_reckon 7 none) RX2 D kA V A) (hE : CEv p l e R s m args below meth c cX2_reckon D kA Z A Q w) (hF : 3 ≤ R.frames) (hL : 75 ≤ R.locals) {l2 : Int32} {l3 : Int32} {l5 : Int64} {u : CSt}  (h : B_X2_reckon_192 N l2 l3 l5 u = some (r, w))  (hS : CS D kA Z A s u H locs) (hl : lv_has ls 7 [(0, .ref (Z 234)), (2, .int l2), (3, .int l3), (5, .long l5)]) : W p l e R s m args below meth c H locs 0 0 Q (F0 m 192 ls []) := by
  obtain ⟨⟨hx, hb, hml, hown, hts⟩, hK, hEV, hA⟩ := id X
  have hG : ∀ w ∈ GW, w.before args s = true := fun w h => hts w (List.mem_cons_of_mem _ h)
  unfold B_X2_reckon_192 at h
  refine lv_aload_n hx hb dX2_reckon_192 rfl (lv_at hl 0 rfl) ?_
  refine lv_iload_n hx hb dX2_reckon_193 rfl (lv_at hl 1 rfl) ?_
  refine lv_iload_n hx hb dX2_reckon_194 rfl (lv_at hl 2 rfl) ?_
  refine lv_if_eq (tgt := 202) hx hb dX2_reckon_195 (by decide) (fun c_15 => ?_) (fun c_15 => ?_)
  · have h := ip (c_15) h
    refine lv_iconst (v := 0) hx hb dX2_reckon_202 (by decide) ?_
    exact b_X2_reckon_203 X hE  hF hL  h  hS (lv_sub hl [0, 3] rfl)
  · have h := im (c_15) h
    refine lv_iconst (v := 1) hx hb dX2_reckon_198 (by decide) ?_
    refine lv_goto (tgt := 203) hx hb dX2_reckon_199 (by decide) ?_
    exact b_X2_reckon_203 X hE  hF hL  h  hS (lv_sub hl [0, 3] rfl)
def B_X2_reckon_0 (N : Nat) (l1 : Int32) (l2 : Int32) (l3 : Int32) (l4 : Int32) (u : CSt) : Option (Int32 × CSt) := bc (F_X2_pop N u) fun r_17 u_16 => if l1 = 20 then (bc (F_X2_push N (((r_17.toUInt64 >>> (l2.toInt64.toUInt64 &&& Int64.toUInt64 63)).toInt64) &&& 1) u_16) fun _ u_19 => some (0, u_19)) else (if l1 = 21 then (bc (F_X2_pop N u_16) fun r_22 u_21 => bc (F_X2_push N ((r_17 &&& (((1 : Int64) <<< (l2.toInt64 &&& 63)) ^^^ (-1))) ||| ((r_22 &&& 1) <<< (l2.toInt64 &&& 63))) u_21) fun _ u_23 => some (0, u_23)) else (if l1 = 23 then (if l3 = (0 : Int32) then (B_X2_reckon_98 N r_17 l2 0 u_16) else (B_X2_reckon_98 N r_17 l2 1 u_16)) else (if l1 = 24 then (if l3 = (0 : Int32) then (B_X2_reckon_124 N r_17 l2 0 u_16) else (B_X2_reckon_124 N r_17 l2 1 u_16)) else (if l1 = 25 then (bc (F_X2_push N (n_cut l2 r_17) u_16) fun _ u_31 => some (0, u_31)) else (if l1 = 26 then (if r_17 = (0 : Int64) then (B_X2_reckon_162 N 0 u_16) else (B_X2_reckon_162 N 1 u_16)) else (if r_17 = (0 : Int64) then (if (n_divides l2) = (0 : Int32) then (B_X2_reckon_192 N l2 l3 r_17 u_16) else (bc (F_X2_stop N 1 l4 u_16) fun _ u_38 => some (0, u_38))) else (B_X2_reckon_192 N l2 l3 r_17 u_16)))))))
set_option maxHeartbeats 4000000 in
theorem b_X2_reckon_0 {r : Int32} (X : CC p s m args c cX2_reckon 7 (Cond.code yX2_reckon cX2_reckon 7 none) RX2 D kA V A) (hE : CEv p l e R s m args below meth c cX2_reckon D kA Z A Q w) (hF : 3 ≤ R.frames) (hL : 75 ≤ R.locals) {l1 : Int32} {l2 : Int32} {l3 : Int32} {l4 : Int32} {u : CSt}  (h : B_X2_reckon_0 N l1 l2 l3 l4 u = some (r, w))  (hS : CS D kA Z A s u H locs) (hl : lv_has ls 7 [(0, .ref (Z 234)), (1, .int l1), (2, .int l2), (3, .int l3), (4, .int l4)]) : W p l e R s m args below meth c H locs 0 0 Q (F0 m 0 ls []) := by
  obtain ⟨⟨hx, hb, hml, hown, hts⟩, hK, hEV, hA⟩ := id X
  have hG : ∀ w ∈ GW, w.before args s = true := fun w h => hts w (List.mem_cons_of_mem _ h)
  unfold B_X2_reckon_0 at h
  refine lv_aload_n hx hb dX2_reckon_0 rfl (lv_at hl 0 rfl) ?_
  obtain ⟨r_17, u_16, h_u_16, h⟩ := bc_of h
  refine kc_X2_pop_RX2 X  hS h_u_16 (Nat.le_trans (Nat.le_of_ble_eq_true rfl) hF) (Nat.le_trans (Nat.le_of_ble_eq_true rfl) hL) hl.1 (Nat.le_of_ble_eq_true rfl) dX2_reckon_1 (fun H locs hS => ?_)
  refine lv_lstore (lv' := [(5, .long r_17), (0, .ref (Z 234)), (1, .int l1), (2, .int l2), (3, .int l3), (4, .int l4)]) hx hb dX2_reckon_4 hl (by decide) rfl (fun ls hl => ?_)
  refine lv_iload_n hx hb dX2_reckon_6 rfl (lv_at hl 2 rfl) ?_
  by_cases e_18 : l1 = 20
  · have h := ip e_18 h
    refine lv_tableIn (off := 41) (tgt := 48) hx hb dX2_reckon_7 (by rw [e_18]; decide) (by rw [e_18]; decide) (by rw [e_18]; rfl) (by decide) ?_
    refine lv_aload_n hx hb dX2_reckon_48 rfl (lv_at hl 1 rfl) ?_
    refine lv_lload hx hb dX2_reckon_49 (lv_at hl 0 rfl) ?_
    refine lv_iload_n hx hb dX2_reckon_51 rfl (lv_at hl 3 rfl) ?_
    refine lv_lushr (v := (r_17.toUInt64 >>> (l2.toInt64.toUInt64 &&& Int64.toUInt64 63)).toInt64) hx hb dX2_reckon_52 rfl ?_
    refine lv_lconst (v := 1) hx hb dX2_reckon_53 (by decide) ?_
    refine lv_land hx hb dX2_reckon_54 ?_
    obtain ⟨r_u_19, u_19, h_u_19, h⟩ := bc_of h
    refine kc_X2_push_RX2 X  hS h_u_19 (Nat.le_trans (Nat.le_of_ble_eq_true rfl) hF) (Nat.le_trans (Nat.le_of_ble_eq_true rfl) hL) hl.1 (Nat.le_of_ble_eq_true rfl) dX2_reckon_55 (fun H locs hS => ?_)
    refine lv_goto (tgt := 215) hx hb dX2_reckon_58 (by decide) ?_
    obtain ⟨-, rfl⟩ := so9 h
    exact hE _ _ _ _ hS dX2_reckon_215
  have h := im e_18 h
  by_cases e_20 : l1 = 21
  · have h := ip e_20 h
    refine lv_tableIn (off := 54) (tgt := 61) hx hb dX2_reckon_7 (by rw [e_20]; decide) (by rw [e_20]; decide) (by rw [e_20]; rfl) (by decide) ?_
    refine lv_aload_n hx hb dX2_reckon_61 rfl (lv_at hl 1 rfl) ?_
    refine lv_lload hx hb dX2_reckon_62 (lv_at hl 0 rfl) ?_
    refine lv_lconst (v := 1) hx hb dX2_reckon_64 (by decide) ?_
    refine lv_iload_n hx hb dX2_reckon_65 rfl (lv_at hl 3 rfl) ?_
    refine lv_lshl (v := (1 : Int64) <<< (l2.toInt64 &&& 63)) hx hb dX2_reckon_66 rfl ?_
    refine lv_ldc2 (v := -1) hx hb hown (hG _ gw_1540) dX2_reckon_67 ?_
    refine lv_lxor hx hb dX2_reckon_70 ?_
    refine lv_land hx hb dX2_reckon_71 ?_
    refine lv_aload_n hx hb dX2_reckon_72 rfl (lv_at hl 1 rfl) ?_
    obtain ⟨r_22, u_21, h_u_21, h⟩ := bc_of h
    refine kc_X2_pop_RX2 X  hS h_u_21 (Nat.le_trans (Nat.le_of_ble_eq_true rfl) hF) (Nat.le_trans (Nat.le_of_ble_eq_true rfl) hL) hl.1 (Nat.le_of_ble_eq_true rfl) dX2_reckon_73 (fun H locs hS => ?_)
    refine lv_lconst (v := 1) hx hb dX2_reckon_76 (by decide) ?_
    refine lv_land hx hb dX2_reckon_77 ?_
    refine lv_iload_n hx hb dX2_reckon_78 rfl (lv_at hl 3 rfl) ?_
    refine lv_lshl (v := (r_22 &&& 1) <<< (l2.toInt64 &&& 63)) hx hb dX2_reckon_79 rfl ?_
    refine lv_lor hx hb dX2_reckon_80 ?_
    obtain ⟨r_u_23, u_23, h_u_23, h⟩ := bc_of h
    refine kc_X2_push_RX2 X  hS h_u_23 (Nat.le_trans (Nat.le_of_ble_eq_true rfl) hF) (Nat.le_trans (Nat.le_of_ble_eq_true rfl) hL) hl.1 (Nat.le_of_ble_eq_true rfl) dX2_reckon_81 (fun H locs hS => ?_)
    refine lv_goto (tgt := 215) hx hb dX2_reckon_84 (by decide) ?_
    obtain ⟨-, rfl⟩ := so9 h
    exact hE _ _ _ _ hS dX2_reckon_215
  have h := im e_20 h
  by_cases e_24 : l1 = 23
  · have h := ip e_24 h
    refine lv_tableIn (off := 80) (tgt := 87) hx hb dX2_reckon_7 (by rw [e_24]; decide) (by rw [e_24]; decide) (by rw [e_24]; rfl) (by decide) ?_
    refine lv_aload_n hx hb dX2_reckon_87 rfl (lv_at hl 1 rfl) ?_
    refine lv_iload_n hx hb dX2_reckon_88 rfl (lv_at hl 3 rfl) ?_
    refine lv_iload_n hx hb dX2_reckon_89 rfl (lv_at hl 4 rfl) ?_
    refine lv_if_eq (tgt := 97) hx hb dX2_reckon_90 (by decide) (fun c_25 => ?_) (fun c_25 => ?_)
    · have h := ip (c_25) h
      refine lv_iconst (v := 0) hx hb dX2_reckon_97 (by decide) ?_
      exact b_X2_reckon_98 X hE  hF hL  h  hS (lv_sub hl [1, 0] rfl)
    · have h := im (c_25) h
      refine lv_iconst (v := 1) hx hb dX2_reckon_93 (by decide) ?_
      refine lv_goto (tgt := 98) hx hb dX2_reckon_94 (by decide) ?_
      exact b_X2_reckon_98 X hE  hF hL  h  hS (lv_sub hl [1, 0] rfl)
  have h := im e_24 h
  by_cases e_26 : l1 = 24
  · have h := ip e_26 h
    refine lv_tableIn (off := 106) (tgt := 113) hx hb dX2_reckon_7 (by rw [e_26]; decide) (by rw [e_26]; decide) (by rw [e_26]; rfl) (by decide) ?_
    refine lv_aload_n hx hb dX2_reckon_113 rfl (lv_at hl 1 rfl) ?_
    refine lv_iload_n hx hb dX2_reckon_114 rfl (lv_at hl 3 rfl) ?_
    refine lv_iload_n hx hb dX2_reckon_115 rfl (lv_at hl 4 rfl) ?_
    refine lv_if_eq (tgt := 123) hx hb dX2_reckon_116 (by decide) (fun c_27 => ?_) (fun c_27 => ?_)
    · have h := ip (c_27) h
      refine lv_iconst (v := 0) hx hb dX2_reckon_123 (by decide) ?_
      exact b_X2_reckon_124 X hE  hF hL  h  hS (lv_sub hl [0] rfl)
    · have h := im (c_27) h
      refine lv_iconst (v := 1) hx hb dX2_reckon_119 (by decide) ?_
      refine lv_goto (tgt := 124) hx hb dX2_reckon_120 (by decide) ?_
      exact b_X2_reckon_124 X hE  hF hL  h  hS (lv_sub hl [0] rfl)
  have h := im e_26 h
  by_cases e_28 : l1 = 25
  · have h := ip e_28 h
    refine lv_tableIn (off := 129) (tgt := 136) hx hb dX2_reckon_7 (by rw [e_28]; decide) (by rw [e_28]; decide) (by rw [e_28]; rfl) (by decide) ?_
    refine lv_aload_n hx hb dX2_reckon_136 rfl (lv_at hl 1 rfl) ?_
    refine lv_iload_n hx hb dX2_reckon_137 rfl (lv_at hl 3 rfl) ?_
    refine lv_lload hx hb dX2_reckon_138 (lv_at hl 0 rfl) ?_
    refine vp_callSl (W.runS (As := [.int l2, .long r_17]) (rest := [.ref (Z 234)]) X.1 (c_X5_cutTo l l2 r_17) (va_cwS 2 hts (gw_P gw_1409 gw_1077 gw_24 gwp_X5_cutTo) rfl rfl rfl (by decide +kernel) ⟨Nat.le_trans (Nat.le_of_ble_eq_true rfl) hF, Nat.le_trans (Nat.le_of_ble_eq_true rfl) hL⟩) ⟨fun _ _ _ _ q => q, fun _ _ _ => ⟨rfl, trivial⟩⟩ rfl rfl hl.1 rfl (lv_room (Nat.le_of_ble_eq_true rfl)) dX2_reckon_140 ⟨Nat.zero_le _, Nat.zero_le _⟩) (fun r_29 q_30 => ?_)
    subst q_30
    obtain ⟨r_u_31, u_31, h_u_31, h⟩ := bc_of h
    refine kc_X2_push_RX2 X  hS h_u_31 (Nat.le_trans (Nat.le_of_ble_eq_true rfl) hF) (Nat.le_trans (Nat.le_of_ble_eq_true rfl) hL) hl.1 (Nat.le_of_ble_eq_true rfl) dX2_reckon_143 (fun H locs hS => ?_)
    refine lv_goto (tgt := 215) hx hb dX2_reckon_146 (by decide) ?_
    obtain ⟨-, rfl⟩ := so9 h
    exact hE _ _ _ _ hS dX2_reckon_215
  have h := im e_28 h
  by_cases e_32 : l1 = 26
  · have h := ip e_32 h
    refine lv_tableIn (off := 142) (tgt := 149) hx hb dX2_reckon_7 (by rw [e_32]; decide) (by rw [e_32]; decide) (by rw [e_32]; rfl) (by decide) ?_
    refine lv_aload_n hx hb dX2_reckon_149 rfl (lv_at hl 1 rfl) ?_
    refine lv_lload hx hb dX2_reckon_150 (lv_at hl 0 rfl) ?_
    refine lv_lconst (v := 0) hx hb dX2_reckon_152 (by decide) ?_
    refine W.lcmp hx hb dX2_reckon_153 ?_
    refine lv_if_ne (tgt := 161) hx hb dX2_reckon_154 (by decide) (fun c_33 => ?_) (fun c_33 => ?_)
    · have h := im (mt (lg_cmp_eq _ _).mpr c_33) h
      refine lv_lconst (v := 1) hx hb dX2_reckon_161 (by decide) ?_
      exact b_X2_reckon_162 X hE  hF hL  h  hS (lv_sub hl [] rfl)
    · have h := ip ((lg_cmp_eq _ _).mp c_33) h
      refine lv_lconst (v := 0) hx hb dX2_reckon_157 (by decide) ?_
      refine lv_goto (tgt := 162) hx hb dX2_reckon_158 (by decide) ?_
      exact b_X2_reckon_162 X hE  hF hL  h  hS (lv_sub hl [] rfl)
  have h := im e_32 h
  refine lv_tableDef (tgt := 168) hx hb dX2_reckon_7 (by decide) (fun off h1 h2 ho => by
    have hI : (l1).toInt = 20 ∨ (l1).toInt = 21 ∨ (l1).toInt = 22 ∨ (l1).toInt = 23 ∨ (l1).toInt = 24 ∨ (l1).toInt = 25 ∨ (l1).toInt = 26 := by omega
    rcases hI with q | q | q | q | q | q | q
    · exact absurd (Int32.toInt_inj.mp (q.trans (by decide))) e_18
    · exact absurd (Int32.toInt_inj.mp (q.trans (by decide))) e_20
    · rw [q] at ho; simpa using ho
    · exact absurd (Int32.toInt_inj.mp (q.trans (by decide))) e_24
    · exact absurd (Int32.toInt_inj.mp (q.trans (by decide))) e_26
    · exact absurd (Int32.toInt_inj.mp (q.trans (by decide))) e_28
    · exact absurd (Int32.toInt_inj.mp (q.trans (by decide))) e_32) (by decide) ?_
  refine lv_lload hx hb dX2_reckon_168 (lv_at hl 0 rfl) ?_
  refine lv_lconst (v := 0) hx hb dX2_reckon_170 (by decide) ?_
  refine W.lcmp hx hb dX2_reckon_171 ?_
  refine lv_if_ne (tgt := 192) hx hb dX2_reckon_172 (by decide) (fun c_34 => ?_) (fun c_34 => ?_)
  · have h := im (mt (lg_cmp_eq _ _).mpr c_34) h
    exact b_X2_reckon_192 X hE  hF hL  h  hS (lv_sub hl [1, 3, 4, 0] rfl)
  · have h := ip ((lg_cmp_eq _ _).mp c_34) h
    refine lv_iload_n hx hb dX2_reckon_175 rfl (lv_at hl 3 rfl) ?_
    refine vp_callSi (W.runS (As := [.int l2]) (rest := []) X.1 (c_X5_divides l l2) (va_cwS 1 hts (gw_P gw_1572 gw_1573 gw_24 gwp_X5_divides) rfl rfl rfl (by decide +kernel) ⟨Nat.le_trans (Nat.le_of_ble_eq_true rfl) hF, Nat.le_trans (Nat.le_of_ble_eq_true rfl) hL⟩) ⟨fun _ _ _ _ q => q, fun _ _ _ => ⟨rfl, trivial⟩⟩ rfl rfl hl.1 rfl (lv_room (Nat.le_of_ble_eq_true rfl)) dX2_reckon_176 ⟨Nat.zero_le _, Nat.zero_le _⟩) (fun r_35 q_36 => ?_)
    subst q_36
    refine lv_if_eq (tgt := 192) hx hb dX2_reckon_179 (by decide) (fun c_37 => ?_) (fun c_37 => ?_)
    · have h := ip (c_37) h
      exact b_X2_reckon_192 X hE  hF hL  h  hS (lv_sub hl [1, 3, 4, 0] rfl)
    · have h := im (c_37) h
      refine lv_aload_n hx hb dX2_reckon_182 rfl (lv_at hl 1 rfl) ?_
      refine lv_iconst (v := 1) hx hb dX2_reckon_183 (by decide) ?_
      refine lv_iload hx hb dX2_reckon_184 (lv_at hl 5 rfl) ?_
      obtain ⟨r_u_38, u_38, h_u_38, h⟩ := bc_of h
      refine kc_X2_stop_RX2 X  hS h_u_38 (Nat.le_trans (Nat.le_of_ble_eq_true rfl) hF) (Nat.le_trans (Nat.le_of_ble_eq_true rfl) hL) hl.1 (Nat.le_of_ble_eq_true rfl) dX2_reckon_186 (fun H locs hS => ?_)
      refine lv_goto (tgt := 215) hx hb dX2_reckon_189 (by decide) ?_
      obtain ⟨-, rfl⟩ := so9 h
      exact hE _ _ _ _ hS dX2_reckon_215
def F_X2_reckon (N : Nat) (l1 : Int32) (l2 : Int32) (l3 : Int32) (l4 : Int32) (u : CSt) : Option (Int32 × CSt) := B_X2_reckon_0 N l1 l2 l3 l4 u
set_option maxHeartbeats 4000000 in
theorem k_X2_reckon (l : Launch) (D : va_G) (kA : Nat → ClassId) (V Z : Nat → Nat) (N : Nat) (l1 : Int32) (l2 : Int32) (l3 : Int32) (l4 : Int32) (u : CSt) (sz : Nat) {r : Int32} {w : CSt} (h : F_X2_reckon N l1 l2 l3 l4 u = some (r, w)) : Met l yX2_reckon (Cond.code yX2_reckon cX2_reckon 7 none :: GW) { frames := 3, cells := 0, slots := 0, locals := 75 } (cPc D kA V Z [.ref (Z 234), .int l1, .int l2, .int l3, .int l4] u sz) (cQv D kA Z u sz w) 0 0 (va_A (CW kA Z u) sz) := by
  refine Met.ofW (cc := cX2_reckon) (maxL := 7) (ret := none) (by decide) rfl ?_
  intro p e s m args below meth c s₁ Bd hml hv
  obtain ⟨rfl, hsz, hP, hK, hD0, hE⟩ := hv
  have hts := atoms_spec (ws := Cond.code yX2_reckon cX2_reckon 7 none :: GW) Bd.pre
  have hl := lv_entry ([.ref (Z 234), .int l1, .int l2, .int l3, .int l4]) (n := 7) (Nat.le_of_ble_eq_true rfl)
  rw [lg_entry_eq]
  generalize (lg_sl ([.ref (Z 234), .int l1, .int l2, .int l3, .int l4]) ++ List.replicate (7 - (lg_sl ([.ref (Z 234), .int l1, .int l2, .int l3, .int l4])).length) Slot.unset).toArray = ls at hl ⊢
  have hl : lv_has ls 7 [(0, .ref (Z 234)), (1, .int l1), (2, .int l2), (3, .int l3), (4, .int l4)] := hl
  subst hsz
  have X : CC p s m ([.ref (Z 234), .int l1, .int l2, .int l3, .int l4]).toArray c cX2_reckon 7 (Cond.code yX2_reckon cX2_reckon 7 none) RX2 D kA V (va_A (CW kA Z u) s.heap.size) := ⟨⟨Bd.exec, Bd.bytes, hml, findClass_of_methodNamed Bd.named, hts⟩, hK, hE, fun q h => Or.inr h⟩
  refine b_X2_reckon_0 X (cend_v X Bd.returns Bd.notSynchronized) (Nat.le_refl _) (Nat.le_refl _) h  ⟨hP, hD0.self, va_S.rf⟩ (lv_sub hl [0, 1, 2, 3, 4] rfl)
theorem kc_X2_reckon_RX2 {cc : ByteArray} {pc nL : Nat} {c0 : Cond} {rest : List Value} {l1 : Int32} {l2 : Int32} {l3 : Int32} {l4 : Int32} {u w1 : CSt} {r : Int32} (X : CC p s m args c cc nL c0 RX2 D kA V A)  (hS : CS D kA Z A s u H locs) (h : F_X2_reckon N l1 l2 l3 l4 u = some (r, w1)) (hF : 3 + 1 ≤ R.frames) (hL : 8 + (7 + 11) + 75 ≤ R.locals) (hl : ls.size = nL) (hc : (rest.map fun v => v.category).sum ≤ 8) (hdg : decode cc pc = .ok (.invokevirtual 198, 3)) (kk : ∀ H locs, CS D kA Z A s w1 H locs → W p l e R s m args below meth c H locs 0 0 Q (F0 m (pc + 3) ls (rest))) : W p l e R s m args below meth c H locs 0 0 Q (F0 m pc ls (.int l4 :: .int l3 :: .int l2 :: .int l1 :: .ref (Z 234) :: rest)) :=
  ccall_v (n := 4) X hS (k_X2_reckon l D kA V Z N l1 l2 l3 l4  u H.size h) (gw_V gw_1536 gw_1538 gs_6_14 gw_15 gw_1539) (by decide +kernel) (va_recv X.2.1 hS.1 (ci := 2) (q0 := 34) rfl (cw_lit rfl)) hF hL rfl hl hc rfl hdg kk
def B_X2_decide_28 (N : Nat) (l2 : Int32) (s1 : Int64) (u : CSt) : Option (Int32 × CSt) := bc (F_X2_push N s1 u) fun _ u_1 => pc (xI u_1 20 l2) fun u_2 => some (0, u_2)
set_option maxHeartbeats 4000000 in
theorem b_X2_decide_28 {r : Int32} (X : CC p s m args c cX2_decide 3 (Cond.code yX2_decide cX2_decide 3 none) RX2 D kA V A) (hE : CEv p l e R s m args below meth c cX2_decide D kA Z A Q w) (hF : 2 ≤ R.frames) (hL : 45 ≤ R.locals) {l2 : Int32} {s1 : Int64} {u : CSt}  (h : B_X2_decide_28 N l2 s1 u = some (r, w))  (hS : CS D kA Z A s u H locs) (hl : lv_has ls 3 [(0, .ref (Z 234)), (2, .int l2)]) : W p l e R s m args below meth c H locs 0 0 Q (F0 m 28 ls [.long s1, .ref (Z 234)]) := by
  obtain ⟨⟨hx, hb, hml, hown, hts⟩, hK, hEV, hA⟩ := id X
  have hG : ∀ w ∈ GW, w.before args s = true := fun w h => hts w (List.mem_cons_of_mem _ h)
  unfold B_X2_decide_28 at h
  obtain ⟨r_u_1, u_1, h_u_1, h⟩ := bc_of h
  refine kc_X2_push_RX2 X  hS h_u_1 (Nat.le_trans (Nat.le_of_ble_eq_true rfl) hF) (Nat.le_trans (Nat.le_of_ble_eq_true rfl) hL) hl.1 (Nat.le_of_ble_eq_true rfl) dX2_decide_28 (fun H locs hS => ?_)
  refine lv_aload_n hx hb dX2_decide_31 rfl (lv_at hl 0 rfl) ?_
  refine lv_iload_n hx hb dX2_decide_32 rfl (lv_at hl 1 rfl) ?_
  obtain ⟨u_2, e_u_2, h⟩ := pc_of h
  refine cp_X2_137 X hS e_u_2 dX2_decide_33 (fun H locs hS => ?_)
  obtain ⟨-, rfl⟩ := so9 h
  exact hE _ _ _ _ hS dX2_decide_36
def B_X2_decide_14 (N : Nat) (l1 : Int32) (l2 : Int32) (s0 : Int32) (u : CSt) : Option (Int32 × CSt) := if s0 = l1 then (if l1 = (0 : Int32) then (B_X2_decide_28 N l2 0 u) else (B_X2_decide_28 N l2 1 u)) else (some (0, u))
set_option maxHeartbeats 4000000 in
theorem b_X2_decide_14 {r : Int32} (X : CC p s m args c cX2_decide 3 (Cond.code yX2_decide cX2_decide 3 none) RX2 D kA V A) (hE : CEv p l e R s m args below meth c cX2_decide D kA Z A Q w) (hF : 2 ≤ R.frames) (hL : 45 ≤ R.locals) {l1 : Int32} {l2 : Int32} {s0 : Int32} {u : CSt}  (h : B_X2_decide_14 N l1 l2 s0 u = some (r, w))  (hS : CS D kA Z A s u H locs) (hl : lv_has ls 3 [(0, .ref (Z 234)), (1, .int l1), (2, .int l2)]) : W p l e R s m args below meth c H locs 0 0 Q (F0 m 14 ls [.int s0]) := by
  obtain ⟨⟨hx, hb, hml, hown, hts⟩, hK, hEV, hA⟩ := id X
  have hG : ∀ w ∈ GW, w.before args s = true := fun w h => hts w (List.mem_cons_of_mem _ h)
  unfold B_X2_decide_14 at h
  refine lv_iload_n hx hb dX2_decide_14 rfl (lv_at hl 1 rfl) ?_
  refine lv_icmp_ne (tgt := 36) hx hb dX2_decide_15 (by decide) (fun c_3 => ?_) (fun c_3 => ?_)
  · have h := im (c_3) h
    obtain ⟨-, rfl⟩ := so9 h
    exact hE _ _ _ _ hS dX2_decide_36
  · have h := ip (c_3) h
    refine lv_aload_n hx hb dX2_decide_18 rfl (lv_at hl 0 rfl) ?_
    refine lv_iload_n hx hb dX2_decide_19 rfl (lv_at hl 1 rfl) ?_
    refine lv_if_eq (tgt := 27) hx hb dX2_decide_20 (by decide) (fun c_4 => ?_) (fun c_4 => ?_)
    · have h := ip (c_4) h
      refine lv_lconst (v := 0) hx hb dX2_decide_27 (by decide) ?_
      exact b_X2_decide_28 X hE  hF hL  h  hS (lv_sub hl [0, 2] rfl)
    · have h := im (c_4) h
      refine lv_lconst (v := 1) hx hb dX2_decide_23 (by decide) ?_
      refine lv_goto (tgt := 28) hx hb dX2_decide_24 (by decide) ?_
      exact b_X2_decide_28 X hE  hF hL  h  hS (lv_sub hl [0, 2] rfl)
def B_X2_decide_0 (N : Nat) (l1 : Int32) (l2 : Int32) (u : CSt) : Option (Int32 × CSt) := bc (F_X2_pop N u) fun r_6 u_5 => if r_6 = (0 : Int64) then (B_X2_decide_14 N l1 l2 0 u_5) else (B_X2_decide_14 N l1 l2 1 u_5)
set_option maxHeartbeats 4000000 in
theorem b_X2_decide_0 {r : Int32} (X : CC p s m args c cX2_decide 3 (Cond.code yX2_decide cX2_decide 3 none) RX2 D kA V A) (hE : CEv p l e R s m args below meth c cX2_decide D kA Z A Q w) (hF : 2 ≤ R.frames) (hL : 45 ≤ R.locals) {l1 : Int32} {l2 : Int32} {u : CSt}  (h : B_X2_decide_0 N l1 l2 u = some (r, w))  (hS : CS D kA Z A s u H locs) (hl : lv_has ls 3 [(0, .ref (Z 234)), (1, .int l1), (2, .int l2)]) : W p l e R s m args below meth c H locs 0 0 Q (F0 m 0 ls []) := by
  obtain ⟨⟨hx, hb, hml, hown, hts⟩, hK, hEV, hA⟩ := id X
  have hG : ∀ w ∈ GW, w.before args s = true := fun w h => hts w (List.mem_cons_of_mem _ h)
  unfold B_X2_decide_0 at h
  refine lv_aload_n hx hb dX2_decide_0 rfl (lv_at hl 0 rfl) ?_
  obtain ⟨r_6, u_5, h_u_5, h⟩ := bc_of h
  refine kc_X2_pop_RX2 X  hS h_u_5 (Nat.le_trans (Nat.le_of_ble_eq_true rfl) hF) (Nat.le_trans (Nat.le_of_ble_eq_true rfl) hL) hl.1 (Nat.le_of_ble_eq_true rfl) dX2_decide_1 (fun H locs hS => ?_)
  refine lv_lconst (v := 0) hx hb dX2_decide_4 (by decide) ?_
  refine W.lcmp hx hb dX2_decide_5 ?_
  refine lv_if_eq (tgt := 13) hx hb dX2_decide_6 (by decide) (fun c_7 => ?_) (fun c_7 => ?_)
  · have h := ip ((lg_cmp_eq _ _).mp c_7) h
    refine lv_iconst (v := 0) hx hb dX2_decide_13 (by decide) ?_
    exact b_X2_decide_14 X hE  hF hL  h  hS (lv_sub hl [0, 1, 2] rfl)
  · have h := im (mt (lg_cmp_eq _ _).mpr c_7) h
    refine lv_iconst (v := 1) hx hb dX2_decide_9 (by decide) ?_
    refine lv_goto (tgt := 14) hx hb dX2_decide_10 (by decide) ?_
    exact b_X2_decide_14 X hE  hF hL  h  hS (lv_sub hl [0, 1, 2] rfl)
def F_X2_decide (N : Nat) (l1 : Int32) (l2 : Int32) (u : CSt) : Option (Int32 × CSt) := B_X2_decide_0 N l1 l2 u
set_option maxHeartbeats 4000000 in
theorem k_X2_decide (l : Launch) (D : va_G) (kA : Nat → ClassId) (V Z : Nat → Nat) (N : Nat) (l1 : Int32) (l2 : Int32) (u : CSt) (sz : Nat) {r : Int32} {w : CSt} (h : F_X2_decide N l1 l2 u = some (r, w)) : Met l yX2_decide (Cond.code yX2_decide cX2_decide 3 none :: GW) { frames := 2, cells := 0, slots := 0, locals := 45 } (cPc D kA V Z [.ref (Z 234), .int l1, .int l2] u sz) (cQv D kA Z u sz w) 0 0 (va_A (CW kA Z u) sz) := by
  refine Met.ofW (cc := cX2_decide) (maxL := 3) (ret := none) (by decide) rfl ?_
  intro p e s m args below meth c s₁ Bd hml hv
  obtain ⟨rfl, hsz, hP, hK, hD0, hE⟩ := hv
  have hts := atoms_spec (ws := Cond.code yX2_decide cX2_decide 3 none :: GW) Bd.pre
  have hl := lv_entry ([.ref (Z 234), .int l1, .int l2]) (n := 3) (Nat.le_of_ble_eq_true rfl)
  rw [lg_entry_eq]
  generalize (lg_sl ([.ref (Z 234), .int l1, .int l2]) ++ List.replicate (3 - (lg_sl ([.ref (Z 234), .int l1, .int l2])).length) Slot.unset).toArray = ls at hl ⊢
  have hl : lv_has ls 3 [(0, .ref (Z 234)), (1, .int l1), (2, .int l2)] := hl
  subst hsz
  have X : CC p s m ([.ref (Z 234), .int l1, .int l2]).toArray c cX2_decide 3 (Cond.code yX2_decide cX2_decide 3 none) RX2 D kA V (va_A (CW kA Z u) s.heap.size) := ⟨⟨Bd.exec, Bd.bytes, hml, findClass_of_methodNamed Bd.named, hts⟩, hK, hE, fun q h => Or.inr h⟩
  refine b_X2_decide_0 X (cend_v X Bd.returns Bd.notSynchronized) (Nat.le_refl _) (Nat.le_refl _) h  ⟨hP, hD0.self, va_S.rf⟩ (lv_sub hl [0, 1, 2] rfl)
theorem kc_X2_decide_RX2 {cc : ByteArray} {pc nL : Nat} {c0 : Cond} {rest : List Value} {l1 : Int32} {l2 : Int32} {u w1 : CSt} {r : Int32} (X : CC p s m args c cc nL c0 RX2 D kA V A)  (hS : CS D kA Z A s u H locs) (h : F_X2_decide N l1 l2 u = some (r, w1)) (hF : 2 + 1 ≤ R.frames) (hL : 8 + (3 + 11) + 45 ≤ R.locals) (hl : ls.size = nL) (hc : (rest.map fun v => v.category).sum ≤ 8) (hdg : decode cc pc = .ok (.invokevirtual 238, 3)) (kk : ∀ H locs, CS D kA Z A s w1 H locs → W p l e R s m args below meth c H locs 0 0 Q (F0 m (pc + 3) ls (rest))) : W p l e R s m args below meth c H locs 0 0 Q (F0 m pc ls (.int l2 :: .int l1 :: .ref (Z 234) :: rest)) :=
  ccall_v (n := 2) X hS (k_X2_decide l D kA V Z N l1 l2  u H.size h) (gw_V gw_1588 gw_1590 gs_7_0 gw_15 gw_1591) (by decide +kernel) (va_recv X.2.1 hS.1 (ci := 2) (q0 := 34) rfl (cw_lit rfl)) hF hL rfl hl hc rfl hdg kk
def B_X2_turn_66 (N : Nat) (s1 : Int32) (u : CSt) : Option (Int32 × CSt) := pc (xI u 20 s1) fun u_1 => some (0, u_1)
set_option maxHeartbeats 4000000 in
theorem b_X2_turn_66 {r : Int32} (X : CC p s m args c cX2_turn 4 (Cond.code yX2_turn cX2_turn 4 none) RX2 D kA V A) (hE : CEv p l e R s m args below meth c cX2_turn D kA Z A Q w) (hF : 3 ≤ R.frames) (hL : 67 ≤ R.locals) {s1 : Int32} {u : CSt}  (h : B_X2_turn_66 N s1 u = some (r, w))  (hS : CS D kA Z A s u H locs) (hl : lv_has ls 4 []) : W p l e R s m args below meth c H locs 0 0 Q (F0 m 66 ls [.int s1, .ref (Z 234)]) := by
  obtain ⟨⟨hx, hb, hml, hown, hts⟩, hK, hEV, hA⟩ := id X
  have hG : ∀ w ∈ GW, w.before args s = true := fun w h => hts w (List.mem_cons_of_mem _ h)
  unfold B_X2_turn_66 at h
  obtain ⟨u_1, e_u_1, h⟩ := pc_of h
  refine cp_X2_137 X hS e_u_1 dX2_turn_66 (fun H locs hS => ?_)
  refine lv_goto (tgt := 192) hx hb dX2_turn_69 (by decide) ?_
  obtain ⟨-, rfl⟩ := so9 h
  exact hE _ _ _ _ hS dX2_turn_192
def B_X2_turn_117 (N : Nat) (s1 : Int32) (u : CSt) : Option (Int32 × CSt) := pc (xI u 20 s1) fun u_2 => some (0, u_2)
set_option maxHeartbeats 4000000 in
theorem b_X2_turn_117 {r : Int32} (X : CC p s m args c cX2_turn 4 (Cond.code yX2_turn cX2_turn 4 none) RX2 D kA V A) (hE : CEv p l e R s m args below meth c cX2_turn D kA Z A Q w) (hF : 3 ≤ R.frames) (hL : 67 ≤ R.locals) {s1 : Int32} {u : CSt}  (h : B_X2_turn_117 N s1 u = some (r, w))  (hS : CS D kA Z A s u H locs) (hl : lv_has ls 4 []) : W p l e R s m args below meth c H locs 0 0 Q (F0 m 117 ls [.int s1, .ref (Z 234)]) := by
  obtain ⟨⟨hx, hb, hml, hown, hts⟩, hK, hEV, hA⟩ := id X
  have hG : ∀ w ∈ GW, w.before args s = true := fun w h => hts w (List.mem_cons_of_mem _ h)
  unfold B_X2_turn_117 at h
  obtain ⟨u_2, e_u_2, h⟩ := pc_of h
  refine cp_X2_137 X hS e_u_2 dX2_turn_117 (fun H locs hS => ?_)
  refine lv_goto (tgt := 192) hx hb dX2_turn_120 (by decide) ?_
  obtain ⟨-, rfl⟩ := so9 h
  exact hE _ _ _ _ hS dX2_turn_192
def B_X2_turn_150 (N : Nat) (s1 : Int32) (u : CSt) : Option (Int32 × CSt) := pc (xI u 20 s1) fun u_3 => some (0, u_3)
set_option maxHeartbeats 4000000 in
theorem b_X2_turn_150 {r : Int32} (X : CC p s m args c cX2_turn 4 (Cond.code yX2_turn cX2_turn 4 none) RX2 D kA V A) (hE : CEv p l e R s m args below meth c cX2_turn D kA Z A Q w) (hF : 3 ≤ R.frames) (hL : 67 ≤ R.locals) {s1 : Int32} {u : CSt}  (h : B_X2_turn_150 N s1 u = some (r, w))  (hS : CS D kA Z A s u H locs) (hl : lv_has ls 4 []) : W p l e R s m args below meth c H locs 0 0 Q (F0 m 150 ls [.int s1, .ref (Z 234)]) := by
  obtain ⟨⟨hx, hb, hml, hown, hts⟩, hK, hEV, hA⟩ := id X
  have hG : ∀ w ∈ GW, w.before args s = true := fun w h => hts w (List.mem_cons_of_mem _ h)
  unfold B_X2_turn_150 at h
  obtain ⟨u_3, e_u_3, h⟩ := pc_of h
  refine cp_X2_137 X hS e_u_3 dX2_turn_150 (fun H locs hS => ?_)
  refine lv_goto (tgt := 192) hx hb dX2_turn_153 (by decide) ?_
  obtain ⟨-, rfl⟩ := so9 h
  exact hE _ _ _ _ hS dX2_turn_192
def B_X2_turn_0 (N : Nat) (l1 : Int32) (l2 : Int32) (l3 : Int32) (u : CSt) : Option (Int32 × CSt) := if l1 = 30 then (pc (xI u 20 l2) fun u_5 => some (0, u_5)) else (if l1 = 31 then (bc (F_X2_pop N u) fun r_8 u_7 => if r_8 = (0 : Int64) then (B_X2_turn_66 N l2 u_7) else (B_X2_turn_66 N (cI u_7 20) u_7)) else (if l1 = 32 then (bc (F_X2_decide N 0 l2 u) fun _ u_11 => some (0, u_11)) else (if l1 = 33 then (bc (F_X2_decide N 1 l2 u) fun _ u_13 => some (0, u_13)) else (if l1 = 34 then (bc (F_X2_pop N u) fun r_16 u_15 => bc (F_X2_numberAt N ((cI u_15 18) - 1) u_15) fun r_18 u_17 => if r_16 ≤ r_18 then (B_X2_turn_117 N (cI u_17 20) u_17) else (B_X2_turn_117 N l2 u_17)) else (if l1 = 35 then (bc (F_X2_pop N u) fun r_22 u_21 => bc (F_X2_numberAt N ((cI u_21 18) - 1) u_21) fun r_24 u_23 => if r_22 = r_24 then (B_X2_turn_150 N l2 u_23) else (B_X2_turn_150 N (cI u_23 20) u_23)) else (ok (cR u 4 < 2) inferInstance <| bc (F_X2_numberAt N ((cI u 18) - 1) u) fun r_28 u_27 => bc (F_X6_liesIn N (cR u 4) r_28 l2 l3 u_27) fun r_30 u_29 => if r_30 = (0 : Int32) then (pc (xI u_29 20 ((cI u 20) + 0)) fun u_32 => some (0, u_32)) else (pc (xI u_29 20 ((cI u 20) + 1)) fun u_33 => some (0, u_33))))))))
set_option maxHeartbeats 4000000 in
theorem b_X2_turn_0 {r : Int32} (X : CC p s m args c cX2_turn 4 (Cond.code yX2_turn cX2_turn 4 none) RX2 D kA V A) (hE : CEv p l e R s m args below meth c cX2_turn D kA Z A Q w) (hF : 3 ≤ R.frames) (hL : 67 ≤ R.locals) {l1 : Int32} {l2 : Int32} {l3 : Int32} {u : CSt}  (h : B_X2_turn_0 N l1 l2 l3 u = some (r, w))  (hS : CS D kA Z A s u H locs) (hl : lv_has ls 4 [(0, .ref (Z 234)), (1, .int l1), (2, .int l2), (3, .int l3)]) : W p l e R s m args below meth c H locs 0 0 Q (F0 m 0 ls []) := by
  obtain ⟨⟨hx, hb, hml, hown, hts⟩, hK, hEV, hA⟩ := id X
  have hG : ∀ w ∈ GW, w.before args s = true := fun w h => hts w (List.mem_cons_of_mem _ h)
  unfold B_X2_turn_0 at h
  refine lv_iload_n hx hb dX2_turn_0 rfl (lv_at hl 1 rfl) ?_
  by_cases e_4 : l1 = 30
  · have h := ip e_4 h
    refine lv_tableIn (off := 39) (tgt := 40) hx hb dX2_turn_1 (by rw [e_4]; decide) (by rw [e_4]; decide) (by rw [e_4]; rfl) (by decide) ?_
    refine lv_aload_n hx hb dX2_turn_40 rfl (lv_at hl 0 rfl) ?_
    refine lv_iload_n hx hb dX2_turn_41 rfl (lv_at hl 2 rfl) ?_
    obtain ⟨u_5, e_u_5, h⟩ := pc_of h
    refine cp_X2_137 X hS e_u_5 dX2_turn_42 (fun H locs hS => ?_)
    refine lv_goto (tgt := 192) hx hb dX2_turn_45 (by decide) ?_
    obtain ⟨-, rfl⟩ := so9 h
    exact hE _ _ _ _ hS dX2_turn_192
  have h := im e_4 h
  by_cases e_6 : l1 = 31
  · have h := ip e_6 h
    refine lv_tableIn (off := 47) (tgt := 48) hx hb dX2_turn_1 (by rw [e_6]; decide) (by rw [e_6]; decide) (by rw [e_6]; rfl) (by decide) ?_
    refine lv_aload_n hx hb dX2_turn_48 rfl (lv_at hl 0 rfl) ?_
    refine lv_aload_n hx hb dX2_turn_49 rfl (lv_at hl 0 rfl) ?_
    obtain ⟨r_8, u_7, h_u_7, h⟩ := bc_of h
    refine kc_X2_pop_RX2 X  hS h_u_7 (Nat.le_trans (Nat.le_of_ble_eq_true rfl) hF) (Nat.le_trans (Nat.le_of_ble_eq_true rfl) hL) hl.1 (Nat.le_of_ble_eq_true rfl) dX2_turn_50 (fun H locs hS => ?_)
    refine lv_lconst (v := 0) hx hb dX2_turn_53 (by decide) ?_
    refine W.lcmp hx hb dX2_turn_54 ?_
    refine lv_if_ne (tgt := 62) hx hb dX2_turn_55 (by decide) (fun c_9 => ?_) (fun c_9 => ?_)
    · have h := im (mt (lg_cmp_eq _ _).mpr c_9) h
      refine lv_aload_n hx hb dX2_turn_62 rfl (lv_at hl 0 rfl) ?_
      refine cg_X2_137 X hS dX2_turn_63 ?_
      exact b_X2_turn_66 X hE  hF hL  h  hS (lv_sub hl [] rfl)
    · have h := ip ((lg_cmp_eq _ _).mp c_9) h
      refine lv_iload_n hx hb dX2_turn_58 rfl (lv_at hl 2 rfl) ?_
      refine lv_goto (tgt := 66) hx hb dX2_turn_59 (by decide) ?_
      exact b_X2_turn_66 X hE  hF hL  h  hS (lv_sub hl [] rfl)
  have h := im e_6 h
  by_cases e_10 : l1 = 32
  · have h := ip e_10 h
    refine lv_tableIn (off := 71) (tgt := 72) hx hb dX2_turn_1 (by rw [e_10]; decide) (by rw [e_10]; decide) (by rw [e_10]; rfl) (by decide) ?_
    refine lv_aload_n hx hb dX2_turn_72 rfl (lv_at hl 0 rfl) ?_
    refine lv_iconst (v := 0) hx hb dX2_turn_73 (by decide) ?_
    refine lv_iload_n hx hb dX2_turn_74 rfl (lv_at hl 2 rfl) ?_
    obtain ⟨r_u_11, u_11, h_u_11, h⟩ := bc_of h
    refine kc_X2_decide_RX2 X  hS h_u_11 (Nat.le_trans (Nat.le_of_ble_eq_true rfl) hF) (Nat.le_trans (Nat.le_of_ble_eq_true rfl) hL) hl.1 (Nat.le_of_ble_eq_true rfl) dX2_turn_75 (fun H locs hS => ?_)
    refine lv_goto (tgt := 192) hx hb dX2_turn_78 (by decide) ?_
    obtain ⟨-, rfl⟩ := so9 h
    exact hE _ _ _ _ hS dX2_turn_192
  have h := im e_10 h
  by_cases e_12 : l1 = 33
  · have h := ip e_12 h
    refine lv_tableIn (off := 80) (tgt := 81) hx hb dX2_turn_1 (by rw [e_12]; decide) (by rw [e_12]; decide) (by rw [e_12]; rfl) (by decide) ?_
    refine lv_aload_n hx hb dX2_turn_81 rfl (lv_at hl 0 rfl) ?_
    refine lv_iconst (v := 1) hx hb dX2_turn_82 (by decide) ?_
    refine lv_iload_n hx hb dX2_turn_83 rfl (lv_at hl 2 rfl) ?_
    obtain ⟨r_u_13, u_13, h_u_13, h⟩ := bc_of h
    refine kc_X2_decide_RX2 X  hS h_u_13 (Nat.le_trans (Nat.le_of_ble_eq_true rfl) hF) (Nat.le_trans (Nat.le_of_ble_eq_true rfl) hL) hl.1 (Nat.le_of_ble_eq_true rfl) dX2_turn_84 (fun H locs hS => ?_)
    refine lv_goto (tgt := 192) hx hb dX2_turn_87 (by decide) ?_
    obtain ⟨-, rfl⟩ := so9 h
    exact hE _ _ _ _ hS dX2_turn_192
  have h := im e_12 h
  by_cases e_14 : l1 = 34
  · have h := ip e_14 h
    refine lv_tableIn (off := 89) (tgt := 90) hx hb dX2_turn_1 (by rw [e_14]; decide) (by rw [e_14]; decide) (by rw [e_14]; rfl) (by decide) ?_
    refine lv_aload_n hx hb dX2_turn_90 rfl (lv_at hl 0 rfl) ?_
    refine lv_aload_n hx hb dX2_turn_91 rfl (lv_at hl 0 rfl) ?_
    obtain ⟨r_16, u_15, h_u_15, h⟩ := bc_of h
    refine kc_X2_pop_RX2 X  hS h_u_15 (Nat.le_trans (Nat.le_of_ble_eq_true rfl) hF) (Nat.le_trans (Nat.le_of_ble_eq_true rfl) hL) hl.1 (Nat.le_of_ble_eq_true rfl) dX2_turn_92 (fun H locs hS => ?_)
    refine lv_aload_n hx hb dX2_turn_95 rfl (lv_at hl 0 rfl) ?_
    refine lv_aload_n hx hb dX2_turn_96 rfl (lv_at hl 0 rfl) ?_
    refine cg_X2_146 X hS dX2_turn_97 ?_
    refine lv_iconst (v := 1) hx hb dX2_turn_100 (by decide) ?_
    refine lv_isub hx hb dX2_turn_101 ?_
    obtain ⟨r_18, u_17, h_u_17, h⟩ := bc_of h
    refine kc_X2_numberAt_RX2 X  hS h_u_17 (Nat.le_trans (Nat.le_of_ble_eq_true rfl) hF) (Nat.le_trans (Nat.le_of_ble_eq_true rfl) hL) hl.1 (Nat.le_of_ble_eq_true rfl) dX2_turn_102 (fun H locs hS => ?_)
    refine W.lcmp hx hb dX2_turn_105 ?_
    refine lv_if_le (tgt := 113) hx hb dX2_turn_106 (by decide) (fun c_19 => ?_) (fun c_19 => ?_)
    · have h := ip ((lg_cmp_le _ _).mp c_19) h
      refine lv_aload_n hx hb dX2_turn_113 rfl (lv_at hl 0 rfl) ?_
      refine cg_X2_137 X hS dX2_turn_114 ?_
      exact b_X2_turn_117 X hE  hF hL  h  hS (lv_sub hl [] rfl)
    · have h := im (mt (lg_cmp_le _ _).mpr c_19) h
      refine lv_iload_n hx hb dX2_turn_109 rfl (lv_at hl 2 rfl) ?_
      refine lv_goto (tgt := 117) hx hb dX2_turn_110 (by decide) ?_
      exact b_X2_turn_117 X hE  hF hL  h  hS (lv_sub hl [] rfl)
  have h := im e_14 h
  by_cases e_20 : l1 = 35
  · have h := ip e_20 h
    refine lv_tableIn (off := 122) (tgt := 123) hx hb dX2_turn_1 (by rw [e_20]; decide) (by rw [e_20]; decide) (by rw [e_20]; rfl) (by decide) ?_
    refine lv_aload_n hx hb dX2_turn_123 rfl (lv_at hl 0 rfl) ?_
    refine lv_aload_n hx hb dX2_turn_124 rfl (lv_at hl 0 rfl) ?_
    obtain ⟨r_22, u_21, h_u_21, h⟩ := bc_of h
    refine kc_X2_pop_RX2 X  hS h_u_21 (Nat.le_trans (Nat.le_of_ble_eq_true rfl) hF) (Nat.le_trans (Nat.le_of_ble_eq_true rfl) hL) hl.1 (Nat.le_of_ble_eq_true rfl) dX2_turn_125 (fun H locs hS => ?_)
    refine lv_aload_n hx hb dX2_turn_128 rfl (lv_at hl 0 rfl) ?_
    refine lv_aload_n hx hb dX2_turn_129 rfl (lv_at hl 0 rfl) ?_
    refine cg_X2_146 X hS dX2_turn_130 ?_
    refine lv_iconst (v := 1) hx hb dX2_turn_133 (by decide) ?_
    refine lv_isub hx hb dX2_turn_134 ?_
    obtain ⟨r_24, u_23, h_u_23, h⟩ := bc_of h
    refine kc_X2_numberAt_RX2 X  hS h_u_23 (Nat.le_trans (Nat.le_of_ble_eq_true rfl) hF) (Nat.le_trans (Nat.le_of_ble_eq_true rfl) hL) hl.1 (Nat.le_of_ble_eq_true rfl) dX2_turn_135 (fun H locs hS => ?_)
    refine W.lcmp hx hb dX2_turn_138 ?_
    refine lv_if_ne (tgt := 146) hx hb dX2_turn_139 (by decide) (fun c_25 => ?_) (fun c_25 => ?_)
    · have h := im (mt (lg_cmp_eq _ _).mpr c_25) h
      refine lv_aload_n hx hb dX2_turn_146 rfl (lv_at hl 0 rfl) ?_
      refine cg_X2_137 X hS dX2_turn_147 ?_
      exact b_X2_turn_150 X hE  hF hL  h  hS (lv_sub hl [] rfl)
    · have h := ip ((lg_cmp_eq _ _).mp c_25) h
      refine lv_iload_n hx hb dX2_turn_142 rfl (lv_at hl 2 rfl) ?_
      refine lv_goto (tgt := 150) hx hb dX2_turn_143 (by decide) ?_
      exact b_X2_turn_150 X hE  hF hL  h  hS (lv_sub hl [] rfl)
  have h := im e_20 h
  refine lv_tableDef (tgt := 156) hx hb dX2_turn_1 (by decide) (fun off h1 h2 ho => by
    have hI : (l1).toInt = 30 ∨ (l1).toInt = 31 ∨ (l1).toInt = 32 ∨ (l1).toInt = 33 ∨ (l1).toInt = 34 ∨ (l1).toInt = 35 := by omega
    rcases hI with q | q | q | q | q | q
    · exact absurd (Int32.toInt_inj.mp (q.trans (by decide))) e_4
    · exact absurd (Int32.toInt_inj.mp (q.trans (by decide))) e_6
    · exact absurd (Int32.toInt_inj.mp (q.trans (by decide))) e_10
    · exact absurd (Int32.toInt_inj.mp (q.trans (by decide))) e_12
    · exact absurd (Int32.toInt_inj.mp (q.trans (by decide))) e_14
    · exact absurd (Int32.toInt_inj.mp (q.trans (by decide))) e_20) (by decide) ?_
  refine lv_aload_n hx hb dX2_turn_156 rfl (lv_at hl 0 rfl) ?_
  refine lv_dup hx hb dX2_turn_157 rfl ?_
  refine cg_X2_137 X hS dX2_turn_158 ?_
  refine lv_aload_n hx hb dX2_turn_161 rfl (lv_at hl 0 rfl) ?_
  refine cg_X2_32 X hS dX2_turn_162 ?_
  obtain ⟨z_26, h⟩ := ok_of h
  refine lv_aload_n hx hb dX2_turn_165 rfl (lv_at hl 0 rfl) ?_
  refine lv_aload_n hx hb dX2_turn_166 rfl (lv_at hl 0 rfl) ?_
  refine cg_X2_146 X hS dX2_turn_167 ?_
  refine lv_iconst (v := 1) hx hb dX2_turn_170 (by decide) ?_
  refine lv_isub hx hb dX2_turn_171 ?_
  obtain ⟨r_28, u_27, h_u_27, h⟩ := bc_of h
  refine kc_X2_numberAt_RX2 X  hS h_u_27 (Nat.le_trans (Nat.le_of_ble_eq_true rfl) hF) (Nat.le_trans (Nat.le_of_ble_eq_true rfl) hL) hl.1 (Nat.le_of_ble_eq_true rfl) dX2_turn_172 (fun H locs hS => ?_)
  refine lv_iload_n hx hb dX2_turn_175 rfl (lv_at hl 2 rfl) ?_
  refine lv_iload_n hx hb dX2_turn_176 rfl (lv_at hl 3 rfl) ?_
  obtain ⟨r_30, u_29, h_u_29, h⟩ := bc_of h
  refine kc_X6_liesIn_RX2 X z_26 hS h_u_29 (Nat.le_trans (Nat.le_of_ble_eq_true rfl) hF) (Nat.le_trans (Nat.le_of_ble_eq_true rfl) hL) hl.1 (Nat.le_of_ble_eq_true rfl) dX2_turn_177 (fun H locs hS => ?_)
  refine lv_if_eq (tgt := 187) hx hb dX2_turn_180 (by decide) (fun c_31 => ?_) (fun c_31 => ?_)
  · have h := ip (c_31) h
    refine lv_iconst (v := 0) hx hb dX2_turn_187 (by decide) ?_
    refine lv_iadd hx hb dX2_turn_188 ?_
    obtain ⟨u_32, e_u_32, h⟩ := pc_of h
    refine cp_X2_137 X hS e_u_32 dX2_turn_189 (fun H locs hS => ?_)
    obtain ⟨-, rfl⟩ := so9 h
    exact hE _ _ _ _ hS dX2_turn_192
  · have h := im (c_31) h
    refine lv_iconst (v := 1) hx hb dX2_turn_183 (by decide) ?_
    refine lv_goto (tgt := 188) hx hb dX2_turn_184 (by decide) ?_
    refine lv_iadd hx hb dX2_turn_188 ?_
    obtain ⟨u_33, e_u_33, h⟩ := pc_of h
    refine cp_X2_137 X hS e_u_33 dX2_turn_189 (fun H locs hS => ?_)
    obtain ⟨-, rfl⟩ := so9 h
    exact hE _ _ _ _ hS dX2_turn_192
def F_X2_turn (N : Nat) (l1 : Int32) (l2 : Int32) (l3 : Int32) (u : CSt) : Option (Int32 × CSt) := B_X2_turn_0 N l1 l2 l3 u
set_option maxHeartbeats 4000000 in
theorem k_X2_turn (l : Launch) (D : va_G) (kA : Nat → ClassId) (V Z : Nat → Nat) (N : Nat) (l1 : Int32) (l2 : Int32) (l3 : Int32) (u : CSt) (sz : Nat) {r : Int32} {w : CSt} (h : F_X2_turn N l1 l2 l3 u = some (r, w)) : Met l yX2_turn (Cond.code yX2_turn cX2_turn 4 none :: GW) { frames := 3, cells := 0, slots := 0, locals := 67 } (cPc D kA V Z [.ref (Z 234), .int l1, .int l2, .int l3] u sz) (cQv D kA Z u sz w) 0 0 (va_A (CW kA Z u) sz) := by
  refine Met.ofW (cc := cX2_turn) (maxL := 4) (ret := none) (by decide) rfl ?_
  intro p e s m args below meth c s₁ Bd hml hv
  obtain ⟨rfl, hsz, hP, hK, hD0, hE⟩ := hv
  have hts := atoms_spec (ws := Cond.code yX2_turn cX2_turn 4 none :: GW) Bd.pre
  have hl := lv_entry ([.ref (Z 234), .int l1, .int l2, .int l3]) (n := 4) (Nat.le_of_ble_eq_true rfl)
  rw [lg_entry_eq]
  generalize (lg_sl ([.ref (Z 234), .int l1, .int l2, .int l3]) ++ List.replicate (4 - (lg_sl ([.ref (Z 234), .int l1, .int l2, .int l3])).length) Slot.unset).toArray = ls at hl ⊢
  have hl : lv_has ls 4 [(0, .ref (Z 234)), (1, .int l1), (2, .int l2), (3, .int l3)] := hl
  subst hsz
  have X : CC p s m ([.ref (Z 234), .int l1, .int l2, .int l3]).toArray c cX2_turn 4 (Cond.code yX2_turn cX2_turn 4 none) RX2 D kA V (va_A (CW kA Z u) s.heap.size) := ⟨⟨Bd.exec, Bd.bytes, hml, findClass_of_methodNamed Bd.named, hts⟩, hK, hE, fun q h => Or.inr h⟩
  refine b_X2_turn_0 X (cend_v X Bd.returns Bd.notSynchronized) (Nat.le_refl _) (Nat.le_refl _) h  ⟨hP, hD0.self, va_S.rf⟩ (lv_sub hl [0, 1, 2, 3] rfl)
theorem kc_X2_turn_RX2 {cc : ByteArray} {pc nL : Nat} {c0 : Cond} {rest : List Value} {l1 : Int32} {l2 : Int32} {l3 : Int32} {u w1 : CSt} {r : Int32} (X : CC p s m args c cc nL c0 RX2 D kA V A)  (hS : CS D kA Z A s u H locs) (h : F_X2_turn N l1 l2 l3 u = some (r, w1)) (hF : 3 + 1 ≤ R.frames) (hL : 8 + (4 + 11) + 67 ≤ R.locals) (hl : ls.size = nL) (hc : (rest.map fun v => v.category).sum ≤ 8) (hdg : decode cc pc = .ok (.invokevirtual 201, 3)) (kk : ∀ H locs, CS D kA Z A s w1 H locs → W p l e R s m args below meth c H locs 0 0 Q (F0 m (pc + 3) ls (rest))) : W p l e R s m args below meth c H locs 0 0 Q (F0 m pc ls (.int l3 :: .int l2 :: .int l1 :: .ref (Z 234) :: rest)) :=
  ccall_v (n := 3) X hS (k_X2_turn l D kA V Z N l1 l2 l3  u H.size h) (gw_V gw_1584 gw_1586 gs_6_15 gw_15 gw_1587) (by decide +kernel) (va_recv X.2.1 hS.1 (ci := 2) (q0 := 34) rfl (cw_lit rfl)) hF hL rfl hl hc rfl hdg kk
def B_X2_remember_0 (N : Nat) (l1 : Int32) (u : CSt) : Option (Int32 × CSt) := wc 8 (cI u 21) (xA u 237 (cI u 21).toNatClampNeg (cI u 20)) fun u_2 => wc 8 (cI u_2 21) (xA u_2 238 (cI u_2 21).toNatClampNeg (cI u_2 19)) fun u_4 => wc 8 (cI u_4 21) (xA u_4 239 (cI u_4 21).toNatClampNeg l1) fun u_6 => pc (xI u_6 21 ((cI u_6 21) + 1)) fun u_7 => some (0, u_7)
set_option maxHeartbeats 4000000 in
theorem b_X2_remember_0 {r : Int32} (X : CC p s m args c cX2_remember 2 (Cond.code yX2_remember cX2_remember 2 none) RX2 D kA V A) (hE : CEv p l e R s m args below meth c cX2_remember D kA Z A Q w) (hF : 0 ≤ R.frames) (hL : 0 ≤ R.locals) {l1 : Int32} {u : CSt}  (h : B_X2_remember_0 N l1 u = some (r, w))  (hS : CS D kA Z A s u H locs) (hl : lv_has ls 2 [(0, .ref (Z 234)), (1, .int l1)]) : W p l e R s m args below meth c H locs 0 0 Q (F0 m 0 ls []) := by
  obtain ⟨⟨hx, hb, hml, hown, hts⟩, hK, hEV, hA⟩ := id X
  have hG : ∀ w ∈ GW, w.before args s = true := fun w h => hts w (List.mem_cons_of_mem _ h)
  unfold B_X2_remember_0 at h
  refine lv_aload_n hx hb dX2_remember_0 rfl (lv_at hl 0 rfl) ?_
  refine cg_X2_18 X hS dX2_remember_1 ?_
  refine lv_aload_n hx hb dX2_remember_4 rfl (lv_at hl 0 rfl) ?_
  refine cg_X2_152 X hS dX2_remember_5 ?_
  refine lv_aload_n hx hb dX2_remember_8 rfl (lv_at hl 0 rfl) ?_
  refine cg_X2_137 X hS dX2_remember_9 ?_
  obtain ⟨u_2, e_u_2, i_1, h⟩ := wc_of h
  refine cs_s237 X hS i_1 e_u_2 dX2_remember_12 (fun H locs hS => ?_)
  refine lv_aload_n hx hb dX2_remember_13 rfl (lv_at hl 0 rfl) ?_
  refine cg_X2_22 X hS dX2_remember_14 ?_
  refine lv_aload_n hx hb dX2_remember_17 rfl (lv_at hl 0 rfl) ?_
  refine cg_X2_152 X hS dX2_remember_18 ?_
  refine lv_aload_n hx hb dX2_remember_21 rfl (lv_at hl 0 rfl) ?_
  refine cg_X2_149 X hS dX2_remember_22 ?_
  obtain ⟨u_4, e_u_4, i_3, h⟩ := wc_of h
  refine cs_s238 X hS i_3 e_u_4 dX2_remember_25 (fun H locs hS => ?_)
  refine lv_aload_n hx hb dX2_remember_26 rfl (lv_at hl 0 rfl) ?_
  refine cg_X2_25 X hS dX2_remember_27 ?_
  refine lv_aload_n hx hb dX2_remember_30 rfl (lv_at hl 0 rfl) ?_
  refine cg_X2_152 X hS dX2_remember_31 ?_
  refine lv_iload_n hx hb dX2_remember_34 rfl (lv_at hl 1 rfl) ?_
  obtain ⟨u_6, e_u_6, i_5, h⟩ := wc_of h
  refine cs_s239 X hS i_5 e_u_6 dX2_remember_35 (fun H locs hS => ?_)
  refine lv_aload_n hx hb dX2_remember_36 rfl (lv_at hl 0 rfl) ?_
  refine lv_dup hx hb dX2_remember_37 rfl ?_
  refine cg_X2_152 X hS dX2_remember_38 ?_
  refine lv_iconst (v := 1) hx hb dX2_remember_41 (by decide) ?_
  refine lv_iadd hx hb dX2_remember_42 ?_
  obtain ⟨u_7, e_u_7, h⟩ := pc_of h
  refine cp_X2_152 X hS e_u_7 dX2_remember_43 (fun H locs hS => ?_)
  obtain ⟨-, rfl⟩ := so9 h
  exact hE _ _ _ _ hS dX2_remember_46
def F_X2_remember (N : Nat) (l1 : Int32) (u : CSt) : Option (Int32 × CSt) := B_X2_remember_0 N l1 u
set_option maxHeartbeats 4000000 in
theorem k_X2_remember (l : Launch) (D : va_G) (kA : Nat → ClassId) (V Z : Nat → Nat) (N : Nat) (l1 : Int32) (u : CSt) (sz : Nat) {r : Int32} {w : CSt} (h : F_X2_remember N l1 u = some (r, w)) : Met l yX2_remember (Cond.code yX2_remember cX2_remember 2 none :: GW) { frames := 0, cells := 0, slots := 0, locals := 0 } (cPc D kA V Z [.ref (Z 234), .int l1] u sz) (cQv D kA Z u sz w) 0 0 (va_A (CW kA Z u) sz) := by
  refine Met.ofW (cc := cX2_remember) (maxL := 2) (ret := none) (by decide) rfl ?_
  intro p e s m args below meth c s₁ Bd hml hv
  obtain ⟨rfl, hsz, hP, hK, hD0, hE⟩ := hv
  have hts := atoms_spec (ws := Cond.code yX2_remember cX2_remember 2 none :: GW) Bd.pre
  have hl := lv_entry ([.ref (Z 234), .int l1]) (n := 2) (Nat.le_of_ble_eq_true rfl)
  rw [lg_entry_eq]
  generalize (lg_sl ([.ref (Z 234), .int l1]) ++ List.replicate (2 - (lg_sl ([.ref (Z 234), .int l1])).length) Slot.unset).toArray = ls at hl ⊢
  have hl : lv_has ls 2 [(0, .ref (Z 234)), (1, .int l1)] := hl
  subst hsz
  have X : CC p s m ([.ref (Z 234), .int l1]).toArray c cX2_remember 2 (Cond.code yX2_remember cX2_remember 2 none) RX2 D kA V (va_A (CW kA Z u) s.heap.size) := ⟨⟨Bd.exec, Bd.bytes, hml, findClass_of_methodNamed Bd.named, hts⟩, hK, hE, fun q h => Or.inr h⟩
  refine b_X2_remember_0 X (cend_v X Bd.returns Bd.notSynchronized) (Nat.le_refl _) (Nat.le_refl _) h  ⟨hP, hD0.self, va_S.rf⟩ (lv_sub hl [0, 1] rfl)
theorem kc_X2_remember_RX2 {cc : ByteArray} {pc nL : Nat} {c0 : Cond} {rest : List Value} {l1 : Int32} {u w1 : CSt} {r : Int32} (X : CC p s m args c cc nL c0 RX2 D kA V A)  (hS : CS D kA Z A s u H locs) (h : F_X2_remember N l1 u = some (r, w1)) (hF : 0 + 1 ≤ R.frames) (hL : 8 + (2 + 11) + 0 ≤ R.locals) (hl : ls.size = nL) (hc : (rest.map fun v => v.category).sum ≤ 8) (hdg : decode cc pc = .ok (.invokevirtual 259, 3)) (kk : ∀ H locs, CS D kA Z A s w1 H locs → W p l e R s m args below meth c H locs 0 0 Q (F0 m (pc + 3) ls (rest))) : W p l e R s m args below meth c H locs 0 0 Q (F0 m pc ls (.int l1 :: .ref (Z 234) :: rest)) :=
  ccall_v (n := 1) X hS (k_X2_remember l D kA V Z N l1  u H.size h) (gw_V gw_1604 gw_1606 gs_7_3 gw_15 gw_1607) (by decide +kernel) (va_recv X.2.1 hS.1 (ci := 2) (q0 := 34) rfl (cw_lit rfl)) hF hL rfl hl hc rfl hdg kk
def B_X2_comeBack_0 (N : Nat) (u : CSt) : Option (Int32 × CSt) := if (0 : Int32) < (cI u 21) then (pc (xI u 21 ((cI u 21) - 1)) fun u_2 => rd (cA u_2 237) 8 (cI u_2 21) fun v_4 => pc (xI u_2 20 v_4) fun u_5 => rd (cA u_5 238) 8 (cI u_5 21) fun v_7 => pc (xI u_5 19 v_7) fun u_8 => rd (cA u_8 239) 8 (cI u_8 21) fun v_10 => pc (xI u_8 18 v_10) fun u_11 => some (0, u_11)) else (pc (xI u 25 0) fun u_12 => some (0, u_12))
set_option maxHeartbeats 4000000 in
theorem b_X2_comeBack_0 {r : Int32} (X : CC p s m args c cX2_comeBack 1 (Cond.code yX2_comeBack cX2_comeBack 1 none) RX2 D kA V A) (hE : CEv p l e R s m args below meth c cX2_comeBack D kA Z A Q w) (hF : 0 ≤ R.frames) (hL : 0 ≤ R.locals) {u : CSt}  (h : B_X2_comeBack_0 N u = some (r, w))  (hS : CS D kA Z A s u H locs) (hl : lv_has ls 1 [(0, .ref (Z 234))]) : W p l e R s m args below meth c H locs 0 0 Q (F0 m 0 ls []) := by
  obtain ⟨⟨hx, hb, hml, hown, hts⟩, hK, hEV, hA⟩ := id X
  have hG : ∀ w ∈ GW, w.before args s = true := fun w h => hts w (List.mem_cons_of_mem _ h)
  unfold B_X2_comeBack_0 at h
  refine lv_aload_n hx hb dX2_comeBack_0 rfl (lv_at hl 0 rfl) ?_
  refine cg_X2_152 X hS dX2_comeBack_1 ?_
  refine lv_if_gt (tgt := 13) hx hb dX2_comeBack_4 (by decide) (fun c_1 => ?_) (fun c_1 => ?_)
  · have h := ip (c_1) h
    refine lv_aload_n hx hb dX2_comeBack_13 rfl (lv_at hl 0 rfl) ?_
    refine lv_dup hx hb dX2_comeBack_14 rfl ?_
    refine cg_X2_152 X hS dX2_comeBack_15 ?_
    refine lv_iconst (v := 1) hx hb dX2_comeBack_18 (by decide) ?_
    refine lv_isub hx hb dX2_comeBack_19 ?_
    obtain ⟨u_2, e_u_2, h⟩ := pc_of h
    refine cp_X2_152 X hS e_u_2 dX2_comeBack_20 (fun H locs hS => ?_)
    refine lv_aload_n hx hb dX2_comeBack_23 rfl (lv_at hl 0 rfl) ?_
    refine lv_aload_n hx hb dX2_comeBack_24 rfl (lv_at hl 0 rfl) ?_
    refine cg_X2_18 X hS dX2_comeBack_25 ?_
    refine lv_aload_n hx hb dX2_comeBack_28 rfl (lv_at hl 0 rfl) ?_
    refine cg_X2_152 X hS dX2_comeBack_29 ?_
    obtain ⟨v_4, e_v_4, i_3, h⟩ := rd_of h
    refine ca_s237 X hS i_3 e_v_4 dX2_comeBack_32 ?_
    obtain ⟨u_5, e_u_5, h⟩ := pc_of h
    refine cp_X2_137 X hS e_u_5 dX2_comeBack_33 (fun H locs hS => ?_)
    refine lv_aload_n hx hb dX2_comeBack_36 rfl (lv_at hl 0 rfl) ?_
    refine lv_aload_n hx hb dX2_comeBack_37 rfl (lv_at hl 0 rfl) ?_
    refine cg_X2_22 X hS dX2_comeBack_38 ?_
    refine lv_aload_n hx hb dX2_comeBack_41 rfl (lv_at hl 0 rfl) ?_
    refine cg_X2_152 X hS dX2_comeBack_42 ?_
    obtain ⟨v_7, e_v_7, i_6, h⟩ := rd_of h
    refine ca_s238 X hS i_6 e_v_7 dX2_comeBack_45 ?_
    obtain ⟨u_8, e_u_8, h⟩ := pc_of h
    refine cp_X2_149 X hS e_u_8 dX2_comeBack_46 (fun H locs hS => ?_)
    refine lv_aload_n hx hb dX2_comeBack_49 rfl (lv_at hl 0 rfl) ?_
    refine lv_aload_n hx hb dX2_comeBack_50 rfl (lv_at hl 0 rfl) ?_
    refine cg_X2_25 X hS dX2_comeBack_51 ?_
    refine lv_aload_n hx hb dX2_comeBack_54 rfl (lv_at hl 0 rfl) ?_
    refine cg_X2_152 X hS dX2_comeBack_55 ?_
    obtain ⟨v_10, e_v_10, i_9, h⟩ := rd_of h
    refine ca_s239 X hS i_9 e_v_10 dX2_comeBack_58 ?_
    obtain ⟨u_11, e_u_11, h⟩ := pc_of h
    refine cp_X2_146 X hS e_u_11 dX2_comeBack_59 (fun H locs hS => ?_)
    obtain ⟨-, rfl⟩ := so9 h
    exact hE _ _ _ _ hS dX2_comeBack_62
  · have h := im (c_1) h
    refine lv_aload_n hx hb dX2_comeBack_7 rfl (lv_at hl 0 rfl) ?_
    refine lv_iconst (v := 0) hx hb dX2_comeBack_8 (by decide) ?_
    obtain ⟨u_12, e_u_12, h⟩ := pc_of h
    refine cp_X2_167 X hS e_u_12 (Or.inl rfl) dX2_comeBack_9 (fun H locs hS => ?_)
    obtain ⟨-, rfl⟩ := so9 h
    exact hE _ _ _ _ hS dX2_comeBack_12
def F_X2_comeBack (N : Nat) (u : CSt) : Option (Int32 × CSt) := B_X2_comeBack_0 N u
set_option maxHeartbeats 4000000 in
theorem k_X2_comeBack (l : Launch) (D : va_G) (kA : Nat → ClassId) (V Z : Nat → Nat) (N : Nat) (u : CSt) (sz : Nat) {r : Int32} {w : CSt} (h : F_X2_comeBack N u = some (r, w)) : Met l yX2_comeBack (Cond.code yX2_comeBack cX2_comeBack 1 none :: GW) { frames := 0, cells := 0, slots := 0, locals := 0 } (cPc D kA V Z [.ref (Z 234)] u sz) (cQv D kA Z u sz w) 0 0 (va_A (CW kA Z u) sz) := by
  refine Met.ofW (cc := cX2_comeBack) (maxL := 1) (ret := none) (by decide) rfl ?_
  intro p e s m args below meth c s₁ Bd hml hv
  obtain ⟨rfl, hsz, hP, hK, hD0, hE⟩ := hv
  have hts := atoms_spec (ws := Cond.code yX2_comeBack cX2_comeBack 1 none :: GW) Bd.pre
  have hl := lv_entry ([.ref (Z 234)]) (n := 1) (Nat.le_of_ble_eq_true rfl)
  rw [lg_entry_eq]
  generalize (lg_sl ([.ref (Z 234)]) ++ List.replicate (1 - (lg_sl ([.ref (Z 234)])).length) Slot.unset).toArray = ls at hl ⊢
  have hl : lv_has ls 1 [(0, .ref (Z 234))] := hl
  subst hsz
  have X : CC p s m ([.ref (Z 234)]).toArray c cX2_comeBack 1 (Cond.code yX2_comeBack cX2_comeBack 1 none) RX2 D kA V (va_A (CW kA Z u) s.heap.size) := ⟨⟨Bd.exec, Bd.bytes, hml, findClass_of_methodNamed Bd.named, hts⟩, hK, hE, fun q h => Or.inr h⟩
  refine b_X2_comeBack_0 X (cend_v X Bd.returns Bd.notSynchronized) (Nat.le_refl _) (Nat.le_refl _) h  ⟨hP, hD0.self, va_S.rf⟩ (lv_sub hl [0] rfl)
theorem kc_X2_comeBack_RX2 {cc : ByteArray} {pc nL : Nat} {c0 : Cond} {rest : List Value} {u w1 : CSt} {r : Int32} (X : CC p s m args c cc nL c0 RX2 D kA V A)  (hS : CS D kA Z A s u H locs) (h : F_X2_comeBack N u = some (r, w1)) (hF : 0 + 1 ≤ R.frames) (hL : 8 + (1 + 11) + 0 ≤ R.locals) (hl : ls.size = nL) (hc : (rest.map fun v => v.category).sum ≤ 8) (hdg : decode cc pc = .ok (.invokevirtual 253, 3)) (kk : ∀ H locs, CS D kA Z A s w1 H locs → W p l e R s m args below meth c H locs 0 0 Q (F0 m (pc + 3) ls (rest))) : W p l e R s m args below meth c H locs 0 0 Q (F0 m pc ls (.ref (Z 234) :: rest)) :=
  ccall_v (n := 0) X hS (k_X2_comeBack l D kA V Z N   u H.size h) (gw_V gw_1612 gw_1614 gs_7_5 gw_15 gw_1615) (by decide +kernel) (va_recv X.2.1 hS.1 (ci := 2) (q0 := 34) rfl (cw_lit rfl)) hF hL rfl hl hc rfl hdg kk
def B_X2_enterFunction_52 (N : Nat) (R_52 : Nat × Int32 × Int32 × CSt → Option (Int32 × CSt)) (l1 : Nat) (l3 : Int32) (l4 : Int32) (u : CSt) : Option (Int32 × CSt) := if (mI u l1 12) ≤ l4 then (pc (xI u 20 (mI u l1 13)) fun u_2 => some (0, u_2)) else (ok (cR u 4 < 2) inferInstance <| bc (F_X6_local N (cR u 4) l1 l4 u) fun r_5 u_4 => ok (r_5 < 338) inferInstance <| bc (F_X2_fill N (l3 + (mI u_4 r_5 9)) (mI u_4 r_5 7) (mL u_4 r_5 10) u_4) fun _ u_7 => R_52 (l1, l3, (l4 + 1), u_7))
set_option maxHeartbeats 4000000 in
theorem b_X2_enterFunction_52 {r : Int32} (X : CC p s m args c cX2_enterFunction 6 (Cond.code yX2_enterFunction cX2_enterFunction 6 none) RX2 D kA V A) (hE : CEv p l e R s m args below meth c cX2_enterFunction D kA Z A Q w) (hF : 2 ≤ R.frames) (hL : 48 ≤ R.locals) {R_52 : Nat × Int32 × Int32 × CSt → Option (Int32 × CSt)} {l1 : Nat} {l3 : Int32} {l4 : Int32} {u : CSt} (hR_52 : ∀ (l1 : Nat) (l3 : Int32) (l4 : Int32) (u : CSt), l1 < 338 → R_52 (l1, l3, l4, u) = some (r, w) → ∀ (H : Heap) (locs : List Loc) (ls : Array Slot), CS D kA Z A s u H locs → lv_has ls 6 [(0, .ref (Z 234)), (1, .ref (Z (1000 + l1))), (3, .int l3), (4, .int l4)] → W p l e R s m args below meth c H locs 0 0 Q (F0 m 52 ls [])) (h : B_X2_enterFunction_52 N R_52 l1 l3 l4 u = some (r, w)) (h_l1 : l1 < 338) (hS : CS D kA Z A s u H locs) (hl : lv_has ls 6 [(0, .ref (Z 234)), (1, .ref (Z (1000 + l1))), (3, .int l3), (4, .int l4)]) : W p l e R s m args below meth c H locs 0 0 Q (F0 m 52 ls []) := by
  obtain ⟨⟨hx, hb, hml, hown, hts⟩, hK, hEV, hA⟩ := id X
  have hG : ∀ w ∈ GW, w.before args s = true := fun w h => hts w (List.mem_cons_of_mem _ h)
  unfold B_X2_enterFunction_52 at h
  refine lv_iload hx hb dX2_enterFunction_52 (lv_at hl 3 rfl) ?_
  refine lv_aload_n hx hb dX2_enterFunction_54 rfl (lv_at hl 1 rfl) ?_
  refine cg_X2_130 X h_l1 hS dX2_enterFunction_55 ?_
  refine lv_icmp_ge (tgt := 100) hx hb dX2_enterFunction_58 (by decide) (fun c_1 => ?_) (fun c_1 => ?_)
  · have h := ip (c_1) h
    refine lv_aload_n hx hb dX2_enterFunction_100 rfl (lv_at hl 0 rfl) ?_
    refine lv_aload_n hx hb dX2_enterFunction_101 rfl (lv_at hl 1 rfl) ?_
    refine cg_X2_262 X h_l1 hS dX2_enterFunction_102 ?_
    obtain ⟨u_2, e_u_2, h⟩ := pc_of h
    refine cp_X2_137 X hS e_u_2 dX2_enterFunction_105 (fun H locs hS => ?_)
    obtain ⟨-, rfl⟩ := so9 h
    exact hE _ _ _ _ hS dX2_enterFunction_108
  · have h := im (c_1) h
    refine lv_aload_n hx hb dX2_enterFunction_61 rfl (lv_at hl 0 rfl) ?_
    refine cg_X2_32 X hS dX2_enterFunction_62 ?_
    obtain ⟨z_3, h⟩ := ok_of h
    refine lv_aload_n hx hb dX2_enterFunction_65 rfl (lv_at hl 1 rfl) ?_
    refine lv_iload hx hb dX2_enterFunction_66 (lv_at hl 3 rfl) ?_
    obtain ⟨r_5, u_4, h_u_4, h⟩ := bc_of h
    refine kc_X6_local_RX2 X z_3 h_l1 hS h_u_4 (Nat.le_trans (Nat.le_of_ble_eq_true rfl) hF) (Nat.le_trans (Nat.le_of_ble_eq_true rfl) hL) hl.1 (Nat.le_of_ble_eq_true rfl) dX2_enterFunction_68 (fun H locs hS => ?_)
    obtain ⟨z_6, h⟩ := ok_of h
    refine lv_astore (lv' := [(5, .ref (Z (1000 + r_5))), (0, .ref (Z 234)), (1, .ref (Z (1000 + l1))), (3, .int l3), (4, .int l4)]) hx hb dX2_enterFunction_71 hl (by decide) rfl (fun ls hl => ?_)
    refine lv_aload_n hx hb dX2_enterFunction_73 rfl (lv_at hl 1 rfl) ?_
    refine lv_iload_n hx hb dX2_enterFunction_74 rfl (lv_at hl 3 rfl) ?_
    refine lv_aload hx hb dX2_enterFunction_75 (lv_at hl 0 rfl) ?_
    refine cg_X2_49 X z_6 hS dX2_enterFunction_77 ?_
    refine lv_iadd hx hb dX2_enterFunction_80 ?_
    refine lv_aload hx hb dX2_enterFunction_81 (lv_at hl 0 rfl) ?_
    refine cg_X2_92 X z_6 hS dX2_enterFunction_83 ?_
    refine lv_aload hx hb dX2_enterFunction_86 (lv_at hl 0 rfl) ?_
    refine cg_X2_95 X z_6 hS dX2_enterFunction_88 ?_
    obtain ⟨r_u_7, u_7, h_u_7, h⟩ := bc_of h
    refine kc_X2_fill_RX2 X  hS h_u_7 (Nat.le_trans (Nat.le_of_ble_eq_true rfl) hF) (Nat.le_trans (Nat.le_of_ble_eq_true rfl) hL) hl.1 (Nat.le_of_ble_eq_true rfl) dX2_enterFunction_91 (fun H locs hS => ?_)
    refine lv_iinc (v := l4 + 1) (lv' := [(4, .int (l4 + 1)), (5, .ref (Z (1000 + r_5))), (0, .ref (Z 234)), (1, .ref (Z (1000 + l1))), (3, .int l3)]) hx hb dX2_enterFunction_94 hl (k := 4) rfl rfl (by decide) rfl (fun ls hl => ?_)
    refine lv_goto (tgt := 52) hx hb dX2_enterFunction_97 (by decide) ?_
    exact hR_52 _ _ _ _ h_l1 h _ _ _ hS (lv_sub hl [2, 3, 4, 0] rfl)
def LP_X2_enterFunction_52 (N : Nat) : Nat → Nat × Int32 × Int32 × CSt → Option (Int32 × CSt) := lp (fun R a => B_X2_enterFunction_52 N R a.1 a.2.1 a.2.2.1 a.2.2.2)
theorem bl_X2_enterFunction_52 {r : Int32} (X : CC p s m args c cX2_enterFunction 6 (Cond.code yX2_enterFunction cX2_enterFunction 6 none) RX2 D kA V A) (hE : CEv p l e R s m args below meth c cX2_enterFunction D kA Z A Q w) (hF : 2 ≤ R.frames) (hL : 48 ≤ R.locals)  : ∀ (n : Nat) (l1 : Nat) (l3 : Int32) (l4 : Int32) (u : CSt), l1 < 338 → LP_X2_enterFunction_52 N n (l1, l3, l4, u) = some (r, w) → ∀ (H : Heap) (locs : List Loc) (ls : Array Slot), CS D kA Z A s u H locs → lv_has ls 6 [(0, .ref (Z 234)), (1, .ref (Z (1000 + l1))), (3, .int l3), (4, .int l4)] → W p l e R s m args below meth c H locs 0 0 Q (F0 m 52 ls []) := by
  intro n
  induction n with
  | zero => intro l1 l3 l4 u h_l1 h; exact nomatch h
  | succ n ih => intro l1 l3 l4 u h_l1 h H locs ls hS hl; exact b_X2_enterFunction_52 (N := N) (R_52 := LP_X2_enterFunction_52 N n) X hE  hF hL  ih h h_l1 hS hl
def B_X2_enterFunction_0 (N : Nat) (l1 : Nat) (l2 : Int32) (u : CSt) : Option (Int32 × CSt) := if (cI u 21) < (8 : Int32) then (bc (F_X2_remember N ((cI u 18) - (mI u l1 11)) u) fun _ u_9 => pc (xI u_9 19 ((cI u 18) - (mI u l1 11))) fun u_10 => pc (xI u_10 18 (((cI u 18) - (mI u l1 11)) + (mI u_10 l1 7))) fun u_11 => LP_X2_enterFunction_52 N N (l1, ((cI u 18) - (mI u l1 11)), (mI u_11 l1 11), u_11)) else (bc (F_X2_stop N 4 l2 u) fun _ u_12 => some (0, u_12))
set_option maxHeartbeats 4000000 in
theorem b_X2_enterFunction_0 {r : Int32} (X : CC p s m args c cX2_enterFunction 6 (Cond.code yX2_enterFunction cX2_enterFunction 6 none) RX2 D kA V A) (hE : CEv p l e R s m args below meth c cX2_enterFunction D kA Z A Q w) (hF : 2 ≤ R.frames) (hL : 48 ≤ R.locals) {l1 : Nat} {l2 : Int32} {u : CSt}  (h : B_X2_enterFunction_0 N l1 l2 u = some (r, w)) (h_l1 : l1 < 338) (hS : CS D kA Z A s u H locs) (hl : lv_has ls 6 [(0, .ref (Z 234)), (1, .ref (Z (1000 + l1))), (2, .int l2)]) : W p l e R s m args below meth c H locs 0 0 Q (F0 m 0 ls []) := by
  obtain ⟨⟨hx, hb, hml, hown, hts⟩, hK, hEV, hA⟩ := id X
  have hG : ∀ w ∈ GW, w.before args s = true := fun w h => hts w (List.mem_cons_of_mem _ h)
  unfold B_X2_enterFunction_0 at h
  refine lv_aload_n hx hb dX2_enterFunction_0 rfl (lv_at hl 0 rfl) ?_
  refine cg_X2_152 X hS dX2_enterFunction_1 ?_
  refine lv_bipush (v := 8) hx hb dX2_enterFunction_4 (by decide) ?_
  refine lv_icmp_lt (tgt := 16) hx hb dX2_enterFunction_6 (by decide) (fun c_8 => ?_) (fun c_8 => ?_)
  · have h := ip (c_8) h
    refine lv_aload_n hx hb dX2_enterFunction_16 rfl (lv_at hl 0 rfl) ?_
    refine cg_X2_146 X hS dX2_enterFunction_17 ?_
    refine lv_aload_n hx hb dX2_enterFunction_20 rfl (lv_at hl 1 rfl) ?_
    refine cg_X2_256 X h_l1 hS dX2_enterFunction_21 ?_
    refine lv_isub hx hb dX2_enterFunction_24 ?_
    refine lv_istore_n (lv' := [(3, .int ((cI u 18) - (mI u l1 11))), (0, .ref (Z 234)), (1, .ref (Z (1000 + l1))), (2, .int l2)]) hx hb dX2_enterFunction_25 rfl hl (by decide) rfl (fun ls hl => ?_)
    refine lv_aload_n hx hb dX2_enterFunction_26 rfl (lv_at hl 1 rfl) ?_
    refine lv_iload_n hx hb dX2_enterFunction_27 rfl (lv_at hl 0 rfl) ?_
    obtain ⟨r_u_9, u_9, h_u_9, h⟩ := bc_of h
    refine kc_X2_remember_RX2 X  hS h_u_9 (Nat.le_trans (Nat.le_of_ble_eq_true rfl) hF) (Nat.le_trans (Nat.le_of_ble_eq_true rfl) hL) hl.1 (Nat.le_of_ble_eq_true rfl) dX2_enterFunction_28 (fun H locs hS => ?_)
    refine lv_aload_n hx hb dX2_enterFunction_31 rfl (lv_at hl 1 rfl) ?_
    refine lv_iload_n hx hb dX2_enterFunction_32 rfl (lv_at hl 0 rfl) ?_
    obtain ⟨u_10, e_u_10, h⟩ := pc_of h
    refine cp_X2_149 X hS e_u_10 dX2_enterFunction_33 (fun H locs hS => ?_)
    refine lv_aload_n hx hb dX2_enterFunction_36 rfl (lv_at hl 1 rfl) ?_
    refine lv_iload_n hx hb dX2_enterFunction_37 rfl (lv_at hl 0 rfl) ?_
    refine lv_aload_n hx hb dX2_enterFunction_38 rfl (lv_at hl 2 rfl) ?_
    refine cg_X2_92 X h_l1 hS dX2_enterFunction_39 ?_
    refine lv_iadd hx hb dX2_enterFunction_42 ?_
    obtain ⟨u_11, e_u_11, h⟩ := pc_of h
    refine cp_X2_146 X hS e_u_11 dX2_enterFunction_43 (fun H locs hS => ?_)
    refine lv_aload_n hx hb dX2_enterFunction_46 rfl (lv_at hl 2 rfl) ?_
    refine cg_X2_256 X h_l1 hS dX2_enterFunction_47 ?_
    refine lv_istore (lv' := [(4, .int (mI u_11 l1 11)), (3, .int ((cI u 18) - (mI u l1 11))), (0, .ref (Z 234)), (1, .ref (Z (1000 + l1))), (2, .int l2)]) hx hb dX2_enterFunction_50 hl (by decide) rfl (fun ls hl => ?_)
    exact bl_X2_enterFunction_52 X hE  hF hL  _ _ _ _ _ h_l1 h _ _ _ hS (lv_sub hl [2, 3, 1, 0] rfl)
  · have h := im (c_8) h
    refine lv_aload_n hx hb dX2_enterFunction_9 rfl (lv_at hl 0 rfl) ?_
    refine lv_iconst (v := 4) hx hb dX2_enterFunction_10 (by decide) ?_
    refine lv_iload_n hx hb dX2_enterFunction_11 rfl (lv_at hl 2 rfl) ?_
    obtain ⟨r_u_12, u_12, h_u_12, h⟩ := bc_of h
    refine kc_X2_stop_RX2 X  hS h_u_12 (Nat.le_trans (Nat.le_of_ble_eq_true rfl) hF) (Nat.le_trans (Nat.le_of_ble_eq_true rfl) hL) hl.1 (Nat.le_of_ble_eq_true rfl) dX2_enterFunction_12 (fun H locs hS => ?_)
    obtain ⟨-, rfl⟩ := so9 h
    exact hE _ _ _ _ hS dX2_enterFunction_15
def F_X2_enterFunction (N : Nat) (l1 : Nat) (l2 : Int32) (u : CSt) : Option (Int32 × CSt) := B_X2_enterFunction_0 N l1 l2 u
set_option maxHeartbeats 4000000 in
theorem k_X2_enterFunction (l : Launch) (D : va_G) (kA : Nat → ClassId) (V Z : Nat → Nat) (N : Nat) (l1 : Nat) (l2 : Int32) (h_l1 : l1 < 338) (u : CSt) (sz : Nat) {r : Int32} {w : CSt} (h : F_X2_enterFunction N l1 l2 u = some (r, w)) : Met l yX2_enterFunction (Cond.code yX2_enterFunction cX2_enterFunction 6 none :: GW) { frames := 2, cells := 0, slots := 0, locals := 48 } (cPc D kA V Z [.ref (Z 234), .ref (Z (1000 + l1)), .int l2] u sz) (cQv D kA Z u sz w) 0 0 (va_A (CW kA Z u) sz) := by
  refine Met.ofW (cc := cX2_enterFunction) (maxL := 6) (ret := none) (by decide) rfl ?_
  intro p e s m args below meth c s₁ Bd hml hv
  obtain ⟨rfl, hsz, hP, hK, hD0, hE⟩ := hv
  have hts := atoms_spec (ws := Cond.code yX2_enterFunction cX2_enterFunction 6 none :: GW) Bd.pre
  have hl := lv_entry ([.ref (Z 234), .ref (Z (1000 + l1)), .int l2]) (n := 6) (Nat.le_of_ble_eq_true rfl)
  rw [lg_entry_eq]
  generalize (lg_sl ([.ref (Z 234), .ref (Z (1000 + l1)), .int l2]) ++ List.replicate (6 - (lg_sl ([.ref (Z 234), .ref (Z (1000 + l1)), .int l2])).length) Slot.unset).toArray = ls at hl ⊢
  have hl : lv_has ls 6 [(0, .ref (Z 234)), (1, .ref (Z (1000 + l1))), (2, .int l2)] := hl
  subst hsz
  have X : CC p s m ([.ref (Z 234), .ref (Z (1000 + l1)), .int l2]).toArray c cX2_enterFunction 6 (Cond.code yX2_enterFunction cX2_enterFunction 6 none) RX2 D kA V (va_A (CW kA Z u) s.heap.size) := ⟨⟨Bd.exec, Bd.bytes, hml, findClass_of_methodNamed Bd.named, hts⟩, hK, hE, fun q h => Or.inr h⟩
  refine b_X2_enterFunction_0 X (cend_v X Bd.returns Bd.notSynchronized) (Nat.le_refl _) (Nat.le_refl _) h h_l1 ⟨hP, hD0.self, va_S.rf⟩ (lv_sub hl [0, 1, 2] rfl)
theorem kc_X2_enterFunction_RX2 {cc : ByteArray} {pc nL : Nat} {c0 : Cond} {rest : List Value} {l1 : Nat} {l2 : Int32} {u w1 : CSt} {r : Int32} (X : CC p s m args c cc nL c0 RX2 D kA V A) (h_l1 : l1 < 338) (hS : CS D kA Z A s u H locs) (h : F_X2_enterFunction N l1 l2 u = some (r, w1)) (hF : 2 + 1 ≤ R.frames) (hL : 8 + (6 + 11) + 48 ≤ R.locals) (hl : ls.size = nL) (hc : (rest.map fun v => v.category).sum ≤ 8) (hdg : decode cc pc = .ok (.invokevirtual 246, 3)) (kk : ∀ H locs, CS D kA Z A s w1 H locs → W p l e R s m args below meth c H locs 0 0 Q (F0 m (pc + 3) ls (rest))) : W p l e R s m args below meth c H locs 0 0 Q (F0 m pc ls (.int l2 :: .ref (Z (1000 + l1)) :: .ref (Z 234) :: rest)) :=
  ccall_v (n := 2) X hS (k_X2_enterFunction l D kA V Z N l1 l2 h_l1 u H.size h) (gw_V gw_1600 gw_1602 gs_7_2 gw_15 gw_1603) (by decide +kernel) (va_recv X.2.1 hS.1 (ci := 2) (q0 := 34) rfl (cw_lit rfl)) hF hL rfl hl hc rfl hdg kk
def B_X2_enterInstance_0 (N : Nat) (l1 : Nat) (l2 : Int32) (u : CSt) : Option (Int32 × CSt) := if (cI u 21) < (8 : Int32) then (bc (F_X2_remember N (cI u 18) u) fun _ u_2 => pc (xI u_2 19 (mI u_2 l1 9)) fun u_3 => ok (cR u_3 4 < 2) inferInstance <| bc (F_X6_name N (cR u_3 4) (mI u_3 l1 14) u_3) fun r_6 u_5 => ok (r_6 < 338) inferInstance <| pc (xI u_5 20 (mI u_5 r_6 13)) fun u_8 => some (0, u_8)) else (bc (F_X2_stop N 4 l2 u) fun _ u_9 => some (0, u_9))
set_option maxHeartbeats 4000000 in
theorem b_X2_enterInstance_0 {r : Int32} (X : CC p s m args c cX2_enterInstance 3 (Cond.code yX2_enterInstance cX2_enterInstance 3 none) RX2 D kA V A) (hE : CEv p l e R s m args below meth c cX2_enterInstance D kA Z A Q w) (hF : 1 ≤ R.frames) (hL : 22 ≤ R.locals) {l1 : Nat} {l2 : Int32} {u : CSt}  (h : B_X2_enterInstance_0 N l1 l2 u = some (r, w)) (h_l1 : l1 < 338) (hS : CS D kA Z A s u H locs) (hl : lv_has ls 3 [(0, .ref (Z 234)), (1, .ref (Z (1000 + l1))), (2, .int l2)]) : W p l e R s m args below meth c H locs 0 0 Q (F0 m 0 ls []) := by
  obtain ⟨⟨hx, hb, hml, hown, hts⟩, hK, hEV, hA⟩ := id X
  have hG : ∀ w ∈ GW, w.before args s = true := fun w h => hts w (List.mem_cons_of_mem _ h)
  unfold B_X2_enterInstance_0 at h
  refine lv_aload_n hx hb dX2_enterInstance_0 rfl (lv_at hl 0 rfl) ?_
  refine cg_X2_152 X hS dX2_enterInstance_1 ?_
  refine lv_bipush (v := 8) hx hb dX2_enterInstance_4 (by decide) ?_
  refine lv_icmp_lt (tgt := 16) hx hb dX2_enterInstance_6 (by decide) (fun c_1 => ?_) (fun c_1 => ?_)
  · have h := ip (c_1) h
    refine lv_aload_n hx hb dX2_enterInstance_16 rfl (lv_at hl 0 rfl) ?_
    refine lv_aload_n hx hb dX2_enterInstance_17 rfl (lv_at hl 0 rfl) ?_
    refine cg_X2_146 X hS dX2_enterInstance_18 ?_
    obtain ⟨r_u_2, u_2, h_u_2, h⟩ := bc_of h
    refine kc_X2_remember_RX2 X  hS h_u_2 (Nat.le_trans (Nat.le_of_ble_eq_true rfl) hF) (Nat.le_trans (Nat.le_of_ble_eq_true rfl) hL) hl.1 (Nat.le_of_ble_eq_true rfl) dX2_enterInstance_21 (fun H locs hS => ?_)
    refine lv_aload_n hx hb dX2_enterInstance_24 rfl (lv_at hl 0 rfl) ?_
    refine lv_aload_n hx hb dX2_enterInstance_25 rfl (lv_at hl 1 rfl) ?_
    refine cg_X2_49 X h_l1 hS dX2_enterInstance_26 ?_
    obtain ⟨u_3, e_u_3, h⟩ := pc_of h
    refine cp_X2_149 X hS e_u_3 dX2_enterInstance_29 (fun H locs hS => ?_)
    refine lv_aload_n hx hb dX2_enterInstance_32 rfl (lv_at hl 0 rfl) ?_
    refine lv_aload_n hx hb dX2_enterInstance_33 rfl (lv_at hl 0 rfl) ?_
    refine cg_X2_32 X hS dX2_enterInstance_34 ?_
    obtain ⟨z_4, h⟩ := ok_of h
    refine lv_aload_n hx hb dX2_enterInstance_37 rfl (lv_at hl 1 rfl) ?_
    refine cg_X2_123 X h_l1 hS dX2_enterInstance_38 ?_
    obtain ⟨r_6, u_5, h_u_5, h⟩ := bc_of h
    refine kc_X6_name_RX2 X z_4 hS h_u_5 (Nat.le_trans (Nat.le_of_ble_eq_true rfl) hF) (Nat.le_trans (Nat.le_of_ble_eq_true rfl) hL) hl.1 (Nat.le_of_ble_eq_true rfl) dX2_enterInstance_41 (fun H locs hS => ?_)
    obtain ⟨z_7, h⟩ := ok_of h
    refine cg_X2_262 X z_7 hS dX2_enterInstance_44 ?_
    obtain ⟨u_8, e_u_8, h⟩ := pc_of h
    refine cp_X2_137 X hS e_u_8 dX2_enterInstance_47 (fun H locs hS => ?_)
    obtain ⟨-, rfl⟩ := so9 h
    exact hE _ _ _ _ hS dX2_enterInstance_50
  · have h := im (c_1) h
    refine lv_aload_n hx hb dX2_enterInstance_9 rfl (lv_at hl 0 rfl) ?_
    refine lv_iconst (v := 4) hx hb dX2_enterInstance_10 (by decide) ?_
    refine lv_iload_n hx hb dX2_enterInstance_11 rfl (lv_at hl 2 rfl) ?_
    obtain ⟨r_u_9, u_9, h_u_9, h⟩ := bc_of h
    refine kc_X2_stop_RX2 X  hS h_u_9 (Nat.le_trans (Nat.le_of_ble_eq_true rfl) hF) (Nat.le_trans (Nat.le_of_ble_eq_true rfl) hL) hl.1 (Nat.le_of_ble_eq_true rfl) dX2_enterInstance_12 (fun H locs hS => ?_)
    obtain ⟨-, rfl⟩ := so9 h
    exact hE _ _ _ _ hS dX2_enterInstance_15
def F_X2_enterInstance (N : Nat) (l1 : Nat) (l2 : Int32) (u : CSt) : Option (Int32 × CSt) := B_X2_enterInstance_0 N l1 l2 u
set_option maxHeartbeats 4000000 in
theorem k_X2_enterInstance (l : Launch) (D : va_G) (kA : Nat → ClassId) (V Z : Nat → Nat) (N : Nat) (l1 : Nat) (l2 : Int32) (h_l1 : l1 < 338) (u : CSt) (sz : Nat) {r : Int32} {w : CSt} (h : F_X2_enterInstance N l1 l2 u = some (r, w)) : Met l yX2_enterInstance (Cond.code yX2_enterInstance cX2_enterInstance 3 none :: GW) { frames := 1, cells := 0, slots := 0, locals := 22 } (cPc D kA V Z [.ref (Z 234), .ref (Z (1000 + l1)), .int l2] u sz) (cQv D kA Z u sz w) 0 0 (va_A (CW kA Z u) sz) := by
  refine Met.ofW (cc := cX2_enterInstance) (maxL := 3) (ret := none) (by decide) rfl ?_
  intro p e s m args below meth c s₁ Bd hml hv
  obtain ⟨rfl, hsz, hP, hK, hD0, hE⟩ := hv
  have hts := atoms_spec (ws := Cond.code yX2_enterInstance cX2_enterInstance 3 none :: GW) Bd.pre
  have hl := lv_entry ([.ref (Z 234), .ref (Z (1000 + l1)), .int l2]) (n := 3) (Nat.le_of_ble_eq_true rfl)
  rw [lg_entry_eq]
  generalize (lg_sl ([.ref (Z 234), .ref (Z (1000 + l1)), .int l2]) ++ List.replicate (3 - (lg_sl ([.ref (Z 234), .ref (Z (1000 + l1)), .int l2])).length) Slot.unset).toArray = ls at hl ⊢
  have hl : lv_has ls 3 [(0, .ref (Z 234)), (1, .ref (Z (1000 + l1))), (2, .int l2)] := hl
  subst hsz
  have X : CC p s m ([.ref (Z 234), .ref (Z (1000 + l1)), .int l2]).toArray c cX2_enterInstance 3 (Cond.code yX2_enterInstance cX2_enterInstance 3 none) RX2 D kA V (va_A (CW kA Z u) s.heap.size) := ⟨⟨Bd.exec, Bd.bytes, hml, findClass_of_methodNamed Bd.named, hts⟩, hK, hE, fun q h => Or.inr h⟩
  refine b_X2_enterInstance_0 X (cend_v X Bd.returns Bd.notSynchronized) (Nat.le_refl _) (Nat.le_refl _) h h_l1 ⟨hP, hD0.self, va_S.rf⟩ (lv_sub hl [0, 1, 2] rfl)
theorem kc_X2_enterInstance_RX2 {cc : ByteArray} {pc nL : Nat} {c0 : Cond} {rest : List Value} {l1 : Nat} {l2 : Int32} {u w1 : CSt} {r : Int32} (X : CC p s m args c cc nL c0 RX2 D kA V A) (h_l1 : l1 < 338) (hS : CS D kA Z A s u H locs) (h : F_X2_enterInstance N l1 l2 u = some (r, w1)) (hF : 1 + 1 ≤ R.frames) (hL : 8 + (3 + 11) + 22 ≤ R.locals) (hl : ls.size = nL) (hc : (rest.map fun v => v.category).sum ≤ 8) (hdg : decode cc pc = .ok (.invokevirtual 250, 3)) (kk : ∀ H locs, CS D kA Z A s w1 H locs → W p l e R s m args below meth c H locs 0 0 Q (F0 m (pc + 3) ls (rest))) : W p l e R s m args below meth c H locs 0 0 Q (F0 m pc ls (.int l2 :: .ref (Z (1000 + l1)) :: .ref (Z 234) :: rest)) :=
  ccall_v (n := 2) X hS (k_X2_enterInstance l D kA V Z N l1 l2 h_l1 u H.size h) (gw_V gw_1608 gw_1610 gs_7_4 gw_15 gw_1611) (by decide +kernel) (va_recv X.2.1 hS.1 (ci := 2) (q0 := 34) rfl (cw_lit rfl)) hF hL rfl hl hc rfl hdg kk
def B_X2_call_0 (N : Nat) (l1 : Int32) (l2 : Int32) (l3 : Int32) (u : CSt) : Option (Int32 × CSt) := if l1 = 37 then (ok (cR u 4 < 2) inferInstance <| bc (F_X6_name N (cR u 4) l2 u) fun r_4 u_3 => ok (r_4 < 338) inferInstance <| bc (F_X2_enterFunction N r_4 l3 u_3) fun _ u_6 => some (0, u_6)) else (if l1 = 38 then (ok (cR u 4 < 2) inferInstance <| bc (F_X6_name N (cR u 4) l2 u) fun r_10 u_9 => ok (r_10 < 338) inferInstance <| bc (F_X2_enterInstance N r_10 l3 u_9) fun _ u_12 => some (0, u_12)) else (if l1 = 39 then (bc (F_X2_pop N u) fun r_15 u_14 => bc (F_X2_comeBack N u_14) fun _ u_18 => bc (F_X2_push N (n_cut l2 r_15) u_18) fun _ u_19 => some (0, u_19)) else (if l1 = 40 then (bc (F_X2_comeBack N u) fun _ u_21 => some (0, u_21)) else (bc (F_X2_pop N u) fun r_23 u_22 => pc (xI u_22 28 r_23.toInt32) fun u_24 => bc (F_X2_stop N 5 l3 u_24) fun _ u_25 => some (0, u_25)))))
set_option maxHeartbeats 4000000 in
theorem b_X2_call_0 {r : Int32} (X : CC p s m args c cX2_call 6 (Cond.code yX2_call cX2_call 6 none) RX2 D kA V A) (hE : CEv p l e R s m args below meth c cX2_call D kA Z A Q w) (hF : 3 ≤ R.frames) (hL : 73 ≤ R.locals) {l1 : Int32} {l2 : Int32} {l3 : Int32} {u : CSt}  (h : B_X2_call_0 N l1 l2 l3 u = some (r, w))  (hS : CS D kA Z A s u H locs) (hl : lv_has ls 6 [(0, .ref (Z 234)), (1, .int l1), (2, .int l2), (3, .int l3)]) : W p l e R s m args below meth c H locs 0 0 Q (F0 m 0 ls []) := by
  obtain ⟨⟨hx, hb, hml, hown, hts⟩, hK, hEV, hA⟩ := id X
  have hG : ∀ w ∈ GW, w.before args s = true := fun w h => hts w (List.mem_cons_of_mem _ h)
  unfold B_X2_call_0 at h
  refine lv_iload_n hx hb dX2_call_0 rfl (lv_at hl 1 rfl) ?_
  by_cases e_1 : l1 = 37
  · have h := ip e_1 h
    refine lv_tableIn (off := 31) (tgt := 32) hx hb dX2_call_1 (by rw [e_1]; decide) (by rw [e_1]; decide) (by rw [e_1]; rfl) (by decide) ?_
    refine lv_aload_n hx hb dX2_call_32 rfl (lv_at hl 0 rfl) ?_
    refine lv_aload_n hx hb dX2_call_33 rfl (lv_at hl 0 rfl) ?_
    refine cg_X2_32 X hS dX2_call_34 ?_
    obtain ⟨z_2, h⟩ := ok_of h
    refine lv_iload_n hx hb dX2_call_37 rfl (lv_at hl 2 rfl) ?_
    obtain ⟨r_4, u_3, h_u_3, h⟩ := bc_of h
    refine kc_X6_name_RX2 X z_2 hS h_u_3 (Nat.le_trans (Nat.le_of_ble_eq_true rfl) hF) (Nat.le_trans (Nat.le_of_ble_eq_true rfl) hL) hl.1 (Nat.le_of_ble_eq_true rfl) dX2_call_38 (fun H locs hS => ?_)
    obtain ⟨z_5, h⟩ := ok_of h
    refine lv_iload_n hx hb dX2_call_41 rfl (lv_at hl 3 rfl) ?_
    obtain ⟨r_u_6, u_6, h_u_6, h⟩ := bc_of h
    refine kc_X2_enterFunction_RX2 X z_5 hS h_u_6 (Nat.le_trans (Nat.le_of_ble_eq_true rfl) hF) (Nat.le_trans (Nat.le_of_ble_eq_true rfl) hL) hl.1 (Nat.le_of_ble_eq_true rfl) dX2_call_42 (fun H locs hS => ?_)
    refine lv_goto (tgt := 109) hx hb dX2_call_45 (by decide) ?_
    obtain ⟨-, rfl⟩ := so9 h
    exact hE _ _ _ _ hS dX2_call_109
  have h := im e_1 h
  by_cases e_7 : l1 = 38
  · have h := ip e_7 h
    refine lv_tableIn (off := 47) (tgt := 48) hx hb dX2_call_1 (by rw [e_7]; decide) (by rw [e_7]; decide) (by rw [e_7]; rfl) (by decide) ?_
    refine lv_aload_n hx hb dX2_call_48 rfl (lv_at hl 0 rfl) ?_
    refine lv_aload_n hx hb dX2_call_49 rfl (lv_at hl 0 rfl) ?_
    refine cg_X2_32 X hS dX2_call_50 ?_
    obtain ⟨z_8, h⟩ := ok_of h
    refine lv_iload_n hx hb dX2_call_53 rfl (lv_at hl 2 rfl) ?_
    obtain ⟨r_10, u_9, h_u_9, h⟩ := bc_of h
    refine kc_X6_name_RX2 X z_8 hS h_u_9 (Nat.le_trans (Nat.le_of_ble_eq_true rfl) hF) (Nat.le_trans (Nat.le_of_ble_eq_true rfl) hL) hl.1 (Nat.le_of_ble_eq_true rfl) dX2_call_54 (fun H locs hS => ?_)
    obtain ⟨z_11, h⟩ := ok_of h
    refine lv_iload_n hx hb dX2_call_57 rfl (lv_at hl 3 rfl) ?_
    obtain ⟨r_u_12, u_12, h_u_12, h⟩ := bc_of h
    refine kc_X2_enterInstance_RX2 X z_11 hS h_u_12 (Nat.le_trans (Nat.le_of_ble_eq_true rfl) hF) (Nat.le_trans (Nat.le_of_ble_eq_true rfl) hL) hl.1 (Nat.le_of_ble_eq_true rfl) dX2_call_58 (fun H locs hS => ?_)
    refine lv_goto (tgt := 109) hx hb dX2_call_61 (by decide) ?_
    obtain ⟨-, rfl⟩ := so9 h
    exact hE _ _ _ _ hS dX2_call_109
  have h := im e_7 h
  by_cases e_13 : l1 = 39
  · have h := ip e_13 h
    refine lv_tableIn (off := 63) (tgt := 64) hx hb dX2_call_1 (by rw [e_13]; decide) (by rw [e_13]; decide) (by rw [e_13]; rfl) (by decide) ?_
    refine lv_iload_n hx hb dX2_call_64 rfl (lv_at hl 2 rfl) ?_
    refine lv_aload_n hx hb dX2_call_65 rfl (lv_at hl 0 rfl) ?_
    obtain ⟨r_15, u_14, h_u_14, h⟩ := bc_of h
    refine kc_X2_pop_RX2 X  hS h_u_14 (Nat.le_trans (Nat.le_of_ble_eq_true rfl) hF) (Nat.le_trans (Nat.le_of_ble_eq_true rfl) hL) hl.1 (Nat.le_of_ble_eq_true rfl) dX2_call_66 (fun H locs hS => ?_)
    refine vp_callSl (W.runS (As := [.int l2, .long r_15]) (rest := []) X.1 (c_X5_cutTo l l2 r_15) (va_cwS 2 hts (gw_P gw_1409 gw_1077 gw_24 gwp_X5_cutTo) rfl rfl rfl (by decide +kernel) ⟨Nat.le_trans (Nat.le_of_ble_eq_true rfl) hF, Nat.le_trans (Nat.le_of_ble_eq_true rfl) hL⟩) ⟨fun _ _ _ _ q => q, fun _ _ _ => ⟨rfl, trivial⟩⟩ rfl rfl hl.1 rfl (lv_room (Nat.le_of_ble_eq_true rfl)) dX2_call_69 ⟨Nat.zero_le _, Nat.zero_le _⟩) (fun r_16 q_17 => ?_)
    subst q_17
    refine lv_lstore (lv' := [(4, .long (n_cut l2 r_15)), (0, .ref (Z 234)), (1, .int l1), (2, .int l2), (3, .int l3)]) hx hb dX2_call_72 hl (by decide) rfl (fun ls hl => ?_)
    refine lv_aload_n hx hb dX2_call_74 rfl (lv_at hl 1 rfl) ?_
    obtain ⟨r_u_18, u_18, h_u_18, h⟩ := bc_of h
    refine kc_X2_comeBack_RX2 X  hS h_u_18 (Nat.le_trans (Nat.le_of_ble_eq_true rfl) hF) (Nat.le_trans (Nat.le_of_ble_eq_true rfl) hL) hl.1 (Nat.le_of_ble_eq_true rfl) dX2_call_75 (fun H locs hS => ?_)
    refine lv_aload_n hx hb dX2_call_78 rfl (lv_at hl 1 rfl) ?_
    refine lv_lload hx hb dX2_call_79 (lv_at hl 0 rfl) ?_
    obtain ⟨r_u_19, u_19, h_u_19, h⟩ := bc_of h
    refine kc_X2_push_RX2 X  hS h_u_19 (Nat.le_trans (Nat.le_of_ble_eq_true rfl) hF) (Nat.le_trans (Nat.le_of_ble_eq_true rfl) hL) hl.1 (Nat.le_of_ble_eq_true rfl) dX2_call_81 (fun H locs hS => ?_)
    refine lv_goto (tgt := 109) hx hb dX2_call_84 (by decide) ?_
    obtain ⟨-, rfl⟩ := so9 h
    exact hE _ _ _ _ hS dX2_call_109
  have h := im e_13 h
  by_cases e_20 : l1 = 40
  · have h := ip e_20 h
    refine lv_tableIn (off := 86) (tgt := 87) hx hb dX2_call_1 (by rw [e_20]; decide) (by rw [e_20]; decide) (by rw [e_20]; rfl) (by decide) ?_
    refine lv_aload_n hx hb dX2_call_87 rfl (lv_at hl 0 rfl) ?_
    obtain ⟨r_u_21, u_21, h_u_21, h⟩ := bc_of h
    refine kc_X2_comeBack_RX2 X  hS h_u_21 (Nat.le_trans (Nat.le_of_ble_eq_true rfl) hF) (Nat.le_trans (Nat.le_of_ble_eq_true rfl) hL) hl.1 (Nat.le_of_ble_eq_true rfl) dX2_call_88 (fun H locs hS => ?_)
    refine lv_goto (tgt := 109) hx hb dX2_call_91 (by decide) ?_
    obtain ⟨-, rfl⟩ := so9 h
    exact hE _ _ _ _ hS dX2_call_109
  have h := im e_20 h
  refine lv_tableDef (tgt := 94) hx hb dX2_call_1 (by decide) (fun off h1 h2 ho => by
    have hI : (l1).toInt = 37 ∨ (l1).toInt = 38 ∨ (l1).toInt = 39 ∨ (l1).toInt = 40 := by omega
    rcases hI with q | q | q | q
    · exact absurd (Int32.toInt_inj.mp (q.trans (by decide))) e_1
    · exact absurd (Int32.toInt_inj.mp (q.trans (by decide))) e_7
    · exact absurd (Int32.toInt_inj.mp (q.trans (by decide))) e_13
    · exact absurd (Int32.toInt_inj.mp (q.trans (by decide))) e_20) (by decide) ?_
  refine lv_aload_n hx hb dX2_call_94 rfl (lv_at hl 0 rfl) ?_
  refine lv_aload_n hx hb dX2_call_95 rfl (lv_at hl 0 rfl) ?_
  obtain ⟨r_23, u_22, h_u_22, h⟩ := bc_of h
  refine kc_X2_pop_RX2 X  hS h_u_22 (Nat.le_trans (Nat.le_of_ble_eq_true rfl) hF) (Nat.le_trans (Nat.le_of_ble_eq_true rfl) hL) hl.1 (Nat.le_of_ble_eq_true rfl) dX2_call_96 (fun H locs hS => ?_)
  refine lv_l2i (v := r_23.toInt32) hx hb dX2_call_99 rfl ?_
  obtain ⟨u_24, e_u_24, h⟩ := pc_of h
  refine cp_X2_164 X hS e_u_24 dX2_call_100 (fun H locs hS => ?_)
  refine lv_aload_n hx hb dX2_call_103 rfl (lv_at hl 0 rfl) ?_
  refine lv_iconst (v := 5) hx hb dX2_call_104 (by decide) ?_
  refine lv_iload_n hx hb dX2_call_105 rfl (lv_at hl 3 rfl) ?_
  obtain ⟨r_u_25, u_25, h_u_25, h⟩ := bc_of h
  refine kc_X2_stop_RX2 X  hS h_u_25 (Nat.le_trans (Nat.le_of_ble_eq_true rfl) hF) (Nat.le_trans (Nat.le_of_ble_eq_true rfl) hL) hl.1 (Nat.le_of_ble_eq_true rfl) dX2_call_106 (fun H locs hS => ?_)
  obtain ⟨-, rfl⟩ := so9 h
  exact hE _ _ _ _ hS dX2_call_109
def F_X2_call (N : Nat) (l1 : Int32) (l2 : Int32) (l3 : Int32) (u : CSt) : Option (Int32 × CSt) := B_X2_call_0 N l1 l2 l3 u
set_option maxHeartbeats 4000000 in
theorem k_X2_call (l : Launch) (D : va_G) (kA : Nat → ClassId) (V Z : Nat → Nat) (N : Nat) (l1 : Int32) (l2 : Int32) (l3 : Int32) (u : CSt) (sz : Nat) {r : Int32} {w : CSt} (h : F_X2_call N l1 l2 l3 u = some (r, w)) : Met l yX2_call (Cond.code yX2_call cX2_call 6 none :: GW) { frames := 3, cells := 0, slots := 0, locals := 73 } (cPc D kA V Z [.ref (Z 234), .int l1, .int l2, .int l3] u sz) (cQv D kA Z u sz w) 0 0 (va_A (CW kA Z u) sz) := by
  refine Met.ofW (cc := cX2_call) (maxL := 6) (ret := none) (by decide) rfl ?_
  intro p e s m args below meth c s₁ Bd hml hv
  obtain ⟨rfl, hsz, hP, hK, hD0, hE⟩ := hv
  have hts := atoms_spec (ws := Cond.code yX2_call cX2_call 6 none :: GW) Bd.pre
  have hl := lv_entry ([.ref (Z 234), .int l1, .int l2, .int l3]) (n := 6) (Nat.le_of_ble_eq_true rfl)
  rw [lg_entry_eq]
  generalize (lg_sl ([.ref (Z 234), .int l1, .int l2, .int l3]) ++ List.replicate (6 - (lg_sl ([.ref (Z 234), .int l1, .int l2, .int l3])).length) Slot.unset).toArray = ls at hl ⊢
  have hl : lv_has ls 6 [(0, .ref (Z 234)), (1, .int l1), (2, .int l2), (3, .int l3)] := hl
  subst hsz
  have X : CC p s m ([.ref (Z 234), .int l1, .int l2, .int l3]).toArray c cX2_call 6 (Cond.code yX2_call cX2_call 6 none) RX2 D kA V (va_A (CW kA Z u) s.heap.size) := ⟨⟨Bd.exec, Bd.bytes, hml, findClass_of_methodNamed Bd.named, hts⟩, hK, hE, fun q h => Or.inr h⟩
  refine b_X2_call_0 X (cend_v X Bd.returns Bd.notSynchronized) (Nat.le_refl _) (Nat.le_refl _) h  ⟨hP, hD0.self, va_S.rf⟩ (lv_sub hl [0, 1, 2, 3] rfl)
theorem kc_X2_call_RX2 {cc : ByteArray} {pc nL : Nat} {c0 : Cond} {rest : List Value} {l1 : Int32} {l2 : Int32} {l3 : Int32} {u w1 : CSt} {r : Int32} (X : CC p s m args c cc nL c0 RX2 D kA V A)  (hS : CS D kA Z A s u H locs) (h : F_X2_call N l1 l2 l3 u = some (r, w1)) (hF : 3 + 1 ≤ R.frames) (hL : 8 + (6 + 11) + 73 ≤ R.locals) (hl : ls.size = nL) (hc : (rest.map fun v => v.category).sum ≤ 8) (hdg : decode cc pc = .ok (.invokevirtual 205, 3)) (kk : ∀ H locs, CS D kA Z A s w1 H locs → W p l e R s m args below meth c H locs 0 0 Q (F0 m (pc + 3) ls (rest))) : W p l e R s m args below meth c H locs 0 0 Q (F0 m pc ls (.int l3 :: .int l2 :: .int l1 :: .ref (Z 234) :: rest)) :=
  ccall_v (n := 3) X hS (k_X2_call l D kA V Z N l1 l2 l3  u H.size h) (gw_V gw_1596 gw_1598 gs_7_1 gw_15 gw_1599) (by decide +kernel) (va_recv X.2.1 hS.1 (ci := 2) (q0 := 34) rfl (cw_lit rfl)) hF hL rfl hl hc rfl hdg kk
def B_X2_go_128 (N : Nat) (l1 : Int32) (l2 : Int32) (l3 : Int32) (l4 : Int32) (u : CSt) : Option (Int32 × CSt) := if (20 : Int32) ≤ l1 then (if (30 : Int32) ≤ l1 then (if (37 : Int32) ≤ l1 then (bc (F_X2_call N l1 l2 l4 u) fun _ u_4 => some (0, u_4)) else (bc (F_X2_turn N l1 l2 l3 u) fun _ u_5 => some (0, u_5))) else (bc (F_X2_reckon N l1 l2 l3 l4 u) fun _ u_6 => some (0, u_6))) else (bc (F_X2_move N l1 l2 l3 l4 u) fun _ u_7 => some (0, u_7))
set_option maxHeartbeats 4000000 in
theorem b_X2_go_128 {r : Int32} (X : CC p s m args c cX2_go 5 (Cond.code yX2_go cX2_go 5 none) RX2 D kA V A) (hE : CEv p l e R s m args below meth c cX2_go D kA Z A Q w) (hF : 4 ≤ R.frames) (hL : 101 ≤ R.locals) {l1 : Int32} {l2 : Int32} {l3 : Int32} {l4 : Int32} {u : CSt}  (h : B_X2_go_128 N l1 l2 l3 l4 u = some (r, w))  (hS : CS D kA Z A s u H locs) (hl : lv_has ls 5 [(0, .ref (Z 234)), (1, .int l1), (2, .int l2), (3, .int l3), (4, .int l4)]) : W p l e R s m args below meth c H locs 0 0 Q (F0 m 128 ls []) := by
  obtain ⟨⟨hx, hb, hml, hown, hts⟩, hK, hEV, hA⟩ := id X
  have hG : ∀ w ∈ GW, w.before args s = true := fun w h => hts w (List.mem_cons_of_mem _ h)
  unfold B_X2_go_128 at h
  refine lv_iload_n hx hb dX2_go_128 rfl (lv_at hl 1 rfl) ?_
  refine lv_bipush (v := 20) hx hb dX2_go_129 (by decide) ?_
  refine lv_icmp_ge (tgt := 146) hx hb dX2_go_131 (by decide) (fun c_1 => ?_) (fun c_1 => ?_)
  · have h := ip (c_1) h
    refine lv_iload_n hx hb dX2_go_146 rfl (lv_at hl 1 rfl) ?_
    refine lv_bipush (v := 30) hx hb dX2_go_147 (by decide) ?_
    refine lv_icmp_ge (tgt := 164) hx hb dX2_go_149 (by decide) (fun c_2 => ?_) (fun c_2 => ?_)
    · have h := ip (c_2) h
      refine lv_iload_n hx hb dX2_go_164 rfl (lv_at hl 1 rfl) ?_
      refine lv_bipush (v := 37) hx hb dX2_go_165 (by decide) ?_
      refine lv_icmp_ge (tgt := 180) hx hb dX2_go_167 (by decide) (fun c_3 => ?_) (fun c_3 => ?_)
      · have h := ip (c_3) h
        refine lv_aload_n hx hb dX2_go_180 rfl (lv_at hl 0 rfl) ?_
        refine lv_iload_n hx hb dX2_go_181 rfl (lv_at hl 1 rfl) ?_
        refine lv_iload_n hx hb dX2_go_182 rfl (lv_at hl 2 rfl) ?_
        refine lv_iload hx hb dX2_go_183 (lv_at hl 4 rfl) ?_
        obtain ⟨r_u_4, u_4, h_u_4, h⟩ := bc_of h
        refine kc_X2_call_RX2 X  hS h_u_4 (Nat.le_trans (Nat.le_of_ble_eq_true rfl) hF) (Nat.le_trans (Nat.le_of_ble_eq_true rfl) hL) hl.1 (Nat.le_of_ble_eq_true rfl) dX2_go_185 (fun H locs hS => ?_)
        obtain ⟨-, rfl⟩ := so9 h
        exact hE _ _ _ _ hS dX2_go_188
      · have h := im (c_3) h
        refine lv_aload_n hx hb dX2_go_170 rfl (lv_at hl 0 rfl) ?_
        refine lv_iload_n hx hb dX2_go_171 rfl (lv_at hl 1 rfl) ?_
        refine lv_iload_n hx hb dX2_go_172 rfl (lv_at hl 2 rfl) ?_
        refine lv_iload_n hx hb dX2_go_173 rfl (lv_at hl 3 rfl) ?_
        obtain ⟨r_u_5, u_5, h_u_5, h⟩ := bc_of h
        refine kc_X2_turn_RX2 X  hS h_u_5 (Nat.le_trans (Nat.le_of_ble_eq_true rfl) hF) (Nat.le_trans (Nat.le_of_ble_eq_true rfl) hL) hl.1 (Nat.le_of_ble_eq_true rfl) dX2_go_174 (fun H locs hS => ?_)
        refine lv_goto (tgt := 188) hx hb dX2_go_177 (by decide) ?_
        obtain ⟨-, rfl⟩ := so9 h
        exact hE _ _ _ _ hS dX2_go_188
    · have h := im (c_2) h
      refine lv_aload_n hx hb dX2_go_152 rfl (lv_at hl 0 rfl) ?_
      refine lv_iload_n hx hb dX2_go_153 rfl (lv_at hl 1 rfl) ?_
      refine lv_iload_n hx hb dX2_go_154 rfl (lv_at hl 2 rfl) ?_
      refine lv_iload_n hx hb dX2_go_155 rfl (lv_at hl 3 rfl) ?_
      refine lv_iload hx hb dX2_go_156 (lv_at hl 4 rfl) ?_
      obtain ⟨r_u_6, u_6, h_u_6, h⟩ := bc_of h
      refine kc_X2_reckon_RX2 X  hS h_u_6 (Nat.le_trans (Nat.le_of_ble_eq_true rfl) hF) (Nat.le_trans (Nat.le_of_ble_eq_true rfl) hL) hl.1 (Nat.le_of_ble_eq_true rfl) dX2_go_158 (fun H locs hS => ?_)
      refine lv_goto (tgt := 188) hx hb dX2_go_161 (by decide) ?_
      obtain ⟨-, rfl⟩ := so9 h
      exact hE _ _ _ _ hS dX2_go_188
  · have h := im (c_1) h
    refine lv_aload_n hx hb dX2_go_134 rfl (lv_at hl 0 rfl) ?_
    refine lv_iload_n hx hb dX2_go_135 rfl (lv_at hl 1 rfl) ?_
    refine lv_iload_n hx hb dX2_go_136 rfl (lv_at hl 2 rfl) ?_
    refine lv_iload_n hx hb dX2_go_137 rfl (lv_at hl 3 rfl) ?_
    refine lv_iload hx hb dX2_go_138 (lv_at hl 4 rfl) ?_
    obtain ⟨r_u_7, u_7, h_u_7, h⟩ := bc_of h
    refine kc_X2_move_RX2 X  hS h_u_7 (Nat.le_trans (Nat.le_of_ble_eq_true rfl) hF) (Nat.le_trans (Nat.le_of_ble_eq_true rfl) hL) hl.1 (Nat.le_of_ble_eq_true rfl) dX2_go_140 (fun H locs hS => ?_)
    refine lv_goto (tgt := 188) hx hb dX2_go_143 (by decide) ?_
    obtain ⟨-, rfl⟩ := so9 h
    exact hE _ _ _ _ hS dX2_go_188
def B_X2_go_0 (N : Nat) (u : CSt) : Option (Int32 × CSt) := if (cI u 20) < (0 : Int32) then (pc (xI u 25 0) fun u_9 => some (0, u_9)) else (ok (cR u 4 < 2) inferInstance <| if (cI u 20) < (pI u (cR u 4) 13) then (rd (pA u (cR u 4) 11) 3200 (cI u 20) fun v_13 => rd (pA u (cR u 4) 12) 3200 (cI u 20) fun v_15 => rd (pA u (cR u 4) 13) 3200 (cI u 20) fun v_17 => rd (pA u (cR u 4) 14) 3200 (cI u 20) fun v_19 => pc (xI u 20 ((cI u 20) + 1)) fun u_20 => if v_13 < (64 : Int32) then (B_X2_go_128 N v_13 v_15 v_17 v_19 u_20) else (if (cI u_20 24) < (cI u_20 23) then (pc (xI u_20 24 ((cI u_20 24) + 1)) fun u_23 => B_X2_go_128 N (v_13 + (-64)) v_15 v_17 v_19 u_23) else (bc (F_X2_stop N 3 v_19 u_20) fun _ u_24 => some (0, u_24)))) else (pc (xI u 25 0) fun u_25 => some (0, u_25)))
set_option maxHeartbeats 4000000 in
theorem b_X2_go_0 {r : Int32} (X : CC p s m args c cX2_go 5 (Cond.code yX2_go cX2_go 5 none) RX2 D kA V A) (hE : CEv p l e R s m args below meth c cX2_go D kA Z A Q w) (hF : 4 ≤ R.frames) (hL : 101 ≤ R.locals) {u : CSt}  (h : B_X2_go_0 N u = some (r, w))  (hS : CS D kA Z A s u H locs) (hl : lv_has ls 5 [(0, .ref (Z 234))]) : W p l e R s m args below meth c H locs 0 0 Q (F0 m 0 ls []) := by
  obtain ⟨⟨hx, hb, hml, hown, hts⟩, hK, hEV, hA⟩ := id X
  have hG : ∀ w ∈ GW, w.before args s = true := fun w h => hts w (List.mem_cons_of_mem _ h)
  unfold B_X2_go_0 at h
  refine lv_aload_n hx hb dX2_go_0 rfl (lv_at hl 0 rfl) ?_
  refine cg_X2_137 X hS dX2_go_1 ?_
  refine lv_if_lt (tgt := 21) hx hb dX2_go_4 (by decide) (fun c_8 => ?_) (fun c_8 => ?_)
  · have h := ip (c_8) h
    refine lv_aload_n hx hb dX2_go_21 rfl (lv_at hl 0 rfl) ?_
    refine lv_iconst (v := 0) hx hb dX2_go_22 (by decide) ?_
    obtain ⟨u_9, e_u_9, h⟩ := pc_of h
    refine cp_X2_167 X hS e_u_9 (Or.inl rfl) dX2_go_23 (fun H locs hS => ?_)
    obtain ⟨-, rfl⟩ := so9 h
    exact hE _ _ _ _ hS dX2_go_26
  · have h := im (c_8) h
    refine lv_aload_n hx hb dX2_go_7 rfl (lv_at hl 0 rfl) ?_
    refine cg_X2_137 X hS dX2_go_8 ?_
    refine lv_aload_n hx hb dX2_go_11 rfl (lv_at hl 0 rfl) ?_
    refine cg_X2_32 X hS dX2_go_12 ?_
    obtain ⟨z_10, h⟩ := ok_of h
    refine cg_X2_175 X z_10 hS dX2_go_15 ?_
    refine lv_icmp_lt (tgt := 27) hx hb dX2_go_18 (by decide) (fun c_11 => ?_) (fun c_11 => ?_)
    · have h := ip (c_11) h
      refine lv_aload_n hx hb dX2_go_27 rfl (lv_at hl 0 rfl) ?_
      refine cg_X2_32 X hS dX2_go_28 ?_
      refine cg_X2_178 X z_10 hS dX2_go_31 ?_
      refine lv_aload_n hx hb dX2_go_34 rfl (lv_at hl 0 rfl) ?_
      refine cg_X2_137 X hS dX2_go_35 ?_
      obtain ⟨v_13, e_v_13, i_12, h⟩ := rd_of h
      refine ca_p11 X z_10 hS i_12 e_v_13 dX2_go_38 ?_
      refine lv_istore_n (lv' := [(1, .int v_13), (0, .ref (Z 234))]) hx hb dX2_go_39 rfl hl (by decide) rfl (fun ls hl => ?_)
      refine lv_aload_n hx hb dX2_go_40 rfl (lv_at hl 1 rfl) ?_
      refine cg_X2_32 X hS dX2_go_41 ?_
      refine cg_X2_181 X z_10 hS dX2_go_44 ?_
      refine lv_aload_n hx hb dX2_go_47 rfl (lv_at hl 1 rfl) ?_
      refine cg_X2_137 X hS dX2_go_48 ?_
      obtain ⟨v_15, e_v_15, i_14, h⟩ := rd_of h
      refine ca_p12 X z_10 hS i_14 e_v_15 dX2_go_51 ?_
      refine lv_istore_n (lv' := [(2, .int v_15), (1, .int v_13), (0, .ref (Z 234))]) hx hb dX2_go_52 rfl hl (by decide) rfl (fun ls hl => ?_)
      refine lv_aload_n hx hb dX2_go_53 rfl (lv_at hl 2 rfl) ?_
      refine cg_X2_32 X hS dX2_go_54 ?_
      refine cg_X2_184 X z_10 hS dX2_go_57 ?_
      refine lv_aload_n hx hb dX2_go_60 rfl (lv_at hl 2 rfl) ?_
      refine cg_X2_137 X hS dX2_go_61 ?_
      obtain ⟨v_17, e_v_17, i_16, h⟩ := rd_of h
      refine ca_p13 X z_10 hS i_16 e_v_17 dX2_go_64 ?_
      refine lv_istore_n (lv' := [(3, .int v_17), (2, .int v_15), (1, .int v_13), (0, .ref (Z 234))]) hx hb dX2_go_65 rfl hl (by decide) rfl (fun ls hl => ?_)
      refine lv_aload_n hx hb dX2_go_66 rfl (lv_at hl 3 rfl) ?_
      refine cg_X2_32 X hS dX2_go_67 ?_
      refine cg_X2_187 X z_10 hS dX2_go_70 ?_
      refine lv_aload_n hx hb dX2_go_73 rfl (lv_at hl 3 rfl) ?_
      refine cg_X2_137 X hS dX2_go_74 ?_
      obtain ⟨v_19, e_v_19, i_18, h⟩ := rd_of h
      refine ca_p14 X z_10 hS i_18 e_v_19 dX2_go_77 ?_
      refine lv_istore (lv' := [(4, .int v_19), (3, .int v_17), (2, .int v_15), (1, .int v_13), (0, .ref (Z 234))]) hx hb dX2_go_78 hl (by decide) rfl (fun ls hl => ?_)
      refine lv_aload_n hx hb dX2_go_80 rfl (lv_at hl 4 rfl) ?_
      refine lv_dup hx hb dX2_go_81 rfl ?_
      refine cg_X2_137 X hS dX2_go_82 ?_
      refine lv_iconst (v := 1) hx hb dX2_go_85 (by decide) ?_
      refine lv_iadd hx hb dX2_go_86 ?_
      obtain ⟨u_20, e_u_20, h⟩ := pc_of h
      refine cp_X2_137 X hS e_u_20 dX2_go_87 (fun H locs hS => ?_)
      refine lv_iload_n hx hb dX2_go_90 rfl (lv_at hl 3 rfl) ?_
      refine lv_bipush (v := 64) hx hb dX2_go_91 (by decide) ?_
      refine lv_icmp_lt (tgt := 128) hx hb dX2_go_93 (by decide) (fun c_21 => ?_) (fun c_21 => ?_)
      · have h := ip (c_21) h
        exact b_X2_go_128 X hE  hF hL  h  hS (lv_sub hl [4, 3, 2, 1, 0] rfl)
      · have h := im (c_21) h
        refine lv_aload_n hx hb dX2_go_96 rfl (lv_at hl 4 rfl) ?_
        refine cg_X2_155 X hS dX2_go_97 ?_
        refine lv_aload_n hx hb dX2_go_100 rfl (lv_at hl 4 rfl) ?_
        refine cg_X2_140 X hS dX2_go_101 ?_
        refine lv_icmp_lt (tgt := 115) hx hb dX2_go_104 (by decide) (fun c_22 => ?_) (fun c_22 => ?_)
        · have h := ip (c_22) h
          refine lv_aload_n hx hb dX2_go_115 rfl (lv_at hl 4 rfl) ?_
          refine lv_dup hx hb dX2_go_116 rfl ?_
          refine cg_X2_155 X hS dX2_go_117 ?_
          refine lv_iconst (v := 1) hx hb dX2_go_120 (by decide) ?_
          refine lv_iadd hx hb dX2_go_121 ?_
          obtain ⟨u_23, e_u_23, h⟩ := pc_of h
          refine cp_X2_155 X hS e_u_23 dX2_go_122 (fun H locs hS => ?_)
          refine lv_iinc (v := v_13 + (-64)) (lv' := [(1, .int (v_13 + (-64))), (4, .int v_19), (3, .int v_17), (2, .int v_15), (0, .ref (Z 234))]) hx hb dX2_go_125 hl (k := 3) rfl rfl (by decide) rfl (fun ls hl => ?_)
          exact b_X2_go_128 X hE  hF hL  h  hS (lv_sub hl [4, 0, 3, 2, 1] rfl)
        · have h := im (c_22) h
          refine lv_aload_n hx hb dX2_go_107 rfl (lv_at hl 4 rfl) ?_
          refine lv_iconst (v := 3) hx hb dX2_go_108 (by decide) ?_
          refine lv_iload hx hb dX2_go_109 (lv_at hl 0 rfl) ?_
          obtain ⟨r_u_24, u_24, h_u_24, h⟩ := bc_of h
          refine kc_X2_stop_RX2 X  hS h_u_24 (Nat.le_trans (Nat.le_of_ble_eq_true rfl) hF) (Nat.le_trans (Nat.le_of_ble_eq_true rfl) hL) hl.1 (Nat.le_of_ble_eq_true rfl) dX2_go_111 (fun H locs hS => ?_)
          obtain ⟨-, rfl⟩ := so9 h
          exact hE _ _ _ _ hS dX2_go_114
    · have h := im (c_11) h
      refine lv_aload_n hx hb dX2_go_21 rfl (lv_at hl 0 rfl) ?_
      refine lv_iconst (v := 0) hx hb dX2_go_22 (by decide) ?_
      obtain ⟨u_25, e_u_25, h⟩ := pc_of h
      refine cp_X2_167 X hS e_u_25 (Or.inl rfl) dX2_go_23 (fun H locs hS => ?_)
      obtain ⟨-, rfl⟩ := so9 h
      exact hE _ _ _ _ hS dX2_go_26
def F_X2_go (N : Nat) (u : CSt) : Option (Int32 × CSt) := B_X2_go_0 N u
set_option maxHeartbeats 4000000 in
theorem k_X2_go (l : Launch) (D : va_G) (kA : Nat → ClassId) (V Z : Nat → Nat) (N : Nat) (u : CSt) (sz : Nat) {r : Int32} {w : CSt} (h : F_X2_go N u = some (r, w)) : Met l yX2_go (Cond.code yX2_go cX2_go 5 none :: GW) { frames := 4, cells := 0, slots := 0, locals := 101 } (cPc D kA V Z [.ref (Z 234)] u sz) (cQv D kA Z u sz w) 0 0 (va_A (CW kA Z u) sz) := by
  refine Met.ofW (cc := cX2_go) (maxL := 5) (ret := none) (by decide) rfl ?_
  intro p e s m args below meth c s₁ Bd hml hv
  obtain ⟨rfl, hsz, hP, hK, hD0, hE⟩ := hv
  have hts := atoms_spec (ws := Cond.code yX2_go cX2_go 5 none :: GW) Bd.pre
  have hl := lv_entry ([.ref (Z 234)]) (n := 5) (Nat.le_of_ble_eq_true rfl)
  rw [lg_entry_eq]
  generalize (lg_sl ([.ref (Z 234)]) ++ List.replicate (5 - (lg_sl ([.ref (Z 234)])).length) Slot.unset).toArray = ls at hl ⊢
  have hl : lv_has ls 5 [(0, .ref (Z 234))] := hl
  subst hsz
  have X : CC p s m ([.ref (Z 234)]).toArray c cX2_go 5 (Cond.code yX2_go cX2_go 5 none) RX2 D kA V (va_A (CW kA Z u) s.heap.size) := ⟨⟨Bd.exec, Bd.bytes, hml, findClass_of_methodNamed Bd.named, hts⟩, hK, hE, fun q h => Or.inr h⟩
  refine b_X2_go_0 X (cend_v X Bd.returns Bd.notSynchronized) (Nat.le_refl _) (Nat.le_refl _) h  ⟨hP, hD0.self, va_S.rf⟩ (lv_sub hl [0] rfl)
theorem kc_X2_go_RX2 {cc : ByteArray} {pc nL : Nat} {c0 : Cond} {rest : List Value} {u w1 : CSt} {r : Int32} (X : CC p s m args c cc nL c0 RX2 D kA V A)  (hS : CS D kA Z A s u H locs) (h : F_X2_go N u = some (r, w1)) (hF : 4 + 1 ≤ R.frames) (hL : 8 + (5 + 11) + 101 ≤ R.locals) (hl : ls.size = nL) (hc : (rest.map fun v => v.category).sum ≤ 8) (hdg : decode cc pc = .ok (.invokevirtual 172, 3)) (kk : ∀ H locs, CS D kA Z A s w1 H locs → W p l e R s m args below meth c H locs 0 0 Q (F0 m (pc + 3) ls (rest))) : W p l e R s m args below meth c H locs 0 0 Q (F0 m pc ls (.ref (Z 234) :: rest)) :=
  ccall_v (n := 0) X hS (k_X2_go l D kA V Z N   u H.size h) (gw_V gw_1503 gw_1505 gs_6_7 gw_15 gw_1506) (by decide +kernel) (va_recv X.2.1 hS.1 (ci := 2) (q0 := 34) rfl (cw_lit rfl)) hF hL rfl hl hc rfl hdg kk
def B_X2_run_68 (N : Nat) (R_68 : Int32 × CSt → Option (Int32 × CSt)) (l5 : Int32) (u : CSt) : Option (Int32 × CSt) := if (50000000 : Int32) ≤ l5 then (some (0, u)) else (if (cI u 25) = (0 : Int32) then (some (0, u)) else (bc (F_X2_go N u) fun _ u_3 => R_68 ((l5 + 1), u_3)))
set_option maxHeartbeats 4000000 in
theorem b_X2_run_68 {r : Int32} (X : CC p s m args c cX2_run 6 (Cond.code yX2_run cX2_run 6 none) RX2 D kA V A) (hE : CEv p l e R s m args below meth c cX2_run D kA Z A Q w) (hF : 5 ≤ R.frames) (hL : 125 ≤ R.locals) {R_68 : Int32 × CSt → Option (Int32 × CSt)} {l5 : Int32} {u : CSt} (hR_68 : ∀ (l5 : Int32) (u : CSt), R_68 (l5, u) = some (r, w) → ∀ (H : Heap) (locs : List Loc) (ls : Array Slot), CS D kA Z A s u H locs → lv_has ls 6 [(0, .ref (Z 234)), (5, .int l5)] → W p l e R s m args below meth c H locs 0 0 Q (F0 m 68 ls [])) (h : B_X2_run_68 N R_68 l5 u = some (r, w))  (hS : CS D kA Z A s u H locs) (hl : lv_has ls 6 [(0, .ref (Z 234)), (5, .int l5)]) : W p l e R s m args below meth c H locs 0 0 Q (F0 m 68 ls []) := by
  obtain ⟨⟨hx, hb, hml, hown, hts⟩, hK, hEV, hA⟩ := id X
  have hG : ∀ w ∈ GW, w.before args s = true := fun w h => hts w (List.mem_cons_of_mem _ h)
  unfold B_X2_run_68 at h
  refine lv_iload hx hb dX2_run_68 (lv_at hl 1 rfl) ?_
  refine lv_ldc (v := 50000000) hx hb hown (hG _ gw_1502) dX2_run_70 ?_
  refine lv_icmp_ge (tgt := 92) hx hb dX2_run_72 (by decide) (fun c_1 => ?_) (fun c_1 => ?_)
  · have h := ip (c_1) h
    obtain ⟨-, rfl⟩ := so9 h
    exact hE _ _ _ _ hS dX2_run_92
  · have h := im (c_1) h
    refine lv_aload_n hx hb dX2_run_75 rfl (lv_at hl 0 rfl) ?_
    refine cg_X2_167 X hS dX2_run_76 ?_
    refine lv_if_eq (tgt := 92) hx hb dX2_run_79 (by decide) (fun c_2 => ?_) (fun c_2 => ?_)
    · have h := ip (c_2) h
      obtain ⟨-, rfl⟩ := so9 h
      exact hE _ _ _ _ hS dX2_run_92
    · have h := im (c_2) h
      refine lv_aload_n hx hb dX2_run_82 rfl (lv_at hl 0 rfl) ?_
      obtain ⟨r_u_3, u_3, h_u_3, h⟩ := bc_of h
      refine kc_X2_go_RX2 X  hS h_u_3 (Nat.le_trans (Nat.le_of_ble_eq_true rfl) hF) (Nat.le_trans (Nat.le_of_ble_eq_true rfl) hL) hl.1 (Nat.le_of_ble_eq_true rfl) dX2_run_83 (fun H locs hS => ?_)
      refine lv_iinc (v := l5 + 1) (lv' := [(5, .int (l5 + 1)), (0, .ref (Z 234))]) hx hb dX2_run_86 hl (k := 1) rfl rfl (by decide) rfl (fun ls hl => ?_)
      refine lv_goto (tgt := 68) hx hb dX2_run_89 (by decide) ?_
      exact hR_68 _ _  h _ _ _ hS (lv_sub hl [1, 0] rfl)
def LP_X2_run_68 (N : Nat) : Nat → Int32 × CSt → Option (Int32 × CSt) := lp (fun R a => B_X2_run_68 N R a.1 a.2)
theorem bl_X2_run_68 {r : Int32} (X : CC p s m args c cX2_run 6 (Cond.code yX2_run cX2_run 6 none) RX2 D kA V A) (hE : CEv p l e R s m args below meth c cX2_run D kA Z A Q w) (hF : 5 ≤ R.frames) (hL : 125 ≤ R.locals)  : ∀ (n : Nat) (l5 : Int32) (u : CSt), LP_X2_run_68 N n (l5, u) = some (r, w) → ∀ (H : Heap) (locs : List Loc) (ls : Array Slot), CS D kA Z A s u H locs → lv_has ls 6 [(0, .ref (Z 234)), (5, .int l5)] → W p l e R s m args below meth c H locs 0 0 Q (F0 m 68 ls []) := by
  intro n
  induction n with
  | zero => intro l5 u h; exact nomatch h
  | succ n ih => intro l5 u h H locs ls hS hl; exact b_X2_run_68 (N := N) (R_68 := LP_X2_run_68 N n) X hE  hF hL  ih h  hS hl
def B_X2_run_0 (N : Nat) (l1 : Nat) (l2 : Int32) (l3 : Int32) (l4 : Int32) (u : CSt) : Option (Int32 × CSt) := pc (xR u 4 l1) fun u_4 => pc (xI u_4 20 l2) fun u_5 => pc (xI u_5 23 l3) fun u_6 => pc (xI u_6 22 l4) fun u_7 => pc (xI u_7 18 2000) fun u_8 => pc (xI u_8 19 2000) fun u_9 => pc (xI u_9 21 0) fun u_10 => pc (xI u_10 24 0) fun u_11 => pc (xI u_11 26 0) fun u_12 => pc (xI u_12 27 0) fun u_13 => pc (xI u_13 28 0) fun u_14 => pc (xI u_14 25 1) fun u_15 => LP_X2_run_68 N N (0, u_15)
set_option maxHeartbeats 4000000 in
theorem b_X2_run_0 {r : Int32} (X : CC p s m args c cX2_run 6 (Cond.code yX2_run cX2_run 6 none) RX2 D kA V A) (hE : CEv p l e R s m args below meth c cX2_run D kA Z A Q w) (hF : 5 ≤ R.frames) (hL : 125 ≤ R.locals) {l1 : Nat} {l2 : Int32} {l3 : Int32} {l4 : Int32} {u : CSt}  (h : B_X2_run_0 N l1 l2 l3 l4 u = some (r, w)) (h_l1 : l1 < 2) (hS : CS D kA Z A s u H locs) (hl : lv_has ls 6 [(0, .ref (Z 234)), (1, .ref (Z (300 + 50 * l1))), (2, .int l2), (3, .int l3), (4, .int l4)]) : W p l e R s m args below meth c H locs 0 0 Q (F0 m 0 ls []) := by
  obtain ⟨⟨hx, hb, hml, hown, hts⟩, hK, hEV, hA⟩ := id X
  have hG : ∀ w ∈ GW, w.before args s = true := fun w h => hts w (List.mem_cons_of_mem _ h)
  unfold B_X2_run_0 at h
  refine lv_aload_n hx hb dX2_run_0 rfl (lv_at hl 0 rfl) ?_
  refine lv_aload_n hx hb dX2_run_1 rfl (lv_at hl 1 rfl) ?_
  obtain ⟨u_4, e_u_4, h⟩ := pc_of h
  refine cp_X2_32 X hS e_u_4 dX2_run_2 (fun H locs hS => ?_)
  refine lv_aload_n hx hb dX2_run_5 rfl (lv_at hl 0 rfl) ?_
  refine lv_iload_n hx hb dX2_run_6 rfl (lv_at hl 2 rfl) ?_
  obtain ⟨u_5, e_u_5, h⟩ := pc_of h
  refine cp_X2_137 X hS e_u_5 dX2_run_7 (fun H locs hS => ?_)
  refine lv_aload_n hx hb dX2_run_10 rfl (lv_at hl 0 rfl) ?_
  refine lv_iload_n hx hb dX2_run_11 rfl (lv_at hl 3 rfl) ?_
  obtain ⟨u_6, e_u_6, h⟩ := pc_of h
  refine cp_X2_140 X hS e_u_6 dX2_run_12 (fun H locs hS => ?_)
  refine lv_aload_n hx hb dX2_run_15 rfl (lv_at hl 0 rfl) ?_
  refine lv_iload hx hb dX2_run_16 (lv_at hl 4 rfl) ?_
  obtain ⟨u_7, e_u_7, h⟩ := pc_of h
  refine cp_X2_143 X hS e_u_7 dX2_run_18 (fun H locs hS => ?_)
  refine lv_aload_n hx hb dX2_run_21 rfl (lv_at hl 0 rfl) ?_
  refine lv_sipush (v := 2000) hx hb dX2_run_22 (by decide) ?_
  obtain ⟨u_8, e_u_8, h⟩ := pc_of h
  refine cp_X2_146 X hS e_u_8 dX2_run_25 (fun H locs hS => ?_)
  refine lv_aload_n hx hb dX2_run_28 rfl (lv_at hl 0 rfl) ?_
  refine lv_sipush (v := 2000) hx hb dX2_run_29 (by decide) ?_
  obtain ⟨u_9, e_u_9, h⟩ := pc_of h
  refine cp_X2_149 X hS e_u_9 dX2_run_32 (fun H locs hS => ?_)
  refine lv_aload_n hx hb dX2_run_35 rfl (lv_at hl 0 rfl) ?_
  refine lv_iconst (v := 0) hx hb dX2_run_36 (by decide) ?_
  obtain ⟨u_10, e_u_10, h⟩ := pc_of h
  refine cp_X2_152 X hS e_u_10 dX2_run_37 (fun H locs hS => ?_)
  refine lv_aload_n hx hb dX2_run_40 rfl (lv_at hl 0 rfl) ?_
  refine lv_iconst (v := 0) hx hb dX2_run_41 (by decide) ?_
  obtain ⟨u_11, e_u_11, h⟩ := pc_of h
  refine cp_X2_155 X hS e_u_11 dX2_run_42 (fun H locs hS => ?_)
  refine lv_aload_n hx hb dX2_run_45 rfl (lv_at hl 0 rfl) ?_
  refine lv_iconst (v := 0) hx hb dX2_run_46 (by decide) ?_
  obtain ⟨u_12, e_u_12, h⟩ := pc_of h
  refine cp_X2_158 X hS e_u_12 dX2_run_47 (fun H locs hS => ?_)
  refine lv_aload_n hx hb dX2_run_50 rfl (lv_at hl 0 rfl) ?_
  refine lv_iconst (v := 0) hx hb dX2_run_51 (by decide) ?_
  obtain ⟨u_13, e_u_13, h⟩ := pc_of h
  refine cp_X2_161 X hS e_u_13 dX2_run_52 (fun H locs hS => ?_)
  refine lv_aload_n hx hb dX2_run_55 rfl (lv_at hl 0 rfl) ?_
  refine lv_iconst (v := 0) hx hb dX2_run_56 (by decide) ?_
  obtain ⟨u_14, e_u_14, h⟩ := pc_of h
  refine cp_X2_164 X hS e_u_14 dX2_run_57 (fun H locs hS => ?_)
  refine lv_aload_n hx hb dX2_run_60 rfl (lv_at hl 0 rfl) ?_
  refine lv_iconst (v := 1) hx hb dX2_run_61 (by decide) ?_
  obtain ⟨u_15, e_u_15, h⟩ := pc_of h
  refine cp_X2_167 X hS e_u_15 (Or.inr rfl) dX2_run_62 (fun H locs hS => ?_)
  refine lv_iconst (v := 0) hx hb dX2_run_65 (by decide) ?_
  refine lv_istore (lv' := [(5, .int 0), (0, .ref (Z 234)), (1, .ref (Z (300 + 50 * l1))), (2, .int l2), (3, .int l3), (4, .int l4)]) hx hb dX2_run_66 hl (by decide) rfl (fun ls hl => ?_)
  exact bl_X2_run_68 X hE  hF hL  _ _ _  h _ _ _ hS (lv_sub hl [1, 0] rfl)
def F_X2_run (N : Nat) (l1 : Nat) (l2 : Int32) (l3 : Int32) (l4 : Int32) (u : CSt) : Option (Int32 × CSt) := B_X2_run_0 N l1 l2 l3 l4 u
set_option maxHeartbeats 4000000 in
theorem k_X2_run (l : Launch) (D : va_G) (kA : Nat → ClassId) (V Z : Nat → Nat) (N : Nat) (l1 : Nat) (l2 : Int32) (l3 : Int32) (l4 : Int32) (h_l1 : l1 < 2) (u : CSt) (sz : Nat) {r : Int32} {w : CSt} (h : F_X2_run N l1 l2 l3 l4 u = some (r, w)) : Met l yX2_run (Cond.code yX2_run cX2_run 6 none :: GW) { frames := 5, cells := 0, slots := 0, locals := 125 } (cPc D kA V Z [.ref (Z 234), .ref (Z (300 + 50 * l1)), .int l2, .int l3, .int l4] u sz) (cQv D kA Z u sz w) 0 0 (va_A (CW kA Z u) sz) := by
  refine Met.ofW (cc := cX2_run) (maxL := 6) (ret := none) (by decide) rfl ?_
  intro p e s m args below meth c s₁ Bd hml hv
  obtain ⟨rfl, hsz, hP, hK, hD0, hE⟩ := hv
  have hts := atoms_spec (ws := Cond.code yX2_run cX2_run 6 none :: GW) Bd.pre
  have hl := lv_entry ([.ref (Z 234), .ref (Z (300 + 50 * l1)), .int l2, .int l3, .int l4]) (n := 6) (Nat.le_of_ble_eq_true rfl)
  rw [lg_entry_eq]
  generalize (lg_sl ([.ref (Z 234), .ref (Z (300 + 50 * l1)), .int l2, .int l3, .int l4]) ++ List.replicate (6 - (lg_sl ([.ref (Z 234), .ref (Z (300 + 50 * l1)), .int l2, .int l3, .int l4])).length) Slot.unset).toArray = ls at hl ⊢
  have hl : lv_has ls 6 [(0, .ref (Z 234)), (1, .ref (Z (300 + 50 * l1))), (2, .int l2), (3, .int l3), (4, .int l4)] := hl
  subst hsz
  have X : CC p s m ([.ref (Z 234), .ref (Z (300 + 50 * l1)), .int l2, .int l3, .int l4]).toArray c cX2_run 6 (Cond.code yX2_run cX2_run 6 none) RX2 D kA V (va_A (CW kA Z u) s.heap.size) := ⟨⟨Bd.exec, Bd.bytes, hml, findClass_of_methodNamed Bd.named, hts⟩, hK, hE, fun q h => Or.inr h⟩
  refine b_X2_run_0 X (cend_v X Bd.returns Bd.notSynchronized) (Nat.le_refl _) (Nat.le_refl _) h h_l1 ⟨hP, hD0.self, va_S.rf⟩ (lv_sub hl [0, 1, 2, 3, 4] rfl)
theorem kc_X2_run_RX11 {cc : ByteArray} {pc nL : Nat} {c0 : Cond} {rest : List Value} {l1 : Nat} {l2 : Int32} {l3 : Int32} {l4 : Int32} {u w1 : CSt} {r : Int32} (X : CC p s m args c cc nL c0 RX11 D kA V A) (h_l1 : l1 < 2) (hS : CS D kA Z A s u H locs) (h : F_X2_run N l1 l2 l3 l4 u = some (r, w1)) (hF : 5 + 1 ≤ R.frames) (hL : 8 + (6 + 11) + 125 ≤ R.locals) (hl : ls.size = nL) (hc : (rest.map fun v => v.category).sum ≤ 8) (hdg : decode cc pc = .ok (.invokevirtual 375, 3)) (kk : ∀ H locs, CS D kA Z A s w1 H locs → W p l e R s m args below meth c H locs 0 0 Q (F0 m (pc + 3) ls (rest))) : W p l e R s m args below meth c H locs 0 0 Q (F0 m pc ls (.int l4 :: .int l3 :: .int l2 :: .ref (Z (300 + 50 * l1)) :: .ref (Z 234) :: rest)) :=
  ccall_v (n := 4) X hS (k_X2_run l D kA V Z N l1 l2 l3 l4 h_l1 u H.size h) (gw_V gw_1498 gw_1499 gw_1500 gw_15 gw_1501) (by decide +kernel) (va_recv X.2.1 hS.1 (ci := 2) (q0 := 34) rfl (cw_lit rfl)) hF hL rfl hl hc rfl hdg kk
def B_X7_note_0 (N : Nat) (l0 : Nat) (l2 : Int32) (u : CSt) : Option (Int32 × CSt) := pc (xtI u l0 4 ((tI u l0 4) + 1)) fun u_1 => pc (xtI u_1 l0 5 (cI u_1 24)) fun u_2 => if (cI u_2 26) = (0 : Int32) then (some (0, u_2)) else (pc (xtI u_2 l0 3 1) fun u_4 => pc (xtI u_4 l0 6 (cI u_4 26)) fun u_5 => pc (xtI u_5 l0 7 (cI u_5 27)) fun u_6 => pc (xtI u_6 l0 8 l2) fun u_7 => pc (xtI u_7 l0 9 (cI u_7 28)) fun u_8 => some (0, u_8))
set_option maxHeartbeats 4000000 in
theorem b_X7_note_0 {r : Int32} (X : CC p s m args c cX7_note 3 (Cond.code yX7_note cX7_note 3 none) RX7 D kA V A) (hE : CEv p l e R s m args below meth c cX7_note D kA Z A Q w) (hF : 0 ≤ R.frames) (hL : 0 ≤ R.locals) {l0 : Nat} {l2 : Int32} {u : CSt}  (h : B_X7_note_0 N l0 l2 u = some (r, w)) (h_l0 : l0 < 16) (hS : CS D kA Z A s u H locs) (hl : lv_has ls 3 [(0, .ref (Z (400 + l0))), (1, .ref (Z 234)), (2, .int l2)]) : W p l e R s m args below meth c H locs 0 0 Q (F0 m 0 ls []) := by
  obtain ⟨⟨hx, hb, hml, hown, hts⟩, hK, hEV, hA⟩ := id X
  have hG : ∀ w ∈ GW, w.before args s = true := fun w h => hts w (List.mem_cons_of_mem _ h)
  unfold B_X7_note_0 at h
  refine lv_aload_n hx hb dX7_note_0 rfl (lv_at hl 0 rfl) ?_
  refine lv_dup hx hb dX7_note_1 rfl ?_
  refine cg_X7_23 X h_l0 hS dX7_note_2 ?_
  refine lv_iconst (v := 1) hx hb dX7_note_5 (by decide) ?_
  refine lv_iadd hx hb dX7_note_6 ?_
  obtain ⟨u_1, e_u_1, h⟩ := pc_of h
  refine cp_X7_23 X h_l0 hS e_u_1 dX7_note_7 (fun H locs hS => ?_)
  refine lv_aload_n hx hb dX7_note_10 rfl (lv_at hl 0 rfl) ?_
  refine lv_aload_n hx hb dX7_note_11 rfl (lv_at hl 1 rfl) ?_
  refine cg_X7_47 X hS dX7_note_12 ?_
  obtain ⟨u_2, e_u_2, h⟩ := pc_of h
  refine cp_X7_26 X h_l0 hS e_u_2 dX7_note_15 (fun H locs hS => ?_)
  refine lv_aload_n hx hb dX7_note_18 rfl (lv_at hl 1 rfl) ?_
  refine cg_X7_50 X hS dX7_note_19 ?_
  refine lv_if_eq (tgt := 59) hx hb dX7_note_22 (by decide) (fun c_3 => ?_) (fun c_3 => ?_)
  · have h := ip (c_3) h
    obtain ⟨-, rfl⟩ := so9 h
    exact hE _ _ _ _ hS dX7_note_59
  · have h := im (c_3) h
    refine lv_aload_n hx hb dX7_note_25 rfl (lv_at hl 0 rfl) ?_
    refine lv_iconst (v := 1) hx hb dX7_note_26 (by decide) ?_
    obtain ⟨u_4, e_u_4, h⟩ := pc_of h
    refine cp_X7_19 X h_l0 hS e_u_4 (Or.inr rfl) dX7_note_27 (fun H locs hS => ?_)
    refine lv_aload_n hx hb dX7_note_30 rfl (lv_at hl 0 rfl) ?_
    refine lv_aload_n hx hb dX7_note_31 rfl (lv_at hl 1 rfl) ?_
    refine cg_X7_50 X hS dX7_note_32 ?_
    obtain ⟨u_5, e_u_5, h⟩ := pc_of h
    refine cp_X7_29 X h_l0 hS e_u_5 dX7_note_35 (fun H locs hS => ?_)
    refine lv_aload_n hx hb dX7_note_38 rfl (lv_at hl 0 rfl) ?_
    refine lv_aload_n hx hb dX7_note_39 rfl (lv_at hl 1 rfl) ?_
    refine cg_X7_51 X hS dX7_note_40 ?_
    obtain ⟨u_6, e_u_6, h⟩ := pc_of h
    refine cp_X7_32 X h_l0 hS e_u_6 dX7_note_43 (fun H locs hS => ?_)
    refine lv_aload_n hx hb dX7_note_46 rfl (lv_at hl 0 rfl) ?_
    refine lv_iload_n hx hb dX7_note_47 rfl (lv_at hl 2 rfl) ?_
    obtain ⟨u_7, e_u_7, h⟩ := pc_of h
    refine cp_X7_35 X h_l0 hS e_u_7 dX7_note_48 (fun H locs hS => ?_)
    refine lv_aload_n hx hb dX7_note_51 rfl (lv_at hl 0 rfl) ?_
    refine lv_aload_n hx hb dX7_note_52 rfl (lv_at hl 1 rfl) ?_
    refine cg_X7_52 X hS dX7_note_53 ?_
    obtain ⟨u_8, e_u_8, h⟩ := pc_of h
    refine cp_X7_38 X h_l0 hS e_u_8 dX7_note_56 (fun H locs hS => ?_)
    obtain ⟨-, rfl⟩ := so9 h
    exact hE _ _ _ _ hS dX7_note_59
def F_X7_note (N : Nat) (l0 : Nat) (l2 : Int32) (u : CSt) : Option (Int32 × CSt) := B_X7_note_0 N l0 l2 u
set_option maxHeartbeats 4000000 in
theorem k_X7_note (l : Launch) (D : va_G) (kA : Nat → ClassId) (V Z : Nat → Nat) (N : Nat) (l0 : Nat) (l2 : Int32) (h_l0 : l0 < 16) (u : CSt) (sz : Nat) {r : Int32} {w : CSt} (h : F_X7_note N l0 l2 u = some (r, w)) : Met l yX7_note (Cond.code yX7_note cX7_note 3 none :: GW) { frames := 0, cells := 0, slots := 0, locals := 0 } (cPc D kA V Z [.ref (Z (400 + l0)), .ref (Z 234), .int l2] u sz) (cQv D kA Z u sz w) 0 0 (va_A (CW kA Z u) sz) := by
  refine Met.ofW (cc := cX7_note) (maxL := 3) (ret := none) (by decide) rfl ?_
  intro p e s m args below meth c s₁ Bd hml hv
  obtain ⟨rfl, hsz, hP, hK, hD0, hE⟩ := hv
  have hts := atoms_spec (ws := Cond.code yX7_note cX7_note 3 none :: GW) Bd.pre
  have hl := lv_entry ([.ref (Z (400 + l0)), .ref (Z 234), .int l2]) (n := 3) (Nat.le_of_ble_eq_true rfl)
  rw [lg_entry_eq]
  generalize (lg_sl ([.ref (Z (400 + l0)), .ref (Z 234), .int l2]) ++ List.replicate (3 - (lg_sl ([.ref (Z (400 + l0)), .ref (Z 234), .int l2])).length) Slot.unset).toArray = ls at hl ⊢
  have hl : lv_has ls 3 [(0, .ref (Z (400 + l0))), (1, .ref (Z 234)), (2, .int l2)] := hl
  subst hsz
  have X : CC p s m ([.ref (Z (400 + l0)), .ref (Z 234), .int l2]).toArray c cX7_note 3 (Cond.code yX7_note cX7_note 3 none) RX7 D kA V (va_A (CW kA Z u) s.heap.size) := ⟨⟨Bd.exec, Bd.bytes, hml, findClass_of_methodNamed Bd.named, hts⟩, hK, hE, fun q h => Or.inr h⟩
  refine b_X7_note_0 X (cend_v X Bd.returns Bd.notSynchronized) (Nat.le_refl _) (Nat.le_refl _) h h_l0 ⟨hP, hD0.self, va_S.rf⟩ (lv_sub hl [0, 1, 2] rfl)
theorem kc_X7_note_RX11 {cc : ByteArray} {pc nL : Nat} {c0 : Cond} {rest : List Value} {l0 : Nat} {l2 : Int32} {u w1 : CSt} {r : Int32} (X : CC p s m args c cc nL c0 RX11 D kA V A) (h_l0 : l0 < 16) (hS : CS D kA Z A s u H locs) (h : F_X7_note N l0 l2 u = some (r, w1)) (hF : 0 + 1 ≤ R.frames) (hL : 8 + (3 + 11) + 0 ≤ R.locals) (hl : ls.size = nL) (hc : (rest.map fun v => v.category).sum ≤ 8) (hdg : decode cc pc = .ok (.invokevirtual 379, 3)) (kk : ∀ H locs, CS D kA Z A s w1 H locs → W p l e R s m args below meth c H locs 0 0 Q (F0 m (pc + 3) ls (rest))) : W p l e R s m args below meth c H locs 0 0 Q (F0 m pc ls (.int l2 :: .ref (Z 234) :: .ref (Z (400 + l0)) :: rest)) :=
  ccall_v (n := 2) X hS (k_X7_note l D kA V Z N l0 l2 h_l0 u H.size h) (gw_V gw_1616 gw_1617 gw_1618 gw_12 gw_1619) (by decide +kernel) (va_recv X.2.1 hS.1 (ci := 6) (q0 := 74 + l0) rfl (cw_task h_l0)) hF hL rfl hl hc rfl hdg kk
end C36machine
