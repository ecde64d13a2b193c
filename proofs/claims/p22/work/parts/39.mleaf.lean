abbrev cX3_newName : ByteArray := prog_5_method_3_code
def yX3_newName : MethodName := ⟨RX3, "newName", "(I)LSoftController$Name;"⟩
theorem dX3_newName_0 : decode cX3_newName 0 = .ok (.aload_n 0, 1) := by decide +kernel
theorem dX3_newName_1 : decode cX3_newName 1 = .ok (.getfield 15, 3) := by decide +kernel
theorem dX3_newName_4 : decode cX3_newName 4 = .ok (.invokevirtual 96, 3) := by decide +kernel
theorem dX3_newName_7 : decode cX3_newName 7 = .ok (.istore_n 2, 1) := by decide +kernel
theorem dX3_newName_8 : decode cX3_newName 8 = .ok (.aload_n 0, 1) := by decide +kernel
theorem dX3_newName_9 : decode cX3_newName 9 = .ok (.getfield 15, 3) := by decide +kernel
theorem dX3_newName_12 : decode cX3_newName 12 = .ok (.invokevirtual 99, 3) := by decide +kernel
theorem dX3_newName_15 : decode cX3_newName 15 = .ok (.lstore_n 3, 1) := by decide +kernel
theorem dX3_newName_16 : decode cX3_newName 16 = .ok (.aload_n 0, 1) := by decide +kernel
theorem dX3_newName_17 : decode cX3_newName 17 = .ok (.getfield 15, 3) := by decide +kernel
theorem dX3_newName_20 : decode cX3_newName 20 = .ok (.invokevirtual 103, 3) := by decide +kernel
theorem dX3_newName_23 : decode cX3_newName 23 = .ok (.istore 5, 2) := by decide +kernel
theorem dX3_newName_25 : decode cX3_newName 25 = .ok (.iload_n 1, 1) := by decide +kernel
theorem dX3_newName_26 : decode cX3_newName 26 = .ok (.iconst 4, 1) := by decide +kernel
theorem dX3_newName_27 : decode cX3_newName 27 = .ok (.if_icmp .gt 16, 3) := by decide +kernel
theorem dX3_newName_30 : decode cX3_newName 30 = .ok (.aload_n 0, 1) := by decide +kernel
theorem dX3_newName_31 : decode cX3_newName 31 = .ok (.getfield 19, 3) := by decide +kernel
theorem dX3_newName_34 : decode cX3_newName 34 = .ok (.lload_n 3, 1) := by decide +kernel
theorem dX3_newName_35 : decode cX3_newName 35 = .ok (.iload 5, 2) := by decide +kernel
theorem dX3_newName_37 : decode cX3_newName 37 = .ok (.invokevirtual 106, 3) := by decide +kernel
theorem dX3_newName_40 : decode cX3_newName 40 = .ok (.goto 27, 3) := by decide +kernel
theorem dX3_newName_43 : decode cX3_newName 43 = .ok (.aload_n 0, 1) := by decide +kernel
theorem dX3_newName_44 : decode cX3_newName 44 = .ok (.getfield 19, 3) := by decide +kernel
theorem dX3_newName_47 : decode cX3_newName 47 = .ok (.aload_n 0, 1) := by decide +kernel
theorem dX3_newName_48 : decode cX3_newName 48 = .ok (.getfield 19, 3) := by decide +kernel
theorem dX3_newName_51 : decode cX3_newName 51 = .ok (.aload_n 0, 1) := by decide +kernel
theorem dX3_newName_52 : decode cX3_newName 52 = .ok (.getfield 19, 3) := by decide +kernel
theorem dX3_newName_55 : decode cX3_newName 55 = .ok (.getfield 110, 3) := by decide +kernel
theorem dX3_newName_58 : decode cX3_newName 58 = .ok (.invokevirtual 113, 3) := by decide +kernel
theorem dX3_newName_61 : decode cX3_newName 61 = .ok (.lload_n 3, 1) := by decide +kernel
theorem dX3_newName_62 : decode cX3_newName 62 = .ok (.iload 5, 2) := by decide +kernel
theorem dX3_newName_64 : decode cX3_newName 64 = .ok (.invokevirtual 117, 3) := by decide +kernel
theorem dX3_newName_67 : decode cX3_newName 67 = .ok (.astore 6, 2) := by decide +kernel
theorem dX3_newName_69 : decode cX3_newName 69 = .ok (.aload 6, 2) := by decide +kernel
theorem dX3_newName_71 : decode cX3_newName 71 = .ok (.getfield 121, 3) := by decide +kernel
theorem dX3_newName_74 : decode cX3_newName 74 = .ok (.bipush 8, 2) := by decide +kernel
theorem dX3_newName_76 : decode cX3_newName 76 = .ok (.if_icmp .eq 12, 3) := by decide +kernel
theorem dX3_newName_79 : decode cX3_newName 79 = .ok (.aload_n 0, 1) := by decide +kernel
theorem dX3_newName_80 : decode cX3_newName 80 = .ok (.getfield 15, 3) := by decide +kernel
theorem dX3_newName_83 : decode cX3_newName 83 = .ok (.iconst 3, 1) := by decide +kernel
theorem dX3_newName_84 : decode cX3_newName 84 = .ok (.iload_n 2, 1) := by decide +kernel
theorem dX3_newName_85 : decode cX3_newName 85 = .ok (.invokevirtual 126, 3) := by decide +kernel
theorem dX3_newName_88 : decode cX3_newName 88 = .ok (.aload_n 0, 1) := by decide +kernel
theorem dX3_newName_89 : decode cX3_newName 89 = .ok (.getfield 19, 3) := by decide +kernel
theorem dX3_newName_92 : decode cX3_newName 92 = .ok (.iload_n 1, 1) := by decide +kernel
theorem dX3_newName_93 : decode cX3_newName 93 = .ok (.invokevirtual 129, 3) := by decide +kernel
theorem dX3_newName_96 : decode cX3_newName 96 = .ok (.ifCond .ne 12, 3) := by decide +kernel
theorem dX3_newName_99 : decode cX3_newName 99 = .ok (.aload_n 0, 1) := by decide +kernel
theorem dX3_newName_100 : decode cX3_newName 100 = .ok (.getfield 15, 3) := by decide +kernel
theorem dX3_newName_103 : decode cX3_newName 103 = .ok (.iconst 5, 1) := by decide +kernel
theorem dX3_newName_104 : decode cX3_newName 104 = .ok (.iload_n 2, 1) := by decide +kernel
theorem dX3_newName_105 : decode cX3_newName 105 = .ok (.invokevirtual 126, 3) := by decide +kernel
theorem dX3_newName_108 : decode cX3_newName 108 = .ok (.aload_n 0, 1) := by decide +kernel
theorem dX3_newName_109 : decode cX3_newName 109 = .ok (.getfield 15, 3) := by decide +kernel
theorem dX3_newName_112 : decode cX3_newName 112 = .ok (.invokevirtual 73, 3) := by decide +kernel
theorem dX3_newName_115 : decode cX3_newName 115 = .ok (.aload_n 0, 1) := by decide +kernel
theorem dX3_newName_116 : decode cX3_newName 116 = .ok (.getfield 19, 3) := by decide +kernel
theorem dX3_newName_119 : decode cX3_newName 119 = .ok (.iload_n 1, 1) := by decide +kernel
theorem dX3_newName_120 : decode cX3_newName 120 = .ok (.lload_n 3, 1) := by decide +kernel
theorem dX3_newName_121 : decode cX3_newName 121 = .ok (.iload 5, 2) := by decide +kernel
theorem dX3_newName_123 : decode cX3_newName 123 = .ok (.invokevirtual 132, 3) := by decide +kernel
theorem dX3_newName_126 : decode cX3_newName 126 = .ok (.areturn, 1) := by decide +kernel
abbrev cX3_allot : ByteArray := prog_5_method_7_code
def yX3_allot : MethodName := ⟨RX3, "allot", "(III)V"⟩
theorem dX3_allot_0 : decode cX3_allot 0 = .ok (.aload_n 0, 1) := by decide +kernel
theorem dX3_allot_1 : decode cX3_allot 1 = .ok (.getfield 9, 3) := by decide +kernel
theorem dX3_allot_4 : decode cX3_allot 4 = .ok (.iload_n 1, 1) := by decide +kernel
theorem dX3_allot_5 : decode cX3_allot 5 = .ok (.dup2, 1) := by decide +kernel
theorem dX3_allot_6 : decode cX3_allot 6 = .ok (.iaload, 1) := by decide +kernel
theorem dX3_allot_7 : decode cX3_allot 7 = .ok (.iload_n 2, 1) := by decide +kernel
theorem dX3_allot_8 : decode cX3_allot 8 = .ok (.iadd, 1) := by decide +kernel
theorem dX3_allot_9 : decode cX3_allot 9 = .ok (.iastore, 1) := by decide +kernel
theorem dX3_allot_10 : decode cX3_allot 10 = .ok (.aload_n 0, 1) := by decide +kernel
theorem dX3_allot_11 : decode cX3_allot 11 = .ok (.dup, 1) := by decide +kernel
theorem dX3_allot_12 : decode cX3_allot 12 = .ok (.getfield 47, 3) := by decide +kernel
theorem dX3_allot_15 : decode cX3_allot 15 = .ok (.iload_n 2, 1) := by decide +kernel
theorem dX3_allot_16 : decode cX3_allot 16 = .ok (.iadd, 1) := by decide +kernel
theorem dX3_allot_17 : decode cX3_allot 17 = .ok (.putfield 47, 3) := by decide +kernel
theorem dX3_allot_20 : decode cX3_allot 20 = .ok (.aload_n 0, 1) := by decide +kernel
theorem dX3_allot_21 : decode cX3_allot 21 = .ok (.getfield 9, 3) := by decide +kernel
theorem dX3_allot_24 : decode cX3_allot 24 = .ok (.iload_n 1, 1) := by decide +kernel
theorem dX3_allot_25 : decode cX3_allot 25 = .ok (.iaload, 1) := by decide +kernel
theorem dX3_allot_26 : decode cX3_allot 26 = .ok (.sipush 400, 3) := by decide +kernel
theorem dX3_allot_29 : decode cX3_allot 29 = .ok (.if_icmp .le 12, 3) := by decide +kernel
theorem dX3_allot_32 : decode cX3_allot 32 = .ok (.aload_n 0, 1) := by decide +kernel
theorem dX3_allot_33 : decode cX3_allot 33 = .ok (.getfield 15, 3) := by decide +kernel
theorem dX3_allot_36 : decode cX3_allot 36 = .ok (.iconst 5, 1) := by decide +kernel
theorem dX3_allot_37 : decode cX3_allot 37 = .ok (.iload_n 3, 1) := by decide +kernel
theorem dX3_allot_38 : decode cX3_allot 38 = .ok (.invokevirtual 126, 3) := by decide +kernel
theorem dX3_allot_41 : decode cX3_allot 41 = .ok (.return_, 1) := by decide +kernel
abbrev cX3_join : ByteArray := prog_5_method_8_code
def yX3_join : MethodName := ⟨RX3, "join", "(LSoftController$Name;I)V"⟩
theorem dX3_join_0 : decode cX3_join 0 = .ok (.aload_n 0, 1) := by decide +kernel
theorem dX3_join_1 : decode cX3_join 1 = .ok (.getfield 19, 3) := by decide +kernel
theorem dX3_join_4 : decode cX3_join 4 = .ok (.aload_n 0, 1) := by decide +kernel
theorem dX3_join_5 : decode cX3_join 5 = .ok (.getfield 19, 3) := by decide +kernel
theorem dX3_join_8 : decode cX3_join 8 = .ok (.getfield 110, 3) := by decide +kernel
theorem dX3_join_11 : decode cX3_join 11 = .ok (.invokevirtual 113, 3) := by decide +kernel
theorem dX3_join_14 : decode cX3_join 14 = .ok (.astore_n 3, 1) := by decide +kernel
theorem dX3_join_15 : decode cX3_join 15 = .ok (.aload_n 1, 1) := by decide +kernel
theorem dX3_join_16 : decode cX3_join 16 = .ok (.aload_n 3, 1) := by decide +kernel
theorem dX3_join_17 : decode cX3_join 17 = .ok (.getfield 149, 3) := by decide +kernel
theorem dX3_join_20 : decode cX3_join 20 = .ok (.putfield 170, 3) := by decide +kernel
theorem dX3_join_23 : decode cX3_join 23 = .ok (.aload_n 3, 1) := by decide +kernel
theorem dX3_join_24 : decode cX3_join 24 = .ok (.dup, 1) := by decide +kernel
theorem dX3_join_25 : decode cX3_join 25 = .ok (.getfield 149, 3) := by decide +kernel
theorem dX3_join_28 : decode cX3_join 28 = .ok (.aload_n 1, 1) := by decide +kernel
theorem dX3_join_29 : decode cX3_join 29 = .ok (.getfield 149, 3) := by decide +kernel
theorem dX3_join_32 : decode cX3_join 32 = .ok (.iadd, 1) := by decide +kernel
theorem dX3_join_33 : decode cX3_join 33 = .ok (.putfield 149, 3) := by decide +kernel
theorem dX3_join_36 : decode cX3_join 36 = .ok (.aload_n 3, 1) := by decide +kernel
theorem dX3_join_37 : decode cX3_join 37 = .ok (.dup, 1) := by decide +kernel
theorem dX3_join_38 : decode cX3_join 38 = .ok (.getfield 197, 3) := by decide +kernel
theorem dX3_join_41 : decode cX3_join 41 = .ok (.iconst 1, 1) := by decide +kernel
theorem dX3_join_42 : decode cX3_join 42 = .ok (.iadd, 1) := by decide +kernel
theorem dX3_join_43 : decode cX3_join 43 = .ok (.putfield 197, 3) := by decide +kernel
theorem dX3_join_46 : decode cX3_join 46 = .ok (.aload_n 3, 1) := by decide +kernel
theorem dX3_join_47 : decode cX3_join 47 = .ok (.dup, 1) := by decide +kernel
theorem dX3_join_48 : decode cX3_join 48 = .ok (.getfield 200, 3) := by decide +kernel
theorem dX3_join_51 : decode cX3_join 51 = .ok (.aload_n 1, 1) := by decide +kernel
theorem dX3_join_52 : decode cX3_join 52 = .ok (.getfield 121, 3) := by decide +kernel
theorem dX3_join_55 : decode cX3_join 55 = .ok (.iconst 5, 1) := by decide +kernel
theorem dX3_join_56 : decode cX3_join 56 = .ok (.if_icmp .ne 7, 3) := by decide +kernel
theorem dX3_join_59 : decode cX3_join 59 = .ok (.iconst 1, 1) := by decide +kernel
theorem dX3_join_60 : decode cX3_join 60 = .ok (.goto 4, 3) := by decide +kernel
theorem dX3_join_63 : decode cX3_join 63 = .ok (.iconst 0, 1) := by decide +kernel
theorem dX3_join_64 : decode cX3_join 64 = .ok (.iadd, 1) := by decide +kernel
theorem dX3_join_65 : decode cX3_join 65 = .ok (.putfield 200, 3) := by decide +kernel
theorem dX3_join_68 : decode cX3_join 68 = .ok (.aload_n 3, 1) := by decide +kernel
theorem dX3_join_69 : decode cX3_join 69 = .ok (.getfield 149, 3) := by decide +kernel
theorem dX3_join_72 : decode cX3_join 72 = .ok (.bipush 100, 2) := by decide +kernel
theorem dX3_join_74 : decode cX3_join 74 = .ok (.if_icmp .le 12, 3) := by decide +kernel
theorem dX3_join_77 : decode cX3_join 77 = .ok (.aload_n 0, 1) := by decide +kernel
theorem dX3_join_78 : decode cX3_join 78 = .ok (.getfield 15, 3) := by decide +kernel
theorem dX3_join_81 : decode cX3_join 81 = .ok (.iconst 5, 1) := by decide +kernel
theorem dX3_join_82 : decode cX3_join 82 = .ok (.iload_n 2, 1) := by decide +kernel
theorem dX3_join_83 : decode cX3_join 83 = .ok (.invokevirtual 126, 3) := by decide +kernel
theorem dX3_join_86 : decode cX3_join 86 = .ok (.return_, 1) := by decide +kernel
abbrev cX3_constant : ByteArray := prog_5_method_6_code
def yX3_constant : MethodName := ⟨RX3, "constant", "(I)J"⟩
theorem dX3_constant_0 : decode cX3_constant 0 = .ok (.aload_n 0, 1) := by decide +kernel
theorem dX3_constant_1 : decode cX3_constant 1 = .ok (.getfield 15, 3) := by decide +kernel
theorem dX3_constant_4 : decode cX3_constant 4 = .ok (.bipush 45, 2) := by decide +kernel
theorem dX3_constant_6 : decode cX3_constant 6 = .ok (.invokevirtual 65, 3) := by decide +kernel
theorem dX3_constant_9 : decode cX3_constant 9 = .ok (.istore_n 2, 1) := by decide +kernel
theorem dX3_constant_10 : decode cX3_constant 10 = .ok (.iload_n 2, 1) := by decide +kernel
theorem dX3_constant_11 : decode cX3_constant 11 = .ok (.ifCond .eq 10, 3) := by decide +kernel
theorem dX3_constant_14 : decode cX3_constant 14 = .ok (.aload_n 0, 1) := by decide +kernel
theorem dX3_constant_15 : decode cX3_constant 15 = .ok (.getfield 15, 3) := by decide +kernel
theorem dX3_constant_18 : decode cX3_constant 18 = .ok (.invokevirtual 73, 3) := by decide +kernel
theorem dX3_constant_21 : decode cX3_constant 21 = .ok (.aload_n 0, 1) := by decide +kernel
theorem dX3_constant_22 : decode cX3_constant 22 = .ok (.getfield 15, 3) := by decide +kernel
theorem dX3_constant_25 : decode cX3_constant 25 = .ok (.invokevirtual 96, 3) := by decide +kernel
theorem dX3_constant_28 : decode cX3_constant 28 = .ok (.istore_n 3, 1) := by decide +kernel
theorem dX3_constant_29 : decode cX3_constant 29 = .ok (.aload_n 0, 1) := by decide +kernel
theorem dX3_constant_30 : decode cX3_constant 30 = .ok (.getfield 15, 3) := by decide +kernel
theorem dX3_constant_33 : decode cX3_constant 33 = .ok (.invokevirtual 180, 3) := by decide +kernel
theorem dX3_constant_36 : decode cX3_constant 36 = .ok (.istore 4, 2) := by decide +kernel
theorem dX3_constant_38 : decode cX3_constant 38 = .ok (.aload_n 0, 1) := by decide +kernel
theorem dX3_constant_39 : decode cX3_constant 39 = .ok (.getfield 15, 3) := by decide +kernel
theorem dX3_constant_42 : decode cX3_constant 42 = .ok (.invokevirtual 184, 3) := by decide +kernel
theorem dX3_constant_45 : decode cX3_constant 45 = .ok (.lstore 5, 2) := by decide +kernel
theorem dX3_constant_47 : decode cX3_constant 47 = .ok (.iload_n 2, 1) := by decide +kernel
theorem dX3_constant_48 : decode cX3_constant 48 = .ok (.ifCond .eq 12, 3) := by decide +kernel
theorem dX3_constant_51 : decode cX3_constant 51 = .ok (.iload 4, 2) := by decide +kernel
theorem dX3_constant_53 : decode cX3_constant 53 = .ok (.lload 5, 2) := by decide +kernel
theorem dX3_constant_55 : decode cX3_constant 55 = .ok (.invokestatic 187, 3) := by decide +kernel
theorem dX3_constant_58 : decode cX3_constant 58 = .ok (.lstore 5, 2) := by decide +kernel
theorem dX3_constant_60 : decode cX3_constant 60 = .ok (.iload_n 1, 1) := by decide +kernel
theorem dX3_constant_61 : decode cX3_constant 61 = .ok (.lload 5, 2) := by decide +kernel
theorem dX3_constant_63 : decode cX3_constant 63 = .ok (.invokestatic 193, 3) := by decide +kernel
theorem dX3_constant_66 : decode cX3_constant 66 = .ok (.ifCond .ne 12, 3) := by decide +kernel
theorem dX3_constant_69 : decode cX3_constant 69 = .ok (.aload_n 0, 1) := by decide +kernel
theorem dX3_constant_70 : decode cX3_constant 70 = .ok (.getfield 15, 3) := by decide +kernel
theorem dX3_constant_73 : decode cX3_constant 73 = .ok (.iconst 5, 1) := by decide +kernel
theorem dX3_constant_74 : decode cX3_constant 74 = .ok (.iload_n 3, 1) := by decide +kernel
theorem dX3_constant_75 : decode cX3_constant 75 = .ok (.invokevirtual 126, 3) := by decide +kernel
theorem dX3_constant_78 : decode cX3_constant 78 = .ok (.lload 5, 2) := by decide +kernel
theorem dX3_constant_80 : decode cX3_constant 80 = .ok (.lreturn, 1) := by decide +kernel
abbrev cX3_oneVariable : ByteArray := prog_5_method_5_code
def yX3_oneVariable : MethodName := ⟨RX3, "oneVariable", "(III)V"⟩
theorem dX3_oneVariable_0 : decode cX3_oneVariable 0 = .ok (.aload_n 0, 1) := by decide +kernel
theorem dX3_oneVariable_1 : decode cX3_oneVariable 1 = .ok (.getfield 15, 3) := by decide +kernel
theorem dX3_oneVariable_4 : decode cX3_oneVariable 4 = .ok (.invokevirtual 96, 3) := by decide +kernel
theorem dX3_oneVariable_7 : decode cX3_oneVariable 7 = .ok (.istore 4, 2) := by decide +kernel
theorem dX3_oneVariable_9 : decode cX3_oneVariable 9 = .ok (.aload_n 0, 1) := by decide +kernel
theorem dX3_oneVariable_10 : decode cX3_oneVariable 10 = .ok (.iload_n 1, 1) := by decide +kernel
theorem dX3_oneVariable_11 : decode cX3_oneVariable 11 = .ok (.invokevirtual 140, 3) := by decide +kernel
theorem dX3_oneVariable_14 : decode cX3_oneVariable 14 = .ok (.astore 5, 2) := by decide +kernel
theorem dX3_oneVariable_16 : decode cX3_oneVariable 16 = .ok (.aload 5, 2) := by decide +kernel
theorem dX3_oneVariable_18 : decode cX3_oneVariable 18 = .ok (.iload_n 2, 1) := by decide +kernel
theorem dX3_oneVariable_19 : decode cX3_oneVariable 19 = .ok (.putfield 143, 3) := by decide +kernel
theorem dX3_oneVariable_22 : decode cX3_oneVariable 22 = .ok (.aload 5, 2) := by decide +kernel
theorem dX3_oneVariable_24 : decode cX3_oneVariable 24 = .ok (.iload_n 3, 1) := by decide +kernel
theorem dX3_oneVariable_25 : decode cX3_oneVariable 25 = .ok (.putfield 146, 3) := by decide +kernel
theorem dX3_oneVariable_28 : decode cX3_oneVariable 28 = .ok (.aload 5, 2) := by decide +kernel
theorem dX3_oneVariable_30 : decode cX3_oneVariable 30 = .ok (.iconst 1, 1) := by decide +kernel
theorem dX3_oneVariable_31 : decode cX3_oneVariable 31 = .ok (.putfield 149, 3) := by decide +kernel
theorem dX3_oneVariable_34 : decode cX3_oneVariable 34 = .ok (.aload_n 0, 1) := by decide +kernel
theorem dX3_oneVariable_35 : decode cX3_oneVariable 35 = .ok (.getfield 15, 3) := by decide +kernel
theorem dX3_oneVariable_38 : decode cX3_oneVariable 38 = .ok (.bipush 91, 2) := by decide +kernel
theorem dX3_oneVariable_40 : decode cX3_oneVariable 40 = .ok (.invokevirtual 65, 3) := by decide +kernel
theorem dX3_oneVariable_43 : decode cX3_oneVariable 43 = .ok (.ifCond .eq 40, 3) := by decide +kernel
theorem dX3_oneVariable_46 : decode cX3_oneVariable 46 = .ok (.aload_n 0, 1) := by decide +kernel
theorem dX3_oneVariable_47 : decode cX3_oneVariable 47 = .ok (.getfield 15, 3) := by decide +kernel
theorem dX3_oneVariable_50 : decode cX3_oneVariable 50 = .ok (.invokevirtual 73, 3) := by decide +kernel
theorem dX3_oneVariable_53 : decode cX3_oneVariable 53 = .ok (.aload 5, 2) := by decide +kernel
theorem dX3_oneVariable_55 : decode cX3_oneVariable 55 = .ok (.iconst 1, 1) := by decide +kernel
theorem dX3_oneVariable_56 : decode cX3_oneVariable 56 = .ok (.putfield 152, 3) := by decide +kernel
theorem dX3_oneVariable_59 : decode cX3_oneVariable 59 = .ok (.aload 5, 2) := by decide +kernel
theorem dX3_oneVariable_61 : decode cX3_oneVariable 61 = .ok (.aload_n 0, 1) := by decide +kernel
theorem dX3_oneVariable_62 : decode cX3_oneVariable 62 = .ok (.getfield 15, 3) := by decide +kernel
theorem dX3_oneVariable_65 : decode cX3_oneVariable 65 = .ok (.lconst 1, 1) := by decide +kernel
theorem dX3_oneVariable_66 : decode cX3_oneVariable 66 = .ok (.ldc2_w 156, 3) := by decide +kernel
theorem dX3_oneVariable_69 : decode cX3_oneVariable 69 = .ok (.invokevirtual 158, 3) := by decide +kernel
theorem dX3_oneVariable_72 : decode cX3_oneVariable 72 = .ok (.l2i, 1) := by decide +kernel
theorem dX3_oneVariable_73 : decode cX3_oneVariable 73 = .ok (.putfield 149, 3) := by decide +kernel
theorem dX3_oneVariable_76 : decode cX3_oneVariable 76 = .ok (.aload_n 0, 1) := by decide +kernel
theorem dX3_oneVariable_77 : decode cX3_oneVariable 77 = .ok (.getfield 15, 3) := by decide +kernel
theorem dX3_oneVariable_80 : decode cX3_oneVariable 80 = .ok (.invokevirtual 73, 3) := by decide +kernel
theorem dX3_oneVariable_83 : decode cX3_oneVariable 83 = .ok (.aload_n 0, 1) := by decide +kernel
theorem dX3_oneVariable_84 : decode cX3_oneVariable 84 = .ok (.getfield 15, 3) := by decide +kernel
theorem dX3_oneVariable_87 : decode cX3_oneVariable 87 = .ok (.bipush 61, 2) := by decide +kernel
theorem dX3_oneVariable_89 : decode cX3_oneVariable 89 = .ok (.invokevirtual 65, 3) := by decide +kernel
theorem dX3_oneVariable_92 : decode cX3_oneVariable 92 = .ok (.ifCond .eq 20, 3) := by decide +kernel
theorem dX3_oneVariable_95 : decode cX3_oneVariable 95 = .ok (.aload_n 0, 1) := by decide +kernel
theorem dX3_oneVariable_96 : decode cX3_oneVariable 96 = .ok (.getfield 15, 3) := by decide +kernel
theorem dX3_oneVariable_99 : decode cX3_oneVariable 99 = .ok (.invokevirtual 73, 3) := by decide +kernel
theorem dX3_oneVariable_102 : decode cX3_oneVariable 102 = .ok (.aload 5, 2) := by decide +kernel
theorem dX3_oneVariable_104 : decode cX3_oneVariable 104 = .ok (.aload_n 0, 1) := by decide +kernel
theorem dX3_oneVariable_105 : decode cX3_oneVariable 105 = .ok (.iload_n 3, 1) := by decide +kernel
theorem dX3_oneVariable_106 : decode cX3_oneVariable 106 = .ok (.invokevirtual 162, 3) := by decide +kernel
theorem dX3_oneVariable_109 : decode cX3_oneVariable 109 = .ok (.putfield 166, 3) := by decide +kernel
theorem dX3_oneVariable_112 : decode cX3_oneVariable 112 = .ok (.iload_n 1, 1) := by decide +kernel
theorem dX3_oneVariable_113 : decode cX3_oneVariable 113 = .ok (.ifCond .ne 27, 3) := by decide +kernel
theorem dX3_oneVariable_116 : decode cX3_oneVariable 116 = .ok (.aload 5, 2) := by decide +kernel
theorem dX3_oneVariable_118 : decode cX3_oneVariable 118 = .ok (.aload_n 0, 1) := by decide +kernel
theorem dX3_oneVariable_119 : decode cX3_oneVariable 119 = .ok (.getfield 47, 3) := by decide +kernel
theorem dX3_oneVariable_122 : decode cX3_oneVariable 122 = .ok (.putfield 170, 3) := by decide +kernel
theorem dX3_oneVariable_125 : decode cX3_oneVariable 125 = .ok (.aload_n 0, 1) := by decide +kernel
theorem dX3_oneVariable_126 : decode cX3_oneVariable 126 = .ok (.iload_n 3, 1) := by decide +kernel
theorem dX3_oneVariable_127 : decode cX3_oneVariable 127 = .ok (.aload 5, 2) := by decide +kernel
theorem dX3_oneVariable_129 : decode cX3_oneVariable 129 = .ok (.getfield 149, 3) := by decide +kernel
theorem dX3_oneVariable_132 : decode cX3_oneVariable 132 = .ok (.iload 4, 2) := by decide +kernel
theorem dX3_oneVariable_134 : decode cX3_oneVariable 134 = .ok (.invokevirtual 173, 3) := by decide +kernel
theorem dX3_oneVariable_137 : decode cX3_oneVariable 137 = .ok (.goto 11, 3) := by decide +kernel
theorem dX3_oneVariable_140 : decode cX3_oneVariable 140 = .ok (.aload_n 0, 1) := by decide +kernel
theorem dX3_oneVariable_141 : decode cX3_oneVariable 141 = .ok (.aload 5, 2) := by decide +kernel
theorem dX3_oneVariable_143 : decode cX3_oneVariable 143 = .ok (.iload 4, 2) := by decide +kernel
theorem dX3_oneVariable_145 : decode cX3_oneVariable 145 = .ok (.invokevirtual 176, 3) := by decide +kernel
theorem dX3_oneVariable_148 : decode cX3_oneVariable 148 = .ok (.return_, 1) := by decide +kernel
abbrev cX3_variables : ByteArray := prog_5_method_4_code
def yX3_variables : MethodName := ⟨RX3, "variables", "(II)V"⟩
theorem dX3_variables_0 : decode cX3_variables 0 = .ok (.aload_n 0, 1) := by decide +kernel
theorem dX3_variables_1 : decode cX3_variables 1 = .ok (.getfield 15, 3) := by decide +kernel
theorem dX3_variables_4 : decode cX3_variables 4 = .ok (.invokevirtual 90, 3) := by decide +kernel
theorem dX3_variables_7 : decode cX3_variables 7 = .ok (.istore_n 3, 1) := by decide +kernel
theorem dX3_variables_8 : decode cX3_variables 8 = .ok (.aload_n 0, 1) := by decide +kernel
theorem dX3_variables_9 : decode cX3_variables 9 = .ok (.iload_n 1, 1) := by decide +kernel
theorem dX3_variables_10 : decode cX3_variables 10 = .ok (.iload_n 2, 1) := by decide +kernel
theorem dX3_variables_11 : decode cX3_variables 11 = .ok (.iload_n 3, 1) := by decide +kernel
theorem dX3_variables_12 : decode cX3_variables 12 = .ok (.invokevirtual 136, 3) := by decide +kernel
theorem dX3_variables_15 : decode cX3_variables 15 = .ok (.iconst 0, 1) := by decide +kernel
theorem dX3_variables_16 : decode cX3_variables 16 = .ok (.istore 4, 2) := by decide +kernel
theorem dX3_variables_18 : decode cX3_variables 18 = .ok (.iload 4, 2) := by decide +kernel
theorem dX3_variables_20 : decode cX3_variables 20 = .ok (.sipush 1500, 3) := by decide +kernel
theorem dX3_variables_23 : decode cX3_variables 23 = .ok (.if_icmp .ge 35, 3) := by decide +kernel
theorem dX3_variables_26 : decode cX3_variables 26 = .ok (.aload_n 0, 1) := by decide +kernel
theorem dX3_variables_27 : decode cX3_variables 27 = .ok (.getfield 15, 3) := by decide +kernel
theorem dX3_variables_30 : decode cX3_variables 30 = .ok (.bipush 44, 2) := by decide +kernel
theorem dX3_variables_32 : decode cX3_variables 32 = .ok (.invokevirtual 65, 3) := by decide +kernel
theorem dX3_variables_35 : decode cX3_variables 35 = .ok (.ifCond .eq 23, 3) := by decide +kernel
theorem dX3_variables_38 : decode cX3_variables 38 = .ok (.aload_n 0, 1) := by decide +kernel
theorem dX3_variables_39 : decode cX3_variables 39 = .ok (.getfield 15, 3) := by decide +kernel
theorem dX3_variables_42 : decode cX3_variables 42 = .ok (.invokevirtual 73, 3) := by decide +kernel
theorem dX3_variables_45 : decode cX3_variables 45 = .ok (.aload_n 0, 1) := by decide +kernel
theorem dX3_variables_46 : decode cX3_variables 46 = .ok (.iload_n 1, 1) := by decide +kernel
theorem dX3_variables_47 : decode cX3_variables 47 = .ok (.iload_n 2, 1) := by decide +kernel
theorem dX3_variables_48 : decode cX3_variables 48 = .ok (.iload_n 3, 1) := by decide +kernel
theorem dX3_variables_49 : decode cX3_variables 49 = .ok (.invokevirtual 136, 3) := by decide +kernel
theorem dX3_variables_52 : decode cX3_variables 52 = .ok (.iinc 4 1, 3) := by decide +kernel
theorem dX3_variables_55 : decode cX3_variables 55 = .ok (.goto (-37), 3) := by decide +kernel
theorem dX3_variables_58 : decode cX3_variables 58 = .ok (.aload_n 0, 1) := by decide +kernel
theorem dX3_variables_59 : decode cX3_variables 59 = .ok (.getfield 15, 3) := by decide +kernel
theorem dX3_variables_62 : decode cX3_variables 62 = .ok (.invokevirtual 73, 3) := by decide +kernel
theorem dX3_variables_65 : decode cX3_variables 65 = .ok (.return_, 1) := by decide +kernel
abbrev cX3_placed : ByteArray := prog_5_method_9_code
def yX3_placed : MethodName := ⟨RX3, "placed", "(I)V"⟩
theorem dX3_placed_0 : decode cX3_placed 0 = .ok (.aload_n 0, 1) := by decide +kernel
theorem dX3_placed_1 : decode cX3_placed 1 = .ok (.getfield 15, 3) := by decide +kernel
theorem dX3_placed_4 : decode cX3_placed 4 = .ok (.invokevirtual 90, 3) := by decide +kernel
theorem dX3_placed_7 : decode cX3_placed 7 = .ok (.istore_n 2, 1) := by decide +kernel
theorem dX3_placed_8 : decode cX3_placed 8 = .ok (.aload_n 0, 1) := by decide +kernel
theorem dX3_placed_9 : decode cX3_placed 9 = .ok (.iconst 0, 1) := by decide +kernel
theorem dX3_placed_10 : decode cX3_placed 10 = .ok (.invokevirtual 140, 3) := by decide +kernel
theorem dX3_placed_13 : decode cX3_placed 13 = .ok (.astore_n 3, 1) := by decide +kernel
theorem dX3_placed_14 : decode cX3_placed 14 = .ok (.aload_n 3, 1) := by decide +kernel
theorem dX3_placed_15 : decode cX3_placed 15 = .ok (.iload_n 1, 1) := by decide +kernel
theorem dX3_placed_16 : decode cX3_placed 16 = .ok (.putfield 143, 3) := by decide +kernel
theorem dX3_placed_19 : decode cX3_placed 19 = .ok (.aload_n 3, 1) := by decide +kernel
theorem dX3_placed_20 : decode cX3_placed 20 = .ok (.iload_n 2, 1) := by decide +kernel
theorem dX3_placed_21 : decode cX3_placed 21 = .ok (.putfield 146, 3) := by decide +kernel
theorem dX3_placed_24 : decode cX3_placed 24 = .ok (.aload_n 3, 1) := by decide +kernel
theorem dX3_placed_25 : decode cX3_placed 25 = .ok (.iconst 1, 1) := by decide +kernel
theorem dX3_placed_26 : decode cX3_placed 26 = .ok (.putfield 149, 3) := by decide +kernel
theorem dX3_placed_29 : decode cX3_placed 29 = .ok (.aload_n 0, 1) := by decide +kernel
theorem dX3_placed_30 : decode cX3_placed 30 = .ok (.getfield 15, 3) := by decide +kernel
theorem dX3_placed_33 : decode cX3_placed 33 = .ok (.invokevirtual 73, 3) := by decide +kernel
theorem dX3_placed_36 : decode cX3_placed 36 = .ok (.aload_n 3, 1) := by decide +kernel
theorem dX3_placed_37 : decode cX3_placed 37 = .ok (.aload_n 0, 1) := by decide +kernel
theorem dX3_placed_38 : decode cX3_placed 38 = .ok (.getfield 15, 3) := by decide +kernel
theorem dX3_placed_41 : decode cX3_placed 41 = .ok (.lconst 0, 1) := by decide +kernel
theorem dX3_placed_42 : decode cX3_placed 42 = .ok (.bipush 64, 2) := by decide +kernel
theorem dX3_placed_44 : decode cX3_placed 44 = .ok (.getstatic 203, 3) := by decide +kernel
theorem dX3_placed_47 : decode cX3_placed 47 = .ok (.iload_n 2, 1) := by decide +kernel
theorem dX3_placed_48 : decode cX3_placed 48 = .ok (.iaload, 1) := by decide +kernel
theorem dX3_placed_49 : decode cX3_placed 49 = .ok (.bipush 8, 2) := by decide +kernel
theorem dX3_placed_51 : decode cX3_placed 51 = .ok (.idiv, 1) := by decide +kernel
theorem dX3_placed_52 : decode cX3_placed 52 = .ok (.isub, 1) := by decide +kernel
theorem dX3_placed_53 : decode cX3_placed 53 = .ok (.i2l, 1) := by decide +kernel
theorem dX3_placed_54 : decode cX3_placed 54 = .ok (.invokevirtual 158, 3) := by decide +kernel
theorem dX3_placed_57 : decode cX3_placed 57 = .ok (.l2i, 1) := by decide +kernel
theorem dX3_placed_58 : decode cX3_placed 58 = .ok (.putfield 170, 3) := by decide +kernel
theorem dX3_placed_61 : decode cX3_placed 61 = .ok (.aload_n 0, 1) := by decide +kernel
theorem dX3_placed_62 : decode cX3_placed 62 = .ok (.getfield 15, 3) := by decide +kernel
theorem dX3_placed_65 : decode cX3_placed 65 = .ok (.invokevirtual 73, 3) := by decide +kernel
theorem dX3_placed_68 : decode cX3_placed 68 = .ok (.return_, 1) := by decide +kernel
abbrev cX3_oneUse : ByteArray := prog_5_method_11_code
def yX3_oneUse : MethodName := ⟨RX3, "oneUse", "(LSoftController$Name;)V"⟩
theorem dX3_oneUse_0 : decode cX3_oneUse 0 = .ok (.aload_n 0, 1) := by decide +kernel
theorem dX3_oneUse_1 : decode cX3_oneUse 1 = .ok (.getfield 15, 3) := by decide +kernel
theorem dX3_oneUse_4 : decode cX3_oneUse 4 = .ok (.invokevirtual 96, 3) := by decide +kernel
theorem dX3_oneUse_7 : decode cX3_oneUse 7 = .ok (.istore_n 2, 1) := by decide +kernel
theorem dX3_oneUse_8 : decode cX3_oneUse 8 = .ok (.aload_n 0, 1) := by decide +kernel
theorem dX3_oneUse_9 : decode cX3_oneUse 9 = .ok (.iconst 1, 1) := by decide +kernel
theorem dX3_oneUse_10 : decode cX3_oneUse 10 = .ok (.invokevirtual 140, 3) := by decide +kernel
theorem dX3_oneUse_13 : decode cX3_oneUse 13 = .ok (.astore_n 3, 1) := by decide +kernel
theorem dX3_oneUse_14 : decode cX3_oneUse 14 = .ok (.aload_n 3, 1) := by decide +kernel
theorem dX3_oneUse_15 : decode cX3_oneUse 15 = .ok (.aload_n 1, 1) := by decide +kernel
theorem dX3_oneUse_16 : decode cX3_oneUse 16 = .ok (.getfield 214, 3) := by decide +kernel
theorem dX3_oneUse_19 : decode cX3_oneUse 19 = .ok (.putfield 217, 3) := by decide +kernel
theorem dX3_oneUse_22 : decode cX3_oneUse 22 = .ok (.aload_n 3, 1) := by decide +kernel
theorem dX3_oneUse_23 : decode cX3_oneUse 23 = .ok (.aload_n 0, 1) := by decide +kernel
theorem dX3_oneUse_24 : decode cX3_oneUse 24 = .ok (.getfield 47, 3) := by decide +kernel
theorem dX3_oneUse_27 : decode cX3_oneUse 27 = .ok (.putfield 170, 3) := by decide +kernel
theorem dX3_oneUse_30 : decode cX3_oneUse 30 = .ok (.iconst 0, 1) := by decide +kernel
theorem dX3_oneUse_31 : decode cX3_oneUse 31 = .ok (.istore 4, 2) := by decide +kernel
theorem dX3_oneUse_33 : decode cX3_oneUse 33 = .ok (.iload 4, 2) := by decide +kernel
theorem dX3_oneUse_35 : decode cX3_oneUse 35 = .ok (.aload_n 1, 1) := by decide +kernel
theorem dX3_oneUse_36 : decode cX3_oneUse 36 = .ok (.getfield 197, 3) := by decide +kernel
theorem dX3_oneUse_39 : decode cX3_oneUse 39 = .ok (.if_icmp .ge 36, 3) := by decide +kernel
theorem dX3_oneUse_42 : decode cX3_oneUse 42 = .ok (.aload_n 0, 1) := by decide +kernel
theorem dX3_oneUse_43 : decode cX3_oneUse 43 = .ok (.getfield 19, 3) := by decide +kernel
theorem dX3_oneUse_46 : decode cX3_oneUse 46 = .ok (.aload_n 1, 1) := by decide +kernel
theorem dX3_oneUse_47 : decode cX3_oneUse 47 = .ok (.iload 4, 2) := by decide +kernel
theorem dX3_oneUse_49 : decode cX3_oneUse 49 = .ok (.invokevirtual 220, 3) := by decide +kernel
theorem dX3_oneUse_52 : decode cX3_oneUse 52 = .ok (.astore 5, 2) := by decide +kernel
theorem dX3_oneUse_54 : decode cX3_oneUse 54 = .ok (.aload_n 0, 1) := by decide +kernel
theorem dX3_oneUse_55 : decode cX3_oneUse 55 = .ok (.aload 5, 2) := by decide +kernel
theorem dX3_oneUse_57 : decode cX3_oneUse 57 = .ok (.getfield 146, 3) := by decide +kernel
theorem dX3_oneUse_60 : decode cX3_oneUse 60 = .ok (.aload 5, 2) := by decide +kernel
theorem dX3_oneUse_62 : decode cX3_oneUse 62 = .ok (.getfield 149, 3) := by decide +kernel
theorem dX3_oneUse_65 : decode cX3_oneUse 65 = .ok (.iload_n 2, 1) := by decide +kernel
theorem dX3_oneUse_66 : decode cX3_oneUse 66 = .ok (.invokevirtual 173, 3) := by decide +kernel
theorem dX3_oneUse_69 : decode cX3_oneUse 69 = .ok (.iinc 4 1, 3) := by decide +kernel
theorem dX3_oneUse_72 : decode cX3_oneUse 72 = .ok (.goto (-39), 3) := by decide +kernel
theorem dX3_oneUse_75 : decode cX3_oneUse 75 = .ok (.return_, 1) := by decide +kernel
abbrev cX3_uses : ByteArray := prog_5_method_10_code
def yX3_uses : MethodName := ⟨RX3, "uses", "()V"⟩
theorem dX3_uses_0 : decode cX3_uses 0 = .ok (.aload_n 0, 1) := by decide +kernel
theorem dX3_uses_1 : decode cX3_uses 1 = .ok (.getfield 28, 3) := by decide +kernel
theorem dX3_uses_4 : decode cX3_uses 4 = .ok (.invokevirtual 206, 3) := by decide +kernel
theorem dX3_uses_7 : decode cX3_uses 7 = .ok (.astore_n 1, 1) := by decide +kernel
theorem dX3_uses_8 : decode cX3_uses 8 = .ok (.aload_n 1, 1) := by decide +kernel
theorem dX3_uses_9 : decode cX3_uses 9 = .ok (.getfield 121, 3) := by decide +kernel
theorem dX3_uses_12 : decode cX3_uses 12 = .ok (.iconst 3, 1) := by decide +kernel
theorem dX3_uses_13 : decode cX3_uses 13 = .ok (.if_icmp .eq 18, 3) := by decide +kernel
theorem dX3_uses_16 : decode cX3_uses 16 = .ok (.aload_n 0, 1) := by decide +kernel
theorem dX3_uses_17 : decode cX3_uses 17 = .ok (.getfield 15, 3) := by decide +kernel
theorem dX3_uses_20 : decode cX3_uses 20 = .ok (.iconst 3, 1) := by decide +kernel
theorem dX3_uses_21 : decode cX3_uses 21 = .ok (.aload_n 0, 1) := by decide +kernel
theorem dX3_uses_22 : decode cX3_uses 22 = .ok (.getfield 15, 3) := by decide +kernel
theorem dX3_uses_25 : decode cX3_uses 25 = .ok (.invokevirtual 96, 3) := by decide +kernel
theorem dX3_uses_28 : decode cX3_uses 28 = .ok (.invokevirtual 126, 3) := by decide +kernel
theorem dX3_uses_31 : decode cX3_uses 31 = .ok (.aload_n 0, 1) := by decide +kernel
theorem dX3_uses_32 : decode cX3_uses 32 = .ok (.getfield 15, 3) := by decide +kernel
theorem dX3_uses_35 : decode cX3_uses 35 = .ok (.invokevirtual 73, 3) := by decide +kernel
theorem dX3_uses_38 : decode cX3_uses 38 = .ok (.aload_n 0, 1) := by decide +kernel
theorem dX3_uses_39 : decode cX3_uses 39 = .ok (.aload_n 1, 1) := by decide +kernel
theorem dX3_uses_40 : decode cX3_uses 40 = .ok (.invokevirtual 210, 3) := by decide +kernel
theorem dX3_uses_43 : decode cX3_uses 43 = .ok (.iconst 0, 1) := by decide +kernel
theorem dX3_uses_44 : decode cX3_uses 44 = .ok (.istore_n 2, 1) := by decide +kernel
theorem dX3_uses_45 : decode cX3_uses 45 = .ok (.iload_n 2, 1) := by decide +kernel
theorem dX3_uses_46 : decode cX3_uses 46 = .ok (.sipush 1500, 3) := by decide +kernel
theorem dX3_uses_49 : decode cX3_uses 49 = .ok (.if_icmp .ge 33, 3) := by decide +kernel
theorem dX3_uses_52 : decode cX3_uses 52 = .ok (.aload_n 0, 1) := by decide +kernel
theorem dX3_uses_53 : decode cX3_uses 53 = .ok (.getfield 15, 3) := by decide +kernel
theorem dX3_uses_56 : decode cX3_uses 56 = .ok (.bipush 44, 2) := by decide +kernel
theorem dX3_uses_58 : decode cX3_uses 58 = .ok (.invokevirtual 65, 3) := by decide +kernel
theorem dX3_uses_61 : decode cX3_uses 61 = .ok (.ifCond .eq 21, 3) := by decide +kernel
theorem dX3_uses_64 : decode cX3_uses 64 = .ok (.aload_n 0, 1) := by decide +kernel
theorem dX3_uses_65 : decode cX3_uses 65 = .ok (.getfield 15, 3) := by decide +kernel
theorem dX3_uses_68 : decode cX3_uses 68 = .ok (.invokevirtual 73, 3) := by decide +kernel
theorem dX3_uses_71 : decode cX3_uses 71 = .ok (.aload_n 0, 1) := by decide +kernel
theorem dX3_uses_72 : decode cX3_uses 72 = .ok (.aload_n 1, 1) := by decide +kernel
theorem dX3_uses_73 : decode cX3_uses 73 = .ok (.invokevirtual 210, 3) := by decide +kernel
theorem dX3_uses_76 : decode cX3_uses 76 = .ok (.iinc 2 1, 3) := by decide +kernel
theorem dX3_uses_79 : decode cX3_uses 79 = .ok (.goto (-34), 3) := by decide +kernel
theorem dX3_uses_82 : decode cX3_uses 82 = .ok (.aload_n 0, 1) := by decide +kernel
theorem dX3_uses_83 : decode cX3_uses 83 = .ok (.getfield 15, 3) := by decide +kernel
theorem dX3_uses_86 : decode cX3_uses 86 = .ok (.invokevirtual 73, 3) := by decide +kernel
theorem dX3_uses_89 : decode cX3_uses 89 = .ok (.return_, 1) := by decide +kernel
abbrev cX3_parameter : ByteArray := prog_5_method_13_code
def yX3_parameter : MethodName := ⟨RX3, "parameter", "()V"⟩
theorem dX3_parameter_0 : decode cX3_parameter 0 = .ok (.aload_n 0, 1) := by decide +kernel
theorem dX3_parameter_1 : decode cX3_parameter 1 = .ok (.getfield 15, 3) := by decide +kernel
theorem dX3_parameter_4 : decode cX3_parameter 4 = .ok (.bipush 44, 2) := by decide +kernel
theorem dX3_parameter_6 : decode cX3_parameter 6 = .ok (.invokevirtual 65, 3) := by decide +kernel
theorem dX3_parameter_9 : decode cX3_parameter 9 = .ok (.ifCond .eq 10, 3) := by decide +kernel
theorem dX3_parameter_12 : decode cX3_parameter 12 = .ok (.aload_n 0, 1) := by decide +kernel
theorem dX3_parameter_13 : decode cX3_parameter 13 = .ok (.getfield 15, 3) := by decide +kernel
theorem dX3_parameter_16 : decode cX3_parameter 16 = .ok (.invokevirtual 73, 3) := by decide +kernel
theorem dX3_parameter_19 : decode cX3_parameter 19 = .ok (.aload_n 0, 1) := by decide +kernel
theorem dX3_parameter_20 : decode cX3_parameter 20 = .ok (.getfield 15, 3) := by decide +kernel
theorem dX3_parameter_23 : decode cX3_parameter 23 = .ok (.invokevirtual 90, 3) := by decide +kernel
theorem dX3_parameter_26 : decode cX3_parameter 26 = .ok (.istore_n 1, 1) := by decide +kernel
theorem dX3_parameter_27 : decode cX3_parameter 27 = .ok (.aload_n 0, 1) := by decide +kernel
theorem dX3_parameter_28 : decode cX3_parameter 28 = .ok (.getfield 15, 3) := by decide +kernel
theorem dX3_parameter_31 : decode cX3_parameter 31 = .ok (.invokevirtual 96, 3) := by decide +kernel
theorem dX3_parameter_34 : decode cX3_parameter 34 = .ok (.istore_n 2, 1) := by decide +kernel
theorem dX3_parameter_35 : decode cX3_parameter 35 = .ok (.aload_n 0, 1) := by decide +kernel
theorem dX3_parameter_36 : decode cX3_parameter 36 = .ok (.iconst 5, 1) := by decide +kernel
theorem dX3_parameter_37 : decode cX3_parameter 37 = .ok (.invokevirtual 140, 3) := by decide +kernel
theorem dX3_parameter_40 : decode cX3_parameter 40 = .ok (.astore_n 3, 1) := by decide +kernel
theorem dX3_parameter_41 : decode cX3_parameter 41 = .ok (.aload_n 3, 1) := by decide +kernel
theorem dX3_parameter_42 : decode cX3_parameter 42 = .ok (.iload_n 1, 1) := by decide +kernel
theorem dX3_parameter_43 : decode cX3_parameter 43 = .ok (.putfield 146, 3) := by decide +kernel
theorem dX3_parameter_46 : decode cX3_parameter 46 = .ok (.aload_n 3, 1) := by decide +kernel
theorem dX3_parameter_47 : decode cX3_parameter 47 = .ok (.iconst 1, 1) := by decide +kernel
theorem dX3_parameter_48 : decode cX3_parameter 48 = .ok (.putfield 149, 3) := by decide +kernel
theorem dX3_parameter_51 : decode cX3_parameter 51 = .ok (.aload_n 0, 1) := by decide +kernel
theorem dX3_parameter_52 : decode cX3_parameter 52 = .ok (.aload_n 3, 1) := by decide +kernel
theorem dX3_parameter_53 : decode cX3_parameter 53 = .ok (.iload_n 2, 1) := by decide +kernel
theorem dX3_parameter_54 : decode cX3_parameter 54 = .ok (.invokevirtual 176, 3) := by decide +kernel
theorem dX3_parameter_57 : decode cX3_parameter 57 = .ok (.return_, 1) := by decide +kernel
abbrev cX3_put : ByteArray := prog_5_method_23_code
def yX3_put : MethodName := ⟨RX3, "put", "(LSoftController$Name;I)V"⟩
theorem dX3_put_0 : decode cX3_put 0 = .ok (.aload_n 1, 1) := by decide +kernel
theorem dX3_put_1 : decode cX3_put 1 = .ok (.getfield 152, 3) := by decide +kernel
theorem dX3_put_4 : decode cX3_put 4 = .ok (.ifCond .eq 22, 3) := by decide +kernel
theorem dX3_put_7 : decode cX3_put 7 = .ok (.aload_n 0, 1) := by decide +kernel
theorem dX3_put_8 : decode cX3_put 8 = .ok (.getfield 19, 3) := by decide +kernel
theorem dX3_put_11 : decode cX3_put 11 = .ok (.bipush 15, 2) := by decide +kernel
theorem dX3_put_13 : decode cX3_put 13 = .ok (.iconst 0, 1) := by decide +kernel
theorem dX3_put_14 : decode cX3_put 14 = .ok (.aload_n 1, 1) := by decide +kernel
theorem dX3_put_15 : decode cX3_put 15 = .ok (.getfield 146, 3) := by decide +kernel
theorem dX3_put_18 : decode cX3_put 18 = .ok (.iload_n 2, 1) := by decide +kernel
theorem dX3_put_19 : decode cX3_put 19 = .ok (.invokevirtual 239, 3) := by decide +kernel
theorem dX3_put_22 : decode cX3_put 22 = .ok (.pop, 1) := by decide +kernel
theorem dX3_put_23 : decode cX3_put 23 = .ok (.goto 12, 3) := by decide +kernel
theorem dX3_put_26 : decode cX3_put 26 = .ok (.aload_n 0, 1) := by decide +kernel
theorem dX3_put_27 : decode cX3_put 27 = .ok (.getfield 28, 3) := by decide +kernel
theorem dX3_put_30 : decode cX3_put 30 = .ok (.aload_n 1, 1) := by decide +kernel
theorem dX3_put_31 : decode cX3_put 31 = .ok (.iload_n 2, 1) := by decide +kernel
theorem dX3_put_32 : decode cX3_put 32 = .ok (.invokevirtual 332, 3) := by decide +kernel
theorem dX3_put_35 : decode cX3_put 35 = .ok (.return_, 1) := by decide +kernel
abbrev cX3_setPlain : ByteArray := prog_5_method_21_code
def yX3_setPlain : MethodName := ⟨RX3, "setPlain", "(LSoftController$Name;)V"⟩
theorem dX3_setPlain_0 : decode cX3_setPlain 0 = .ok (.aload_n 0, 1) := by decide +kernel
theorem dX3_setPlain_1 : decode cX3_setPlain 1 = .ok (.getfield 15, 3) := by decide +kernel
theorem dX3_setPlain_4 : decode cX3_setPlain 4 = .ok (.invokevirtual 96, 3) := by decide +kernel
theorem dX3_setPlain_7 : decode cX3_setPlain 7 = .ok (.istore_n 2, 1) := by decide +kernel
theorem dX3_setPlain_8 : decode cX3_setPlain 8 = .ok (.aload_n 0, 1) := by decide +kernel
theorem dX3_setPlain_9 : decode cX3_setPlain 9 = .ok (.getfield 15, 3) := by decide +kernel
theorem dX3_setPlain_12 : decode cX3_setPlain 12 = .ok (.invokevirtual 73, 3) := by decide +kernel
theorem dX3_setPlain_15 : decode cX3_setPlain 15 = .ok (.aload_n 0, 1) := by decide +kernel
theorem dX3_setPlain_16 : decode cX3_setPlain 16 = .ok (.getfield 28, 3) := by decide +kernel
theorem dX3_setPlain_19 : decode cX3_setPlain 19 = .ok (.invokevirtual 281, 3) := by decide +kernel
theorem dX3_setPlain_22 : decode cX3_setPlain 22 = .ok (.istore_n 3, 1) := by decide +kernel
theorem dX3_setPlain_23 : decode cX3_setPlain 23 = .ok (.aload_n 0, 1) := by decide +kernel
theorem dX3_setPlain_24 : decode cX3_setPlain 24 = .ok (.getfield 28, 3) := by decide +kernel
theorem dX3_setPlain_27 : decode cX3_setPlain 27 = .ok (.iload_n 3, 1) := by decide +kernel
theorem dX3_setPlain_28 : decode cX3_setPlain 28 = .ok (.aload_n 1, 1) := by decide +kernel
theorem dX3_setPlain_29 : decode cX3_setPlain 29 = .ok (.getfield 146, 3) := by decide +kernel
theorem dX3_setPlain_32 : decode cX3_setPlain 32 = .ok (.invokevirtual 322, 3) := by decide +kernel
theorem dX3_setPlain_35 : decode cX3_setPlain 35 = .ok (.ifCond .eq 12, 3) := by decide +kernel
theorem dX3_setPlain_38 : decode cX3_setPlain 38 = .ok (.aload_n 0, 1) := by decide +kernel
theorem dX3_setPlain_39 : decode cX3_setPlain 39 = .ok (.getfield 15, 3) := by decide +kernel
theorem dX3_setPlain_42 : decode cX3_setPlain 42 = .ok (.iconst 4, 1) := by decide +kernel
theorem dX3_setPlain_43 : decode cX3_setPlain 43 = .ok (.iload_n 2, 1) := by decide +kernel
theorem dX3_setPlain_44 : decode cX3_setPlain 44 = .ok (.invokevirtual 126, 3) := by decide +kernel
theorem dX3_setPlain_47 : decode cX3_setPlain 47 = .ok (.return_, 1) := by decide +kernel
abbrev cX3_setBit : ByteArray := prog_5_method_20_code
def yX3_setBit : MethodName := ⟨RX3, "setBit", "(LSoftController$Name;II)V"⟩
theorem dX3_setBit_0 : decode cX3_setBit 0 = .ok (.aload_n 0, 1) := by decide +kernel
theorem dX3_setBit_1 : decode cX3_setBit 1 = .ok (.getfield 15, 3) := by decide +kernel
theorem dX3_setBit_4 : decode cX3_setBit 4 = .ok (.bipush 61, 2) := by decide +kernel
theorem dX3_setBit_6 : decode cX3_setBit 6 = .ok (.invokevirtual 65, 3) := by decide +kernel
theorem dX3_setBit_9 : decode cX3_setBit 9 = .ok (.ifCond .ne 18, 3) := by decide +kernel
theorem dX3_setBit_12 : decode cX3_setBit 12 = .ok (.aload_n 0, 1) := by decide +kernel
theorem dX3_setBit_13 : decode cX3_setBit 13 = .ok (.getfield 15, 3) := by decide +kernel
theorem dX3_setBit_16 : decode cX3_setBit 16 = .ok (.iconst 4, 1) := by decide +kernel
theorem dX3_setBit_17 : decode cX3_setBit 17 = .ok (.aload_n 0, 1) := by decide +kernel
theorem dX3_setBit_18 : decode cX3_setBit 18 = .ok (.getfield 15, 3) := by decide +kernel
theorem dX3_setBit_21 : decode cX3_setBit 21 = .ok (.invokevirtual 96, 3) := by decide +kernel
theorem dX3_setBit_24 : decode cX3_setBit 24 = .ok (.invokevirtual 126, 3) := by decide +kernel
theorem dX3_setBit_27 : decode cX3_setBit 27 = .ok (.aload_n 0, 1) := by decide +kernel
theorem dX3_setBit_28 : decode cX3_setBit 28 = .ok (.getfield 15, 3) := by decide +kernel
theorem dX3_setBit_31 : decode cX3_setBit 31 = .ok (.invokevirtual 73, 3) := by decide +kernel
theorem dX3_setBit_34 : decode cX3_setBit 34 = .ok (.aload_n 0, 1) := by decide +kernel
theorem dX3_setBit_35 : decode cX3_setBit 35 = .ok (.getfield 28, 3) := by decide +kernel
theorem dX3_setBit_38 : decode cX3_setBit 38 = .ok (.invokevirtual 281, 3) := by decide +kernel
theorem dX3_setBit_41 : decode cX3_setBit 41 = .ok (.pop, 1) := by decide +kernel
theorem dX3_setBit_42 : decode cX3_setBit 42 = .ok (.aload_n 1, 1) := by decide +kernel
theorem dX3_setBit_43 : decode cX3_setBit 43 = .ok (.getfield 152, 3) := by decide +kernel
theorem dX3_setBit_46 : decode cX3_setBit 46 = .ok (.ifCond .eq 19, 3) := by decide +kernel
theorem dX3_setBit_49 : decode cX3_setBit 49 = .ok (.aload_n 0, 1) := by decide +kernel
theorem dX3_setBit_50 : decode cX3_setBit 50 = .ok (.getfield 19, 3) := by decide +kernel
theorem dX3_setBit_53 : decode cX3_setBit 53 = .ok (.bipush 14, 2) := by decide +kernel
theorem dX3_setBit_55 : decode cX3_setBit 55 = .ok (.iconst 0, 1) := by decide +kernel
theorem dX3_setBit_56 : decode cX3_setBit 56 = .ok (.iconst 0, 1) := by decide +kernel
theorem dX3_setBit_57 : decode cX3_setBit 57 = .ok (.iload_n 3, 1) := by decide +kernel
theorem dX3_setBit_58 : decode cX3_setBit 58 = .ok (.invokevirtual 239, 3) := by decide +kernel
theorem dX3_setBit_61 : decode cX3_setBit 61 = .ok (.pop, 1) := by decide +kernel
theorem dX3_setBit_62 : decode cX3_setBit 62 = .ok (.goto 13, 3) := by decide +kernel
theorem dX3_setBit_65 : decode cX3_setBit 65 = .ok (.aload_n 0, 1) := by decide +kernel
theorem dX3_setBit_66 : decode cX3_setBit 66 = .ok (.getfield 28, 3) := by decide +kernel
theorem dX3_setBit_69 : decode cX3_setBit 69 = .ok (.aload_n 1, 1) := by decide +kernel
theorem dX3_setBit_70 : decode cX3_setBit 70 = .ok (.iconst 0, 1) := by decide +kernel
theorem dX3_setBit_71 : decode cX3_setBit 71 = .ok (.iload_n 3, 1) := by decide +kernel
theorem dX3_setBit_72 : decode cX3_setBit 72 = .ok (.invokevirtual 319, 3) := by decide +kernel
theorem dX3_setBit_75 : decode cX3_setBit 75 = .ok (.aload_n 0, 1) := by decide +kernel
theorem dX3_setBit_76 : decode cX3_setBit 76 = .ok (.getfield 19, 3) := by decide +kernel
theorem dX3_setBit_79 : decode cX3_setBit 79 = .ok (.bipush 21, 2) := by decide +kernel
theorem dX3_setBit_81 : decode cX3_setBit 81 = .ok (.iload_n 2, 1) := by decide +kernel
theorem dX3_setBit_82 : decode cX3_setBit 82 = .ok (.iconst 0, 1) := by decide +kernel
theorem dX3_setBit_83 : decode cX3_setBit 83 = .ok (.iload_n 3, 1) := by decide +kernel
theorem dX3_setBit_84 : decode cX3_setBit 84 = .ok (.invokevirtual 239, 3) := by decide +kernel
theorem dX3_setBit_87 : decode cX3_setBit 87 = .ok (.pop, 1) := by decide +kernel
theorem dX3_setBit_88 : decode cX3_setBit 88 = .ok (.aload_n 0, 1) := by decide +kernel
theorem dX3_setBit_89 : decode cX3_setBit 89 = .ok (.aload_n 1, 1) := by decide +kernel
theorem dX3_setBit_90 : decode cX3_setBit 90 = .ok (.iload_n 3, 1) := by decide +kernel
theorem dX3_setBit_91 : decode cX3_setBit 91 = .ok (.invokevirtual 313, 3) := by decide +kernel
theorem dX3_setBit_94 : decode cX3_setBit 94 = .ok (.return_, 1) := by decide +kernel
abbrev cX3_change : ByteArray := prog_5_method_22_code
def yX3_change : MethodName := ⟨RX3, "change", "(LSoftController$Name;I)V"⟩
theorem dX3_change_0 : decode cX3_change 0 = .ok (.aload_n 0, 1) := by decide +kernel
theorem dX3_change_1 : decode cX3_change 1 = .ok (.getfield 15, 3) := by decide +kernel
theorem dX3_change_4 : decode cX3_change 4 = .ok (.invokevirtual 69, 3) := by decide +kernel
theorem dX3_change_7 : decode cX3_change 7 = .ok (.istore_n 3, 1) := by decide +kernel
theorem dX3_change_8 : decode cX3_change 8 = .ok (.aload_n 0, 1) := by decide +kernel
theorem dX3_change_9 : decode cX3_change 9 = .ok (.getfield 15, 3) := by decide +kernel
theorem dX3_change_12 : decode cX3_change 12 = .ok (.invokevirtual 96, 3) := by decide +kernel
theorem dX3_change_15 : decode cX3_change 15 = .ok (.istore 4, 2) := by decide +kernel
theorem dX3_change_17 : decode cX3_change 17 = .ok (.aload_n 1, 1) := by decide +kernel
theorem dX3_change_18 : decode cX3_change 18 = .ok (.getfield 152, 3) := by decide +kernel
theorem dX3_change_21 : decode cX3_change 21 = .ok (.ifCond .eq 19, 3) := by decide +kernel
theorem dX3_change_24 : decode cX3_change 24 = .ok (.aload_n 0, 1) := by decide +kernel
theorem dX3_change_25 : decode cX3_change 25 = .ok (.getfield 19, 3) := by decide +kernel
theorem dX3_change_28 : decode cX3_change 28 = .ok (.bipush 13, 2) := by decide +kernel
theorem dX3_change_30 : decode cX3_change 30 = .ok (.iconst 0, 1) := by decide +kernel
theorem dX3_change_31 : decode cX3_change 31 = .ok (.iconst 0, 1) := by decide +kernel
theorem dX3_change_32 : decode cX3_change 32 = .ok (.iload_n 2, 1) := by decide +kernel
theorem dX3_change_33 : decode cX3_change 33 = .ok (.invokevirtual 239, 3) := by decide +kernel
theorem dX3_change_36 : decode cX3_change 36 = .ok (.pop, 1) := by decide +kernel
theorem dX3_change_37 : decode cX3_change 37 = .ok (.goto 13, 3) := by decide +kernel
theorem dX3_change_40 : decode cX3_change 40 = .ok (.aload_n 0, 1) := by decide +kernel
theorem dX3_change_41 : decode cX3_change 41 = .ok (.getfield 28, 3) := by decide +kernel
theorem dX3_change_44 : decode cX3_change 44 = .ok (.aload_n 1, 1) := by decide +kernel
theorem dX3_change_45 : decode cX3_change 45 = .ok (.iconst 0, 1) := by decide +kernel
theorem dX3_change_46 : decode cX3_change 46 = .ok (.iload_n 2, 1) := by decide +kernel
theorem dX3_change_47 : decode cX3_change 47 = .ok (.invokevirtual 319, 3) := by decide +kernel
theorem dX3_change_50 : decode cX3_change 50 = .ok (.aload_n 0, 1) := by decide +kernel
theorem dX3_change_51 : decode cX3_change 51 = .ok (.getfield 15, 3) := by decide +kernel
theorem dX3_change_54 : decode cX3_change 54 = .ok (.invokevirtual 73, 3) := by decide +kernel
theorem dX3_change_57 : decode cX3_change 57 = .ok (.iload_n 3, 1) := by decide +kernel
theorem dX3_change_58 : decode cX3_change 58 = .ok (.sipush 11051, 3) := by decide +kernel
theorem dX3_change_61 : decode cX3_change 61 = .ok (.if_icmp .eq 10, 3) := by decide +kernel
theorem dX3_change_64 : decode cX3_change 64 = .ok (.iload_n 3, 1) := by decide +kernel
theorem dX3_change_65 : decode cX3_change 65 = .ok (.sipush 11565, 3) := by decide +kernel
theorem dX3_change_68 : decode cX3_change 68 = .ok (.if_icmp .ne 44, 3) := by decide +kernel
theorem dX3_change_71 : decode cX3_change 71 = .ok (.aload_n 0, 1) := by decide +kernel
theorem dX3_change_72 : decode cX3_change 72 = .ok (.getfield 19, 3) := by decide +kernel
theorem dX3_change_75 : decode cX3_change 75 = .ok (.lconst 1, 1) := by decide +kernel
theorem dX3_change_76 : decode cX3_change 76 = .ok (.iconst 0, 1) := by decide +kernel
theorem dX3_change_77 : decode cX3_change 77 = .ok (.iload 4, 2) := by decide +kernel
theorem dX3_change_79 : decode cX3_change 79 = .ok (.invokevirtual 236, 3) := by decide +kernel
theorem dX3_change_82 : decode cX3_change 82 = .ok (.aload_n 0, 1) := by decide +kernel
theorem dX3_change_83 : decode cX3_change 83 = .ok (.getfield 28, 3) := by decide +kernel
theorem dX3_change_86 : decode cX3_change 86 = .ok (.iload_n 3, 1) := by decide +kernel
theorem dX3_change_87 : decode cX3_change 87 = .ok (.sipush 11051, 3) := by decide +kernel
theorem dX3_change_90 : decode cX3_change 90 = .ok (.if_icmp .ne 7, 3) := by decide +kernel
theorem dX3_change_93 : decode cX3_change 93 = .ok (.iconst 0, 1) := by decide +kernel
theorem dX3_change_94 : decode cX3_change 94 = .ok (.goto 4, 3) := by decide +kernel
theorem dX3_change_97 : decode cX3_change 97 = .ok (.iconst 1, 1) := by decide +kernel
theorem dX3_change_98 : decode cX3_change 98 = .ok (.aload_n 1, 1) := by decide +kernel
theorem dX3_change_99 : decode cX3_change 99 = .ok (.getfield 146, 3) := by decide +kernel
theorem dX3_change_102 : decode cX3_change 102 = .ok (.iconst 3, 1) := by decide +kernel
theorem dX3_change_103 : decode cX3_change 103 = .ok (.iload 4, 2) := by decide +kernel
theorem dX3_change_105 : decode cX3_change 105 = .ok (.invokevirtual 326, 3) := by decide +kernel
theorem dX3_change_108 : decode cX3_change 108 = .ok (.pop, 1) := by decide +kernel
theorem dX3_change_109 : decode cX3_change 109 = .ok (.goto 32, 3) := by decide +kernel
theorem dX3_change_112 : decode cX3_change 112 = .ok (.aload_n 0, 1) := by decide +kernel
theorem dX3_change_113 : decode cX3_change 113 = .ok (.getfield 28, 3) := by decide +kernel
theorem dX3_change_116 : decode cX3_change 116 = .ok (.invokevirtual 281, 3) := by decide +kernel
theorem dX3_change_119 : decode cX3_change 119 = .ok (.istore 5, 2) := by decide +kernel
theorem dX3_change_121 : decode cX3_change 121 = .ok (.aload_n 0, 1) := by decide +kernel
theorem dX3_change_122 : decode cX3_change 122 = .ok (.getfield 28, 3) := by decide +kernel
theorem dX3_change_125 : decode cX3_change 125 = .ok (.iload_n 3, 1) := by decide +kernel
theorem dX3_change_126 : decode cX3_change 126 = .ok (.invokestatic 329, 3) := by decide +kernel
theorem dX3_change_129 : decode cX3_change 129 = .ok (.aload_n 1, 1) := by decide +kernel
theorem dX3_change_130 : decode cX3_change 130 = .ok (.getfield 146, 3) := by decide +kernel
theorem dX3_change_133 : decode cX3_change 133 = .ok (.iload 5, 2) := by decide +kernel
theorem dX3_change_135 : decode cX3_change 135 = .ok (.iload 4, 2) := by decide +kernel
theorem dX3_change_137 : decode cX3_change 137 = .ok (.invokevirtual 326, 3) := by decide +kernel
theorem dX3_change_140 : decode cX3_change 140 = .ok (.pop, 1) := by decide +kernel
theorem dX3_change_141 : decode cX3_change 141 = .ok (.return_, 1) := by decide +kernel
abbrev cX3_assignment : ByteArray := prog_5_method_19_code
def yX3_assignment : MethodName := ⟨RX3, "assignment", "(I)V"⟩
theorem dX3_assignment_0 : decode cX3_assignment 0 = .ok (.aload_n 0, 1) := by decide +kernel
theorem dX3_assignment_1 : decode cX3_assignment 1 = .ok (.getfield 28, 3) := by decide +kernel
theorem dX3_assignment_4 : decode cX3_assignment 4 = .ok (.iconst 1, 1) := by decide +kernel
theorem dX3_assignment_5 : decode cX3_assignment 5 = .ok (.invokevirtual 298, 3) := by decide +kernel
theorem dX3_assignment_8 : decode cX3_assignment 8 = .ok (.astore_n 2, 1) := by decide +kernel
theorem dX3_assignment_9 : decode cX3_assignment 9 = .ok (.aload_n 0, 1) := by decide +kernel
theorem dX3_assignment_10 : decode cX3_assignment 10 = .ok (.getfield 15, 3) := by decide +kernel
theorem dX3_assignment_13 : decode cX3_assignment 13 = .ok (.invokevirtual 73, 3) := by decide +kernel
theorem dX3_assignment_16 : decode cX3_assignment 16 = .ok (.aload_n 2, 1) := by decide +kernel
theorem dX3_assignment_17 : decode cX3_assignment 17 = .ok (.getfield 152, 3) := by decide +kernel
theorem dX3_assignment_20 : decode cX3_assignment 20 = .ok (.ifCond .eq 12, 3) := by decide +kernel
theorem dX3_assignment_23 : decode cX3_assignment 23 = .ok (.aload_n 0, 1) := by decide +kernel
theorem dX3_assignment_24 : decode cX3_assignment 24 = .ok (.getfield 28, 3) := by decide +kernel
theorem dX3_assignment_27 : decode cX3_assignment 27 = .ok (.aload_n 2, 1) := by decide +kernel
theorem dX3_assignment_28 : decode cX3_assignment 28 = .ok (.iload_n 1, 1) := by decide +kernel
theorem dX3_assignment_29 : decode cX3_assignment 29 = .ok (.invokevirtual 302, 3) := by decide +kernel
theorem dX3_assignment_32 : decode cX3_assignment 32 = .ok (.aload_n 0, 1) := by decide +kernel
theorem dX3_assignment_33 : decode cX3_assignment 33 = .ok (.getfield 15, 3) := by decide +kernel
theorem dX3_assignment_36 : decode cX3_assignment 36 = .ok (.bipush 46, 2) := by decide +kernel
theorem dX3_assignment_38 : decode cX3_assignment 38 = .ok (.invokevirtual 65, 3) := by decide +kernel
theorem dX3_assignment_41 : decode cX3_assignment 41 = .ok (.ifCond .eq 25, 3) := by decide +kernel
theorem dX3_assignment_44 : decode cX3_assignment 44 = .ok (.aload_n 0, 1) := by decide +kernel
theorem dX3_assignment_45 : decode cX3_assignment 45 = .ok (.getfield 28, 3) := by decide +kernel
theorem dX3_assignment_48 : decode cX3_assignment 48 = .ok (.aload_n 2, 1) := by decide +kernel
theorem dX3_assignment_49 : decode cX3_assignment 49 = .ok (.getfield 146, 3) := by decide +kernel
theorem dX3_assignment_52 : decode cX3_assignment 52 = .ok (.invokevirtual 304, 3) := by decide +kernel
theorem dX3_assignment_55 : decode cX3_assignment 55 = .ok (.istore_n 3, 1) := by decide +kernel
theorem dX3_assignment_56 : decode cX3_assignment 56 = .ok (.aload_n 0, 1) := by decide +kernel
theorem dX3_assignment_57 : decode cX3_assignment 57 = .ok (.aload_n 2, 1) := by decide +kernel
theorem dX3_assignment_58 : decode cX3_assignment 58 = .ok (.iload_n 3, 1) := by decide +kernel
theorem dX3_assignment_59 : decode cX3_assignment 59 = .ok (.iload_n 1, 1) := by decide +kernel
theorem dX3_assignment_60 : decode cX3_assignment 60 = .ok (.invokevirtual 307, 3) := by decide +kernel
theorem dX3_assignment_63 : decode cX3_assignment 63 = .ok (.goto 41, 3) := by decide +kernel
theorem dX3_assignment_66 : decode cX3_assignment 66 = .ok (.aload_n 0, 1) := by decide +kernel
theorem dX3_assignment_67 : decode cX3_assignment 67 = .ok (.getfield 15, 3) := by decide +kernel
theorem dX3_assignment_70 : decode cX3_assignment 70 = .ok (.bipush 61, 2) := by decide +kernel
theorem dX3_assignment_72 : decode cX3_assignment 72 = .ok (.invokevirtual 65, 3) := by decide +kernel
theorem dX3_assignment_75 : decode cX3_assignment 75 = .ok (.ifCond .eq 17, 3) := by decide +kernel
theorem dX3_assignment_78 : decode cX3_assignment 78 = .ok (.aload_n 0, 1) := by decide +kernel
theorem dX3_assignment_79 : decode cX3_assignment 79 = .ok (.aload_n 2, 1) := by decide +kernel
theorem dX3_assignment_80 : decode cX3_assignment 80 = .ok (.invokevirtual 310, 3) := by decide +kernel
theorem dX3_assignment_83 : decode cX3_assignment 83 = .ok (.aload_n 0, 1) := by decide +kernel
theorem dX3_assignment_84 : decode cX3_assignment 84 = .ok (.aload_n 2, 1) := by decide +kernel
theorem dX3_assignment_85 : decode cX3_assignment 85 = .ok (.iload_n 1, 1) := by decide +kernel
theorem dX3_assignment_86 : decode cX3_assignment 86 = .ok (.invokevirtual 313, 3) := by decide +kernel
theorem dX3_assignment_89 : decode cX3_assignment 89 = .ok (.goto 15, 3) := by decide +kernel
theorem dX3_assignment_92 : decode cX3_assignment 92 = .ok (.aload_n 0, 1) := by decide +kernel
theorem dX3_assignment_93 : decode cX3_assignment 93 = .ok (.aload_n 2, 1) := by decide +kernel
theorem dX3_assignment_94 : decode cX3_assignment 94 = .ok (.iload_n 1, 1) := by decide +kernel
theorem dX3_assignment_95 : decode cX3_assignment 95 = .ok (.invokevirtual 316, 3) := by decide +kernel
theorem dX3_assignment_98 : decode cX3_assignment 98 = .ok (.aload_n 0, 1) := by decide +kernel
theorem dX3_assignment_99 : decode cX3_assignment 99 = .ok (.aload_n 2, 1) := by decide +kernel
theorem dX3_assignment_100 : decode cX3_assignment 100 = .ok (.iload_n 1, 1) := by decide +kernel
theorem dX3_assignment_101 : decode cX3_assignment 101 = .ok (.invokevirtual 313, 3) := by decide +kernel
theorem dX3_assignment_104 : decode cX3_assignment 104 = .ok (.aload_n 0, 1) := by decide +kernel
theorem dX3_assignment_105 : decode cX3_assignment 105 = .ok (.getfield 15, 3) := by decide +kernel
theorem dX3_assignment_108 : decode cX3_assignment 108 = .ok (.invokevirtual 73, 3) := by decide +kernel
theorem dX3_assignment_111 : decode cX3_assignment 111 = .ok (.return_, 1) := by decide +kernel
abbrev cX3_instanceCall : ByteArray := prog_5_method_18_code
def yX3_instanceCall : MethodName := ⟨RX3, "instanceCall", "(I)V"⟩
theorem dX3_instanceCall_0 : decode cX3_instanceCall 0 = .ok (.aload_n 0, 1) := by decide +kernel
theorem dX3_instanceCall_1 : decode cX3_instanceCall 1 = .ok (.getfield 28, 3) := by decide +kernel
theorem dX3_instanceCall_4 : decode cX3_instanceCall 4 = .ok (.invokevirtual 206, 3) := by decide +kernel
theorem dX3_instanceCall_7 : decode cX3_instanceCall 7 = .ok (.astore_n 2, 1) := by decide +kernel
theorem dX3_instanceCall_8 : decode cX3_instanceCall 8 = .ok (.aload_n 2, 1) := by decide +kernel
theorem dX3_instanceCall_9 : decode cX3_instanceCall 9 = .ok (.getfield 121, 3) := by decide +kernel
theorem dX3_instanceCall_12 : decode cX3_instanceCall 12 = .ok (.iconst 1, 1) := by decide +kernel
theorem dX3_instanceCall_13 : decode cX3_instanceCall 13 = .ok (.if_icmp .eq 12, 3) := by decide +kernel
theorem dX3_instanceCall_16 : decode cX3_instanceCall 16 = .ok (.aload_n 0, 1) := by decide +kernel
theorem dX3_instanceCall_17 : decode cX3_instanceCall 17 = .ok (.getfield 15, 3) := by decide +kernel
theorem dX3_instanceCall_20 : decode cX3_instanceCall 20 = .ok (.iconst 3, 1) := by decide +kernel
theorem dX3_instanceCall_21 : decode cX3_instanceCall 21 = .ok (.iload_n 1, 1) := by decide +kernel
theorem dX3_instanceCall_22 : decode cX3_instanceCall 22 = .ok (.invokevirtual 126, 3) := by decide +kernel
theorem dX3_instanceCall_25 : decode cX3_instanceCall 25 = .ok (.aload_n 0, 1) := by decide +kernel
theorem dX3_instanceCall_26 : decode cX3_instanceCall 26 = .ok (.getfield 19, 3) := by decide +kernel
theorem dX3_instanceCall_29 : decode cX3_instanceCall 29 = .ok (.iload_n 1, 1) := by decide +kernel
theorem dX3_instanceCall_30 : decode cX3_instanceCall 30 = .ok (.invokevirtual 260, 3) := by decide +kernel
theorem dX3_instanceCall_33 : decode cX3_instanceCall 33 = .ok (.aload_n 0, 1) := by decide +kernel
theorem dX3_instanceCall_34 : decode cX3_instanceCall 34 = .ok (.getfield 28, 3) := by decide +kernel
theorem dX3_instanceCall_37 : decode cX3_instanceCall 37 = .ok (.aload_n 0, 1) := by decide +kernel
theorem dX3_instanceCall_38 : decode cX3_instanceCall 38 = .ok (.getfield 19, 3) := by decide +kernel
theorem dX3_instanceCall_41 : decode cX3_instanceCall 41 = .ok (.aload_n 2, 1) := by decide +kernel
theorem dX3_instanceCall_42 : decode cX3_instanceCall 42 = .ok (.getfield 217, 3) := by decide +kernel
theorem dX3_instanceCall_45 : decode cX3_instanceCall 45 = .ok (.invokevirtual 113, 3) := by decide +kernel
theorem dX3_instanceCall_48 : decode cX3_instanceCall 48 = .ok (.aload_n 2, 1) := by decide +kernel
theorem dX3_instanceCall_49 : decode cX3_instanceCall 49 = .ok (.getfield 170, 3) := by decide +kernel
theorem dX3_instanceCall_52 : decode cX3_instanceCall 52 = .ok (.iload_n 1, 1) := by decide +kernel
theorem dX3_instanceCall_53 : decode cX3_instanceCall 53 = .ok (.invokevirtual 294, 3) := by decide +kernel
theorem dX3_instanceCall_56 : decode cX3_instanceCall 56 = .ok (.aload_n 0, 1) := by decide +kernel
theorem dX3_instanceCall_57 : decode cX3_instanceCall 57 = .ok (.getfield 19, 3) := by decide +kernel
theorem dX3_instanceCall_60 : decode cX3_instanceCall 60 = .ok (.bipush 38, 2) := by decide +kernel
theorem dX3_instanceCall_62 : decode cX3_instanceCall 62 = .ok (.aload_n 2, 1) := by decide +kernel
theorem dX3_instanceCall_63 : decode cX3_instanceCall 63 = .ok (.getfield 214, 3) := by decide +kernel
theorem dX3_instanceCall_66 : decode cX3_instanceCall 66 = .ok (.iconst 0, 1) := by decide +kernel
theorem dX3_instanceCall_67 : decode cX3_instanceCall 67 = .ok (.iload_n 1, 1) := by decide +kernel
theorem dX3_instanceCall_68 : decode cX3_instanceCall 68 = .ok (.invokevirtual 239, 3) := by decide +kernel
theorem dX3_instanceCall_71 : decode cX3_instanceCall 71 = .ok (.pop, 1) := by decide +kernel
theorem dX3_instanceCall_72 : decode cX3_instanceCall 72 = .ok (.aload_n 0, 1) := by decide +kernel
theorem dX3_instanceCall_73 : decode cX3_instanceCall 73 = .ok (.getfield 15, 3) := by decide +kernel
theorem dX3_instanceCall_76 : decode cX3_instanceCall 76 = .ok (.invokevirtual 73, 3) := by decide +kernel
theorem dX3_instanceCall_79 : decode cX3_instanceCall 79 = .ok (.return_, 1) := by decide +kernel
abbrev cX3_leave : ByteArray := prog_5_method_30_code
def yX3_leave : MethodName := ⟨RX3, "leave", "(I)V"⟩
theorem dX3_leave_0 : decode cX3_leave 0 = .ok (.aload_n 0, 1) := by decide +kernel
theorem dX3_leave_1 : decode cX3_leave 1 = .ok (.getfield 51, 3) := by decide +kernel
theorem dX3_leave_4 : decode cX3_leave 4 = .ok (.ifCond .ne 12, 3) := by decide +kernel
theorem dX3_leave_7 : decode cX3_leave 7 = .ok (.aload_n 0, 1) := by decide +kernel
theorem dX3_leave_8 : decode cX3_leave 8 = .ok (.getfield 15, 3) := by decide +kernel
theorem dX3_leave_11 : decode cX3_leave 11 = .ok (.iconst 3, 1) := by decide +kernel
theorem dX3_leave_12 : decode cX3_leave 12 = .ok (.iload_n 1, 1) := by decide +kernel
theorem dX3_leave_13 : decode cX3_leave 13 = .ok (.invokevirtual 126, 3) := by decide +kernel
theorem dX3_leave_16 : decode cX3_leave 16 = .ok (.aload_n 0, 1) := by decide +kernel
theorem dX3_leave_17 : decode cX3_leave 17 = .ok (.getfield 15, 3) := by decide +kernel
theorem dX3_leave_20 : decode cX3_leave 20 = .ok (.bipush 25, 2) := by decide +kernel
theorem dX3_leave_22 : decode cX3_leave 22 = .ok (.invokevirtual 65, 3) := by decide +kernel
theorem dX3_leave_25 : decode cX3_leave 25 = .ok (.ifCond .eq 25, 3) := by decide +kernel
theorem dX3_leave_28 : decode cX3_leave 28 = .ok (.aload_n 0, 1) := by decide +kernel
theorem dX3_leave_29 : decode cX3_leave 29 = .ok (.aload_n 0, 1) := by decide +kernel
theorem dX3_leave_30 : decode cX3_leave 30 = .ok (.getfield 19, 3) := by decide +kernel
theorem dX3_leave_33 : decode cX3_leave 33 = .ok (.bipush 30, 2) := by decide +kernel
theorem dX3_leave_35 : decode cX3_leave 35 = .ok (.aload_n 0, 1) := by decide +kernel
theorem dX3_leave_36 : decode cX3_leave 36 = .ok (.getfield 54, 3) := by decide +kernel
theorem dX3_leave_39 : decode cX3_leave 39 = .ok (.iconst 0, 1) := by decide +kernel
theorem dX3_leave_40 : decode cX3_leave 40 = .ok (.iload_n 1, 1) := by decide +kernel
theorem dX3_leave_41 : decode cX3_leave 41 = .ok (.invokevirtual 239, 3) := by decide +kernel
theorem dX3_leave_44 : decode cX3_leave 44 = .ok (.putfield 54, 3) := by decide +kernel
theorem dX3_leave_47 : decode cX3_leave 47 = .ok (.goto 22, 3) := by decide +kernel
theorem dX3_leave_50 : decode cX3_leave 50 = .ok (.aload_n 0, 1) := by decide +kernel
theorem dX3_leave_51 : decode cX3_leave 51 = .ok (.aload_n 0, 1) := by decide +kernel
theorem dX3_leave_52 : decode cX3_leave 52 = .ok (.getfield 19, 3) := by decide +kernel
theorem dX3_leave_55 : decode cX3_leave 55 = .ok (.bipush 30, 2) := by decide +kernel
theorem dX3_leave_57 : decode cX3_leave 57 = .ok (.aload_n 0, 1) := by decide +kernel
theorem dX3_leave_58 : decode cX3_leave 58 = .ok (.getfield 57, 3) := by decide +kernel
theorem dX3_leave_61 : decode cX3_leave 61 = .ok (.iconst 0, 1) := by decide +kernel
theorem dX3_leave_62 : decode cX3_leave 62 = .ok (.iload_n 1, 1) := by decide +kernel
theorem dX3_leave_63 : decode cX3_leave 63 = .ok (.invokevirtual 239, 3) := by decide +kernel
theorem dX3_leave_66 : decode cX3_leave 66 = .ok (.putfield 57, 3) := by decide +kernel
theorem dX3_leave_69 : decode cX3_leave 69 = .ok (.aload_n 0, 1) := by decide +kernel
theorem dX3_leave_70 : decode cX3_leave 70 = .ok (.getfield 15, 3) := by decide +kernel
theorem dX3_leave_73 : decode cX3_leave 73 = .ok (.invokevirtual 73, 3) := by decide +kernel
theorem dX3_leave_76 : decode cX3_leave 76 = .ok (.aload_n 0, 1) := by decide +kernel
theorem dX3_leave_77 : decode cX3_leave 77 = .ok (.getfield 15, 3) := by decide +kernel
theorem dX3_leave_80 : decode cX3_leave 80 = .ok (.invokevirtual 73, 3) := by decide +kernel
theorem dX3_leave_83 : decode cX3_leave 83 = .ok (.return_, 1) := by decide +kernel
abbrev cX3_returned : ByteArray := prog_5_method_31_code
def yX3_returned : MethodName := ⟨RX3, "returned", "(I)V"⟩
theorem dX3_returned_0 : decode cX3_returned 0 = .ok (.aload_n 0, 1) := by decide +kernel
theorem dX3_returned_1 : decode cX3_returned 1 = .ok (.getfield 15, 3) := by decide +kernel
theorem dX3_returned_4 : decode cX3_returned 4 = .ok (.iconst 1, 1) := by decide +kernel
theorem dX3_returned_5 : decode cX3_returned 5 = .ok (.invokevirtual 284, 3) := by decide +kernel
theorem dX3_returned_8 : decode cX3_returned 8 = .ok (.bipush 59, 2) := by decide +kernel
theorem dX3_returned_10 : decode cX3_returned 10 = .ok (.if_icmp .eq 7, 3) := by decide +kernel
theorem dX3_returned_13 : decode cX3_returned 13 = .ok (.iconst 1, 1) := by decide +kernel
theorem dX3_returned_14 : decode cX3_returned 14 = .ok (.goto 4, 3) := by decide +kernel
theorem dX3_returned_17 : decode cX3_returned 17 = .ok (.iconst 0, 1) := by decide +kernel
theorem dX3_returned_18 : decode cX3_returned 18 = .ok (.istore_n 2, 1) := by decide +kernel
theorem dX3_returned_19 : decode cX3_returned 19 = .ok (.aload_n 0, 1) := by decide +kernel
theorem dX3_returned_20 : decode cX3_returned 20 = .ok (.getfield 19, 3) := by decide +kernel
theorem dX3_returned_23 : decode cX3_returned 23 = .ok (.aload_n 0, 1) := by decide +kernel
theorem dX3_returned_24 : decode cX3_returned 24 = .ok (.getfield 19, 3) := by decide +kernel
theorem dX3_returned_27 : decode cX3_returned 27 = .ok (.getfield 110, 3) := by decide +kernel
theorem dX3_returned_30 : decode cX3_returned 30 = .ok (.invokevirtual 113, 3) := by decide +kernel
theorem dX3_returned_33 : decode cX3_returned 33 = .ok (.astore_n 3, 1) := by decide +kernel
theorem dX3_returned_34 : decode cX3_returned 34 = .ok (.iload_n 2, 1) := by decide +kernel
theorem dX3_returned_35 : decode cX3_returned 35 = .ok (.aload_n 3, 1) := by decide +kernel
theorem dX3_returned_36 : decode cX3_returned 36 = .ok (.getfield 121, 3) := by decide +kernel
theorem dX3_returned_39 : decode cX3_returned 39 = .ok (.iconst 4, 1) := by decide +kernel
theorem dX3_returned_40 : decode cX3_returned 40 = .ok (.if_icmp .ne 7, 3) := by decide +kernel
theorem dX3_returned_43 : decode cX3_returned 43 = .ok (.iconst 1, 1) := by decide +kernel
theorem dX3_returned_44 : decode cX3_returned 44 = .ok (.goto 4, 3) := by decide +kernel
theorem dX3_returned_47 : decode cX3_returned 47 = .ok (.iconst 0, 1) := by decide +kernel
theorem dX3_returned_48 : decode cX3_returned 48 = .ok (.if_icmp .eq 12, 3) := by decide +kernel
theorem dX3_returned_51 : decode cX3_returned 51 = .ok (.aload_n 0, 1) := by decide +kernel
theorem dX3_returned_52 : decode cX3_returned 52 = .ok (.getfield 15, 3) := by decide +kernel
theorem dX3_returned_55 : decode cX3_returned 55 = .ok (.iconst 3, 1) := by decide +kernel
theorem dX3_returned_56 : decode cX3_returned 56 = .ok (.iload_n 1, 1) := by decide +kernel
theorem dX3_returned_57 : decode cX3_returned 57 = .ok (.invokevirtual 126, 3) := by decide +kernel
theorem dX3_returned_60 : decode cX3_returned 60 = .ok (.aload_n 0, 1) := by decide +kernel
theorem dX3_returned_61 : decode cX3_returned 61 = .ok (.getfield 15, 3) := by decide +kernel
theorem dX3_returned_64 : decode cX3_returned 64 = .ok (.invokevirtual 73, 3) := by decide +kernel
theorem dX3_returned_67 : decode cX3_returned 67 = .ok (.iload_n 2, 1) := by decide +kernel
theorem dX3_returned_68 : decode cX3_returned 68 = .ok (.ifCond .eq 66, 3) := by decide +kernel
theorem dX3_returned_71 : decode cX3_returned 71 = .ok (.aload_n 0, 1) := by decide +kernel
theorem dX3_returned_72 : decode cX3_returned 72 = .ok (.getfield 15, 3) := by decide +kernel
theorem dX3_returned_75 : decode cX3_returned 75 = .ok (.invokevirtual 96, 3) := by decide +kernel
theorem dX3_returned_78 : decode cX3_returned 78 = .ok (.istore 4, 2) := by decide +kernel
theorem dX3_returned_80 : decode cX3_returned 80 = .ok (.aload_n 0, 1) := by decide +kernel
theorem dX3_returned_81 : decode cX3_returned 81 = .ok (.getfield 28, 3) := by decide +kernel
theorem dX3_returned_84 : decode cX3_returned 84 = .ok (.invokevirtual 281, 3) := by decide +kernel
theorem dX3_returned_87 : decode cX3_returned 87 = .ok (.istore 5, 2) := by decide +kernel
theorem dX3_returned_89 : decode cX3_returned 89 = .ok (.aload_n 0, 1) := by decide +kernel
theorem dX3_returned_90 : decode cX3_returned 90 = .ok (.getfield 28, 3) := by decide +kernel
theorem dX3_returned_93 : decode cX3_returned 93 = .ok (.iload 5, 2) := by decide +kernel
theorem dX3_returned_95 : decode cX3_returned 95 = .ok (.aload_n 3, 1) := by decide +kernel
theorem dX3_returned_96 : decode cX3_returned 96 = .ok (.getfield 146, 3) := by decide +kernel
theorem dX3_returned_99 : decode cX3_returned 99 = .ok (.invokevirtual 322, 3) := by decide +kernel
theorem dX3_returned_102 : decode cX3_returned 102 = .ok (.ifCond .eq 13, 3) := by decide +kernel
theorem dX3_returned_105 : decode cX3_returned 105 = .ok (.aload_n 0, 1) := by decide +kernel
theorem dX3_returned_106 : decode cX3_returned 106 = .ok (.getfield 15, 3) := by decide +kernel
theorem dX3_returned_109 : decode cX3_returned 109 = .ok (.iconst 4, 1) := by decide +kernel
theorem dX3_returned_110 : decode cX3_returned 110 = .ok (.iload 4, 2) := by decide +kernel
theorem dX3_returned_112 : decode cX3_returned 112 = .ok (.invokevirtual 126, 3) := by decide +kernel
theorem dX3_returned_115 : decode cX3_returned 115 = .ok (.aload_n 0, 1) := by decide +kernel
theorem dX3_returned_116 : decode cX3_returned 116 = .ok (.getfield 19, 3) := by decide +kernel
theorem dX3_returned_119 : decode cX3_returned 119 = .ok (.bipush 39, 2) := by decide +kernel
theorem dX3_returned_121 : decode cX3_returned 121 = .ok (.aload_n 3, 1) := by decide +kernel
theorem dX3_returned_122 : decode cX3_returned 122 = .ok (.getfield 146, 3) := by decide +kernel
theorem dX3_returned_125 : decode cX3_returned 125 = .ok (.iconst 0, 1) := by decide +kernel
theorem dX3_returned_126 : decode cX3_returned 126 = .ok (.iload_n 1, 1) := by decide +kernel
theorem dX3_returned_127 : decode cX3_returned 127 = .ok (.invokevirtual 239, 3) := by decide +kernel
theorem dX3_returned_130 : decode cX3_returned 130 = .ok (.pop, 1) := by decide +kernel
theorem dX3_returned_131 : decode cX3_returned 131 = .ok (.goto 16, 3) := by decide +kernel
theorem dX3_returned_134 : decode cX3_returned 134 = .ok (.aload_n 0, 1) := by decide +kernel
theorem dX3_returned_135 : decode cX3_returned 135 = .ok (.getfield 19, 3) := by decide +kernel
theorem dX3_returned_138 : decode cX3_returned 138 = .ok (.bipush 40, 2) := by decide +kernel
theorem dX3_returned_140 : decode cX3_returned 140 = .ok (.iconst 0, 1) := by decide +kernel
theorem dX3_returned_141 : decode cX3_returned 141 = .ok (.iconst 0, 1) := by decide +kernel
theorem dX3_returned_142 : decode cX3_returned 142 = .ok (.iload_n 1, 1) := by decide +kernel
theorem dX3_returned_143 : decode cX3_returned 143 = .ok (.invokevirtual 239, 3) := by decide +kernel
theorem dX3_returned_146 : decode cX3_returned 146 = .ok (.pop, 1) := by decide +kernel
theorem dX3_returned_147 : decode cX3_returned 147 = .ok (.aload_n 0, 1) := by decide +kernel
theorem dX3_returned_148 : decode cX3_returned 148 = .ok (.getfield 15, 3) := by decide +kernel
theorem dX3_returned_151 : decode cX3_returned 151 = .ok (.invokevirtual 73, 3) := by decide +kernel
theorem dX3_returned_154 : decode cX3_returned 154 = .ok (.return_, 1) := by decide +kernel
abbrev cX3_labels : ByteArray := prog_5_method_29_code
def yX3_labels : MethodName := ⟨RX3, "labels", "()V"⟩
theorem dX3_labels_0 : decode cX3_labels 0 = .ok (.iconst 0, 1) := by decide +kernel
theorem dX3_labels_1 : decode cX3_labels 1 = .ok (.istore_n 1, 1) := by decide +kernel
theorem dX3_labels_2 : decode cX3_labels 2 = .ok (.iload_n 1, 1) := by decide +kernel
theorem dX3_labels_3 : decode cX3_labels 3 = .ok (.sipush 1500, 3) := by decide +kernel
theorem dX3_labels_6 : decode cX3_labels 6 = .ok (.if_icmp .ge 100, 3) := by decide +kernel
theorem dX3_labels_9 : decode cX3_labels 9 = .ok (.aload_n 0, 1) := by decide +kernel
theorem dX3_labels_10 : decode cX3_labels 10 = .ok (.getfield 15, 3) := by decide +kernel
theorem dX3_labels_13 : decode cX3_labels 13 = .ok (.bipush 123, 2) := by decide +kernel
theorem dX3_labels_15 : decode cX3_labels 15 = .ok (.invokevirtual 65, 3) := by decide +kernel
theorem dX3_labels_18 : decode cX3_labels 18 = .ok (.ifCond .ne 88, 3) := by decide +kernel
theorem dX3_labels_21 : decode cX3_labels 21 = .ok (.aload_n 0, 1) := by decide +kernel
theorem dX3_labels_22 : decode cX3_labels 22 = .ok (.getfield 15, 3) := by decide +kernel
theorem dX3_labels_25 : decode cX3_labels 25 = .ok (.invokevirtual 73, 3) := by decide +kernel
theorem dX3_labels_28 : decode cX3_labels 28 = .ok (.aload_n 0, 1) := by decide +kernel
theorem dX3_labels_29 : decode cX3_labels 29 = .ok (.iconst 4, 1) := by decide +kernel
theorem dX3_labels_30 : decode cX3_labels 30 = .ok (.invokevirtual 162, 3) := by decide +kernel
theorem dX3_labels_33 : decode cX3_labels 33 = .ok (.lstore_n 2, 1) := by decide +kernel
theorem dX3_labels_34 : decode cX3_labels 34 = .ok (.lload_n 2, 1) := by decide +kernel
theorem dX3_labels_35 : decode cX3_labels 35 = .ok (.lstore 4, 2) := by decide +kernel
theorem dX3_labels_37 : decode cX3_labels 37 = .ok (.aload_n 0, 1) := by decide +kernel
theorem dX3_labels_38 : decode cX3_labels 38 = .ok (.getfield 15, 3) := by decide +kernel
theorem dX3_labels_41 : decode cX3_labels 41 = .ok (.sipush 11822, 3) := by decide +kernel
theorem dX3_labels_44 : decode cX3_labels 44 = .ok (.invokevirtual 65, 3) := by decide +kernel
theorem dX3_labels_47 : decode cX3_labels 47 = .ok (.ifCond .eq 43, 3) := by decide +kernel
theorem dX3_labels_50 : decode cX3_labels 50 = .ok (.aload_n 0, 1) := by decide +kernel
theorem dX3_labels_51 : decode cX3_labels 51 = .ok (.getfield 15, 3) := by decide +kernel
theorem dX3_labels_54 : decode cX3_labels 54 = .ok (.invokevirtual 73, 3) := by decide +kernel
theorem dX3_labels_57 : decode cX3_labels 57 = .ok (.aload_n 0, 1) := by decide +kernel
theorem dX3_labels_58 : decode cX3_labels 58 = .ok (.getfield 15, 3) := by decide +kernel
theorem dX3_labels_61 : decode cX3_labels 61 = .ok (.invokevirtual 96, 3) := by decide +kernel
theorem dX3_labels_64 : decode cX3_labels 64 = .ok (.istore 6, 2) := by decide +kernel
theorem dX3_labels_66 : decode cX3_labels 66 = .ok (.aload_n 0, 1) := by decide +kernel
theorem dX3_labels_67 : decode cX3_labels 67 = .ok (.iconst 4, 1) := by decide +kernel
theorem dX3_labels_68 : decode cX3_labels 68 = .ok (.invokevirtual 162, 3) := by decide +kernel
theorem dX3_labels_71 : decode cX3_labels 71 = .ok (.lstore 4, 2) := by decide +kernel
theorem dX3_labels_73 : decode cX3_labels 73 = .ok (.lload_n 2, 1) := by decide +kernel
theorem dX3_labels_74 : decode cX3_labels 74 = .ok (.lload 4, 2) := by decide +kernel
theorem dX3_labels_76 : decode cX3_labels 76 = .ok (.lcmp, 1) := by decide +kernel
theorem dX3_labels_77 : decode cX3_labels 77 = .ok (.ifCond .le 13, 3) := by decide +kernel
theorem dX3_labels_80 : decode cX3_labels 80 = .ok (.aload_n 0, 1) := by decide +kernel
theorem dX3_labels_81 : decode cX3_labels 81 = .ok (.getfield 15, 3) := by decide +kernel
theorem dX3_labels_84 : decode cX3_labels 84 = .ok (.iconst 5, 1) := by decide +kernel
theorem dX3_labels_85 : decode cX3_labels 85 = .ok (.iload 6, 2) := by decide +kernel
theorem dX3_labels_87 : decode cX3_labels 87 = .ok (.invokevirtual 126, 3) := by decide +kernel
theorem dX3_labels_90 : decode cX3_labels 90 = .ok (.aload_n 0, 1) := by decide +kernel
theorem dX3_labels_91 : decode cX3_labels 91 = .ok (.getfield 19, 3) := by decide +kernel
theorem dX3_labels_94 : decode cX3_labels 94 = .ok (.lload_n 2, 1) := by decide +kernel
theorem dX3_labels_95 : decode cX3_labels 95 = .ok (.lload 4, 2) := by decide +kernel
theorem dX3_labels_97 : decode cX3_labels 97 = .ok (.invokevirtual 355, 3) := by decide +kernel
theorem dX3_labels_100 : decode cX3_labels 100 = .ok (.iinc 1 1, 3) := by decide +kernel
theorem dX3_labels_103 : decode cX3_labels 103 = .ok (.goto (-101), 3) := by decide +kernel
theorem dX3_labels_106 : decode cX3_labels 106 = .ok (.return_, 1) := by decide +kernel
theorem gs_3_10 : Cond.selects "SoftController$Maker" ⟨"SoftController$Maker", "oneVariable", "(III)V"⟩ ⟨"SoftController$Maker", "oneVariable", "(III)V"⟩ ∈ GW := gw_s (List.mem_map.mpr ⟨_, pin_3 _ (List.mem_of_getElem? (i := 10) rfl), rfl⟩) rfl
theorem gs_3_11 : Cond.selects "SoftController$Maker" ⟨"SoftController$Maker", "newName", "(I)LSoftController$Name;"⟩ ⟨"SoftController$Maker", "newName", "(I)LSoftController$Name;"⟩ ∈ GW := gw_s (List.mem_map.mpr ⟨_, pin_3 _ (List.mem_of_getElem? (i := 11) rfl), rfl⟩) rfl
theorem gs_3_12 : Cond.selects "SoftController$Maker" ⟨"SoftController$Maker", "constant", "(I)J"⟩ ⟨"SoftController$Maker", "constant", "(I)J"⟩ ∈ GW := gw_s (List.mem_map.mpr ⟨_, pin_3 _ (List.mem_of_getElem? (i := 12) rfl), rfl⟩) rfl
theorem gs_3_13 : Cond.selects "SoftController$Maker" ⟨"SoftController$Maker", "allot", "(III)V"⟩ ⟨"SoftController$Maker", "allot", "(III)V"⟩ ∈ GW := gw_s (List.mem_map.mpr ⟨_, pin_3 _ (List.mem_of_getElem? (i := 13) rfl), rfl⟩) rfl
theorem gs_3_14 : Cond.selects "SoftController$Maker" ⟨"SoftController$Maker", "join", "(LSoftController$Name;I)V"⟩ ⟨"SoftController$Maker", "join", "(LSoftController$Name;I)V"⟩ ∈ GW := gw_s (List.mem_map.mpr ⟨_, pin_3 _ (List.mem_of_getElem? (i := 14) rfl), rfl⟩) rfl
theorem gs_3_15 : Cond.selects "SoftController$Maker" ⟨"SoftController$Maker", "placed", "(I)V"⟩ ⟨"SoftController$Maker", "placed", "(I)V"⟩ ∈ GW := gw_s (List.mem_map.mpr ⟨_, pin_3 _ (List.mem_of_getElem? (i := 15) rfl), rfl⟩) rfl
theorem gs_3_9 : Cond.selects "SoftController$Maker" ⟨"SoftController$Maker", "variables", "(II)V"⟩ ⟨"SoftController$Maker", "variables", "(II)V"⟩ ∈ GW := gw_s (List.mem_map.mpr ⟨_, pin_3 _ (List.mem_of_getElem? (i := 9) rfl), rfl⟩) rfl
theorem gs_4_1 : Cond.selects "SoftController$Maker" ⟨"SoftController$Maker", "parameter", "()V"⟩ ⟨"SoftController$Maker", "parameter", "()V"⟩ ∈ GW := gw_s (List.mem_map.mpr ⟨_, pin_4 _ (List.mem_of_getElem? (i := 1) rfl), rfl⟩) rfl
theorem gs_5_10 : Cond.selects "SoftController$Maker" ⟨"SoftController$Maker", "returned", "(I)V"⟩ ⟨"SoftController$Maker", "returned", "(I)V"⟩ ∈ GW := gw_s (List.mem_map.mpr ⟨_, pin_5 _ (List.mem_of_getElem? (i := 10) rfl), rfl⟩) rfl
theorem gs_5_11 : Cond.selects "SoftController$Maker" ⟨"SoftController$Maker", "instanceCall", "(I)V"⟩ ⟨"SoftController$Maker", "instanceCall", "(I)V"⟩ ∈ GW := gw_s (List.mem_map.mpr ⟨_, pin_5 _ (List.mem_of_getElem? (i := 11) rfl), rfl⟩) rfl
theorem gs_5_12 : Cond.selects "SoftController$Maker" ⟨"SoftController$Maker", "assignment", "(I)V"⟩ ⟨"SoftController$Maker", "assignment", "(I)V"⟩ ∈ GW := gw_s (List.mem_map.mpr ⟨_, pin_5 _ (List.mem_of_getElem? (i := 12) rfl), rfl⟩) rfl
theorem gs_5_13 : Cond.selects "SoftController$Maker" ⟨"SoftController$Maker", "setBit", "(LSoftController$Name;II)V"⟩ ⟨"SoftController$Maker", "setBit", "(LSoftController$Name;II)V"⟩ ∈ GW := gw_s (List.mem_map.mpr ⟨_, pin_5 _ (List.mem_of_getElem? (i := 13) rfl), rfl⟩) rfl
theorem gs_5_14 : Cond.selects "SoftController$Maker" ⟨"SoftController$Maker", "put", "(LSoftController$Name;I)V"⟩ ⟨"SoftController$Maker", "put", "(LSoftController$Name;I)V"⟩ ∈ GW := gw_s (List.mem_map.mpr ⟨_, pin_5 _ (List.mem_of_getElem? (i := 14) rfl), rfl⟩) rfl
theorem gs_5_15 : Cond.selects "SoftController$Maker" ⟨"SoftController$Maker", "change", "(LSoftController$Name;I)V"⟩ ⟨"SoftController$Maker", "change", "(LSoftController$Name;I)V"⟩ ∈ GW := gw_s (List.mem_map.mpr ⟨_, pin_5 _ (List.mem_of_getElem? (i := 15) rfl), rfl⟩) rfl
theorem gs_5_6 : Cond.selects "SoftController$Maker" ⟨"SoftController$Maker", "setPlain", "(LSoftController$Name;)V"⟩ ⟨"SoftController$Maker", "setPlain", "(LSoftController$Name;)V"⟩ ∈ GW := gw_s (List.mem_map.mpr ⟨_, pin_5 _ (List.mem_of_getElem? (i := 6) rfl), rfl⟩) rfl
theorem gs_5_8 : Cond.selects "SoftController$Maker" ⟨"SoftController$Maker", "labels", "()V"⟩ ⟨"SoftController$Maker", "labels", "()V"⟩ ∈ GW := gw_s (List.mem_map.mpr ⟨_, pin_5 _ (List.mem_of_getElem? (i := 8) rfl), rfl⟩) rfl
theorem gs_5_9 : Cond.selects "SoftController$Maker" ⟨"SoftController$Maker", "leave", "(I)V"⟩ ⟨"SoftController$Maker", "leave", "(I)V"⟩ ∈ GW := gw_s (List.mem_map.mpr ⟨_, pin_5 _ (List.mem_of_getElem? (i := 9) rfl), rfl⟩) rfl
theorem gs_6_0 : Cond.selects "SoftController$Maker" ⟨"SoftController$Maker", "uses", "()V"⟩ ⟨"SoftController$Maker", "uses", "()V"⟩ ∈ GW := gw_s (List.mem_map.mpr ⟨_, pin_6 _ (List.mem_of_getElem? (i := 0) rfl), rfl⟩) rfl
theorem gs_6_1 : Cond.selects "SoftController$Maker" ⟨"SoftController$Maker", "oneUse", "(LSoftController$Name;)V"⟩ ⟨"SoftController$Maker", "oneUse", "(LSoftController$Name;)V"⟩ ∈ GW := gw_s (List.mem_map.mpr ⟨_, pin_6 _ (List.mem_of_getElem? (i := 1) rfl), rfl⟩) rfl
theorem gw_1001 : (Jvm.Cond.methodLink "SoftController$Maker" (76 : Nat) ({ cls := "SoftController$Maker", name := "variables", desc := "(II)V" } : Jvm.MethodName)) ∈ GW := gw_t (tin_5 _ (List.mem_of_getElem? (i := 41) rfl)) rfl
theorem gw_1003 : (Jvm.Cond.instanceMethod ({ cls := "SoftController$Maker", name := "variables", desc := "(II)V" } : Jvm.MethodName)) ∈ GW := gw_t (tin_5 _ (List.mem_of_getElem? (i := 43) rfl)) rfl
theorem gw_1004 : (Jvm.Cond.code ({ cls := "SoftController$Maker", name := "variables", desc := "(II)V" } : Jvm.MethodName) prog_5_method_4_code (5 : Nat) (Option.none : Option Jvm.ClassFile.FieldType)) ∈ GW := gw_t (tin_5 _ (List.mem_of_getElem? (i := 44) rfl)) rfl
theorem gw_1009 : (Jvm.Cond.methodLink "SoftController$Maker" (136 : Nat) ({ cls := "SoftController$Maker", name := "oneVariable", desc := "(III)V" } : Jvm.MethodName)) ∈ GW := gw_t (tin_5 _ (List.mem_of_getElem? (i := 49) rfl)) rfl
theorem gw_1011 : (Jvm.Cond.instanceMethod ({ cls := "SoftController$Maker", name := "oneVariable", desc := "(III)V" } : Jvm.MethodName)) ∈ GW := gw_t (tin_5 _ (List.mem_of_getElem? (i := 51) rfl)) rfl
theorem gw_1012 : (Jvm.Cond.code ({ cls := "SoftController$Maker", name := "oneVariable", desc := "(III)V" } : Jvm.MethodName) prog_5_method_5_code (6 : Nat) (Option.none : Option Jvm.ClassFile.FieldType)) ∈ GW := gw_t (tin_5 _ (List.mem_of_getElem? (i := 52) rfl)) rfl
theorem gw_1017 : (Jvm.Cond.methodLink "SoftController$Maker" (140 : Nat) ({ cls := "SoftController$Maker", name := "newName", desc := "(I)LSoftController$Name;" } : Jvm.MethodName)) ∈ GW := gw_t (tin_5 _ (List.mem_of_getElem? (i := 57) rfl)) rfl
theorem gw_1019 : (Jvm.Cond.instanceMethod ({ cls := "SoftController$Maker", name := "newName", desc := "(I)LSoftController$Name;" } : Jvm.MethodName)) ∈ GW := gw_t (tin_5 _ (List.mem_of_getElem? (i := 59) rfl)) rfl
theorem gw_1020 : (Jvm.Cond.code ({ cls := "SoftController$Maker", name := "newName", desc := "(I)LSoftController$Name;" } : Jvm.MethodName) prog_5_method_3_code (7 : Nat) (Option.some (Jvm.ClassFile.FieldType.object "SoftController$Name"))) ∈ GW := gw_t (tin_5 _ (List.mem_of_getElem? (i := 60) rfl)) rfl
theorem gw_1053 : (Jvm.Cond.constantLong "SoftController$Maker" (156 : Nat) (200 : Int64)) ∈ GW := gw_t (tin_5 _ (List.mem_of_getElem? (i := 93) rfl)) rfl
theorem gw_1058 : (Jvm.Cond.methodLink "SoftController$Maker" (162 : Nat) ({ cls := "SoftController$Maker", name := "constant", desc := "(I)J" } : Jvm.MethodName)) ∈ GW := gw_t (tin_5 _ (List.mem_of_getElem? (i := 98) rfl)) rfl
theorem gw_1060 : (Jvm.Cond.instanceMethod ({ cls := "SoftController$Maker", name := "constant", desc := "(I)J" } : Jvm.MethodName)) ∈ GW := gw_t (tin_5 _ (List.mem_of_getElem? (i := 100) rfl)) rfl
theorem gw_1061 : (Jvm.Cond.code ({ cls := "SoftController$Maker", name := "constant", desc := "(I)J" } : Jvm.MethodName) prog_5_method_6_code (7 : Nat) (Option.some Jvm.ClassFile.FieldType.long)) ∈ GW := gw_t (tin_5 _ (List.mem_of_getElem? (i := 101) rfl)) rfl
theorem gw_1070 : (Jvm.Cond.methodLink "SoftController$Maker" (187 : Nat) ({ cls := "SoftController$Numbers", name := "negative", desc := "(ZJ)J" } : Jvm.MethodName)) ∈ GW := gw_t (tin_5 _ (List.mem_of_getElem? (i := 110) rfl)) rfl
theorem gw_1073 : (Jvm.Cond.methodLink "SoftController$Maker" (193 : Nat) ({ cls := "SoftController$Numbers", name := "fits", desc := "(IJ)Z" } : Jvm.MethodName)) ∈ GW := gw_t (tin_5 _ (List.mem_of_getElem? (i := 113) rfl)) rfl
theorem gw_1080 : (Jvm.Cond.methodLink "SoftController$Maker" (173 : Nat) ({ cls := "SoftController$Maker", name := "allot", desc := "(III)V" } : Jvm.MethodName)) ∈ GW := gw_t (tin_5 _ (List.mem_of_getElem? (i := 120) rfl)) rfl
theorem gw_1082 : (Jvm.Cond.instanceMethod ({ cls := "SoftController$Maker", name := "allot", desc := "(III)V" } : Jvm.MethodName)) ∈ GW := gw_t (tin_5 _ (List.mem_of_getElem? (i := 122) rfl)) rfl
theorem gw_1083 : (Jvm.Cond.code ({ cls := "SoftController$Maker", name := "allot", desc := "(III)V" } : Jvm.MethodName) prog_5_method_7_code (4 : Nat) (Option.none : Option Jvm.ClassFile.FieldType)) ∈ GW := gw_t (tin_5 _ (List.mem_of_getElem? (i := 123) rfl)) rfl
theorem gw_1084 : (Jvm.Cond.methodLink "SoftController$Maker" (176 : Nat) ({ cls := "SoftController$Maker", name := "join", desc := "(LSoftController$Name;I)V" } : Jvm.MethodName)) ∈ GW := gw_t (tin_5 _ (List.mem_of_getElem? (i := 124) rfl)) rfl
theorem gw_1086 : (Jvm.Cond.instanceMethod ({ cls := "SoftController$Maker", name := "join", desc := "(LSoftController$Name;I)V" } : Jvm.MethodName)) ∈ GW := gw_t (tin_5 _ (List.mem_of_getElem? (i := 126) rfl)) rfl
theorem gw_1087 : (Jvm.Cond.code ({ cls := "SoftController$Maker", name := "join", desc := "(LSoftController$Name;I)V" } : Jvm.MethodName) prog_5_method_8_code (4 : Nat) (Option.none : Option Jvm.ClassFile.FieldType)) ∈ GW := gw_t (tin_5 _ (List.mem_of_getElem? (i := 127) rfl)) rfl
theorem gw_1088 : (Jvm.Cond.methodLink "SoftController$Maker" (80 : Nat) ({ cls := "SoftController$Maker", name := "placed", desc := "(I)V" } : Jvm.MethodName)) ∈ GW := gw_t (tin_5 _ (List.mem_of_getElem? (i := 128) rfl)) rfl
theorem gw_1090 : (Jvm.Cond.instanceMethod ({ cls := "SoftController$Maker", name := "placed", desc := "(I)V" } : Jvm.MethodName)) ∈ GW := gw_t (tin_5 _ (List.mem_of_getElem? (i := 130) rfl)) rfl
theorem gw_1091 : (Jvm.Cond.code ({ cls := "SoftController$Maker", name := "placed", desc := "(I)V" } : Jvm.MethodName) prog_5_method_9_code (4 : Nat) (Option.none : Option Jvm.ClassFile.FieldType)) ∈ GW := gw_t (tin_5 _ (List.mem_of_getElem? (i := 131) rfl)) rfl
theorem gw_1098 : (Jvm.Cond.methodLink "SoftController$Maker" (224 : Nat) ({ cls := "SoftController$Maker", name := "parameter", desc := "()V" } : Jvm.MethodName)) ∈ GW := gw_t (tin_5 _ (List.mem_of_getElem? (i := 138) rfl)) rfl
theorem gw_1100 : (Jvm.Cond.instanceMethod ({ cls := "SoftController$Maker", name := "parameter", desc := "()V" } : Jvm.MethodName)) ∈ GW := gw_t (tin_5 _ (List.mem_of_getElem? (i := 140) rfl)) rfl
theorem gw_1101 : (Jvm.Cond.code ({ cls := "SoftController$Maker", name := "parameter", desc := "()V" } : Jvm.MethodName) prog_5_method_13_code (4 : Nat) (Option.none : Option Jvm.ClassFile.FieldType)) ∈ GW := gw_t (tin_5 _ (List.mem_of_getElem? (i := 141) rfl)) rfl
theorem gw_1296 : (Jvm.Cond.methodLink "SoftController$Maker" (310 : Nat) ({ cls := "SoftController$Maker", name := "setPlain", desc := "(LSoftController$Name;)V" } : Jvm.MethodName)) ∈ GW := gw_t (tin_6 _ (List.mem_of_getElem? (i := 96) rfl)) rfl
theorem gw_1298 : (Jvm.Cond.instanceMethod ({ cls := "SoftController$Maker", name := "setPlain", desc := "(LSoftController$Name;)V" } : Jvm.MethodName)) ∈ GW := gw_t (tin_6 _ (List.mem_of_getElem? (i := 98) rfl)) rfl
theorem gw_1299 : (Jvm.Cond.code ({ cls := "SoftController$Maker", name := "setPlain", desc := "(LSoftController$Name;)V" } : Jvm.MethodName) prog_5_method_21_code (4 : Nat) (Option.none : Option Jvm.ClassFile.FieldType)) ∈ GW := gw_t (tin_6 _ (List.mem_of_getElem? (i := 99) rfl)) rfl
theorem gw_13 : (Jvm.Cond.initialized "SoftController$Maker") ∈ GW := gw_t (tin_1 _ (List.mem_of_getElem? (i := 13) rfl)) rfl
theorem gw_1312 : (Jvm.Cond.methodLink "SoftController$Maker" (353 : Nat) ({ cls := "SoftController$Maker", name := "labels", desc := "()V" } : Jvm.MethodName)) ∈ GW := gw_t (tin_6 _ (List.mem_of_getElem? (i := 112) rfl)) rfl
theorem gw_1314 : (Jvm.Cond.instanceMethod ({ cls := "SoftController$Maker", name := "labels", desc := "()V" } : Jvm.MethodName)) ∈ GW := gw_t (tin_6 _ (List.mem_of_getElem? (i := 114) rfl)) rfl
theorem gw_1315 : (Jvm.Cond.code ({ cls := "SoftController$Maker", name := "labels", desc := "()V" } : Jvm.MethodName) prog_5_method_29_code (7 : Nat) (Option.none : Option Jvm.ClassFile.FieldType)) ∈ GW := gw_t (tin_6 _ (List.mem_of_getElem? (i := 115) rfl)) rfl
theorem gw_1320 : (Jvm.Cond.methodLink "SoftController$Maker" (275 : Nat) ({ cls := "SoftController$Maker", name := "leave", desc := "(I)V" } : Jvm.MethodName)) ∈ GW := gw_t (tin_6 _ (List.mem_of_getElem? (i := 120) rfl)) rfl
theorem gw_1322 : (Jvm.Cond.instanceMethod ({ cls := "SoftController$Maker", name := "leave", desc := "(I)V" } : Jvm.MethodName)) ∈ GW := gw_t (tin_6 _ (List.mem_of_getElem? (i := 122) rfl)) rfl
theorem gw_1323 : (Jvm.Cond.code ({ cls := "SoftController$Maker", name := "leave", desc := "(I)V" } : Jvm.MethodName) prog_5_method_30_code (2 : Nat) (Option.none : Option Jvm.ClassFile.FieldType)) ∈ GW := gw_t (tin_6 _ (List.mem_of_getElem? (i := 123) rfl)) rfl
theorem gw_1324 : (Jvm.Cond.methodLink "SoftController$Maker" (278 : Nat) ({ cls := "SoftController$Maker", name := "returned", desc := "(I)V" } : Jvm.MethodName)) ∈ GW := gw_t (tin_6 _ (List.mem_of_getElem? (i := 124) rfl)) rfl
theorem gw_1326 : (Jvm.Cond.instanceMethod ({ cls := "SoftController$Maker", name := "returned", desc := "(I)V" } : Jvm.MethodName)) ∈ GW := gw_t (tin_6 _ (List.mem_of_getElem? (i := 126) rfl)) rfl
theorem gw_1327 : (Jvm.Cond.code ({ cls := "SoftController$Maker", name := "returned", desc := "(I)V" } : Jvm.MethodName) prog_5_method_31_code (6 : Nat) (Option.none : Option Jvm.ClassFile.FieldType)) ∈ GW := gw_t (tin_6 _ (List.mem_of_getElem? (i := 127) rfl)) rfl
theorem gw_1329 : (Jvm.Cond.methodLink "SoftController$Maker" (288 : Nat) ({ cls := "SoftController$Maker", name := "instanceCall", desc := "(I)V" } : Jvm.MethodName)) ∈ GW := gw_t (tin_6 _ (List.mem_of_getElem? (i := 129) rfl)) rfl
theorem gw_1331 : (Jvm.Cond.instanceMethod ({ cls := "SoftController$Maker", name := "instanceCall", desc := "(I)V" } : Jvm.MethodName)) ∈ GW := gw_t (tin_6 _ (List.mem_of_getElem? (i := 131) rfl)) rfl
theorem gw_1332 : (Jvm.Cond.code ({ cls := "SoftController$Maker", name := "instanceCall", desc := "(I)V" } : Jvm.MethodName) prog_5_method_18_code (3 : Nat) (Option.none : Option Jvm.ClassFile.FieldType)) ∈ GW := gw_t (tin_6 _ (List.mem_of_getElem? (i := 132) rfl)) rfl
theorem gw_1334 : (Jvm.Cond.methodLink "SoftController$Maker" (291 : Nat) ({ cls := "SoftController$Maker", name := "assignment", desc := "(I)V" } : Jvm.MethodName)) ∈ GW := gw_t (tin_6 _ (List.mem_of_getElem? (i := 134) rfl)) rfl
theorem gw_1336 : (Jvm.Cond.instanceMethod ({ cls := "SoftController$Maker", name := "assignment", desc := "(I)V" } : Jvm.MethodName)) ∈ GW := gw_t (tin_6 _ (List.mem_of_getElem? (i := 136) rfl)) rfl
theorem gw_1337 : (Jvm.Cond.code ({ cls := "SoftController$Maker", name := "assignment", desc := "(I)V" } : Jvm.MethodName) prog_5_method_19_code (4 : Nat) (Option.none : Option Jvm.ClassFile.FieldType)) ∈ GW := gw_t (tin_6 _ (List.mem_of_getElem? (i := 137) rfl)) rfl
theorem gw_1341 : (Jvm.Cond.methodLink "SoftController$Maker" (307 : Nat) ({ cls := "SoftController$Maker", name := "setBit", desc := "(LSoftController$Name;II)V" } : Jvm.MethodName)) ∈ GW := gw_t (tin_6 _ (List.mem_of_getElem? (i := 141) rfl)) rfl
theorem gw_1343 : (Jvm.Cond.instanceMethod ({ cls := "SoftController$Maker", name := "setBit", desc := "(LSoftController$Name;II)V" } : Jvm.MethodName)) ∈ GW := gw_t (tin_6 _ (List.mem_of_getElem? (i := 143) rfl)) rfl
theorem gw_1344 : (Jvm.Cond.code ({ cls := "SoftController$Maker", name := "setBit", desc := "(LSoftController$Name;II)V" } : Jvm.MethodName) prog_5_method_20_code (4 : Nat) (Option.none : Option Jvm.ClassFile.FieldType)) ∈ GW := gw_t (tin_6 _ (List.mem_of_getElem? (i := 144) rfl)) rfl
theorem gw_1345 : (Jvm.Cond.methodLink "SoftController$Maker" (313 : Nat) ({ cls := "SoftController$Maker", name := "put", desc := "(LSoftController$Name;I)V" } : Jvm.MethodName)) ∈ GW := gw_t (tin_6 _ (List.mem_of_getElem? (i := 145) rfl)) rfl
theorem gw_1347 : (Jvm.Cond.instanceMethod ({ cls := "SoftController$Maker", name := "put", desc := "(LSoftController$Name;I)V" } : Jvm.MethodName)) ∈ GW := gw_t (tin_6 _ (List.mem_of_getElem? (i := 147) rfl)) rfl
theorem gw_1348 : (Jvm.Cond.code ({ cls := "SoftController$Maker", name := "put", desc := "(LSoftController$Name;I)V" } : Jvm.MethodName) prog_5_method_23_code (3 : Nat) (Option.none : Option Jvm.ClassFile.FieldType)) ∈ GW := gw_t (tin_6 _ (List.mem_of_getElem? (i := 148) rfl)) rfl
theorem gw_1349 : (Jvm.Cond.methodLink "SoftController$Maker" (316 : Nat) ({ cls := "SoftController$Maker", name := "change", desc := "(LSoftController$Name;I)V" } : Jvm.MethodName)) ∈ GW := gw_t (tin_6 _ (List.mem_of_getElem? (i := 149) rfl)) rfl
theorem gw_1351 : (Jvm.Cond.instanceMethod ({ cls := "SoftController$Maker", name := "change", desc := "(LSoftController$Name;I)V" } : Jvm.MethodName)) ∈ GW := gw_t (tin_6 _ (List.mem_of_getElem? (i := 151) rfl)) rfl
theorem gw_1352 : (Jvm.Cond.code ({ cls := "SoftController$Maker", name := "change", desc := "(LSoftController$Name;I)V" } : Jvm.MethodName) prog_5_method_22_code (6 : Nat) (Option.none : Option Jvm.ClassFile.FieldType)) ∈ GW := gw_t (tin_6 _ (List.mem_of_getElem? (i := 152) rfl)) rfl
theorem gw_1353 : (Jvm.Cond.methodLink "SoftController$Maker" (329 : Nat) ({ cls := "SoftController$Tokens", name := "assigned", desc := "(I)I" } : Jvm.MethodName)) ∈ GW := gw_t (tin_6 _ (List.mem_of_getElem? (i := 153) rfl)) rfl
theorem gw_1354 : (Jvm.Cond.methodLink "SoftController$Maker" (87 : Nat) ({ cls := "SoftController$Maker", name := "uses", desc := "()V" } : Jvm.MethodName)) ∈ GW := gw_t (tin_6 _ (List.mem_of_getElem? (i := 154) rfl)) rfl
theorem gw_1356 : (Jvm.Cond.instanceMethod ({ cls := "SoftController$Maker", name := "uses", desc := "()V" } : Jvm.MethodName)) ∈ GW := gw_t (tin_6 _ (List.mem_of_getElem? (i := 156) rfl)) rfl
theorem gw_1357 : (Jvm.Cond.code ({ cls := "SoftController$Maker", name := "uses", desc := "()V" } : Jvm.MethodName) prog_5_method_10_code (3 : Nat) (Option.none : Option Jvm.ClassFile.FieldType)) ∈ GW := gw_t (tin_6 _ (List.mem_of_getElem? (i := 157) rfl)) rfl
theorem gw_1358 : (Jvm.Cond.methodLink "SoftController$Maker" (210 : Nat) ({ cls := "SoftController$Maker", name := "oneUse", desc := "(LSoftController$Name;)V" } : Jvm.MethodName)) ∈ GW := gw_t (tin_6 _ (List.mem_of_getElem? (i := 158) rfl)) rfl
theorem gw_1360 : (Jvm.Cond.instanceMethod ({ cls := "SoftController$Maker", name := "oneUse", desc := "(LSoftController$Name;)V" } : Jvm.MethodName)) ∈ GW := gw_t (tin_6 _ (List.mem_of_getElem? (i := 160) rfl)) rfl
theorem gw_1361 : (Jvm.Cond.code ({ cls := "SoftController$Maker", name := "oneUse", desc := "(LSoftController$Name;)V" } : Jvm.MethodName) prog_5_method_11_code (6 : Nat) (Option.none : Option Jvm.ClassFile.FieldType)) ∈ GW := gw_t (tin_6 _ (List.mem_of_getElem? (i := 161) rfl)) rfl
theorem gw_475 : (Jvm.Cond.fieldLink "SoftController$Maker" (15 : Nat) "SoftController$Maker" "tokens" "LSoftController$Tokens;") ∈ GW := gw_t (tin_2 _ (List.mem_of_getElem? (i := 235) rfl)) rfl
theorem gw_476 : (Jvm.Cond.fieldLink "SoftController$Maker" (28 : Nat) "SoftController$Maker" "terms" "LSoftController$Terms;") ∈ GW := gw_t (tin_2 _ (List.mem_of_getElem? (i := 236) rfl)) rfl
theorem gw_477 : (Jvm.Cond.fieldLink "SoftController$Maker" (9 : Nat) "SoftController$Maker" "numbers" "[I") ∈ GW := gw_t (tin_2 _ (List.mem_of_getElem? (i := 237) rfl)) rfl
theorem gw_478 : (Jvm.Cond.fieldLink "SoftController$Maker" (19 : Nat) "SoftController$Maker" "program" "LSoftController$Program;") ∈ GW := gw_t (tin_2 _ (List.mem_of_getElem? (i := 238) rfl)) rfl
theorem gw_479 : (Jvm.Cond.fieldLink "SoftController$Maker" (47 : Nat) "SoftController$Maker" "address" "I") ∈ GW := gw_t (tin_2 _ (List.mem_of_getElem? (i := 239) rfl)) rfl
theorem gw_480 : (Jvm.Cond.fieldLink "SoftController$Maker" (51 : Nat) "SoftController$Maker" "loops" "I") ∈ GW := gw_t (tin_3 _ (List.mem_of_getElem? (i := 0) rfl)) rfl
theorem gw_481 : (Jvm.Cond.fieldLink "SoftController$Maker" (54 : Nat) "SoftController$Maker" "breaks" "I") ∈ GW := gw_t (tin_3 _ (List.mem_of_getElem? (i := 1) rfl)) rfl
theorem gw_482 : (Jvm.Cond.fieldLink "SoftController$Maker" (57 : Nat) "SoftController$Maker" "continues" "I") ∈ GW := gw_t (tin_3 _ (List.mem_of_getElem? (i := 2) rfl)) rfl
theorem nw_1092 : (Jvm.Cond.fieldLinkNest "SoftController$Maker" (203 : Nat) "SoftController" "BITS" "[I" "SoftController") ∈ NWL := gw_n (tin_5 _ (List.mem_of_getElem? (i := 132) rfl)) rfl
theorem nw_229 : (Jvm.Cond.fieldLinkNest "SoftController$Maker" (121 : Nat) "SoftController$Name" "sort" "I" "SoftController") ∈ NWL := gw_n (tin_1 _ (List.mem_of_getElem? (i := 229) rfl)) rfl
theorem nw_235 : (Jvm.Cond.fieldLinkNest "SoftController$Maker" (214 : Nat) "SoftController$Name" "index" "I" "SoftController") ∈ NWL := gw_n (tin_1 _ (List.mem_of_getElem? (i := 235) rfl)) rfl
theorem nw_243 : (Jvm.Cond.fieldLinkNest "SoftController$Maker" (146 : Nat) "SoftController$Name" "kind" "I" "SoftController") ∈ NWL := gw_n (tin_2 _ (List.mem_of_getElem? (i := 3) rfl)) rfl
theorem nw_248 : (Jvm.Cond.fieldLinkNest "SoftController$Maker" (143 : Nat) "SoftController$Name" "how" "I" "SoftController") ∈ NWL := gw_n (tin_2 _ (List.mem_of_getElem? (i := 8) rfl)) rfl
theorem nw_251 : (Jvm.Cond.fieldLinkNest "SoftController$Maker" (149 : Nat) "SoftController$Name" "size" "I" "SoftController") ∈ NWL := gw_n (tin_2 _ (List.mem_of_getElem? (i := 11) rfl)) rfl
theorem nw_257 : (Jvm.Cond.fieldLinkNest "SoftController$Maker" (152 : Nat) "SoftController$Name" "row" "Z" "SoftController") ∈ NWL := gw_n (tin_2 _ (List.mem_of_getElem? (i := 17) rfl)) rfl
theorem nw_261 : (Jvm.Cond.fieldLinkNest "SoftController$Maker" (170 : Nat) "SoftController$Name" "at" "I" "SoftController") ∈ NWL := gw_n (tin_2 _ (List.mem_of_getElem? (i := 21) rfl)) rfl
theorem nw_265 : (Jvm.Cond.fieldLinkNest "SoftController$Maker" (166 : Nat) "SoftController$Name" "first" "J" "SoftController") ∈ NWL := gw_n (tin_2 _ (List.mem_of_getElem? (i := 25) rfl)) rfl
theorem nw_270 : (Jvm.Cond.fieldLinkNest "SoftController$Maker" (200 : Nat) "SoftController$Name" "parameters" "I" "SoftController") ∈ NWL := gw_n (tin_2 _ (List.mem_of_getElem? (i := 30) rfl)) rfl
theorem nw_275 : (Jvm.Cond.fieldLinkNest "SoftController$Maker" (197 : Nat) "SoftController$Name" "locals" "I" "SoftController") ∈ NWL := gw_n (tin_2 _ (List.mem_of_getElem? (i := 35) rfl)) rfl
theorem nw_282 : (Jvm.Cond.fieldLinkNest "SoftController$Maker" (217 : Nat) "SoftController$Name" "block" "I" "SoftController") ∈ NWL := gw_n (tin_2 _ (List.mem_of_getElem? (i := 42) rfl)) rfl
theorem nw_401 : (Jvm.Cond.fieldLinkNest "SoftController$Maker" (110 : Nat) "SoftController$Program" "owner" "I" "SoftController") ∈ NWL := gw_n (tin_2 _ (List.mem_of_getElem? (i := 161) rfl)) rfl
section C39mleafR
variable {p : Program} {l : Launch} {e : Env} {R : Room} {s : State} {m : MethodId} {args : Array Value} {below : List Frame} {meth : Method} {c : Code} {H : Heap} {locs : List Loc} {Q : State → Prop} {cells slots : Nat}
variable {cc : ByteArray} {pc nL : Nat} {c0 : Cond} {own : String} {ls : Array Slot} {rest : List Value} {D : va_G} {kA : Nat → ClassId} {V Z : Nat → Nat} {A : Nat → Prop}
variable {u u1 : CSt}
theorem cg_X3_15 (X : CC p s m args c cc nL c0 RX3 D kA V A) (hS : CS D kA Z A s u H locs) (hd : decode cc pc = .ok (.getfield 15, 3)) (kk : W p l e R s m args below meth c H locs cells slots Q (F0 m (pc + 3) ls (.ref (Z 202) :: rest))) : W p l e R s m args below meth c H locs cells slots Q (F0 m pc ls (.ref (Z 227) :: rest)) := by
  obtain ⟨⟨hx, hb, hml, hown, hts⟩, hK, hE, hA⟩ := X
  have hG : ∀ w ∈ GW, w.before args s = true := fun w h => hts w (List.mem_cons_of_mem _ h)
  exact va_get (D := D) (ci := 3) (v := .ref (Z 202)) (C := RX3) (T := TX3) (N := 8) hx hb hG gwl_X3 hown hK hS.1 27 (cw_lit rfl) rfl 0 (by decide) (hG _ gw_475) (fun _ h9 => h9) rfl hd kk
theorem cg_X3_19 (X : CC p s m args c cc nL c0 RX3 D kA V A) (hS : CS D kA Z A s u H locs) (hd : decode cc pc = .ok (.getfield 19, 3)) (kk : W p l e R s m args below meth c H locs cells slots Q (F0 m (pc + 3) ls (.ref (Z (300 + 50 * cR u 2)) :: rest))) : W p l e R s m args below meth c H locs cells slots Q (F0 m pc ls (.ref (Z 227) :: rest)) := by
  obtain ⟨⟨hx, hb, hml, hown, hts⟩, hK, hE, hA⟩ := X
  have hG : ∀ w ∈ GW, w.before args s = true := fun w h => hts w (List.mem_cons_of_mem _ h)
  exact va_get (D := D) (ci := 3) (v := .ref (Z (300 + 50 * cR u 2))) (C := RX3) (T := TX3) (N := 8) hx hb hG gwl_X3 hown hK hS.1 27 (cw_lit rfl) rfl 3 (by decide) (hG _ gw_478) (fun _ h9 => h9) rfl hd kk
theorem cg_X3_121 (X : CC p s m args c cc nL c0 RX3 D kA V A) {q : Nat} (hq : q < 338) (hS : CS D kA Z A s u H locs) (hd : decode cc pc = .ok (.getfield 121, 3)) (kk : W p l e R s m args below meth c H locs cells slots Q (F0 m (pc + 3) ls (.int (mI u q 2) :: rest))) : W p l e R s m args below meth c H locs cells slots Q (F0 m pc ls (.ref (Z (1000 + q)) :: rest)) := by
  obtain ⟨⟨hx, hb, hml, hown, hts⟩, hK, hE, hA⟩ := X
  have hG : ∀ w ∈ GW, w.before args s = true := fun w h => hts w (List.mem_cons_of_mem _ h)
  exact va_getN (D := D) (ci := 4) (v := .int (mI u q 2)) (C := RX4) (T := TX4) (N := 15) hx hb hG gwl_X4 hown hK hS.1 (90 + q) (cw_name hq) rfl 2 (by decide) (va_Nw.use rfl (hE.1 _ nw_229)) (fun _ h9 => h9) rfl hd kk
theorem cg_X3_110 (X : CC p s m args c cc nL c0 RX3 D kA V A) {q : Nat} (hq : q < 2) (hS : CS D kA Z A s u H locs) (hd : decode cc pc = .ok (.getfield 110, 3)) (kk : W p l e R s m args below meth c H locs cells slots Q (F0 m (pc + 3) ls (.int (pI u q 15) :: rest))) : W p l e R s m args below meth c H locs cells slots Q (F0 m pc ls (.ref (Z (300 + 50 * q)) :: rest)) := by
  obtain ⟨⟨hx, hb, hml, hown, hts⟩, hK, hE, hA⟩ := X
  have hG : ∀ w ∈ GW, w.before args s = true := fun w h => hts w (List.mem_cons_of_mem _ h)
  rcases (show q = 0 ∨ q = 1 by omega) with rfl | rfl
  · exact va_getN (D := D) (ci := 5) (v := .int (pI u 0 15)) (C := RX6) (T := TX6) (N := 16) hx hb hG gwl_X6 hown hK hS.1 40 (cw_lit rfl) rfl 15 (by decide) (va_Nw.use rfl (hE.1 _ nw_401)) (fun _ h9 => h9) rfl hd kk
  · exact va_getN (D := D) (ci := 5) (v := .int (pI u 1 15)) (C := RX6) (T := TX6) (N := 16) hx hb hG gwl_X6 hown hK hS.1 57 (cw_lit rfl) rfl 15 (by decide) (va_Nw.use rfl (hE.1 _ nw_401)) (fun _ h9 => h9) rfl hd kk
theorem cg_X3_9 (X : CC p s m args c cc nL c0 RX3 D kA V A) (hS : CS D kA Z A s u H locs) (hd : decode cc pc = .ok (.getfield 9, 3)) (kk : W p l e R s m args below meth c H locs cells slots Q (F0 m (pc + 3) ls (.ref (Z 228) :: rest))) : W p l e R s m args below meth c H locs cells slots Q (F0 m pc ls (.ref (Z 227) :: rest)) := by
  obtain ⟨⟨hx, hb, hml, hown, hts⟩, hK, hE, hA⟩ := X
  have hG : ∀ w ∈ GW, w.before args s = true := fun w h => hts w (List.mem_cons_of_mem _ h)
  exact va_get (D := D) (ci := 3) (v := .ref (Z 228)) (C := RX3) (T := TX3) (N := 8) hx hb hG gwl_X3 hown hK hS.1 27 (cw_lit rfl) rfl 2 (by decide) (hG _ gw_477) (fun _ h9 => h9) rfl hd kk
theorem ca_s228 (X : CC p s m args c cc nL c0 own D kA V A) (hS : CS D kA Z A s u H locs) {i : Int32} {v : Int32} (hi : vp_in i 5) (hv : cA u 228 i.toNatClampNeg = v) (hd : decode cc pc = .ok (.iaload, 1)) (kk : W p l e R s m args below meth c H locs cells slots Q (F0 m (pc + 1) ls (.int v :: rest))) : W p l e R s m args below meth c H locs cells slots Q (F0 m pc ls (.int i :: .ref (Z 228) :: rest)) := by
  subst hv
  exact va_iald X.1.1 X.1.2.1 X.2.1 hS.1 28 0 (cw_lit rfl) rfl hi hd kk
theorem cs_s228 (X : CC p s m args c cc nL c0 own D kA V A) (hS : CS D kA Z A s u H locs) {i : Int32} {v : Int32} (hi : vp_in i 5) (hu : xA u 228 i.toNatClampNeg v = u1) (hd : decode cc pc = .ok (.iastore, 1)) (kk : ∀ H locs, CS D kA Z A s u1 H locs → W p l e R s m args below meth c H locs cells slots Q (F0 m (pc + 1) ls rest)) : W p l e R s m args below meth c H locs cells slots Q (F0 m pc ls (.int v :: .int i :: .ref (Z 228) :: rest)) := by
  subst hu
  refine va_iast X.1.1 X.1.2.1 X.2.1 hS.1 hS.2.1 hS.2.2 28 0 (cw_lit rfl) rfl hi hd (fun H1 locs1 hP hD hS1 => kk H1 locs1 ?_)
  have he := cw_setL (kA := kA) (Z := Z) (u := u) (w := xA u 228 i.toNatClampNeg v) (k := 28) (x := (Z 228, .inl (kA 0, 5, .inl (upd (cA u 228) i.toNatClampNeg v)))) (by decide) rfl rfl rfl
  exact cs_put he hP hD hS1
theorem cg_X3_47 (X : CC p s m args c cc nL c0 RX3 D kA V A) (hS : CS D kA Z A s u H locs) (hd : decode cc pc = .ok (.getfield 47, 3)) (kk : W p l e R s m args below meth c H locs cells slots Q (F0 m (pc + 3) ls (.int (cI u 12) :: rest))) : W p l e R s m args below meth c H locs cells slots Q (F0 m pc ls (.ref (Z 227) :: rest)) := by
  obtain ⟨⟨hx, hb, hml, hown, hts⟩, hK, hE, hA⟩ := X
  have hG : ∀ w ∈ GW, w.before args s = true := fun w h => hts w (List.mem_cons_of_mem _ h)
  exact va_get (D := D) (ci := 3) (v := .int (cI u 12)) (C := RX3) (T := TX3) (N := 8) hx hb hG gwl_X3 hown hK hS.1 27 (cw_lit rfl) rfl 4 (by decide) (hG _ gw_479) (fun _ h9 => h9) rfl hd kk
theorem cp_X3_47 (X : CC p s m args c cc nL c0 RX3 D kA V A) (hS : CS D kA Z A s u H locs) {v : Int32} (hu : xI u 12 v = u1) (hd : decode cc pc = .ok (.putfield 47, 3)) (kk : ∀ H locs, CS D kA Z A s u1 H locs → W p l e R s m args below meth c H locs cells slots Q (F0 m (pc + 3) ls rest)) : W p l e R s m args below meth c H locs cells slots Q (F0 m pc ls (.int v :: .ref (Z 227) :: rest)) := by
  obtain ⟨⟨hx, hb, hml, hown, hts⟩, hK, hE, hA⟩ := X
  have hG : ∀ w ∈ GW, w.before args s = true := fun w h => hts w (List.mem_cons_of_mem _ h)
  subst hu
  refine va_put (D := D) (ci := 3) (v := .int v) (ty := .int) (C := RX3) (T := TX3) (N := 8) hx hb hG gwl_X3 tyX3 tyX3_ok nmX3 hown hK hS.1 hS.2.1 hS.2.2 27 (cw_lit rfl) rfl 4 (by decide) (hG _ gw_479) (fun _ h9 => h9) rfl (by decide +kernel) rfl rfl (Nat.le_of_ble_eq_true rfl) hd (fun H1 locs1 hP hD hS1 => kk H1 locs1 ?_)
  have he := cw_setL (kA := kA) (Z := Z) (u := u) (w := xI u 12 v) (k := 27) (x := (Z 227, .inr (3, ([.ref (Z 202), .ref (Z 229), .ref (Z 228), .ref (Z (300 + 50 * cR u 2)), .int (cI u 12), .int (cI u 13), .int (cI u 14), .int (cI u 15)] : List Value).set 4 (.int v)))) (by decide) rfl rfl rfl
  exact cs_put he hP hD hS1
theorem cp_X3_200 (X : CC p s m args c cc nL c0 RX3 D kA V A) {q : Nat} (hq : q < 338) (hS : CS D kA Z A s u H locs) {v : Int32} (hu : xmI u q 11 v = u1) (hd : decode cc pc = .ok (.putfield 200, 3)) (kk : ∀ H locs, CS D kA Z A s u1 H locs → W p l e R s m args below meth c H locs cells slots Q (F0 m (pc + 3) ls rest)) : W p l e R s m args below meth c H locs cells slots Q (F0 m pc ls (.int v :: .ref (Z (1000 + q)) :: rest)) := by
  obtain ⟨⟨hx, hb, hml, hown, hts⟩, hK, hE, hA⟩ := X
  have hG : ∀ w ∈ GW, w.before args s = true := fun w h => hts w (List.mem_cons_of_mem _ h)
  subst hu
  refine va_putN (D := D) (ci := 4) (v := .int v) (ty := .int) (C := RX4) (T := TX4) (N := 15) hx hb hG gwl_X4 tyX4 tyX4_ok nmX4 hown hK hS.1 hS.2.1 hS.2.2 (90 + q) (cw_name hq) rfl 11 (by decide) (va_Nw.use rfl (hE.1 _ nw_270)) (fun _ h9 => h9) rfl (by decide +kernel) rfl rfl (Nat.le_of_ble_eq_true rfl) hd (fun H1 locs1 hP hD hS1 => kk H1 locs1 ?_)
  have he := cw_setN (kA := kA) (Z := Z) (u := u) (w := xmI u q 11 v) (q := q) (x := (Z (1000 + q), .inr (4, (NF u q).set 11 (.int v)))) hq rfl rfl (by simp [NW, NF, xmI, mI, mL]) (fun j hj => by simp [NW, NF, xmI, mI, mL, hj])
  exact cs_put he hP hD hS1
theorem cg_X3_149 (X : CC p s m args c cc nL c0 RX3 D kA V A) {q : Nat} (hq : q < 338) (hS : CS D kA Z A s u H locs) (hd : decode cc pc = .ok (.getfield 149, 3)) (kk : W p l e R s m args below meth c H locs cells slots Q (F0 m (pc + 3) ls (.int (mI u q 7) :: rest))) : W p l e R s m args below meth c H locs cells slots Q (F0 m pc ls (.ref (Z (1000 + q)) :: rest)) := by
  obtain ⟨⟨hx, hb, hml, hown, hts⟩, hK, hE, hA⟩ := X
  have hG : ∀ w ∈ GW, w.before args s = true := fun w h => hts w (List.mem_cons_of_mem _ h)
  exact va_getN (D := D) (ci := 4) (v := .int (mI u q 7)) (C := RX4) (T := TX4) (N := 15) hx hb hG gwl_X4 hown hK hS.1 (90 + q) (cw_name hq) rfl 7 (by decide) (va_Nw.use rfl (hE.1 _ nw_251)) (fun _ h9 => h9) rfl hd kk
theorem cp_X3_170 (X : CC p s m args c cc nL c0 RX3 D kA V A) {q : Nat} (hq : q < 338) (hS : CS D kA Z A s u H locs) {v : Int32} (hu : xmI u q 9 v = u1) (hd : decode cc pc = .ok (.putfield 170, 3)) (kk : ∀ H locs, CS D kA Z A s u1 H locs → W p l e R s m args below meth c H locs cells slots Q (F0 m (pc + 3) ls rest)) : W p l e R s m args below meth c H locs cells slots Q (F0 m pc ls (.int v :: .ref (Z (1000 + q)) :: rest)) := by
  obtain ⟨⟨hx, hb, hml, hown, hts⟩, hK, hE, hA⟩ := X
  have hG : ∀ w ∈ GW, w.before args s = true := fun w h => hts w (List.mem_cons_of_mem _ h)
  subst hu
  refine va_putN (D := D) (ci := 4) (v := .int v) (ty := .int) (C := RX4) (T := TX4) (N := 15) hx hb hG gwl_X4 tyX4 tyX4_ok nmX4 hown hK hS.1 hS.2.1 hS.2.2 (90 + q) (cw_name hq) rfl 9 (by decide) (va_Nw.use rfl (hE.1 _ nw_261)) (fun _ h9 => h9) rfl (by decide +kernel) rfl rfl (Nat.le_of_ble_eq_true rfl) hd (fun H1 locs1 hP hD hS1 => kk H1 locs1 ?_)
  have he := cw_setN (kA := kA) (Z := Z) (u := u) (w := xmI u q 9 v) (q := q) (x := (Z (1000 + q), .inr (4, (NF u q).set 9 (.int v)))) hq rfl rfl (by simp [NW, NF, xmI, mI, mL]) (fun j hj => by simp [NW, NF, xmI, mI, mL, hj])
  exact cs_put he hP hD hS1
theorem cp_X3_149 (X : CC p s m args c cc nL c0 RX3 D kA V A) {q : Nat} (hq : q < 338) (hS : CS D kA Z A s u H locs) {v : Int32} (hu : xmI u q 7 v = u1) (hd : decode cc pc = .ok (.putfield 149, 3)) (kk : ∀ H locs, CS D kA Z A s u1 H locs → W p l e R s m args below meth c H locs cells slots Q (F0 m (pc + 3) ls rest)) : W p l e R s m args below meth c H locs cells slots Q (F0 m pc ls (.int v :: .ref (Z (1000 + q)) :: rest)) := by
  obtain ⟨⟨hx, hb, hml, hown, hts⟩, hK, hE, hA⟩ := X
  have hG : ∀ w ∈ GW, w.before args s = true := fun w h => hts w (List.mem_cons_of_mem _ h)
  subst hu
  refine va_putN (D := D) (ci := 4) (v := .int v) (ty := .int) (C := RX4) (T := TX4) (N := 15) hx hb hG gwl_X4 tyX4 tyX4_ok nmX4 hown hK hS.1 hS.2.1 hS.2.2 (90 + q) (cw_name hq) rfl 7 (by decide) (va_Nw.use rfl (hE.1 _ nw_251)) (fun _ h9 => h9) rfl (by decide +kernel) rfl rfl (Nat.le_of_ble_eq_true rfl) hd (fun H1 locs1 hP hD hS1 => kk H1 locs1 ?_)
  have he := cw_setN (kA := kA) (Z := Z) (u := u) (w := xmI u q 7 v) (q := q) (x := (Z (1000 + q), .inr (4, (NF u q).set 7 (.int v)))) hq rfl rfl (by simp [NW, NF, xmI, mI, mL]) (fun j hj => by simp [NW, NF, xmI, mI, mL, hj])
  exact cs_put he hP hD hS1
theorem cg_X3_197 (X : CC p s m args c cc nL c0 RX3 D kA V A) {q : Nat} (hq : q < 338) (hS : CS D kA Z A s u H locs) (hd : decode cc pc = .ok (.getfield 197, 3)) (kk : W p l e R s m args below meth c H locs cells slots Q (F0 m (pc + 3) ls (.int (mI u q 12) :: rest))) : W p l e R s m args below meth c H locs cells slots Q (F0 m pc ls (.ref (Z (1000 + q)) :: rest)) := by
  obtain ⟨⟨hx, hb, hml, hown, hts⟩, hK, hE, hA⟩ := X
  have hG : ∀ w ∈ GW, w.before args s = true := fun w h => hts w (List.mem_cons_of_mem _ h)
  exact va_getN (D := D) (ci := 4) (v := .int (mI u q 12)) (C := RX4) (T := TX4) (N := 15) hx hb hG gwl_X4 hown hK hS.1 (90 + q) (cw_name hq) rfl 12 (by decide) (va_Nw.use rfl (hE.1 _ nw_275)) (fun _ h9 => h9) rfl hd kk
theorem cp_X3_197 (X : CC p s m args c cc nL c0 RX3 D kA V A) {q : Nat} (hq : q < 338) (hS : CS D kA Z A s u H locs) {v : Int32} (hu : xmI u q 12 v = u1) (hd : decode cc pc = .ok (.putfield 197, 3)) (kk : ∀ H locs, CS D kA Z A s u1 H locs → W p l e R s m args below meth c H locs cells slots Q (F0 m (pc + 3) ls rest)) : W p l e R s m args below meth c H locs cells slots Q (F0 m pc ls (.int v :: .ref (Z (1000 + q)) :: rest)) := by
  obtain ⟨⟨hx, hb, hml, hown, hts⟩, hK, hE, hA⟩ := X
  have hG : ∀ w ∈ GW, w.before args s = true := fun w h => hts w (List.mem_cons_of_mem _ h)
  subst hu
  refine va_putN (D := D) (ci := 4) (v := .int v) (ty := .int) (C := RX4) (T := TX4) (N := 15) hx hb hG gwl_X4 tyX4 tyX4_ok nmX4 hown hK hS.1 hS.2.1 hS.2.2 (90 + q) (cw_name hq) rfl 12 (by decide) (va_Nw.use rfl (hE.1 _ nw_275)) (fun _ h9 => h9) rfl (by decide +kernel) rfl rfl (Nat.le_of_ble_eq_true rfl) hd (fun H1 locs1 hP hD hS1 => kk H1 locs1 ?_)
  have he := cw_setN (kA := kA) (Z := Z) (u := u) (w := xmI u q 12 v) (q := q) (x := (Z (1000 + q), .inr (4, (NF u q).set 12 (.int v)))) hq rfl rfl (by simp [NW, NF, xmI, mI, mL]) (fun j hj => by simp [NW, NF, xmI, mI, mL, hj])
  exact cs_put he hP hD hS1
theorem cg_X3_200 (X : CC p s m args c cc nL c0 RX3 D kA V A) {q : Nat} (hq : q < 338) (hS : CS D kA Z A s u H locs) (hd : decode cc pc = .ok (.getfield 200, 3)) (kk : W p l e R s m args below meth c H locs cells slots Q (F0 m (pc + 3) ls (.int (mI u q 11) :: rest))) : W p l e R s m args below meth c H locs cells slots Q (F0 m pc ls (.ref (Z (1000 + q)) :: rest)) := by
  obtain ⟨⟨hx, hb, hml, hown, hts⟩, hK, hE, hA⟩ := X
  have hG : ∀ w ∈ GW, w.before args s = true := fun w h => hts w (List.mem_cons_of_mem _ h)
  exact va_getN (D := D) (ci := 4) (v := .int (mI u q 11)) (C := RX4) (T := TX4) (N := 15) hx hb hG gwl_X4 hown hK hS.1 (90 + q) (cw_name hq) rfl 11 (by decide) (va_Nw.use rfl (hE.1 _ nw_270)) (fun _ h9 => h9) rfl hd kk
theorem cp_X3_166 (X : CC p s m args c cc nL c0 RX3 D kA V A) {q : Nat} (hq : q < 338) (hS : CS D kA Z A s u H locs) {v : Int64} (hu : xmL u q 10 v = u1) (hd : decode cc pc = .ok (.putfield 166, 3)) (kk : ∀ H locs, CS D kA Z A s u1 H locs → W p l e R s m args below meth c H locs cells slots Q (F0 m (pc + 3) ls rest)) : W p l e R s m args below meth c H locs cells slots Q (F0 m pc ls (.long v :: .ref (Z (1000 + q)) :: rest)) := by
  obtain ⟨⟨hx, hb, hml, hown, hts⟩, hK, hE, hA⟩ := X
  have hG : ∀ w ∈ GW, w.before args s = true := fun w h => hts w (List.mem_cons_of_mem _ h)
  subst hu
  refine va_putN (D := D) (ci := 4) (v := .long v) (ty := .long) (C := RX4) (T := TX4) (N := 15) hx hb hG gwl_X4 tyX4 tyX4_ok nmX4 hown hK hS.1 hS.2.1 hS.2.2 (90 + q) (cw_name hq) rfl 10 (by decide) (va_Nw.use rfl (hE.1 _ nw_265)) (fun _ h9 => h9) rfl (by decide +kernel) rfl rfl (Nat.le_of_ble_eq_true rfl) hd (fun H1 locs1 hP hD hS1 => kk H1 locs1 ?_)
  have he := cw_setN (kA := kA) (Z := Z) (u := u) (w := xmL u q 10 v) (q := q) (x := (Z (1000 + q), .inr (4, (NF u q).set 10 (.long v)))) hq rfl rfl (by simp [NW, NF, xmL, mI, mL]) (fun j hj => by simp [NW, NF, xmL, mI, mL, hj])
  exact cs_put he hP hD hS1
theorem cp_X3_143 (X : CC p s m args c cc nL c0 RX3 D kA V A) {q : Nat} (hq : q < 338) (hS : CS D kA Z A s u H locs) {v : Int32} (hu : xmI u q 6 v = u1) (hd : decode cc pc = .ok (.putfield 143, 3)) (kk : ∀ H locs, CS D kA Z A s u1 H locs → W p l e R s m args below meth c H locs cells slots Q (F0 m (pc + 3) ls rest)) : W p l e R s m args below meth c H locs cells slots Q (F0 m pc ls (.int v :: .ref (Z (1000 + q)) :: rest)) := by
  obtain ⟨⟨hx, hb, hml, hown, hts⟩, hK, hE, hA⟩ := X
  have hG : ∀ w ∈ GW, w.before args s = true := fun w h => hts w (List.mem_cons_of_mem _ h)
  subst hu
  refine va_putN (D := D) (ci := 4) (v := .int v) (ty := .int) (C := RX4) (T := TX4) (N := 15) hx hb hG gwl_X4 tyX4 tyX4_ok nmX4 hown hK hS.1 hS.2.1 hS.2.2 (90 + q) (cw_name hq) rfl 6 (by decide) (va_Nw.use rfl (hE.1 _ nw_248)) (fun _ h9 => h9) rfl (by decide +kernel) rfl rfl (Nat.le_of_ble_eq_true rfl) hd (fun H1 locs1 hP hD hS1 => kk H1 locs1 ?_)
  have he := cw_setN (kA := kA) (Z := Z) (u := u) (w := xmI u q 6 v) (q := q) (x := (Z (1000 + q), .inr (4, (NF u q).set 6 (.int v)))) hq rfl rfl (by simp [NW, NF, xmI, mI, mL]) (fun j hj => by simp [NW, NF, xmI, mI, mL, hj])
  exact cs_put he hP hD hS1
theorem cp_X3_146 (X : CC p s m args c cc nL c0 RX3 D kA V A) {q : Nat} (hq : q < 338) (hS : CS D kA Z A s u H locs) {v : Int32} (hu : xmI u q 5 v = u1) (hd : decode cc pc = .ok (.putfield 146, 3)) (kk : ∀ H locs, CS D kA Z A s u1 H locs → W p l e R s m args below meth c H locs cells slots Q (F0 m (pc + 3) ls rest)) : W p l e R s m args below meth c H locs cells slots Q (F0 m pc ls (.int v :: .ref (Z (1000 + q)) :: rest)) := by
  obtain ⟨⟨hx, hb, hml, hown, hts⟩, hK, hE, hA⟩ := X
  have hG : ∀ w ∈ GW, w.before args s = true := fun w h => hts w (List.mem_cons_of_mem _ h)
  subst hu
  refine va_putN (D := D) (ci := 4) (v := .int v) (ty := .int) (C := RX4) (T := TX4) (N := 15) hx hb hG gwl_X4 tyX4 tyX4_ok nmX4 hown hK hS.1 hS.2.1 hS.2.2 (90 + q) (cw_name hq) rfl 5 (by decide) (va_Nw.use rfl (hE.1 _ nw_243)) (fun _ h9 => h9) rfl (by decide +kernel) rfl rfl (Nat.le_of_ble_eq_true rfl) hd (fun H1 locs1 hP hD hS1 => kk H1 locs1 ?_)
  have he := cw_setN (kA := kA) (Z := Z) (u := u) (w := xmI u q 5 v) (q := q) (x := (Z (1000 + q), .inr (4, (NF u q).set 5 (.int v)))) hq rfl rfl (by simp [NW, NF, xmI, mI, mL]) (fun j hj => by simp [NW, NF, xmI, mI, mL, hj])
  exact cs_put he hP hD hS1
theorem cp_X3_152 (X : CC p s m args c cc nL c0 RX3 D kA V A) {q : Nat} (hq : q < 338) (hS : CS D kA Z A s u H locs) {v : Int32} (hu : xmI u q 8 v = u1) (hn : v = 0 ∨ v = 1) (hd : decode cc pc = .ok (.putfield 152, 3)) (kk : ∀ H locs, CS D kA Z A s u1 H locs → W p l e R s m args below meth c H locs cells slots Q (F0 m (pc + 3) ls rest)) : W p l e R s m args below meth c H locs cells slots Q (F0 m pc ls (.int v :: .ref (Z (1000 + q)) :: rest)) := by
  obtain ⟨⟨hx, hb, hml, hown, hts⟩, hK, hE, hA⟩ := X
  have hG : ∀ w ∈ GW, w.before args s = true := fun w h => hts w (List.mem_cons_of_mem _ h)
  subst hu
  refine va_putN (D := D) (ci := 4) (v := .int v) (ty := .boolean) (C := RX4) (T := TX4) (N := 15) hx hb hG gwl_X4 tyX4 tyX4_ok nmX4 hown hK hS.1 hS.2.1 hS.2.2 (90 + q) (cw_name hq) rfl 8 (by decide) (va_Nw.use rfl (hE.1 _ nw_257)) (fun _ h9 => h9) rfl (by decide +kernel) (zr_n hn) (zr_f hn) (Nat.le_of_ble_eq_true rfl) hd (fun H1 locs1 hP hD hS1 => kk H1 locs1 ?_)
  have he := cw_setN (kA := kA) (Z := Z) (u := u) (w := xmI u q 8 v) (q := q) (x := (Z (1000 + q), .inr (4, (NF u q).set 8 (.int v)))) hq rfl rfl (by simp [NW, NF, xmI, mI, mL]) (fun j hj => by simp [NW, NF, xmI, mI, mL, hj])
  exact cs_put he hP hD hS1
theorem cg_X3_146 (X : CC p s m args c cc nL c0 RX3 D kA V A) {q : Nat} (hq : q < 338) (hS : CS D kA Z A s u H locs) (hd : decode cc pc = .ok (.getfield 146, 3)) (kk : W p l e R s m args below meth c H locs cells slots Q (F0 m (pc + 3) ls (.int (mI u q 5) :: rest))) : W p l e R s m args below meth c H locs cells slots Q (F0 m pc ls (.ref (Z (1000 + q)) :: rest)) := by
  obtain ⟨⟨hx, hb, hml, hown, hts⟩, hK, hE, hA⟩ := X
  have hG : ∀ w ∈ GW, w.before args s = true := fun w h => hts w (List.mem_cons_of_mem _ h)
  exact va_getN (D := D) (ci := 4) (v := .int (mI u q 5)) (C := RX4) (T := TX4) (N := 15) hx hb hG gwl_X4 hown hK hS.1 (90 + q) (cw_name hq) rfl 5 (by decide) (va_Nw.use rfl (hE.1 _ nw_243)) (fun _ h9 => h9) rfl hd kk
theorem cg_X3_214 (X : CC p s m args c cc nL c0 RX3 D kA V A) {q : Nat} (hq : q < 338) (hS : CS D kA Z A s u H locs) (hd : decode cc pc = .ok (.getfield 214, 3)) (kk : W p l e R s m args below meth c H locs cells slots Q (F0 m (pc + 3) ls (.int (mI u q 3) :: rest))) : W p l e R s m args below meth c H locs cells slots Q (F0 m pc ls (.ref (Z (1000 + q)) :: rest)) := by
  obtain ⟨⟨hx, hb, hml, hown, hts⟩, hK, hE, hA⟩ := X
  have hG : ∀ w ∈ GW, w.before args s = true := fun w h => hts w (List.mem_cons_of_mem _ h)
  exact va_getN (D := D) (ci := 4) (v := .int (mI u q 3)) (C := RX4) (T := TX4) (N := 15) hx hb hG gwl_X4 hown hK hS.1 (90 + q) (cw_name hq) rfl 3 (by decide) (va_Nw.use rfl (hE.1 _ nw_235)) (fun _ h9 => h9) rfl hd kk
theorem cp_X3_217 (X : CC p s m args c cc nL c0 RX3 D kA V A) {q : Nat} (hq : q < 338) (hS : CS D kA Z A s u H locs) {v : Int32} (hu : xmI u q 14 v = u1) (hd : decode cc pc = .ok (.putfield 217, 3)) (kk : ∀ H locs, CS D kA Z A s u1 H locs → W p l e R s m args below meth c H locs cells slots Q (F0 m (pc + 3) ls rest)) : W p l e R s m args below meth c H locs cells slots Q (F0 m pc ls (.int v :: .ref (Z (1000 + q)) :: rest)) := by
  obtain ⟨⟨hx, hb, hml, hown, hts⟩, hK, hE, hA⟩ := X
  have hG : ∀ w ∈ GW, w.before args s = true := fun w h => hts w (List.mem_cons_of_mem _ h)
  subst hu
  refine va_putN (D := D) (ci := 4) (v := .int v) (ty := .int) (C := RX4) (T := TX4) (N := 15) hx hb hG gwl_X4 tyX4 tyX4_ok nmX4 hown hK hS.1 hS.2.1 hS.2.2 (90 + q) (cw_name hq) rfl 14 (by decide) (va_Nw.use rfl (hE.1 _ nw_282)) (fun _ h9 => h9) rfl (by decide +kernel) rfl rfl (Nat.le_of_ble_eq_true rfl) hd (fun H1 locs1 hP hD hS1 => kk H1 locs1 ?_)
  have he := cw_setN (kA := kA) (Z := Z) (u := u) (w := xmI u q 14 v) (q := q) (x := (Z (1000 + q), .inr (4, (NF u q).set 14 (.int v)))) hq rfl rfl (by simp [NW, NF, xmI, mI, mL]) (fun j hj => by simp [NW, NF, xmI, mI, mL, hj])
  exact cs_put he hP hD hS1
theorem cg_X3_28 (X : CC p s m args c cc nL c0 RX3 D kA V A) (hS : CS D kA Z A s u H locs) (hd : decode cc pc = .ok (.getfield 28, 3)) (kk : W p l e R s m args below meth c H locs cells slots Q (F0 m (pc + 3) ls (.ref (Z 229) :: rest))) : W p l e R s m args below meth c H locs cells slots Q (F0 m pc ls (.ref (Z 227) :: rest)) := by
  obtain ⟨⟨hx, hb, hml, hown, hts⟩, hK, hE, hA⟩ := X
  have hG : ∀ w ∈ GW, w.before args s = true := fun w h => hts w (List.mem_cons_of_mem _ h)
  exact va_get (D := D) (ci := 3) (v := .ref (Z 229)) (C := RX3) (T := TX3) (N := 8) hx hb hG gwl_X3 hown hK hS.1 27 (cw_lit rfl) rfl 1 (by decide) (hG _ gw_476) (fun _ h9 => h9) rfl hd kk
theorem cg_X3_152 (X : CC p s m args c cc nL c0 RX3 D kA V A) {q : Nat} (hq : q < 338) (hS : CS D kA Z A s u H locs) (hd : decode cc pc = .ok (.getfield 152, 3)) (kk : W p l e R s m args below meth c H locs cells slots Q (F0 m (pc + 3) ls (.int (mI u q 8) :: rest))) : W p l e R s m args below meth c H locs cells slots Q (F0 m pc ls (.ref (Z (1000 + q)) :: rest)) := by
  obtain ⟨⟨hx, hb, hml, hown, hts⟩, hK, hE, hA⟩ := X
  have hG : ∀ w ∈ GW, w.before args s = true := fun w h => hts w (List.mem_cons_of_mem _ h)
  exact va_getN (D := D) (ci := 4) (v := .int (mI u q 8)) (C := RX4) (T := TX4) (N := 15) hx hb hG gwl_X4 hown hK hS.1 (90 + q) (cw_name hq) rfl 8 (by decide) (va_Nw.use rfl (hE.1 _ nw_257)) (fun _ h9 => h9) rfl hd kk
theorem cg_X3_217 (X : CC p s m args c cc nL c0 RX3 D kA V A) {q : Nat} (hq : q < 338) (hS : CS D kA Z A s u H locs) (hd : decode cc pc = .ok (.getfield 217, 3)) (kk : W p l e R s m args below meth c H locs cells slots Q (F0 m (pc + 3) ls (.int (mI u q 14) :: rest))) : W p l e R s m args below meth c H locs cells slots Q (F0 m pc ls (.ref (Z (1000 + q)) :: rest)) := by
  obtain ⟨⟨hx, hb, hml, hown, hts⟩, hK, hE, hA⟩ := X
  have hG : ∀ w ∈ GW, w.before args s = true := fun w h => hts w (List.mem_cons_of_mem _ h)
  exact va_getN (D := D) (ci := 4) (v := .int (mI u q 14)) (C := RX4) (T := TX4) (N := 15) hx hb hG gwl_X4 hown hK hS.1 (90 + q) (cw_name hq) rfl 14 (by decide) (va_Nw.use rfl (hE.1 _ nw_282)) (fun _ h9 => h9) rfl hd kk
theorem cg_X3_170 (X : CC p s m args c cc nL c0 RX3 D kA V A) {q : Nat} (hq : q < 338) (hS : CS D kA Z A s u H locs) (hd : decode cc pc = .ok (.getfield 170, 3)) (kk : W p l e R s m args below meth c H locs cells slots Q (F0 m (pc + 3) ls (.int (mI u q 9) :: rest))) : W p l e R s m args below meth c H locs cells slots Q (F0 m pc ls (.ref (Z (1000 + q)) :: rest)) := by
  obtain ⟨⟨hx, hb, hml, hown, hts⟩, hK, hE, hA⟩ := X
  have hG : ∀ w ∈ GW, w.before args s = true := fun w h => hts w (List.mem_cons_of_mem _ h)
  exact va_getN (D := D) (ci := 4) (v := .int (mI u q 9)) (C := RX4) (T := TX4) (N := 15) hx hb hG gwl_X4 hown hK hS.1 (90 + q) (cw_name hq) rfl 9 (by decide) (va_Nw.use rfl (hE.1 _ nw_261)) (fun _ h9 => h9) rfl hd kk
theorem cg_X3_57 (X : CC p s m args c cc nL c0 RX3 D kA V A) (hS : CS D kA Z A s u H locs) (hd : decode cc pc = .ok (.getfield 57, 3)) (kk : W p l e R s m args below meth c H locs cells slots Q (F0 m (pc + 3) ls (.int (cI u 15) :: rest))) : W p l e R s m args below meth c H locs cells slots Q (F0 m pc ls (.ref (Z 227) :: rest)) := by
  obtain ⟨⟨hx, hb, hml, hown, hts⟩, hK, hE, hA⟩ := X
  have hG : ∀ w ∈ GW, w.before args s = true := fun w h => hts w (List.mem_cons_of_mem _ h)
  exact va_get (D := D) (ci := 3) (v := .int (cI u 15)) (C := RX3) (T := TX3) (N := 8) hx hb hG gwl_X3 hown hK hS.1 27 (cw_lit rfl) rfl 7 (by decide) (hG _ gw_482) (fun _ h9 => h9) rfl hd kk
theorem cp_X3_57 (X : CC p s m args c cc nL c0 RX3 D kA V A) (hS : CS D kA Z A s u H locs) {v : Int32} (hu : xI u 15 v = u1) (hd : decode cc pc = .ok (.putfield 57, 3)) (kk : ∀ H locs, CS D kA Z A s u1 H locs → W p l e R s m args below meth c H locs cells slots Q (F0 m (pc + 3) ls rest)) : W p l e R s m args below meth c H locs cells slots Q (F0 m pc ls (.int v :: .ref (Z 227) :: rest)) := by
  obtain ⟨⟨hx, hb, hml, hown, hts⟩, hK, hE, hA⟩ := X
  have hG : ∀ w ∈ GW, w.before args s = true := fun w h => hts w (List.mem_cons_of_mem _ h)
  subst hu
  refine va_put (D := D) (ci := 3) (v := .int v) (ty := .int) (C := RX3) (T := TX3) (N := 8) hx hb hG gwl_X3 tyX3 tyX3_ok nmX3 hown hK hS.1 hS.2.1 hS.2.2 27 (cw_lit rfl) rfl 7 (by decide) (hG _ gw_482) (fun _ h9 => h9) rfl (by decide +kernel) rfl rfl (Nat.le_of_ble_eq_true rfl) hd (fun H1 locs1 hP hD hS1 => kk H1 locs1 ?_)
  have he := cw_setL (kA := kA) (Z := Z) (u := u) (w := xI u 15 v) (k := 27) (x := (Z 227, .inr (3, ([.ref (Z 202), .ref (Z 229), .ref (Z 228), .ref (Z (300 + 50 * cR u 2)), .int (cI u 12), .int (cI u 13), .int (cI u 14), .int (cI u 15)] : List Value).set 7 (.int v)))) (by decide) rfl rfl rfl
  exact cs_put he hP hD hS1
theorem cg_X3_54 (X : CC p s m args c cc nL c0 RX3 D kA V A) (hS : CS D kA Z A s u H locs) (hd : decode cc pc = .ok (.getfield 54, 3)) (kk : W p l e R s m args below meth c H locs cells slots Q (F0 m (pc + 3) ls (.int (cI u 14) :: rest))) : W p l e R s m args below meth c H locs cells slots Q (F0 m pc ls (.ref (Z 227) :: rest)) := by
  obtain ⟨⟨hx, hb, hml, hown, hts⟩, hK, hE, hA⟩ := X
  have hG : ∀ w ∈ GW, w.before args s = true := fun w h => hts w (List.mem_cons_of_mem _ h)
  exact va_get (D := D) (ci := 3) (v := .int (cI u 14)) (C := RX3) (T := TX3) (N := 8) hx hb hG gwl_X3 hown hK hS.1 27 (cw_lit rfl) rfl 6 (by decide) (hG _ gw_481) (fun _ h9 => h9) rfl hd kk
theorem cp_X3_54 (X : CC p s m args c cc nL c0 RX3 D kA V A) (hS : CS D kA Z A s u H locs) {v : Int32} (hu : xI u 14 v = u1) (hd : decode cc pc = .ok (.putfield 54, 3)) (kk : ∀ H locs, CS D kA Z A s u1 H locs → W p l e R s m args below meth c H locs cells slots Q (F0 m (pc + 3) ls rest)) : W p l e R s m args below meth c H locs cells slots Q (F0 m pc ls (.int v :: .ref (Z 227) :: rest)) := by
  obtain ⟨⟨hx, hb, hml, hown, hts⟩, hK, hE, hA⟩ := X
  have hG : ∀ w ∈ GW, w.before args s = true := fun w h => hts w (List.mem_cons_of_mem _ h)
  subst hu
  refine va_put (D := D) (ci := 3) (v := .int v) (ty := .int) (C := RX3) (T := TX3) (N := 8) hx hb hG gwl_X3 tyX3 tyX3_ok nmX3 hown hK hS.1 hS.2.1 hS.2.2 27 (cw_lit rfl) rfl 6 (by decide) (hG _ gw_481) (fun _ h9 => h9) rfl (by decide +kernel) rfl rfl (Nat.le_of_ble_eq_true rfl) hd (fun H1 locs1 hP hD hS1 => kk H1 locs1 ?_)
  have he := cw_setL (kA := kA) (Z := Z) (u := u) (w := xI u 14 v) (k := 27) (x := (Z 227, .inr (3, ([.ref (Z 202), .ref (Z 229), .ref (Z 228), .ref (Z (300 + 50 * cR u 2)), .int (cI u 12), .int (cI u 13), .int (cI u 14), .int (cI u 15)] : List Value).set 6 (.int v)))) (by decide) rfl rfl rfl
  exact cs_put he hP hD hS1
theorem cg_X3_51 (X : CC p s m args c cc nL c0 RX3 D kA V A) (hS : CS D kA Z A s u H locs) (hd : decode cc pc = .ok (.getfield 51, 3)) (kk : W p l e R s m args below meth c H locs cells slots Q (F0 m (pc + 3) ls (.int (cI u 13) :: rest))) : W p l e R s m args below meth c H locs cells slots Q (F0 m pc ls (.ref (Z 227) :: rest)) := by
  obtain ⟨⟨hx, hb, hml, hown, hts⟩, hK, hE, hA⟩ := X
  have hG : ∀ w ∈ GW, w.before args s = true := fun w h => hts w (List.mem_cons_of_mem _ h)
  exact va_get (D := D) (ci := 3) (v := .int (cI u 13)) (C := RX3) (T := TX3) (N := 8) hx hb hG gwl_X3 hown hK hS.1 27 (cw_lit rfl) rfl 5 (by decide) (hG _ gw_480) (fun _ h9 => h9) rfl hd kk
end C39mleafR
section C39mleaf
variable {p : Program} {l : Launch} {e : Env} {R : Room} {s : State} {m : MethodId} {args : Array Value} {below : List Frame} {meth : Method} {c : Code} {H : Heap} {locs : List Loc} {Q : State → Prop} {cells slots : Nat}
variable {ls : Array Slot} {D : va_G} {kA : Nat → ClassId} {V Z : Nat → Nat} {A : Nat → Prop} {N d : Nat} {w : CSt}
def B_X3_newName_108 (N : Nat) (l1 : Int32) (l3 : Int64) (l5 : Int32) (u : CSt) : Option ((Sum Nat Nat) × CSt) := bc (F_X9_next N u) fun _ u_1 => ok (cR u_1 2 < 2) inferInstance <| bc (F_X6_add N (cR u_1 2) l1 l3 l5 u_1) fun r_4 u_3 => ok (r_4 < 338) inferInstance <| some (.inr r_4, u_3)
set_option maxHeartbeats 4000000 in
theorem b_X3_newName_108 {y : (Sum Nat Nat)} (X : CC p s m args c cX3_newName 7 (Cond.code yX3_newName cX3_newName 7 (some (.object "SoftController$Name"))) RX3 D kA V A) (hE : CErx p l e R s m args below meth c cX3_newName D kA Z A Q y w) (hst : l.stackTraces = false) (hX : CX p l e R s m args below meth c D kA Z A Q y w) (hC : 1 ≤ R.cells ∧ 6 ≤ R.slots) (hF : 7 ≤ R.frames) (hL : 122 ≤ R.locals) {l1 : Int32} {l3 : Int64} {l5 : Int32} {u : CSt}  (h : B_X3_newName_108 N l1 l3 l5 u = some (y, w))  (hS : CS D kA Z A s u H locs) (hl : lv_has ls 7 [(0, .ref (Z 227)), (1, .int l1), (3, .long l3), (5, .int l5)]) : W p l e R s m args below meth c H locs 0 0 Q (F0 m 108 ls []) := by
  obtain ⟨⟨hx, hb, hml, hown, hts⟩, hK, hEV, hA⟩ := id X
  have hG : ∀ w ∈ GW, w.before args s = true := fun w h => hts w (List.mem_cons_of_mem _ h)
  unfold B_X3_newName_108 at h
  refine lv_aload_n hx hb dX3_newName_108 rfl (lv_at hl 0 rfl) ?_
  refine cg_X3_15 X hS dX3_newName_109 ?_
  obtain ⟨r_u_1, u_1, h_u_1, h⟩ := bc_of h
  refine kc_X9_next_RX3 X  hS h_u_1 (Nat.le_trans (Nat.le_of_ble_eq_true rfl) hF) (Nat.le_trans (Nat.le_of_ble_eq_true rfl) hL) hl.1 (Nat.le_of_ble_eq_true rfl) dX3_newName_112 (fun H locs hS => ?_)
  refine lv_aload_n hx hb dX3_newName_115 rfl (lv_at hl 0 rfl) ?_
  refine cg_X3_19 X hS dX3_newName_116 ?_
  obtain ⟨z_2, h⟩ := ok_of h
  refine lv_iload_n hx hb dX3_newName_119 rfl (lv_at hl 1 rfl) ?_
  refine lv_lload_n hx hb dX3_newName_120 rfl (lv_at hl 2 rfl) ?_
  refine lv_iload hx hb dX3_newName_121 (lv_at hl 3 rfl) ?_
  obtain ⟨r_4, u_3, h_u_3, h⟩ := bc_of h
  refine kc_X6_add_RX3 X z_2 hS h_u_3 (Nat.le_trans (Nat.le_of_ble_eq_true rfl) hF) (Nat.le_trans (Nat.le_of_ble_eq_true rfl) hL) hl.1 (Nat.le_of_ble_eq_true rfl) dX3_newName_123 (fun H locs hS => ?_)
  obtain ⟨z_5, h⟩ := ok_of h
  obtain ⟨e9, rfl⟩ := so9 h
  exact hE _ e9.symm _ _ _ _ hS dX3_newName_126
def B_X3_newName_88 (N : Nat) (l1 : Int32) (l2 : Int32) (l3 : Int64) (l5 : Int32) (u : CSt) : Option ((Sum Nat Nat) × CSt) := ok (cR u 2 < 2) inferInstance <| bc (F_X6_hasRoomFor N (cR u 2) l1 u) fun r_8 u_7 => if r_8 = (0 : Int32) then (bt (F_X9_refuse N 5 l2 u_7) fun _ u_10 => B_X3_newName_108 N l1 l3 l5 u_10) else (B_X3_newName_108 N l1 l3 l5 u_7)
set_option maxHeartbeats 4000000 in
theorem b_X3_newName_88 {y : (Sum Nat Nat)} (X : CC p s m args c cX3_newName 7 (Cond.code yX3_newName cX3_newName 7 (some (.object "SoftController$Name"))) RX3 D kA V A) (hE : CErx p l e R s m args below meth c cX3_newName D kA Z A Q y w) (hst : l.stackTraces = false) (hX : CX p l e R s m args below meth c D kA Z A Q y w) (hC : 1 ≤ R.cells ∧ 6 ≤ R.slots) (hF : 7 ≤ R.frames) (hL : 122 ≤ R.locals) {l1 : Int32} {l2 : Int32} {l3 : Int64} {l5 : Int32} {u : CSt}  (h : B_X3_newName_88 N l1 l2 l3 l5 u = some (y, w))  (hS : CS D kA Z A s u H locs) (hl : lv_has ls 7 [(0, .ref (Z 227)), (1, .int l1), (2, .int l2), (3, .long l3), (5, .int l5)]) : W p l e R s m args below meth c H locs 0 0 Q (F0 m 88 ls []) := by
  obtain ⟨⟨hx, hb, hml, hown, hts⟩, hK, hEV, hA⟩ := id X
  have hG : ∀ w ∈ GW, w.before args s = true := fun w h => hts w (List.mem_cons_of_mem _ h)
  unfold B_X3_newName_88 at h
  refine lv_aload_n hx hb dX3_newName_88 rfl (lv_at hl 0 rfl) ?_
  refine cg_X3_19 X hS dX3_newName_89 ?_
  obtain ⟨z_6, h⟩ := ok_of h
  refine lv_iload_n hx hb dX3_newName_92 rfl (lv_at hl 1 rfl) ?_
  obtain ⟨r_8, u_7, h_u_7, h⟩ := bc_of h
  refine kc_X6_hasRoomFor_RX3 X z_6 hS h_u_7 (Nat.le_trans (Nat.le_of_ble_eq_true rfl) hF) (Nat.le_trans (Nat.le_of_ble_eq_true rfl) hL) hl.1 (Nat.le_of_ble_eq_true rfl) dX3_newName_93 (fun H locs hS => ?_)
  refine lv_if_ne (tgt := 108) hx hb dX3_newName_96 (by decide) (fun c_9 => ?_) (fun c_9 => ?_)
  · have h := im (c_9) h
    exact b_X3_newName_108 X hE hst hX hC hF hL  h  hS (lv_sub hl [0, 1, 3, 4] rfl)
  · have h := ip (c_9) h
    refine lv_aload_n hx hb dX3_newName_99 rfl (lv_at hl 0 rfl) ?_
    refine cg_X3_15 X hS dX3_newName_100 ?_
    refine lv_iconst (v := 5) hx hb dX3_newName_103 (by decide) ?_
    refine lv_iload_n hx hb dX3_newName_104 rfl (lv_at hl 2 rfl) ?_
    obtain ⟨y_11, u_10, h_u_10, h⟩ := bt_of h
    refine kc_X9_refuse_RX3 hst X  hS h_u_10 (Nat.le_trans (Nat.le_of_ble_eq_true rfl) hF) (Nat.le_trans (Nat.le_of_ble_eq_true rfl) hL) hC hl.1 (Nat.le_of_ble_eq_true rfl) dX3_newName_105 (fun r_u_10 hr_u_10 H locs hS => ?_) (fun x9 hn H locs q9 ce hS a1 a2 a3 => by obtain ⟨e2, rfl⟩ := bt_no h hn; exact hX _ e2 _ _ _ _ _ _ _ hS a1 a2 a3)
    replace h := bt_ok h hr_u_10
    exact b_X3_newName_108 X hE hst hX hC hF hL  h  hS (lv_sub hl [0, 1, 3, 4] rfl)
def B_X3_newName_67 (N : Nat) (l1 : Int32) (l2 : Int32) (l3 : Int64) (l5 : Int32) (s0 : Nat) (u : CSt) : Option ((Sum Nat Nat) × CSt) := if (mI u s0 2) = (8 : Int32) then (B_X3_newName_88 N l1 l2 l3 l5 u) else (bt (F_X9_refuse N 3 l2 u) fun _ u_13 => B_X3_newName_88 N l1 l2 l3 l5 u_13)
set_option maxHeartbeats 4000000 in
theorem b_X3_newName_67 {y : (Sum Nat Nat)} (X : CC p s m args c cX3_newName 7 (Cond.code yX3_newName cX3_newName 7 (some (.object "SoftController$Name"))) RX3 D kA V A) (hE : CErx p l e R s m args below meth c cX3_newName D kA Z A Q y w) (hst : l.stackTraces = false) (hX : CX p l e R s m args below meth c D kA Z A Q y w) (hC : 1 ≤ R.cells ∧ 6 ≤ R.slots) (hF : 7 ≤ R.frames) (hL : 122 ≤ R.locals) {l1 : Int32} {l2 : Int32} {l3 : Int64} {l5 : Int32} {s0 : Nat} {u : CSt}  (h : B_X3_newName_67 N l1 l2 l3 l5 s0 u = some (y, w)) (h_s0 : s0 < 338) (hS : CS D kA Z A s u H locs) (hl : lv_has ls 7 [(0, .ref (Z 227)), (1, .int l1), (2, .int l2), (3, .long l3), (5, .int l5)]) : W p l e R s m args below meth c H locs 0 0 Q (F0 m 67 ls [.ref (Z (1000 + s0))]) := by
  obtain ⟨⟨hx, hb, hml, hown, hts⟩, hK, hEV, hA⟩ := id X
  have hG : ∀ w ∈ GW, w.before args s = true := fun w h => hts w (List.mem_cons_of_mem _ h)
  unfold B_X3_newName_67 at h
  refine lv_astore (lv' := [(6, .ref (Z (1000 + s0))), (0, .ref (Z 227)), (1, .int l1), (2, .int l2), (3, .long l3), (5, .int l5)]) hx hb dX3_newName_67 hl (by decide) rfl (fun ls hl => ?_)
  refine lv_aload hx hb dX3_newName_69 (lv_at hl 0 rfl) ?_
  refine cg_X3_121 X h_s0 hS dX3_newName_71 ?_
  refine lv_bipush (v := 8) hx hb dX3_newName_74 (by decide) ?_
  refine lv_icmp_eq (tgt := 88) hx hb dX3_newName_76 (by decide) (fun c_12 => ?_) (fun c_12 => ?_)
  · have h := ip (c_12) h
    exact b_X3_newName_88 X hE hst hX hC hF hL  h  hS (lv_sub hl [1, 2, 3, 4, 5] rfl)
  · have h := im (c_12) h
    refine lv_aload_n hx hb dX3_newName_79 rfl (lv_at hl 1 rfl) ?_
    refine cg_X3_15 X hS dX3_newName_80 ?_
    refine lv_iconst (v := 3) hx hb dX3_newName_83 (by decide) ?_
    refine lv_iload_n hx hb dX3_newName_84 rfl (lv_at hl 3 rfl) ?_
    obtain ⟨y_14, u_13, h_u_13, h⟩ := bt_of h
    refine kc_X9_refuse_RX3 hst X  hS h_u_13 (Nat.le_trans (Nat.le_of_ble_eq_true rfl) hF) (Nat.le_trans (Nat.le_of_ble_eq_true rfl) hL) hC hl.1 (Nat.le_of_ble_eq_true rfl) dX3_newName_85 (fun r_u_13 hr_u_13 H locs hS => ?_) (fun x9 hn H locs q9 ce hS a1 a2 a3 => by obtain ⟨e2, rfl⟩ := bt_no h hn; exact hX _ e2 _ _ _ _ _ _ _ hS a1 a2 a3)
    replace h := bt_ok h hr_u_13
    exact b_X3_newName_88 X hE hst hX hC hF hL  h  hS (lv_sub hl [1, 2, 3, 4, 5] rfl)
def B_X3_newName_0 (N : Nat) (l1 : Int32) (u : CSt) : Option ((Sum Nat Nat) × CSt) := bc (F_X9_here N u) fun r_16 u_15 => bc (F_X9_head N u_15) fun r_18 u_17 => bc (F_X9_tail N u_17) fun r_20 u_19 => if (4 : Int32) < l1 then (ok (cR u_19 2 < 2) inferInstance <| bc (F_X6_name N (cR u_19 2) (pI u_19 (cR u_19 2) 15) u_19) fun r_24 u_23 => ok (r_24 < 338) inferInstance <| bc (F_X6_localCalled N (cR u_19 2) r_24 r_18 r_20 u_23) fun r_27 u_26 => ok (r_27 < 338) inferInstance <| B_X3_newName_67 N l1 r_16 r_18 r_20 r_27 u_26) else (ok (cR u_19 2 < 2) inferInstance <| bc (F_X6_ofText N (cR u_19 2) r_18 r_20 u_19) fun r_31 u_30 => ok (r_31 < 338) inferInstance <| B_X3_newName_67 N l1 r_16 r_18 r_20 r_31 u_30)
set_option maxHeartbeats 4000000 in
theorem b_X3_newName_0 {y : (Sum Nat Nat)} (X : CC p s m args c cX3_newName 7 (Cond.code yX3_newName cX3_newName 7 (some (.object "SoftController$Name"))) RX3 D kA V A) (hE : CErx p l e R s m args below meth c cX3_newName D kA Z A Q y w) (hst : l.stackTraces = false) (hX : CX p l e R s m args below meth c D kA Z A Q y w) (hC : 1 ≤ R.cells ∧ 6 ≤ R.slots) (hF : 7 ≤ R.frames) (hL : 122 ≤ R.locals) {l1 : Int32} {u : CSt}  (h : B_X3_newName_0 N l1 u = some (y, w))  (hS : CS D kA Z A s u H locs) (hl : lv_has ls 7 [(0, .ref (Z 227)), (1, .int l1)]) : W p l e R s m args below meth c H locs 0 0 Q (F0 m 0 ls []) := by
  obtain ⟨⟨hx, hb, hml, hown, hts⟩, hK, hEV, hA⟩ := id X
  have hG : ∀ w ∈ GW, w.before args s = true := fun w h => hts w (List.mem_cons_of_mem _ h)
  unfold B_X3_newName_0 at h
  refine lv_aload_n hx hb dX3_newName_0 rfl (lv_at hl 0 rfl) ?_
  refine cg_X3_15 X hS dX3_newName_1 ?_
  obtain ⟨r_16, u_15, h_u_15, h⟩ := bc_of h
  refine kc_X9_here_RX3 X  hS h_u_15 (Nat.le_trans (Nat.le_of_ble_eq_true rfl) hF) (Nat.le_trans (Nat.le_of_ble_eq_true rfl) hL) hl.1 (Nat.le_of_ble_eq_true rfl) dX3_newName_4 (fun H locs hS => ?_)
  refine lv_istore_n (lv' := [(2, .int r_16), (0, .ref (Z 227)), (1, .int l1)]) hx hb dX3_newName_7 rfl hl (by decide) rfl (fun ls hl => ?_)
  refine lv_aload_n hx hb dX3_newName_8 rfl (lv_at hl 1 rfl) ?_
  refine cg_X3_15 X hS dX3_newName_9 ?_
  obtain ⟨r_18, u_17, h_u_17, h⟩ := bc_of h
  refine kc_X9_head_RX3 X  hS h_u_17 (Nat.le_trans (Nat.le_of_ble_eq_true rfl) hF) (Nat.le_trans (Nat.le_of_ble_eq_true rfl) hL) hl.1 (Nat.le_of_ble_eq_true rfl) dX3_newName_12 (fun H locs hS => ?_)
  refine lv_lstore_n (lv' := [(3, .long r_18), (2, .int r_16), (0, .ref (Z 227)), (1, .int l1)]) hx hb dX3_newName_15 rfl hl (by decide) rfl (fun ls hl => ?_)
  refine lv_aload_n hx hb dX3_newName_16 rfl (lv_at hl 2 rfl) ?_
  refine cg_X3_15 X hS dX3_newName_17 ?_
  obtain ⟨r_20, u_19, h_u_19, h⟩ := bc_of h
  refine kc_X9_tail_RX3 X  hS h_u_19 (Nat.le_trans (Nat.le_of_ble_eq_true rfl) hF) (Nat.le_trans (Nat.le_of_ble_eq_true rfl) hL) hl.1 (Nat.le_of_ble_eq_true rfl) dX3_newName_20 (fun H locs hS => ?_)
  refine lv_istore (lv' := [(5, .int r_20), (3, .long r_18), (2, .int r_16), (0, .ref (Z 227)), (1, .int l1)]) hx hb dX3_newName_23 hl (by decide) rfl (fun ls hl => ?_)
  refine lv_iload_n hx hb dX3_newName_25 rfl (lv_at hl 4 rfl) ?_
  refine lv_iconst (v := 4) hx hb dX3_newName_26 (by decide) ?_
  refine lv_icmp_gt (tgt := 43) hx hb dX3_newName_27 (by decide) (fun c_21 => ?_) (fun c_21 => ?_)
  · have h := ip (c_21) h
    refine lv_aload_n hx hb dX3_newName_43 rfl (lv_at hl 3 rfl) ?_
    refine cg_X3_19 X hS dX3_newName_44 ?_
    obtain ⟨z_22, h⟩ := ok_of h
    refine lv_aload_n hx hb dX3_newName_47 rfl (lv_at hl 3 rfl) ?_
    refine cg_X3_19 X hS dX3_newName_48 ?_
    refine lv_aload_n hx hb dX3_newName_51 rfl (lv_at hl 3 rfl) ?_
    refine cg_X3_19 X hS dX3_newName_52 ?_
    refine cg_X3_110 X z_22 hS dX3_newName_55 ?_
    obtain ⟨r_24, u_23, h_u_23, h⟩ := bc_of h
    refine kc_X6_name_RX3 X z_22 hS h_u_23 (Nat.le_trans (Nat.le_of_ble_eq_true rfl) hF) (Nat.le_trans (Nat.le_of_ble_eq_true rfl) hL) hl.1 (Nat.le_of_ble_eq_true rfl) dX3_newName_58 (fun H locs hS => ?_)
    obtain ⟨z_25, h⟩ := ok_of h
    refine lv_lload_n hx hb dX3_newName_61 rfl (lv_at hl 1 rfl) ?_
    refine lv_iload hx hb dX3_newName_62 (lv_at hl 0 rfl) ?_
    obtain ⟨r_27, u_26, h_u_26, h⟩ := bc_of h
    refine kc_X6_localCalled_RX3 X z_22 z_25 hS h_u_26 (Nat.le_trans (Nat.le_of_ble_eq_true rfl) hF) (Nat.le_trans (Nat.le_of_ble_eq_true rfl) hL) hl.1 (Nat.le_of_ble_eq_true rfl) dX3_newName_64 (fun H locs hS => ?_)
    obtain ⟨z_28, h⟩ := ok_of h
    exact b_X3_newName_67 X hE hst hX hC hF hL  h z_28 hS (lv_sub hl [3, 4, 2, 1, 0] rfl)
  · have h := im (c_21) h
    refine lv_aload_n hx hb dX3_newName_30 rfl (lv_at hl 3 rfl) ?_
    refine cg_X3_19 X hS dX3_newName_31 ?_
    obtain ⟨z_29, h⟩ := ok_of h
    refine lv_lload_n hx hb dX3_newName_34 rfl (lv_at hl 1 rfl) ?_
    refine lv_iload hx hb dX3_newName_35 (lv_at hl 0 rfl) ?_
    obtain ⟨r_31, u_30, h_u_30, h⟩ := bc_of h
    refine kc_X6_ofText_RX3 X z_29 hS h_u_30 (Nat.le_trans (Nat.le_of_ble_eq_true rfl) hF) (Nat.le_trans (Nat.le_of_ble_eq_true rfl) hL) hl.1 (Nat.le_of_ble_eq_true rfl) dX3_newName_37 (fun H locs hS => ?_)
    obtain ⟨z_32, h⟩ := ok_of h
    refine lv_goto (tgt := 67) hx hb dX3_newName_40 (by decide) ?_
    exact b_X3_newName_67 X hE hst hX hC hF hL  h z_32 hS (lv_sub hl [3, 4, 2, 1, 0] rfl)
def F_X3_newName (N : Nat) (l1 : Int32) (u : CSt) : Option ((Sum Nat Nat) × CSt) := B_X3_newName_0 N l1 u
set_option maxHeartbeats 4000000 in
theorem k_X3_newName (l : Launch) (hst : l.stackTraces = false) (D : va_G) (kA : Nat → ClassId) (V Z : Nat → Nat) (N : Nat) (l1 : Int32) (u : CSt) (sz : Nat) {y : (Sum Nat Nat)} {w : CSt} (h : F_X3_newName N l1 u = some (y, w)) : vx_Met l yX3_newName (Cond.code yX3_newName cX3_newName 7 (some (.object "SoftController$Name")) :: GW) { frames := 7, cells := 1, slots := 6, locals := 122 } (cPc D kA V Z [.ref (Z 227), .int l1] u sz) (cQrx D kA Z u sz y w) (cXc D kA Z u sz y w) 1 6 (va_A (CW kA Z u) sz) := by
  refine vx_ofW (cc := cX3_newName) (maxL := 7) (ret := (some (.object "SoftController$Name"))) (by decide) rfl ?_
  intro p e s m args below meth c s₁ Bd hml hxt hv
  obtain ⟨rfl, hsz, hP, hK, hD0, hE⟩ := hv
  have hts := atoms_spec (ws := Cond.code yX3_newName cX3_newName 7 (some (.object "SoftController$Name")) :: GW) Bd.pre
  have hl := lv_entry ([.ref (Z 227), .int l1]) (n := 7) (Nat.le_of_ble_eq_true rfl)
  rw [lg_entry_eq]
  generalize (lg_sl ([.ref (Z 227), .int l1]) ++ List.replicate (7 - (lg_sl ([.ref (Z 227), .int l1])).length) Slot.unset).toArray = ls at hl ⊢
  have hl : lv_has ls 7 [(0, .ref (Z 227)), (1, .int l1)] := hl
  subst hsz
  have X : CC p s m ([.ref (Z 227), .int l1]).toArray c cX3_newName 7 (Cond.code yX3_newName cX3_newName 7 (some (.object "SoftController$Name"))) RX3 D kA V (va_A (CW kA Z u) s.heap.size) := ⟨⟨Bd.exec, Bd.bytes, hml, findClass_of_methodNamed Bd.named, hts⟩, hK, hE, fun q h => Or.inr h⟩
  refine b_X3_newName_0 X (cend_rx X Bd.returns Bd.notSynchronized) hst (cend_X X hxt Bd.notSynchronized) ⟨Nat.le_refl _, Nat.le_refl _⟩ (Nat.le_refl _) (Nat.le_refl _) h  ⟨hP, hD0.self, va_S.rf⟩ (lv_sub hl [0, 1] rfl)
theorem kc_X3_newName_RX3 {cc : ByteArray} {pc nL : Nat} {c0 : Cond} {rest : List Value} {l1 : Int32} {u w1 : CSt} {y1 : (Sum Nat Nat)} (hst : l.stackTraces = false) (X : CC p s m args c cc nL c0 RX3 D kA V A)  (hS : CS D kA Z A s u H locs) (h : F_X3_newName N l1 u = some (y1, w1)) (hF : 7 + 1 ≤ R.frames) (hL : 8 + (7 + 11) + 122 ≤ R.locals) (hC : 1 ≤ R.cells ∧ 6 ≤ R.slots) (hl : ls.size = nL) (hc : (rest.map fun v => v.category).sum ≤ 8) (hdg : decode cc pc = .ok (.invokevirtual 140, 3)) (kk : ∀ r, y1 = .inr r → ∀ H locs, CS D kA Z A s w1 H locs → W p l e R s m args below meth c H locs 0 0 Q (F0 m (pc + 3) ls (.ref (Z (1000 + r)) :: rest))) (kx : ∀ x, y1 = .inl x → ∀ (H : Heap) (locs : List Loc) (q : Addr) (ce : Cell), CS D kA Z A s w1 H locs → H[q]? = some ce → ce.vm = .none → s.vm.findClass (exN x) = some ce.cls → vx_W p l e R s m args below meth c H locs 1 6 Q (F0 m pc ls rest) q) : W p l e R s m args below meth c H locs 0 0 Q (F0 m pc ls (.int l1 :: .ref (Z 227) :: rest)) :=
  ccall_rx (n := 1) X hS (k_X3_newName l hst D kA V Z N l1  u H.size h) (gw_V gw_1017 gw_1019 gs_3_11 gw_13 gw_1020) (by decide +kernel) (va_recv X.2.1 hS.1 (ci := 3) (q0 := 27) rfl (cw_lit rfl)) hF hL hC rfl hl hc rfl hdg kk kx
def B_X3_allot_0 (N : Nat) (l1 : Int32) (l2 : Int32) (l3 : Int32) (u : CSt) : Option ((Sum Nat Int32) × CSt) := rd (cA u 228) 5 l1 fun v_2 => wc 5 l1 (xA u 228 l1.toNatClampNeg (v_2 + l2)) fun u_4 => pc (xI u_4 12 ((cI u_4 12) + l2)) fun u_5 => rd (cA u_5 228) 5 l1 fun v_7 => if v_7 ≤ (400 : Int32) then (some (.inr 0, u_5)) else (bt (F_X9_refuse N 5 l3 u_5) fun _ u_9 => some (.inr 0, u_9))
set_option maxHeartbeats 4000000 in
theorem b_X3_allot_0 {y : (Sum Nat Int32)} (X : CC p s m args c cX3_allot 4 (Cond.code yX3_allot cX3_allot 4 none) RX3 D kA V A) (hE : CEvx p l e R s m args below meth c cX3_allot D kA Z A Q y w) (hst : l.stackTraces = false) (hX : CX p l e R s m args below meth c D kA Z A Q y w) (hC : 1 ≤ R.cells ∧ 6 ≤ R.slots) (hF : 7 ≤ R.frames) (hL : 122 ≤ R.locals) {l1 : Int32} {l2 : Int32} {l3 : Int32} {u : CSt}  (h : B_X3_allot_0 N l1 l2 l3 u = some (y, w))  (hS : CS D kA Z A s u H locs) (hl : lv_has ls 4 [(0, .ref (Z 227)), (1, .int l1), (2, .int l2), (3, .int l3)]) : W p l e R s m args below meth c H locs 0 0 Q (F0 m 0 ls []) := by
  obtain ⟨⟨hx, hb, hml, hown, hts⟩, hK, hEV, hA⟩ := id X
  have hG : ∀ w ∈ GW, w.before args s = true := fun w h => hts w (List.mem_cons_of_mem _ h)
  unfold B_X3_allot_0 at h
  refine lv_aload_n hx hb dX3_allot_0 rfl (lv_at hl 0 rfl) ?_
  refine cg_X3_9 X hS dX3_allot_1 ?_
  refine lv_iload_n hx hb dX3_allot_4 rfl (lv_at hl 1 rfl) ?_
  refine lv_dup2_11 hx hb dX3_allot_5 rfl rfl ?_
  obtain ⟨v_2, e_v_2, i_1, h⟩ := rd_of h
  refine ca_s228 X hS i_1 e_v_2 dX3_allot_6 ?_
  refine lv_iload_n hx hb dX3_allot_7 rfl (lv_at hl 2 rfl) ?_
  refine lv_iadd hx hb dX3_allot_8 ?_
  obtain ⟨u_4, e_u_4, i_3, h⟩ := wc_of h
  refine cs_s228 X hS i_3 e_u_4 dX3_allot_9 (fun H locs hS => ?_)
  refine lv_aload_n hx hb dX3_allot_10 rfl (lv_at hl 0 rfl) ?_
  refine lv_dup hx hb dX3_allot_11 rfl ?_
  refine cg_X3_47 X hS dX3_allot_12 ?_
  refine lv_iload_n hx hb dX3_allot_15 rfl (lv_at hl 2 rfl) ?_
  refine lv_iadd hx hb dX3_allot_16 ?_
  obtain ⟨u_5, e_u_5, h⟩ := pc_of h
  refine cp_X3_47 X hS e_u_5 dX3_allot_17 (fun H locs hS => ?_)
  refine lv_aload_n hx hb dX3_allot_20 rfl (lv_at hl 0 rfl) ?_
  refine cg_X3_9 X hS dX3_allot_21 ?_
  refine lv_iload_n hx hb dX3_allot_24 rfl (lv_at hl 1 rfl) ?_
  obtain ⟨v_7, e_v_7, i_6, h⟩ := rd_of h
  refine ca_s228 X hS i_6 e_v_7 dX3_allot_25 ?_
  refine lv_sipush (v := 400) hx hb dX3_allot_26 (by decide) ?_
  refine lv_icmp_le (tgt := 41) hx hb dX3_allot_29 (by decide) (fun c_8 => ?_) (fun c_8 => ?_)
  · have h := ip (c_8) h
    obtain ⟨e9, rfl⟩ := so9 h
    exact hE _ e9.symm _ _ _ _ hS dX3_allot_41
  · have h := im (c_8) h
    refine lv_aload_n hx hb dX3_allot_32 rfl (lv_at hl 0 rfl) ?_
    refine cg_X3_15 X hS dX3_allot_33 ?_
    refine lv_iconst (v := 5) hx hb dX3_allot_36 (by decide) ?_
    refine lv_iload_n hx hb dX3_allot_37 rfl (lv_at hl 3 rfl) ?_
    obtain ⟨y_10, u_9, h_u_9, h⟩ := bt_of h
    refine kc_X9_refuse_RX3 hst X  hS h_u_9 (Nat.le_trans (Nat.le_of_ble_eq_true rfl) hF) (Nat.le_trans (Nat.le_of_ble_eq_true rfl) hL) hC hl.1 (Nat.le_of_ble_eq_true rfl) dX3_allot_38 (fun r_u_9 hr_u_9 H locs hS => ?_) (fun x9 hn H locs q9 ce hS a1 a2 a3 => by obtain ⟨e2, rfl⟩ := bt_no h hn; exact hX _ e2 _ _ _ _ _ _ _ hS a1 a2 a3)
    replace h := bt_ok h hr_u_9
    obtain ⟨e9, rfl⟩ := so9 h
    exact hE _ e9.symm _ _ _ _ hS dX3_allot_41
def F_X3_allot (N : Nat) (l1 : Int32) (l2 : Int32) (l3 : Int32) (u : CSt) : Option ((Sum Nat Int32) × CSt) := B_X3_allot_0 N l1 l2 l3 u
set_option maxHeartbeats 4000000 in
theorem k_X3_allot (l : Launch) (hst : l.stackTraces = false) (D : va_G) (kA : Nat → ClassId) (V Z : Nat → Nat) (N : Nat) (l1 : Int32) (l2 : Int32) (l3 : Int32) (u : CSt) (sz : Nat) {y : (Sum Nat Int32)} {w : CSt} (h : F_X3_allot N l1 l2 l3 u = some (y, w)) : vx_Met l yX3_allot (Cond.code yX3_allot cX3_allot 4 none :: GW) { frames := 7, cells := 1, slots := 6, locals := 122 } (cPc D kA V Z [.ref (Z 227), .int l1, .int l2, .int l3] u sz) (cQvx D kA Z u sz y w) (cXc D kA Z u sz y w) 1 6 (va_A (CW kA Z u) sz) := by
  refine vx_ofW (cc := cX3_allot) (maxL := 4) (ret := none) (by decide) rfl ?_
  intro p e s m args below meth c s₁ Bd hml hxt hv
  obtain ⟨rfl, hsz, hP, hK, hD0, hE⟩ := hv
  have hts := atoms_spec (ws := Cond.code yX3_allot cX3_allot 4 none :: GW) Bd.pre
  have hl := lv_entry ([.ref (Z 227), .int l1, .int l2, .int l3]) (n := 4) (Nat.le_of_ble_eq_true rfl)
  rw [lg_entry_eq]
  generalize (lg_sl ([.ref (Z 227), .int l1, .int l2, .int l3]) ++ List.replicate (4 - (lg_sl ([.ref (Z 227), .int l1, .int l2, .int l3])).length) Slot.unset).toArray = ls at hl ⊢
  have hl : lv_has ls 4 [(0, .ref (Z 227)), (1, .int l1), (2, .int l2), (3, .int l3)] := hl
  subst hsz
  have X : CC p s m ([.ref (Z 227), .int l1, .int l2, .int l3]).toArray c cX3_allot 4 (Cond.code yX3_allot cX3_allot 4 none) RX3 D kA V (va_A (CW kA Z u) s.heap.size) := ⟨⟨Bd.exec, Bd.bytes, hml, findClass_of_methodNamed Bd.named, hts⟩, hK, hE, fun q h => Or.inr h⟩
  refine b_X3_allot_0 X (cend_vx X Bd.returns Bd.notSynchronized) hst (cend_X X hxt Bd.notSynchronized) ⟨Nat.le_refl _, Nat.le_refl _⟩ (Nat.le_refl _) (Nat.le_refl _) h  ⟨hP, hD0.self, va_S.rf⟩ (lv_sub hl [0, 1, 2, 3] rfl)
theorem kc_X3_allot_RX3 {cc : ByteArray} {pc nL : Nat} {c0 : Cond} {rest : List Value} {l1 : Int32} {l2 : Int32} {l3 : Int32} {u w1 : CSt} {y1 : (Sum Nat Int32)} (hst : l.stackTraces = false) (X : CC p s m args c cc nL c0 RX3 D kA V A)  (hS : CS D kA Z A s u H locs) (h : F_X3_allot N l1 l2 l3 u = some (y1, w1)) (hF : 7 + 1 ≤ R.frames) (hL : 8 + (4 + 11) + 122 ≤ R.locals) (hC : 1 ≤ R.cells ∧ 6 ≤ R.slots) (hl : ls.size = nL) (hc : (rest.map fun v => v.category).sum ≤ 8) (hdg : decode cc pc = .ok (.invokevirtual 173, 3)) (kk : ∀ r, y1 = .inr r → ∀ H locs, CS D kA Z A s w1 H locs → W p l e R s m args below meth c H locs 0 0 Q (F0 m (pc + 3) ls (rest))) (kx : ∀ x, y1 = .inl x → ∀ (H : Heap) (locs : List Loc) (q : Addr) (ce : Cell), CS D kA Z A s w1 H locs → H[q]? = some ce → ce.vm = .none → s.vm.findClass (exN x) = some ce.cls → vx_W p l e R s m args below meth c H locs 1 6 Q (F0 m pc ls rest) q) : W p l e R s m args below meth c H locs 0 0 Q (F0 m pc ls (.int l3 :: .int l2 :: .int l1 :: .ref (Z 227) :: rest)) :=
  ccall_vx (n := 3) X hS (k_X3_allot l hst D kA V Z N l1 l2 l3  u H.size h) (gw_V gw_1080 gw_1082 gs_3_13 gw_13 gw_1083) (by decide +kernel) (va_recv X.2.1 hS.1 (ci := 3) (q0 := 27) rfl (cw_lit rfl)) hF hL hC rfl hl hc rfl hdg kk kx
def B_X3_join_64 (N : Nat) (l2 : Int32) (l3 : Nat) (s0 : Nat) (s1 : Int32) (s2 : Int32) (u : CSt) : Option ((Sum Nat Int32) × CSt) := pc (xmI u s0 11 (s1 + s2)) fun u_1 => if (mI u_1 l3 7) ≤ (100 : Int32) then (some (.inr 0, u_1)) else (bt (F_X9_refuse N 5 l2 u_1) fun _ u_3 => some (.inr 0, u_3))
set_option maxHeartbeats 4000000 in
theorem b_X3_join_64 {y : (Sum Nat Int32)} (X : CC p s m args c cX3_join 4 (Cond.code yX3_join cX3_join 4 none) RX3 D kA V A) (hE : CEvx p l e R s m args below meth c cX3_join D kA Z A Q y w) (hst : l.stackTraces = false) (hX : CX p l e R s m args below meth c D kA Z A Q y w) (hC : 1 ≤ R.cells ∧ 6 ≤ R.slots) (hF : 7 ≤ R.frames) (hL : 122 ≤ R.locals) {l2 : Int32} {l3 : Nat} {s0 : Nat} {s1 : Int32} {s2 : Int32} {u : CSt}  (h : B_X3_join_64 N l2 l3 s0 s1 s2 u = some (y, w)) (h_l3 : l3 < 338) (h_s0 : s0 < 338) (hS : CS D kA Z A s u H locs) (hl : lv_has ls 4 [(0, .ref (Z 227)), (2, .int l2), (3, .ref (Z (1000 + l3)))]) : W p l e R s m args below meth c H locs 0 0 Q (F0 m 64 ls [.int s2, .int s1, .ref (Z (1000 + s0))]) := by
  obtain ⟨⟨hx, hb, hml, hown, hts⟩, hK, hEV, hA⟩ := id X
  have hG : ∀ w ∈ GW, w.before args s = true := fun w h => hts w (List.mem_cons_of_mem _ h)
  unfold B_X3_join_64 at h
  refine lv_iadd hx hb dX3_join_64 ?_
  obtain ⟨u_1, e_u_1, h⟩ := pc_of h
  refine cp_X3_200 X h_s0 hS e_u_1 dX3_join_65 (fun H locs hS => ?_)
  refine lv_aload_n hx hb dX3_join_68 rfl (lv_at hl 2 rfl) ?_
  refine cg_X3_149 X h_l3 hS dX3_join_69 ?_
  refine lv_bipush (v := 100) hx hb dX3_join_72 (by decide) ?_
  refine lv_icmp_le (tgt := 86) hx hb dX3_join_74 (by decide) (fun c_2 => ?_) (fun c_2 => ?_)
  · have h := ip (c_2) h
    obtain ⟨e9, rfl⟩ := so9 h
    exact hE _ e9.symm _ _ _ _ hS dX3_join_86
  · have h := im (c_2) h
    refine lv_aload_n hx hb dX3_join_77 rfl (lv_at hl 0 rfl) ?_
    refine cg_X3_15 X hS dX3_join_78 ?_
    refine lv_iconst (v := 5) hx hb dX3_join_81 (by decide) ?_
    refine lv_iload_n hx hb dX3_join_82 rfl (lv_at hl 1 rfl) ?_
    obtain ⟨y_4, u_3, h_u_3, h⟩ := bt_of h
    refine kc_X9_refuse_RX3 hst X  hS h_u_3 (Nat.le_trans (Nat.le_of_ble_eq_true rfl) hF) (Nat.le_trans (Nat.le_of_ble_eq_true rfl) hL) hC hl.1 (Nat.le_of_ble_eq_true rfl) dX3_join_83 (fun r_u_3 hr_u_3 H locs hS => ?_) (fun x9 hn H locs q9 ce hS a1 a2 a3 => by obtain ⟨e2, rfl⟩ := bt_no h hn; exact hX _ e2 _ _ _ _ _ _ _ hS a1 a2 a3)
    replace h := bt_ok h hr_u_3
    obtain ⟨e9, rfl⟩ := so9 h
    exact hE _ e9.symm _ _ _ _ hS dX3_join_86
def B_X3_join_0 (N : Nat) (l1 : Nat) (l2 : Int32) (u : CSt) : Option ((Sum Nat Int32) × CSt) := ok (cR u 2 < 2) inferInstance <| bc (F_X6_name N (cR u 2) (pI u (cR u 2) 15) u) fun r_7 u_6 => ok (r_7 < 338) inferInstance <| pc (xmI u_6 l1 9 (mI u_6 r_7 7)) fun u_9 => pc (xmI u_9 r_7 7 ((mI u_9 r_7 7) + (mI u_9 l1 7))) fun u_10 => pc (xmI u_10 r_7 12 ((mI u_10 r_7 12) + 1)) fun u_11 => if (mI u_11 l1 2) = (5 : Int32) then (B_X3_join_64 N l2 r_7 r_7 (mI u_11 r_7 11) 1 u_11) else (B_X3_join_64 N l2 r_7 r_7 (mI u_11 r_7 11) 0 u_11)
set_option maxHeartbeats 4000000 in
theorem b_X3_join_0 {y : (Sum Nat Int32)} (X : CC p s m args c cX3_join 4 (Cond.code yX3_join cX3_join 4 none) RX3 D kA V A) (hE : CEvx p l e R s m args below meth c cX3_join D kA Z A Q y w) (hst : l.stackTraces = false) (hX : CX p l e R s m args below meth c D kA Z A Q y w) (hC : 1 ≤ R.cells ∧ 6 ≤ R.slots) (hF : 7 ≤ R.frames) (hL : 122 ≤ R.locals) {l1 : Nat} {l2 : Int32} {u : CSt}  (h : B_X3_join_0 N l1 l2 u = some (y, w)) (h_l1 : l1 < 338) (hS : CS D kA Z A s u H locs) (hl : lv_has ls 4 [(0, .ref (Z 227)), (1, .ref (Z (1000 + l1))), (2, .int l2)]) : W p l e R s m args below meth c H locs 0 0 Q (F0 m 0 ls []) := by
  obtain ⟨⟨hx, hb, hml, hown, hts⟩, hK, hEV, hA⟩ := id X
  have hG : ∀ w ∈ GW, w.before args s = true := fun w h => hts w (List.mem_cons_of_mem _ h)
  unfold B_X3_join_0 at h
  refine lv_aload_n hx hb dX3_join_0 rfl (lv_at hl 0 rfl) ?_
  refine cg_X3_19 X hS dX3_join_1 ?_
  obtain ⟨z_5, h⟩ := ok_of h
  refine lv_aload_n hx hb dX3_join_4 rfl (lv_at hl 0 rfl) ?_
  refine cg_X3_19 X hS dX3_join_5 ?_
  refine cg_X3_110 X z_5 hS dX3_join_8 ?_
  obtain ⟨r_7, u_6, h_u_6, h⟩ := bc_of h
  refine kc_X6_name_RX3 X z_5 hS h_u_6 (Nat.le_trans (Nat.le_of_ble_eq_true rfl) hF) (Nat.le_trans (Nat.le_of_ble_eq_true rfl) hL) hl.1 (Nat.le_of_ble_eq_true rfl) dX3_join_11 (fun H locs hS => ?_)
  obtain ⟨z_8, h⟩ := ok_of h
  refine lv_astore_n (lv' := [(3, .ref (Z (1000 + r_7))), (0, .ref (Z 227)), (1, .ref (Z (1000 + l1))), (2, .int l2)]) hx hb dX3_join_14 rfl hl (by decide) rfl (fun ls hl => ?_)
  refine lv_aload_n hx hb dX3_join_15 rfl (lv_at hl 2 rfl) ?_
  refine lv_aload_n hx hb dX3_join_16 rfl (lv_at hl 0 rfl) ?_
  refine cg_X3_149 X z_8 hS dX3_join_17 ?_
  obtain ⟨u_9, e_u_9, h⟩ := pc_of h
  refine cp_X3_170 X h_l1 hS e_u_9 dX3_join_20 (fun H locs hS => ?_)
  refine lv_aload_n hx hb dX3_join_23 rfl (lv_at hl 0 rfl) ?_
  refine lv_dup hx hb dX3_join_24 rfl ?_
  refine cg_X3_149 X z_8 hS dX3_join_25 ?_
  refine lv_aload_n hx hb dX3_join_28 rfl (lv_at hl 2 rfl) ?_
  refine cg_X3_149 X h_l1 hS dX3_join_29 ?_
  refine lv_iadd hx hb dX3_join_32 ?_
  obtain ⟨u_10, e_u_10, h⟩ := pc_of h
  refine cp_X3_149 X z_8 hS e_u_10 dX3_join_33 (fun H locs hS => ?_)
  refine lv_aload_n hx hb dX3_join_36 rfl (lv_at hl 0 rfl) ?_
  refine lv_dup hx hb dX3_join_37 rfl ?_
  refine cg_X3_197 X z_8 hS dX3_join_38 ?_
  refine lv_iconst (v := 1) hx hb dX3_join_41 (by decide) ?_
  refine lv_iadd hx hb dX3_join_42 ?_
  obtain ⟨u_11, e_u_11, h⟩ := pc_of h
  refine cp_X3_197 X z_8 hS e_u_11 dX3_join_43 (fun H locs hS => ?_)
  refine lv_aload_n hx hb dX3_join_46 rfl (lv_at hl 0 rfl) ?_
  refine lv_dup hx hb dX3_join_47 rfl ?_
  refine cg_X3_200 X z_8 hS dX3_join_48 ?_
  refine lv_aload_n hx hb dX3_join_51 rfl (lv_at hl 2 rfl) ?_
  refine cg_X3_121 X h_l1 hS dX3_join_52 ?_
  refine lv_iconst (v := 5) hx hb dX3_join_55 (by decide) ?_
  refine lv_icmp_ne (tgt := 63) hx hb dX3_join_56 (by decide) (fun c_12 => ?_) (fun c_12 => ?_)
  · have h := im (c_12) h
    refine lv_iconst (v := 0) hx hb dX3_join_63 (by decide) ?_
    exact b_X3_join_64 X hE hst hX hC hF hL  h z_8 z_8 hS (lv_sub hl [1, 3, 0] rfl)
  · have h := ip (c_12) h
    refine lv_iconst (v := 1) hx hb dX3_join_59 (by decide) ?_
    refine lv_goto (tgt := 64) hx hb dX3_join_60 (by decide) ?_
    exact b_X3_join_64 X hE hst hX hC hF hL  h z_8 z_8 hS (lv_sub hl [1, 3, 0] rfl)
def F_X3_join (N : Nat) (l1 : Nat) (l2 : Int32) (u : CSt) : Option ((Sum Nat Int32) × CSt) := B_X3_join_0 N l1 l2 u
set_option maxHeartbeats 4000000 in
theorem k_X3_join (l : Launch) (hst : l.stackTraces = false) (D : va_G) (kA : Nat → ClassId) (V Z : Nat → Nat) (N : Nat) (l1 : Nat) (l2 : Int32) (h_l1 : l1 < 338) (u : CSt) (sz : Nat) {y : (Sum Nat Int32)} {w : CSt} (h : F_X3_join N l1 l2 u = some (y, w)) : vx_Met l yX3_join (Cond.code yX3_join cX3_join 4 none :: GW) { frames := 7, cells := 1, slots := 6, locals := 122 } (cPc D kA V Z [.ref (Z 227), .ref (Z (1000 + l1)), .int l2] u sz) (cQvx D kA Z u sz y w) (cXc D kA Z u sz y w) 1 6 (va_A (CW kA Z u) sz) := by
  refine vx_ofW (cc := cX3_join) (maxL := 4) (ret := none) (by decide) rfl ?_
  intro p e s m args below meth c s₁ Bd hml hxt hv
  obtain ⟨rfl, hsz, hP, hK, hD0, hE⟩ := hv
  have hts := atoms_spec (ws := Cond.code yX3_join cX3_join 4 none :: GW) Bd.pre
  have hl := lv_entry ([.ref (Z 227), .ref (Z (1000 + l1)), .int l2]) (n := 4) (Nat.le_of_ble_eq_true rfl)
  rw [lg_entry_eq]
  generalize (lg_sl ([.ref (Z 227), .ref (Z (1000 + l1)), .int l2]) ++ List.replicate (4 - (lg_sl ([.ref (Z 227), .ref (Z (1000 + l1)), .int l2])).length) Slot.unset).toArray = ls at hl ⊢
  have hl : lv_has ls 4 [(0, .ref (Z 227)), (1, .ref (Z (1000 + l1))), (2, .int l2)] := hl
  subst hsz
  have X : CC p s m ([.ref (Z 227), .ref (Z (1000 + l1)), .int l2]).toArray c cX3_join 4 (Cond.code yX3_join cX3_join 4 none) RX3 D kA V (va_A (CW kA Z u) s.heap.size) := ⟨⟨Bd.exec, Bd.bytes, hml, findClass_of_methodNamed Bd.named, hts⟩, hK, hE, fun q h => Or.inr h⟩
  refine b_X3_join_0 X (cend_vx X Bd.returns Bd.notSynchronized) hst (cend_X X hxt Bd.notSynchronized) ⟨Nat.le_refl _, Nat.le_refl _⟩ (Nat.le_refl _) (Nat.le_refl _) h h_l1 ⟨hP, hD0.self, va_S.rf⟩ (lv_sub hl [0, 1, 2] rfl)
theorem kc_X3_join_RX3 {cc : ByteArray} {pc nL : Nat} {c0 : Cond} {rest : List Value} {l1 : Nat} {l2 : Int32} {u w1 : CSt} {y1 : (Sum Nat Int32)} (hst : l.stackTraces = false) (X : CC p s m args c cc nL c0 RX3 D kA V A) (h_l1 : l1 < 338) (hS : CS D kA Z A s u H locs) (h : F_X3_join N l1 l2 u = some (y1, w1)) (hF : 7 + 1 ≤ R.frames) (hL : 8 + (4 + 11) + 122 ≤ R.locals) (hC : 1 ≤ R.cells ∧ 6 ≤ R.slots) (hl : ls.size = nL) (hc : (rest.map fun v => v.category).sum ≤ 8) (hdg : decode cc pc = .ok (.invokevirtual 176, 3)) (kk : ∀ r, y1 = .inr r → ∀ H locs, CS D kA Z A s w1 H locs → W p l e R s m args below meth c H locs 0 0 Q (F0 m (pc + 3) ls (rest))) (kx : ∀ x, y1 = .inl x → ∀ (H : Heap) (locs : List Loc) (q : Addr) (ce : Cell), CS D kA Z A s w1 H locs → H[q]? = some ce → ce.vm = .none → s.vm.findClass (exN x) = some ce.cls → vx_W p l e R s m args below meth c H locs 1 6 Q (F0 m pc ls rest) q) : W p l e R s m args below meth c H locs 0 0 Q (F0 m pc ls (.int l2 :: .ref (Z (1000 + l1)) :: .ref (Z 227) :: rest)) :=
  ccall_vx (n := 2) X hS (k_X3_join l hst D kA V Z N l1 l2 h_l1 u H.size h) (gw_V gw_1084 gw_1086 gs_3_14 gw_13 gw_1087) (by decide +kernel) (va_recv X.2.1 hS.1 (ci := 3) (q0 := 27) rfl (cw_lit rfl)) hF hL hC rfl hl hc rfl hdg kk kx
def B_X3_constant_60 (N : Nat) (l1 : Int32) (l3 : Int32) (l5 : Int64) (u : CSt) : Option ((Sum Nat Int64) × CSt) := if (n_fits l1 l5) = (0 : Int32) then (bt (F_X9_refuse N 5 l3 u) fun _ u_4 => some (.inr l5, u_4)) else (some (.inr l5, u))
set_option maxHeartbeats 4000000 in
theorem b_X3_constant_60 {y : (Sum Nat Int64)} (X : CC p s m args c cX3_constant 7 (Cond.code yX3_constant cX3_constant 7 (some .long)) RX3 D kA V A) (hE : CElx p l e R s m args below meth c cX3_constant D kA Z A Q y w) (hst : l.stackTraces = false) (hX : CX p l e R s m args below meth c D kA Z A Q y w) (hC : 1 ≤ R.cells ∧ 6 ≤ R.slots) (hF : 8 ≤ R.frames) (hL : 144 ≤ R.locals) {l1 : Int32} {l3 : Int32} {l5 : Int64} {u : CSt}  (h : B_X3_constant_60 N l1 l3 l5 u = some (y, w))  (hS : CS D kA Z A s u H locs) (hl : lv_has ls 7 [(0, .ref (Z 227)), (1, .int l1), (3, .int l3), (5, .long l5)]) : W p l e R s m args below meth c H locs 0 0 Q (F0 m 60 ls []) := by
  obtain ⟨⟨hx, hb, hml, hown, hts⟩, hK, hEV, hA⟩ := id X
  have hG : ∀ w ∈ GW, w.before args s = true := fun w h => hts w (List.mem_cons_of_mem _ h)
  unfold B_X3_constant_60 at h
  refine lv_iload_n hx hb dX3_constant_60 rfl (lv_at hl 1 rfl) ?_
  refine lv_lload hx hb dX3_constant_61 (lv_at hl 3 rfl) ?_
  refine vp_callSi (W.runS (As := [.int l1, .long l5]) (rest := []) X.1 (c_X5_fits l l1 l5) (va_cwS 2 hts (gw_P gw_1073 gw_1074 gw_24 gwp_X5_fits) rfl rfl rfl (by decide +kernel) ⟨Nat.le_trans (Nat.le_of_ble_eq_true rfl) hF, Nat.le_trans (Nat.le_of_ble_eq_true rfl) hL⟩) ⟨fun _ _ _ _ q => q, fun _ _ _ => ⟨rfl, trivial⟩⟩ rfl rfl hl.1 rfl (lv_room (Nat.le_of_ble_eq_true rfl)) dX3_constant_63 ⟨Nat.zero_le _, Nat.zero_le _⟩) (fun r_1 q_2 => ?_)
  subst q_2
  refine lv_if_ne (tgt := 78) hx hb dX3_constant_66 (by decide) (fun c_3 => ?_) (fun c_3 => ?_)
  · have h := im (c_3) h
    refine lv_lload hx hb dX3_constant_78 (lv_at hl 3 rfl) ?_
    obtain ⟨e9, rfl⟩ := so9 h
    exact hE _ e9.symm _ _ _ _ hS dX3_constant_80
  · have h := ip (c_3) h
    refine lv_aload_n hx hb dX3_constant_69 rfl (lv_at hl 0 rfl) ?_
    refine cg_X3_15 X hS dX3_constant_70 ?_
    refine lv_iconst (v := 5) hx hb dX3_constant_73 (by decide) ?_
    refine lv_iload_n hx hb dX3_constant_74 rfl (lv_at hl 2 rfl) ?_
    obtain ⟨y_5, u_4, h_u_4, h⟩ := bt_of h
    refine kc_X9_refuse_RX3 hst X  hS h_u_4 (Nat.le_trans (Nat.le_of_ble_eq_true rfl) hF) (Nat.le_trans (Nat.le_of_ble_eq_true rfl) hL) hC hl.1 (Nat.le_of_ble_eq_true rfl) dX3_constant_75 (fun r_u_4 hr_u_4 H locs hS => ?_) (fun x9 hn H locs q9 ce hS a1 a2 a3 => by obtain ⟨e2, rfl⟩ := bt_no h hn; exact hX _ e2 _ _ _ _ _ _ _ hS a1 a2 a3)
    replace h := bt_ok h hr_u_4
    refine lv_lload hx hb dX3_constant_78 (lv_at hl 3 rfl) ?_
    obtain ⟨e9, rfl⟩ := so9 h
    exact hE _ e9.symm _ _ _ _ hS dX3_constant_80
def B_X3_constant_21 (N : Nat) (l1 : Int32) (l2 : Int32) (u : CSt) : Option ((Sum Nat Int64) × CSt) := bc (F_X9_here N u) fun r_7 u_6 => bc (F_X9_isWide N u_6) fun r_9 u_8 => bt (F_X9_takeNumber N u_8) fun r_11 u_10 => if l2 = (0 : Int32) then (B_X3_constant_60 N l1 r_7 r_11 u_10) else (B_X3_constant_60 N l1 r_7 (n_neg r_9 r_11) u_10)
set_option maxHeartbeats 4000000 in
theorem b_X3_constant_21 {y : (Sum Nat Int64)} (X : CC p s m args c cX3_constant 7 (Cond.code yX3_constant cX3_constant 7 (some .long)) RX3 D kA V A) (hE : CElx p l e R s m args below meth c cX3_constant D kA Z A Q y w) (hst : l.stackTraces = false) (hX : CX p l e R s m args below meth c D kA Z A Q y w) (hC : 1 ≤ R.cells ∧ 6 ≤ R.slots) (hF : 8 ≤ R.frames) (hL : 144 ≤ R.locals) {l1 : Int32} {l2 : Int32} {u : CSt}  (h : B_X3_constant_21 N l1 l2 u = some (y, w))  (hS : CS D kA Z A s u H locs) (hl : lv_has ls 7 [(0, .ref (Z 227)), (1, .int l1), (2, .int l2)]) : W p l e R s m args below meth c H locs 0 0 Q (F0 m 21 ls []) := by
  obtain ⟨⟨hx, hb, hml, hown, hts⟩, hK, hEV, hA⟩ := id X
  have hG : ∀ w ∈ GW, w.before args s = true := fun w h => hts w (List.mem_cons_of_mem _ h)
  unfold B_X3_constant_21 at h
  refine lv_aload_n hx hb dX3_constant_21 rfl (lv_at hl 0 rfl) ?_
  refine cg_X3_15 X hS dX3_constant_22 ?_
  obtain ⟨r_7, u_6, h_u_6, h⟩ := bc_of h
  refine kc_X9_here_RX3 X  hS h_u_6 (Nat.le_trans (Nat.le_of_ble_eq_true rfl) hF) (Nat.le_trans (Nat.le_of_ble_eq_true rfl) hL) hl.1 (Nat.le_of_ble_eq_true rfl) dX3_constant_25 (fun H locs hS => ?_)
  refine lv_istore_n (lv' := [(3, .int r_7), (0, .ref (Z 227)), (1, .int l1), (2, .int l2)]) hx hb dX3_constant_28 rfl hl (by decide) rfl (fun ls hl => ?_)
  refine lv_aload_n hx hb dX3_constant_29 rfl (lv_at hl 1 rfl) ?_
  refine cg_X3_15 X hS dX3_constant_30 ?_
  obtain ⟨r_9, u_8, h_u_8, h⟩ := bc_of h
  refine kc_X9_isWide_RX3 X  hS h_u_8 (Nat.le_trans (Nat.le_of_ble_eq_true rfl) hF) (Nat.le_trans (Nat.le_of_ble_eq_true rfl) hL) hl.1 (Nat.le_of_ble_eq_true rfl) dX3_constant_33 (fun H locs hS => ?_)
  refine lv_istore (lv' := [(4, .int r_9), (3, .int r_7), (0, .ref (Z 227)), (1, .int l1), (2, .int l2)]) hx hb dX3_constant_36 hl (by decide) rfl (fun ls hl => ?_)
  refine lv_aload_n hx hb dX3_constant_38 rfl (lv_at hl 2 rfl) ?_
  refine cg_X3_15 X hS dX3_constant_39 ?_
  obtain ⟨y_12, u_10, h_u_10, h⟩ := bt_of h
  refine kc_X9_takeNumber_RX3 hst X  hS h_u_10 (Nat.le_trans (Nat.le_of_ble_eq_true rfl) hF) (Nat.le_trans (Nat.le_of_ble_eq_true rfl) hL) hC hl.1 (Nat.le_of_ble_eq_true rfl) dX3_constant_42 (fun r_11 hr_u_10 H locs hS => ?_) (fun x9 hn H locs q9 ce hS a1 a2 a3 => by obtain ⟨e2, rfl⟩ := bt_no h hn; exact hX _ e2 _ _ _ _ _ _ _ hS a1 a2 a3)
  replace h := bt_ok h hr_u_10
  refine lv_lstore (lv' := [(5, .long r_11), (4, .int r_9), (3, .int r_7), (0, .ref (Z 227)), (1, .int l1), (2, .int l2)]) hx hb dX3_constant_45 hl (by decide) rfl (fun ls hl => ?_)
  refine lv_iload_n hx hb dX3_constant_47 rfl (lv_at hl 5 rfl) ?_
  refine lv_if_eq (tgt := 60) hx hb dX3_constant_48 (by decide) (fun c_13 => ?_) (fun c_13 => ?_)
  · have h := ip (c_13) h
    exact b_X3_constant_60 X hE hst hX hC hF hL  h  hS (lv_sub hl [3, 4, 2, 0] rfl)
  · have h := im (c_13) h
    refine lv_iload hx hb dX3_constant_51 (lv_at hl 1 rfl) ?_
    refine lv_lload hx hb dX3_constant_53 (lv_at hl 0 rfl) ?_
    refine vp_callSl (W.runS (As := [.int r_9, .long r_11]) (rest := []) X.1 (c_X5_negative l r_9 r_11) (va_cwS 2 hts (gw_P gw_1070 gw_1071 gw_24 gwp_X5_negative) rfl rfl rfl (by decide +kernel) ⟨Nat.le_trans (Nat.le_of_ble_eq_true rfl) hF, Nat.le_trans (Nat.le_of_ble_eq_true rfl) hL⟩) ⟨fun _ _ _ _ q => q, fun _ _ _ => ⟨rfl, trivial⟩⟩ rfl rfl hl.1 rfl (lv_room (Nat.le_of_ble_eq_true rfl)) dX3_constant_55 ⟨Nat.zero_le _, Nat.zero_le _⟩) (fun r_14 q_15 => ?_)
    subst q_15
    refine lv_lstore (lv' := [(5, .long (n_neg r_9 r_11)), (4, .int r_9), (3, .int r_7), (0, .ref (Z 227)), (1, .int l1), (2, .int l2)]) hx hb dX3_constant_58 hl (by decide) rfl (fun ls hl => ?_)
    exact b_X3_constant_60 X hE hst hX hC hF hL  h  hS (lv_sub hl [3, 4, 2, 0] rfl)
def B_X3_constant_0 (N : Nat) (l1 : Int32) (u : CSt) : Option ((Sum Nat Int64) × CSt) := bc (F_X9_is N 45 u) fun r_17 u_16 => if r_17 = (0 : Int32) then (B_X3_constant_21 N l1 r_17 u_16) else (bc (F_X9_next N u_16) fun _ u_19 => B_X3_constant_21 N l1 r_17 u_19)
set_option maxHeartbeats 4000000 in
theorem b_X3_constant_0 {y : (Sum Nat Int64)} (X : CC p s m args c cX3_constant 7 (Cond.code yX3_constant cX3_constant 7 (some .long)) RX3 D kA V A) (hE : CElx p l e R s m args below meth c cX3_constant D kA Z A Q y w) (hst : l.stackTraces = false) (hX : CX p l e R s m args below meth c D kA Z A Q y w) (hC : 1 ≤ R.cells ∧ 6 ≤ R.slots) (hF : 8 ≤ R.frames) (hL : 144 ≤ R.locals) {l1 : Int32} {u : CSt}  (h : B_X3_constant_0 N l1 u = some (y, w))  (hS : CS D kA Z A s u H locs) (hl : lv_has ls 7 [(0, .ref (Z 227)), (1, .int l1)]) : W p l e R s m args below meth c H locs 0 0 Q (F0 m 0 ls []) := by
  obtain ⟨⟨hx, hb, hml, hown, hts⟩, hK, hEV, hA⟩ := id X
  have hG : ∀ w ∈ GW, w.before args s = true := fun w h => hts w (List.mem_cons_of_mem _ h)
  unfold B_X3_constant_0 at h
  refine lv_aload_n hx hb dX3_constant_0 rfl (lv_at hl 0 rfl) ?_
  refine cg_X3_15 X hS dX3_constant_1 ?_
  refine lv_bipush (v := 45) hx hb dX3_constant_4 (by decide) ?_
  obtain ⟨r_17, u_16, h_u_16, h⟩ := bc_of h
  refine kc_X9_is_RX3 X  hS h_u_16 (Nat.le_trans (Nat.le_of_ble_eq_true rfl) hF) (Nat.le_trans (Nat.le_of_ble_eq_true rfl) hL) hl.1 (Nat.le_of_ble_eq_true rfl) dX3_constant_6 (fun H locs hS => ?_)
  refine lv_istore_n (lv' := [(2, .int r_17), (0, .ref (Z 227)), (1, .int l1)]) hx hb dX3_constant_9 rfl hl (by decide) rfl (fun ls hl => ?_)
  refine lv_iload_n hx hb dX3_constant_10 rfl (lv_at hl 0 rfl) ?_
  refine lv_if_eq (tgt := 21) hx hb dX3_constant_11 (by decide) (fun c_18 => ?_) (fun c_18 => ?_)
  · have h := ip (c_18) h
    exact b_X3_constant_21 X hE hst hX hC hF hL  h  hS (lv_sub hl [1, 2, 0] rfl)
  · have h := im (c_18) h
    refine lv_aload_n hx hb dX3_constant_14 rfl (lv_at hl 1 rfl) ?_
    refine cg_X3_15 X hS dX3_constant_15 ?_
    obtain ⟨r_u_19, u_19, h_u_19, h⟩ := bc_of h
    refine kc_X9_next_RX3 X  hS h_u_19 (Nat.le_trans (Nat.le_of_ble_eq_true rfl) hF) (Nat.le_trans (Nat.le_of_ble_eq_true rfl) hL) hl.1 (Nat.le_of_ble_eq_true rfl) dX3_constant_18 (fun H locs hS => ?_)
    exact b_X3_constant_21 X hE hst hX hC hF hL  h  hS (lv_sub hl [1, 2, 0] rfl)
def F_X3_constant (N : Nat) (l1 : Int32) (u : CSt) : Option ((Sum Nat Int64) × CSt) := B_X3_constant_0 N l1 u
set_option maxHeartbeats 4000000 in
theorem k_X3_constant (l : Launch) (hst : l.stackTraces = false) (D : va_G) (kA : Nat → ClassId) (V Z : Nat → Nat) (N : Nat) (l1 : Int32) (u : CSt) (sz : Nat) {y : (Sum Nat Int64)} {w : CSt} (h : F_X3_constant N l1 u = some (y, w)) : vx_Met l yX3_constant (Cond.code yX3_constant cX3_constant 7 (some .long) :: GW) { frames := 8, cells := 1, slots := 6, locals := 144 } (cPc D kA V Z [.ref (Z 227), .int l1] u sz) (cQlx D kA Z u sz y w) (cXc D kA Z u sz y w) 1 6 (va_A (CW kA Z u) sz) := by
  refine vx_ofW (cc := cX3_constant) (maxL := 7) (ret := (some .long)) (by decide) rfl ?_
  intro p e s m args below meth c s₁ Bd hml hxt hv
  obtain ⟨rfl, hsz, hP, hK, hD0, hE⟩ := hv
  have hts := atoms_spec (ws := Cond.code yX3_constant cX3_constant 7 (some .long) :: GW) Bd.pre
  have hl := lv_entry ([.ref (Z 227), .int l1]) (n := 7) (Nat.le_of_ble_eq_true rfl)
  rw [lg_entry_eq]
  generalize (lg_sl ([.ref (Z 227), .int l1]) ++ List.replicate (7 - (lg_sl ([.ref (Z 227), .int l1])).length) Slot.unset).toArray = ls at hl ⊢
  have hl : lv_has ls 7 [(0, .ref (Z 227)), (1, .int l1)] := hl
  subst hsz
  have X : CC p s m ([.ref (Z 227), .int l1]).toArray c cX3_constant 7 (Cond.code yX3_constant cX3_constant 7 (some .long)) RX3 D kA V (va_A (CW kA Z u) s.heap.size) := ⟨⟨Bd.exec, Bd.bytes, hml, findClass_of_methodNamed Bd.named, hts⟩, hK, hE, fun q h => Or.inr h⟩
  refine b_X3_constant_0 X (cend_lx X Bd.returns Bd.notSynchronized) hst (cend_X X hxt Bd.notSynchronized) ⟨Nat.le_refl _, Nat.le_refl _⟩ (Nat.le_refl _) (Nat.le_refl _) h  ⟨hP, hD0.self, va_S.rf⟩ (lv_sub hl [0, 1] rfl)
theorem kc_X3_constant_RX3 {cc : ByteArray} {pc nL : Nat} {c0 : Cond} {rest : List Value} {l1 : Int32} {u w1 : CSt} {y1 : (Sum Nat Int64)} (hst : l.stackTraces = false) (X : CC p s m args c cc nL c0 RX3 D kA V A)  (hS : CS D kA Z A s u H locs) (h : F_X3_constant N l1 u = some (y1, w1)) (hF : 8 + 1 ≤ R.frames) (hL : 8 + (7 + 11) + 144 ≤ R.locals) (hC : 1 ≤ R.cells ∧ 6 ≤ R.slots) (hl : ls.size = nL) (hc : (rest.map fun v => v.category).sum ≤ 8) (hdg : decode cc pc = .ok (.invokevirtual 162, 3)) (kk : ∀ r, y1 = .inr r → ∀ H locs, CS D kA Z A s w1 H locs → W p l e R s m args below meth c H locs 0 0 Q (F0 m (pc + 3) ls (.long r :: rest))) (kx : ∀ x, y1 = .inl x → ∀ (H : Heap) (locs : List Loc) (q : Addr) (ce : Cell), CS D kA Z A s w1 H locs → H[q]? = some ce → ce.vm = .none → s.vm.findClass (exN x) = some ce.cls → vx_W p l e R s m args below meth c H locs 1 6 Q (F0 m pc ls rest) q) : W p l e R s m args below meth c H locs 0 0 Q (F0 m pc ls (.int l1 :: .ref (Z 227) :: rest)) :=
  ccall_lx (n := 1) X hS (k_X3_constant l hst D kA V Z N l1  u H.size h) (gw_V gw_1058 gw_1060 gs_3_12 gw_13 gw_1061) (by decide +kernel) (va_recv X.2.1 hS.1 (ci := 3) (q0 := 27) rfl (cw_lit rfl)) hF hL hC rfl hl hc rfl hdg kk kx
def B_X3_oneVariable_112 (N : Nat) (l1 : Int32) (l3 : Int32) (l4 : Int32) (l5 : Nat) (u : CSt) : Option ((Sum Nat Int32) × CSt) := if l1 = (0 : Int32) then (pc (xmI u l5 9 (cI u 12)) fun u_4 => bt (F_X3_allot N l3 (mI u_4 l5 7) l4 u_4) fun _ u_5 => some (.inr 0, u_5)) else (bt (F_X3_join N l5 l4 u) fun _ u_2 => some (.inr 0, u_2))
set_option maxHeartbeats 4000000 in
theorem b_X3_oneVariable_112 {y : (Sum Nat Int32)} (X : CC p s m args c cX3_oneVariable 6 (Cond.code yX3_oneVariable cX3_oneVariable 6 none) RX3 D kA V A) (hE : CEvx p l e R s m args below meth c cX3_oneVariable D kA Z A Q y w) (hst : l.stackTraces = false) (hX : CX p l e R s m args below meth c D kA Z A Q y w) (hC : 1 ≤ R.cells ∧ 6 ≤ R.slots) (hF : 9 ≤ R.frames) (hL : 170 ≤ R.locals) {l1 : Int32} {l3 : Int32} {l4 : Int32} {l5 : Nat} {u : CSt}  (h : B_X3_oneVariable_112 N l1 l3 l4 l5 u = some (y, w)) (h_l5 : l5 < 338) (hS : CS D kA Z A s u H locs) (hl : lv_has ls 6 [(0, .ref (Z 227)), (1, .int l1), (3, .int l3), (4, .int l4), (5, .ref (Z (1000 + l5)))]) : W p l e R s m args below meth c H locs 0 0 Q (F0 m 112 ls []) := by
  obtain ⟨⟨hx, hb, hml, hown, hts⟩, hK, hEV, hA⟩ := id X
  have hG : ∀ w ∈ GW, w.before args s = true := fun w h => hts w (List.mem_cons_of_mem _ h)
  unfold B_X3_oneVariable_112 at h
  refine lv_iload_n hx hb dX3_oneVariable_112 rfl (lv_at hl 1 rfl) ?_
  refine lv_if_ne (tgt := 140) hx hb dX3_oneVariable_113 (by decide) (fun c_1 => ?_) (fun c_1 => ?_)
  · have h := im (c_1) h
    refine lv_aload_n hx hb dX3_oneVariable_140 rfl (lv_at hl 0 rfl) ?_
    refine lv_aload hx hb dX3_oneVariable_141 (lv_at hl 4 rfl) ?_
    refine lv_iload hx hb dX3_oneVariable_143 (lv_at hl 3 rfl) ?_
    obtain ⟨y_3, u_2, h_u_2, h⟩ := bt_of h
    refine kc_X3_join_RX3 hst X h_l5 hS h_u_2 (Nat.le_trans (Nat.le_of_ble_eq_true rfl) hF) (Nat.le_trans (Nat.le_of_ble_eq_true rfl) hL) hC hl.1 (Nat.le_of_ble_eq_true rfl) dX3_oneVariable_145 (fun r_u_2 hr_u_2 H locs hS => ?_) (fun x9 hn H locs q9 ce hS a1 a2 a3 => by obtain ⟨e2, rfl⟩ := bt_no h hn; exact hX _ e2 _ _ _ _ _ _ _ hS a1 a2 a3)
    replace h := bt_ok h hr_u_2
    obtain ⟨e9, rfl⟩ := so9 h
    exact hE _ e9.symm _ _ _ _ hS dX3_oneVariable_148
  · have h := ip (c_1) h
    refine lv_aload hx hb dX3_oneVariable_116 (lv_at hl 4 rfl) ?_
    refine lv_aload_n hx hb dX3_oneVariable_118 rfl (lv_at hl 0 rfl) ?_
    refine cg_X3_47 X hS dX3_oneVariable_119 ?_
    obtain ⟨u_4, e_u_4, h⟩ := pc_of h
    refine cp_X3_170 X h_l5 hS e_u_4 dX3_oneVariable_122 (fun H locs hS => ?_)
    refine lv_aload_n hx hb dX3_oneVariable_125 rfl (lv_at hl 0 rfl) ?_
    refine lv_iload_n hx hb dX3_oneVariable_126 rfl (lv_at hl 2 rfl) ?_
    refine lv_aload hx hb dX3_oneVariable_127 (lv_at hl 4 rfl) ?_
    refine cg_X3_149 X h_l5 hS dX3_oneVariable_129 ?_
    refine lv_iload hx hb dX3_oneVariable_132 (lv_at hl 3 rfl) ?_
    obtain ⟨y_6, u_5, h_u_5, h⟩ := bt_of h
    refine kc_X3_allot_RX3 hst X  hS h_u_5 (Nat.le_trans (Nat.le_of_ble_eq_true rfl) hF) (Nat.le_trans (Nat.le_of_ble_eq_true rfl) hL) hC hl.1 (Nat.le_of_ble_eq_true rfl) dX3_oneVariable_134 (fun r_u_5 hr_u_5 H locs hS => ?_) (fun x9 hn H locs q9 ce hS a1 a2 a3 => by obtain ⟨e2, rfl⟩ := bt_no h hn; exact hX _ e2 _ _ _ _ _ _ _ hS a1 a2 a3)
    replace h := bt_ok h hr_u_5
    refine lv_goto (tgt := 148) hx hb dX3_oneVariable_137 (by decide) ?_
    obtain ⟨e9, rfl⟩ := so9 h
    exact hE _ e9.symm _ _ _ _ hS dX3_oneVariable_148
def B_X3_oneVariable_83 (N : Nat) (l1 : Int32) (l3 : Int32) (l4 : Int32) (l5 : Nat) (u : CSt) : Option ((Sum Nat Int32) × CSt) := bc (F_X9_is N 61 u) fun r_8 u_7 => if r_8 = (0 : Int32) then (B_X3_oneVariable_112 N l1 l3 l4 l5 u_7) else (bc (F_X9_next N u_7) fun _ u_10 => bt (F_X3_constant N l3 u_10) fun r_12 u_11 => pc (xmL u_11 l5 10 r_12) fun u_14 => B_X3_oneVariable_112 N l1 l3 l4 l5 u_14)
set_option maxHeartbeats 4000000 in
theorem b_X3_oneVariable_83 {y : (Sum Nat Int32)} (X : CC p s m args c cX3_oneVariable 6 (Cond.code yX3_oneVariable cX3_oneVariable 6 none) RX3 D kA V A) (hE : CEvx p l e R s m args below meth c cX3_oneVariable D kA Z A Q y w) (hst : l.stackTraces = false) (hX : CX p l e R s m args below meth c D kA Z A Q y w) (hC : 1 ≤ R.cells ∧ 6 ≤ R.slots) (hF : 9 ≤ R.frames) (hL : 170 ≤ R.locals) {l1 : Int32} {l3 : Int32} {l4 : Int32} {l5 : Nat} {u : CSt}  (h : B_X3_oneVariable_83 N l1 l3 l4 l5 u = some (y, w)) (h_l5 : l5 < 338) (hS : CS D kA Z A s u H locs) (hl : lv_has ls 6 [(0, .ref (Z 227)), (1, .int l1), (3, .int l3), (4, .int l4), (5, .ref (Z (1000 + l5)))]) : W p l e R s m args below meth c H locs 0 0 Q (F0 m 83 ls []) := by
  obtain ⟨⟨hx, hb, hml, hown, hts⟩, hK, hEV, hA⟩ := id X
  have hG : ∀ w ∈ GW, w.before args s = true := fun w h => hts w (List.mem_cons_of_mem _ h)
  unfold B_X3_oneVariable_83 at h
  refine lv_aload_n hx hb dX3_oneVariable_83 rfl (lv_at hl 0 rfl) ?_
  refine cg_X3_15 X hS dX3_oneVariable_84 ?_
  refine lv_bipush (v := 61) hx hb dX3_oneVariable_87 (by decide) ?_
  obtain ⟨r_8, u_7, h_u_7, h⟩ := bc_of h
  refine kc_X9_is_RX3 X  hS h_u_7 (Nat.le_trans (Nat.le_of_ble_eq_true rfl) hF) (Nat.le_trans (Nat.le_of_ble_eq_true rfl) hL) hl.1 (Nat.le_of_ble_eq_true rfl) dX3_oneVariable_89 (fun H locs hS => ?_)
  refine lv_if_eq (tgt := 112) hx hb dX3_oneVariable_92 (by decide) (fun c_9 => ?_) (fun c_9 => ?_)
  · have h := ip (c_9) h
    exact b_X3_oneVariable_112 X hE hst hX hC hF hL  h h_l5 hS (lv_sub hl [0, 1, 2, 3, 4] rfl)
  · have h := im (c_9) h
    refine lv_aload_n hx hb dX3_oneVariable_95 rfl (lv_at hl 0 rfl) ?_
    refine cg_X3_15 X hS dX3_oneVariable_96 ?_
    obtain ⟨r_u_10, u_10, h_u_10, h⟩ := bc_of h
    refine kc_X9_next_RX3 X  hS h_u_10 (Nat.le_trans (Nat.le_of_ble_eq_true rfl) hF) (Nat.le_trans (Nat.le_of_ble_eq_true rfl) hL) hl.1 (Nat.le_of_ble_eq_true rfl) dX3_oneVariable_99 (fun H locs hS => ?_)
    refine lv_aload hx hb dX3_oneVariable_102 (lv_at hl 4 rfl) ?_
    refine lv_aload_n hx hb dX3_oneVariable_104 rfl (lv_at hl 0 rfl) ?_
    refine lv_iload_n hx hb dX3_oneVariable_105 rfl (lv_at hl 2 rfl) ?_
    obtain ⟨y_13, u_11, h_u_11, h⟩ := bt_of h
    refine kc_X3_constant_RX3 hst X  hS h_u_11 (Nat.le_trans (Nat.le_of_ble_eq_true rfl) hF) (Nat.le_trans (Nat.le_of_ble_eq_true rfl) hL) hC hl.1 (Nat.le_of_ble_eq_true rfl) dX3_oneVariable_106 (fun r_12 hr_u_11 H locs hS => ?_) (fun x9 hn H locs q9 ce hS a1 a2 a3 => by obtain ⟨e2, rfl⟩ := bt_no h hn; exact hX _ e2 _ _ _ _ _ _ _ hS a1 a2 a3)
    replace h := bt_ok h hr_u_11
    obtain ⟨u_14, e_u_14, h⟩ := pc_of h
    refine cp_X3_166 X h_l5 hS e_u_14 dX3_oneVariable_109 (fun H locs hS => ?_)
    exact b_X3_oneVariable_112 X hE hst hX hC hF hL  h h_l5 hS (lv_sub hl [0, 1, 2, 3, 4] rfl)
def B_X3_oneVariable_0 (N : Nat) (l1 : Int32) (l2 : Int32) (l3 : Int32) (u : CSt) : Option ((Sum Nat Int32) × CSt) := bc (F_X9_here N u) fun r_16 u_15 => bt (F_X3_newName N l1 u_15) fun r_18 u_17 => ok (r_18 < 338) inferInstance <| pc (xmI u_17 r_18 6 l2) fun u_21 => pc (xmI u_21 r_18 5 l3) fun u_22 => pc (xmI u_22 r_18 7 1) fun u_23 => bc (F_X9_is N 91 u_23) fun r_25 u_24 => if r_25 = (0 : Int32) then (B_X3_oneVariable_83 N l1 l3 r_16 r_18 u_24) else (bc (F_X9_next N u_24) fun _ u_27 => pc (xmI u_27 r_18 8 1) fun u_28 => bt (F_X9_takeBounded N 1 200 u_28) fun r_30 u_29 => pc (xmI u_29 r_18 7 r_30.toInt32) fun u_32 => bc (F_X9_next N u_32) fun _ u_33 => B_X3_oneVariable_83 N l1 l3 r_16 r_18 u_33)
set_option maxHeartbeats 4000000 in
theorem b_X3_oneVariable_0 {y : (Sum Nat Int32)} (X : CC p s m args c cX3_oneVariable 6 (Cond.code yX3_oneVariable cX3_oneVariable 6 none) RX3 D kA V A) (hE : CEvx p l e R s m args below meth c cX3_oneVariable D kA Z A Q y w) (hst : l.stackTraces = false) (hX : CX p l e R s m args below meth c D kA Z A Q y w) (hC : 1 ≤ R.cells ∧ 6 ≤ R.slots) (hF : 9 ≤ R.frames) (hL : 170 ≤ R.locals) {l1 : Int32} {l2 : Int32} {l3 : Int32} {u : CSt}  (h : B_X3_oneVariable_0 N l1 l2 l3 u = some (y, w))  (hS : CS D kA Z A s u H locs) (hl : lv_has ls 6 [(0, .ref (Z 227)), (1, .int l1), (2, .int l2), (3, .int l3)]) : W p l e R s m args below meth c H locs 0 0 Q (F0 m 0 ls []) := by
  obtain ⟨⟨hx, hb, hml, hown, hts⟩, hK, hEV, hA⟩ := id X
  have hG : ∀ w ∈ GW, w.before args s = true := fun w h => hts w (List.mem_cons_of_mem _ h)
  unfold B_X3_oneVariable_0 at h
  refine lv_aload_n hx hb dX3_oneVariable_0 rfl (lv_at hl 0 rfl) ?_
  refine cg_X3_15 X hS dX3_oneVariable_1 ?_
  obtain ⟨r_16, u_15, h_u_15, h⟩ := bc_of h
  refine kc_X9_here_RX3 X  hS h_u_15 (Nat.le_trans (Nat.le_of_ble_eq_true rfl) hF) (Nat.le_trans (Nat.le_of_ble_eq_true rfl) hL) hl.1 (Nat.le_of_ble_eq_true rfl) dX3_oneVariable_4 (fun H locs hS => ?_)
  refine lv_istore (lv' := [(4, .int r_16), (0, .ref (Z 227)), (1, .int l1), (2, .int l2), (3, .int l3)]) hx hb dX3_oneVariable_7 hl (by decide) rfl (fun ls hl => ?_)
  refine lv_aload_n hx hb dX3_oneVariable_9 rfl (lv_at hl 1 rfl) ?_
  refine lv_iload_n hx hb dX3_oneVariable_10 rfl (lv_at hl 2 rfl) ?_
  obtain ⟨y_19, u_17, h_u_17, h⟩ := bt_of h
  refine kc_X3_newName_RX3 hst X  hS h_u_17 (Nat.le_trans (Nat.le_of_ble_eq_true rfl) hF) (Nat.le_trans (Nat.le_of_ble_eq_true rfl) hL) hC hl.1 (Nat.le_of_ble_eq_true rfl) dX3_oneVariable_11 (fun r_18 hr_u_17 H locs hS => ?_) (fun x9 hn H locs q9 ce hS a1 a2 a3 => by obtain ⟨e2, rfl⟩ := bt_no h hn; exact hX _ e2 _ _ _ _ _ _ _ hS a1 a2 a3)
  replace h := bt_ok h hr_u_17
  obtain ⟨z_20, h⟩ := ok_of h
  refine lv_astore (lv' := [(5, .ref (Z (1000 + r_18))), (4, .int r_16), (0, .ref (Z 227)), (1, .int l1), (2, .int l2), (3, .int l3)]) hx hb dX3_oneVariable_14 hl (by decide) rfl (fun ls hl => ?_)
  refine lv_aload hx hb dX3_oneVariable_16 (lv_at hl 0 rfl) ?_
  refine lv_iload_n hx hb dX3_oneVariable_18 rfl (lv_at hl 4 rfl) ?_
  obtain ⟨u_21, e_u_21, h⟩ := pc_of h
  refine cp_X3_143 X z_20 hS e_u_21 dX3_oneVariable_19 (fun H locs hS => ?_)
  refine lv_aload hx hb dX3_oneVariable_22 (lv_at hl 0 rfl) ?_
  refine lv_iload_n hx hb dX3_oneVariable_24 rfl (lv_at hl 5 rfl) ?_
  obtain ⟨u_22, e_u_22, h⟩ := pc_of h
  refine cp_X3_146 X z_20 hS e_u_22 dX3_oneVariable_25 (fun H locs hS => ?_)
  refine lv_aload hx hb dX3_oneVariable_28 (lv_at hl 0 rfl) ?_
  refine lv_iconst (v := 1) hx hb dX3_oneVariable_30 (by decide) ?_
  obtain ⟨u_23, e_u_23, h⟩ := pc_of h
  refine cp_X3_149 X z_20 hS e_u_23 dX3_oneVariable_31 (fun H locs hS => ?_)
  refine lv_aload_n hx hb dX3_oneVariable_34 rfl (lv_at hl 2 rfl) ?_
  refine cg_X3_15 X hS dX3_oneVariable_35 ?_
  refine lv_bipush (v := 91) hx hb dX3_oneVariable_38 (by decide) ?_
  obtain ⟨r_25, u_24, h_u_24, h⟩ := bc_of h
  refine kc_X9_is_RX3 X  hS h_u_24 (Nat.le_trans (Nat.le_of_ble_eq_true rfl) hF) (Nat.le_trans (Nat.le_of_ble_eq_true rfl) hL) hl.1 (Nat.le_of_ble_eq_true rfl) dX3_oneVariable_40 (fun H locs hS => ?_)
  refine lv_if_eq (tgt := 83) hx hb dX3_oneVariable_43 (by decide) (fun c_26 => ?_) (fun c_26 => ?_)
  · have h := ip (c_26) h
    exact b_X3_oneVariable_83 X hE hst hX hC hF hL  h z_20 hS (lv_sub hl [2, 3, 5, 1, 0] rfl)
  · have h := im (c_26) h
    refine lv_aload_n hx hb dX3_oneVariable_46 rfl (lv_at hl 2 rfl) ?_
    refine cg_X3_15 X hS dX3_oneVariable_47 ?_
    obtain ⟨r_u_27, u_27, h_u_27, h⟩ := bc_of h
    refine kc_X9_next_RX3 X  hS h_u_27 (Nat.le_trans (Nat.le_of_ble_eq_true rfl) hF) (Nat.le_trans (Nat.le_of_ble_eq_true rfl) hL) hl.1 (Nat.le_of_ble_eq_true rfl) dX3_oneVariable_50 (fun H locs hS => ?_)
    refine lv_aload hx hb dX3_oneVariable_53 (lv_at hl 0 rfl) ?_
    refine lv_iconst (v := 1) hx hb dX3_oneVariable_55 (by decide) ?_
    obtain ⟨u_28, e_u_28, h⟩ := pc_of h
    refine cp_X3_152 X z_20 hS e_u_28 (Or.inr rfl) dX3_oneVariable_56 (fun H locs hS => ?_)
    refine lv_aload hx hb dX3_oneVariable_59 (lv_at hl 0 rfl) ?_
    refine lv_aload_n hx hb dX3_oneVariable_61 rfl (lv_at hl 2 rfl) ?_
    refine cg_X3_15 X hS dX3_oneVariable_62 ?_
    refine lv_lconst (v := 1) hx hb dX3_oneVariable_65 (by decide) ?_
    refine lv_ldc2 (v := 200) hx hb hown (hG _ gw_1053) dX3_oneVariable_66 ?_
    obtain ⟨y_31, u_29, h_u_29, h⟩ := bt_of h
    refine kc_X9_takeBounded_RX3 hst X  hS h_u_29 (Nat.le_trans (Nat.le_of_ble_eq_true rfl) hF) (Nat.le_trans (Nat.le_of_ble_eq_true rfl) hL) hC hl.1 (Nat.le_of_ble_eq_true rfl) dX3_oneVariable_69 (fun r_30 hr_u_29 H locs hS => ?_) (fun x9 hn H locs q9 ce hS a1 a2 a3 => by obtain ⟨e2, rfl⟩ := bt_no h hn; exact hX _ e2 _ _ _ _ _ _ _ hS a1 a2 a3)
    replace h := bt_ok h hr_u_29
    refine lv_l2i (v := r_30.toInt32) hx hb dX3_oneVariable_72 rfl ?_
    obtain ⟨u_32, e_u_32, h⟩ := pc_of h
    refine cp_X3_149 X z_20 hS e_u_32 dX3_oneVariable_73 (fun H locs hS => ?_)
    refine lv_aload_n hx hb dX3_oneVariable_76 rfl (lv_at hl 2 rfl) ?_
    refine cg_X3_15 X hS dX3_oneVariable_77 ?_
    obtain ⟨r_u_33, u_33, h_u_33, h⟩ := bc_of h
    refine kc_X9_next_RX3 X  hS h_u_33 (Nat.le_trans (Nat.le_of_ble_eq_true rfl) hF) (Nat.le_trans (Nat.le_of_ble_eq_true rfl) hL) hl.1 (Nat.le_of_ble_eq_true rfl) dX3_oneVariable_80 (fun H locs hS => ?_)
    exact b_X3_oneVariable_83 X hE hst hX hC hF hL  h z_20 hS (lv_sub hl [2, 3, 5, 1, 0] rfl)
def F_X3_oneVariable (N : Nat) (l1 : Int32) (l2 : Int32) (l3 : Int32) (u : CSt) : Option ((Sum Nat Int32) × CSt) := B_X3_oneVariable_0 N l1 l2 l3 u
set_option maxHeartbeats 4000000 in
theorem k_X3_oneVariable (l : Launch) (hst : l.stackTraces = false) (D : va_G) (kA : Nat → ClassId) (V Z : Nat → Nat) (N : Nat) (l1 : Int32) (l2 : Int32) (l3 : Int32) (u : CSt) (sz : Nat) {y : (Sum Nat Int32)} {w : CSt} (h : F_X3_oneVariable N l1 l2 l3 u = some (y, w)) : vx_Met l yX3_oneVariable (Cond.code yX3_oneVariable cX3_oneVariable 6 none :: GW) { frames := 9, cells := 1, slots := 6, locals := 170 } (cPc D kA V Z [.ref (Z 227), .int l1, .int l2, .int l3] u sz) (cQvx D kA Z u sz y w) (cXc D kA Z u sz y w) 1 6 (va_A (CW kA Z u) sz) := by
  refine vx_ofW (cc := cX3_oneVariable) (maxL := 6) (ret := none) (by decide) rfl ?_
  intro p e s m args below meth c s₁ Bd hml hxt hv
  obtain ⟨rfl, hsz, hP, hK, hD0, hE⟩ := hv
  have hts := atoms_spec (ws := Cond.code yX3_oneVariable cX3_oneVariable 6 none :: GW) Bd.pre
  have hl := lv_entry ([.ref (Z 227), .int l1, .int l2, .int l3]) (n := 6) (Nat.le_of_ble_eq_true rfl)
  rw [lg_entry_eq]
  generalize (lg_sl ([.ref (Z 227), .int l1, .int l2, .int l3]) ++ List.replicate (6 - (lg_sl ([.ref (Z 227), .int l1, .int l2, .int l3])).length) Slot.unset).toArray = ls at hl ⊢
  have hl : lv_has ls 6 [(0, .ref (Z 227)), (1, .int l1), (2, .int l2), (3, .int l3)] := hl
  subst hsz
  have X : CC p s m ([.ref (Z 227), .int l1, .int l2, .int l3]).toArray c cX3_oneVariable 6 (Cond.code yX3_oneVariable cX3_oneVariable 6 none) RX3 D kA V (va_A (CW kA Z u) s.heap.size) := ⟨⟨Bd.exec, Bd.bytes, hml, findClass_of_methodNamed Bd.named, hts⟩, hK, hE, fun q h => Or.inr h⟩
  refine b_X3_oneVariable_0 X (cend_vx X Bd.returns Bd.notSynchronized) hst (cend_X X hxt Bd.notSynchronized) ⟨Nat.le_refl _, Nat.le_refl _⟩ (Nat.le_refl _) (Nat.le_refl _) h  ⟨hP, hD0.self, va_S.rf⟩ (lv_sub hl [0, 1, 2, 3] rfl)
theorem kc_X3_oneVariable_RX3 {cc : ByteArray} {pc nL : Nat} {c0 : Cond} {rest : List Value} {l1 : Int32} {l2 : Int32} {l3 : Int32} {u w1 : CSt} {y1 : (Sum Nat Int32)} (hst : l.stackTraces = false) (X : CC p s m args c cc nL c0 RX3 D kA V A)  (hS : CS D kA Z A s u H locs) (h : F_X3_oneVariable N l1 l2 l3 u = some (y1, w1)) (hF : 9 + 1 ≤ R.frames) (hL : 8 + (6 + 11) + 170 ≤ R.locals) (hC : 1 ≤ R.cells ∧ 6 ≤ R.slots) (hl : ls.size = nL) (hc : (rest.map fun v => v.category).sum ≤ 8) (hdg : decode cc pc = .ok (.invokevirtual 136, 3)) (kk : ∀ r, y1 = .inr r → ∀ H locs, CS D kA Z A s w1 H locs → W p l e R s m args below meth c H locs 0 0 Q (F0 m (pc + 3) ls (rest))) (kx : ∀ x, y1 = .inl x → ∀ (H : Heap) (locs : List Loc) (q : Addr) (ce : Cell), CS D kA Z A s w1 H locs → H[q]? = some ce → ce.vm = .none → s.vm.findClass (exN x) = some ce.cls → vx_W p l e R s m args below meth c H locs 1 6 Q (F0 m pc ls rest) q) : W p l e R s m args below meth c H locs 0 0 Q (F0 m pc ls (.int l3 :: .int l2 :: .int l1 :: .ref (Z 227) :: rest)) :=
  ccall_vx (n := 3) X hS (k_X3_oneVariable l hst D kA V Z N l1 l2 l3  u H.size h) (gw_V gw_1009 gw_1011 gs_3_10 gw_13 gw_1012) (by decide +kernel) (va_recv X.2.1 hS.1 (ci := 3) (q0 := 27) rfl (cw_lit rfl)) hF hL hC rfl hl hc rfl hdg kk kx
def B_X3_variables_58 (N : Nat) (u : CSt) : Option ((Sum Nat Int32) × CSt) := bc (F_X9_next N u) fun _ u_1 => some (.inr 0, u_1)
set_option maxHeartbeats 4000000 in
theorem b_X3_variables_58 {y : (Sum Nat Int32)} (X : CC p s m args c cX3_variables 5 (Cond.code yX3_variables cX3_variables 5 none) RX3 D kA V A) (hE : CEvx p l e R s m args below meth c cX3_variables D kA Z A Q y w) (hst : l.stackTraces = false) (hX : CX p l e R s m args below meth c D kA Z A Q y w) (hC : 1 ≤ R.cells ∧ 6 ≤ R.slots) (hF : 10 ≤ R.frames) (hL : 195 ≤ R.locals) {u : CSt}  (h : B_X3_variables_58 N u = some (y, w))  (hS : CS D kA Z A s u H locs) (hl : lv_has ls 5 [(0, .ref (Z 227))]) : W p l e R s m args below meth c H locs 0 0 Q (F0 m 58 ls []) := by
  obtain ⟨⟨hx, hb, hml, hown, hts⟩, hK, hEV, hA⟩ := id X
  have hG : ∀ w ∈ GW, w.before args s = true := fun w h => hts w (List.mem_cons_of_mem _ h)
  unfold B_X3_variables_58 at h
  refine lv_aload_n hx hb dX3_variables_58 rfl (lv_at hl 0 rfl) ?_
  refine cg_X3_15 X hS dX3_variables_59 ?_
  obtain ⟨r_u_1, u_1, h_u_1, h⟩ := bc_of h
  refine kc_X9_next_RX3 X  hS h_u_1 (Nat.le_trans (Nat.le_of_ble_eq_true rfl) hF) (Nat.le_trans (Nat.le_of_ble_eq_true rfl) hL) hl.1 (Nat.le_of_ble_eq_true rfl) dX3_variables_62 (fun H locs hS => ?_)
  obtain ⟨e9, rfl⟩ := so9 h
  exact hE _ e9.symm _ _ _ _ hS dX3_variables_65
def B_X3_variables_18 (N : Nat) (R_18 : Int32 × Int32 × Int32 × Int32 × CSt → Option ((Sum Nat Int32) × CSt)) (l1 : Int32) (l2 : Int32) (l3 : Int32) (l4 : Int32) (u : CSt) : Option ((Sum Nat Int32) × CSt) := if (1500 : Int32) ≤ l4 then (B_X3_variables_58 N u) else (bc (F_X9_is N 44 u) fun r_4 u_3 => if r_4 = (0 : Int32) then (B_X3_variables_58 N u_3) else (bc (F_X9_next N u_3) fun _ u_6 => bt (F_X3_oneVariable N l1 l2 l3 u_6) fun _ u_7 => R_18 (l1, l2, l3, (l4 + 1), u_7)))
set_option maxHeartbeats 4000000 in
theorem b_X3_variables_18 {y : (Sum Nat Int32)} (X : CC p s m args c cX3_variables 5 (Cond.code yX3_variables cX3_variables 5 none) RX3 D kA V A) (hE : CEvx p l e R s m args below meth c cX3_variables D kA Z A Q y w) (hst : l.stackTraces = false) (hX : CX p l e R s m args below meth c D kA Z A Q y w) (hC : 1 ≤ R.cells ∧ 6 ≤ R.slots) (hF : 10 ≤ R.frames) (hL : 195 ≤ R.locals) {R_18 : Int32 × Int32 × Int32 × Int32 × CSt → Option ((Sum Nat Int32) × CSt)} {l1 : Int32} {l2 : Int32} {l3 : Int32} {l4 : Int32} {u : CSt} (hR_18 : ∀ (l1 : Int32) (l2 : Int32) (l3 : Int32) (l4 : Int32) (u : CSt), R_18 (l1, l2, l3, l4, u) = some (y, w) → ∀ (H : Heap) (locs : List Loc) (ls : Array Slot), CS D kA Z A s u H locs → lv_has ls 5 [(0, .ref (Z 227)), (1, .int l1), (2, .int l2), (3, .int l3), (4, .int l4)] → W p l e R s m args below meth c H locs 0 0 Q (F0 m 18 ls [])) (h : B_X3_variables_18 N R_18 l1 l2 l3 l4 u = some (y, w))  (hS : CS D kA Z A s u H locs) (hl : lv_has ls 5 [(0, .ref (Z 227)), (1, .int l1), (2, .int l2), (3, .int l3), (4, .int l4)]) : W p l e R s m args below meth c H locs 0 0 Q (F0 m 18 ls []) := by
  obtain ⟨⟨hx, hb, hml, hown, hts⟩, hK, hEV, hA⟩ := id X
  have hG : ∀ w ∈ GW, w.before args s = true := fun w h => hts w (List.mem_cons_of_mem _ h)
  unfold B_X3_variables_18 at h
  refine lv_iload hx hb dX3_variables_18 (lv_at hl 4 rfl) ?_
  refine lv_sipush (v := 1500) hx hb dX3_variables_20 (by decide) ?_
  refine lv_icmp_ge (tgt := 58) hx hb dX3_variables_23 (by decide) (fun c_2 => ?_) (fun c_2 => ?_)
  · have h := ip (c_2) h
    exact b_X3_variables_58 X hE hst hX hC hF hL  h  hS (lv_sub hl [0] rfl)
  · have h := im (c_2) h
    refine lv_aload_n hx hb dX3_variables_26 rfl (lv_at hl 0 rfl) ?_
    refine cg_X3_15 X hS dX3_variables_27 ?_
    refine lv_bipush (v := 44) hx hb dX3_variables_30 (by decide) ?_
    obtain ⟨r_4, u_3, h_u_3, h⟩ := bc_of h
    refine kc_X9_is_RX3 X  hS h_u_3 (Nat.le_trans (Nat.le_of_ble_eq_true rfl) hF) (Nat.le_trans (Nat.le_of_ble_eq_true rfl) hL) hl.1 (Nat.le_of_ble_eq_true rfl) dX3_variables_32 (fun H locs hS => ?_)
    refine lv_if_eq (tgt := 58) hx hb dX3_variables_35 (by decide) (fun c_5 => ?_) (fun c_5 => ?_)
    · have h := ip (c_5) h
      exact b_X3_variables_58 X hE hst hX hC hF hL  h  hS (lv_sub hl [0] rfl)
    · have h := im (c_5) h
      refine lv_aload_n hx hb dX3_variables_38 rfl (lv_at hl 0 rfl) ?_
      refine cg_X3_15 X hS dX3_variables_39 ?_
      obtain ⟨r_u_6, u_6, h_u_6, h⟩ := bc_of h
      refine kc_X9_next_RX3 X  hS h_u_6 (Nat.le_trans (Nat.le_of_ble_eq_true rfl) hF) (Nat.le_trans (Nat.le_of_ble_eq_true rfl) hL) hl.1 (Nat.le_of_ble_eq_true rfl) dX3_variables_42 (fun H locs hS => ?_)
      refine lv_aload_n hx hb dX3_variables_45 rfl (lv_at hl 0 rfl) ?_
      refine lv_iload_n hx hb dX3_variables_46 rfl (lv_at hl 1 rfl) ?_
      refine lv_iload_n hx hb dX3_variables_47 rfl (lv_at hl 2 rfl) ?_
      refine lv_iload_n hx hb dX3_variables_48 rfl (lv_at hl 3 rfl) ?_
      obtain ⟨y_8, u_7, h_u_7, h⟩ := bt_of h
      refine kc_X3_oneVariable_RX3 hst X  hS h_u_7 (Nat.le_trans (Nat.le_of_ble_eq_true rfl) hF) (Nat.le_trans (Nat.le_of_ble_eq_true rfl) hL) hC hl.1 (Nat.le_of_ble_eq_true rfl) dX3_variables_49 (fun r_u_7 hr_u_7 H locs hS => ?_) (fun x9 hn H locs q9 ce hS a1 a2 a3 => by obtain ⟨e2, rfl⟩ := bt_no h hn; exact hX _ e2 _ _ _ _ _ _ _ hS a1 a2 a3)
      replace h := bt_ok h hr_u_7
      refine lv_iinc (v := l4 + 1) (lv' := [(4, .int (l4 + 1)), (0, .ref (Z 227)), (1, .int l1), (2, .int l2), (3, .int l3)]) hx hb dX3_variables_52 hl (k := 4) rfl rfl (by decide) rfl (fun ls hl => ?_)
      refine lv_goto (tgt := 18) hx hb dX3_variables_55 (by decide) ?_
      exact hR_18 _ _ _ _ _  h _ _ _ hS (lv_sub hl [1, 2, 3, 4, 0] rfl)
def LP_X3_variables_18 (N : Nat) : Nat → Int32 × Int32 × Int32 × Int32 × CSt → Option ((Sum Nat Int32) × CSt) := lp (fun R a => B_X3_variables_18 N R a.1 a.2.1 a.2.2.1 a.2.2.2.1 a.2.2.2.2)
theorem bl_X3_variables_18 {y : (Sum Nat Int32)} (X : CC p s m args c cX3_variables 5 (Cond.code yX3_variables cX3_variables 5 none) RX3 D kA V A) (hE : CEvx p l e R s m args below meth c cX3_variables D kA Z A Q y w) (hst : l.stackTraces = false) (hX : CX p l e R s m args below meth c D kA Z A Q y w) (hC : 1 ≤ R.cells ∧ 6 ≤ R.slots) (hF : 10 ≤ R.frames) (hL : 195 ≤ R.locals)  : ∀ (n : Nat) (l1 : Int32) (l2 : Int32) (l3 : Int32) (l4 : Int32) (u : CSt), LP_X3_variables_18 N n (l1, l2, l3, l4, u) = some (y, w) → ∀ (H : Heap) (locs : List Loc) (ls : Array Slot), CS D kA Z A s u H locs → lv_has ls 5 [(0, .ref (Z 227)), (1, .int l1), (2, .int l2), (3, .int l3), (4, .int l4)] → W p l e R s m args below meth c H locs 0 0 Q (F0 m 18 ls []) := by
  intro n
  induction n with
  | zero => intro l1 l2 l3 l4 u h; exact nomatch h
  | succ n ih => intro l1 l2 l3 l4 u h H locs ls hS hl; exact b_X3_variables_18 (N := N) (R_18 := LP_X3_variables_18 N n) X hE hst hX hC hF hL  ih h  hS hl
def B_X3_variables_0 (N : Nat) (l1 : Int32) (l2 : Int32) (u : CSt) : Option ((Sum Nat Int32) × CSt) := bc (F_X9_takeKind N u) fun r_10 u_9 => bt (F_X3_oneVariable N l1 l2 r_10 u_9) fun _ u_11 => LP_X3_variables_18 N N (l1, l2, r_10, 0, u_11)
set_option maxHeartbeats 4000000 in
theorem b_X3_variables_0 {y : (Sum Nat Int32)} (X : CC p s m args c cX3_variables 5 (Cond.code yX3_variables cX3_variables 5 none) RX3 D kA V A) (hE : CEvx p l e R s m args below meth c cX3_variables D kA Z A Q y w) (hst : l.stackTraces = false) (hX : CX p l e R s m args below meth c D kA Z A Q y w) (hC : 1 ≤ R.cells ∧ 6 ≤ R.slots) (hF : 10 ≤ R.frames) (hL : 195 ≤ R.locals) {l1 : Int32} {l2 : Int32} {u : CSt}  (h : B_X3_variables_0 N l1 l2 u = some (y, w))  (hS : CS D kA Z A s u H locs) (hl : lv_has ls 5 [(0, .ref (Z 227)), (1, .int l1), (2, .int l2)]) : W p l e R s m args below meth c H locs 0 0 Q (F0 m 0 ls []) := by
  obtain ⟨⟨hx, hb, hml, hown, hts⟩, hK, hEV, hA⟩ := id X
  have hG : ∀ w ∈ GW, w.before args s = true := fun w h => hts w (List.mem_cons_of_mem _ h)
  unfold B_X3_variables_0 at h
  refine lv_aload_n hx hb dX3_variables_0 rfl (lv_at hl 0 rfl) ?_
  refine cg_X3_15 X hS dX3_variables_1 ?_
  obtain ⟨r_10, u_9, h_u_9, h⟩ := bc_of h
  refine kc_X9_takeKind_RX3 X  hS h_u_9 (Nat.le_trans (Nat.le_of_ble_eq_true rfl) hF) (Nat.le_trans (Nat.le_of_ble_eq_true rfl) hL) hl.1 (Nat.le_of_ble_eq_true rfl) dX3_variables_4 (fun H locs hS => ?_)
  refine lv_istore_n (lv' := [(3, .int r_10), (0, .ref (Z 227)), (1, .int l1), (2, .int l2)]) hx hb dX3_variables_7 rfl hl (by decide) rfl (fun ls hl => ?_)
  refine lv_aload_n hx hb dX3_variables_8 rfl (lv_at hl 1 rfl) ?_
  refine lv_iload_n hx hb dX3_variables_9 rfl (lv_at hl 2 rfl) ?_
  refine lv_iload_n hx hb dX3_variables_10 rfl (lv_at hl 3 rfl) ?_
  refine lv_iload_n hx hb dX3_variables_11 rfl (lv_at hl 0 rfl) ?_
  obtain ⟨y_12, u_11, h_u_11, h⟩ := bt_of h
  refine kc_X3_oneVariable_RX3 hst X  hS h_u_11 (Nat.le_trans (Nat.le_of_ble_eq_true rfl) hF) (Nat.le_trans (Nat.le_of_ble_eq_true rfl) hL) hC hl.1 (Nat.le_of_ble_eq_true rfl) dX3_variables_12 (fun r_u_11 hr_u_11 H locs hS => ?_) (fun x9 hn H locs q9 ce hS a1 a2 a3 => by obtain ⟨e2, rfl⟩ := bt_no h hn; exact hX _ e2 _ _ _ _ _ _ _ hS a1 a2 a3)
  replace h := bt_ok h hr_u_11
  refine lv_iconst (v := 0) hx hb dX3_variables_15 (by decide) ?_
  refine lv_istore (lv' := [(4, .int 0), (3, .int r_10), (0, .ref (Z 227)), (1, .int l1), (2, .int l2)]) hx hb dX3_variables_16 hl (by decide) rfl (fun ls hl => ?_)
  exact bl_X3_variables_18 X hE hst hX hC hF hL  _ _ _ _ _ _  h _ _ _ hS (lv_sub hl [2, 3, 4, 1, 0] rfl)
def F_X3_variables (N : Nat) (l1 : Int32) (l2 : Int32) (u : CSt) : Option ((Sum Nat Int32) × CSt) := B_X3_variables_0 N l1 l2 u
set_option maxHeartbeats 4000000 in
theorem k_X3_variables (l : Launch) (hst : l.stackTraces = false) (D : va_G) (kA : Nat → ClassId) (V Z : Nat → Nat) (N : Nat) (l1 : Int32) (l2 : Int32) (u : CSt) (sz : Nat) {y : (Sum Nat Int32)} {w : CSt} (h : F_X3_variables N l1 l2 u = some (y, w)) : vx_Met l yX3_variables (Cond.code yX3_variables cX3_variables 5 none :: GW) { frames := 10, cells := 1, slots := 6, locals := 195 } (cPc D kA V Z [.ref (Z 227), .int l1, .int l2] u sz) (cQvx D kA Z u sz y w) (cXc D kA Z u sz y w) 1 6 (va_A (CW kA Z u) sz) := by
  refine vx_ofW (cc := cX3_variables) (maxL := 5) (ret := none) (by decide) rfl ?_
  intro p e s m args below meth c s₁ Bd hml hxt hv
  obtain ⟨rfl, hsz, hP, hK, hD0, hE⟩ := hv
  have hts := atoms_spec (ws := Cond.code yX3_variables cX3_variables 5 none :: GW) Bd.pre
  have hl := lv_entry ([.ref (Z 227), .int l1, .int l2]) (n := 5) (Nat.le_of_ble_eq_true rfl)
  rw [lg_entry_eq]
  generalize (lg_sl ([.ref (Z 227), .int l1, .int l2]) ++ List.replicate (5 - (lg_sl ([.ref (Z 227), .int l1, .int l2])).length) Slot.unset).toArray = ls at hl ⊢
  have hl : lv_has ls 5 [(0, .ref (Z 227)), (1, .int l1), (2, .int l2)] := hl
  subst hsz
  have X : CC p s m ([.ref (Z 227), .int l1, .int l2]).toArray c cX3_variables 5 (Cond.code yX3_variables cX3_variables 5 none) RX3 D kA V (va_A (CW kA Z u) s.heap.size) := ⟨⟨Bd.exec, Bd.bytes, hml, findClass_of_methodNamed Bd.named, hts⟩, hK, hE, fun q h => Or.inr h⟩
  refine b_X3_variables_0 X (cend_vx X Bd.returns Bd.notSynchronized) hst (cend_X X hxt Bd.notSynchronized) ⟨Nat.le_refl _, Nat.le_refl _⟩ (Nat.le_refl _) (Nat.le_refl _) h  ⟨hP, hD0.self, va_S.rf⟩ (lv_sub hl [0, 1, 2] rfl)
theorem kc_X3_variables_RX3 {cc : ByteArray} {pc nL : Nat} {c0 : Cond} {rest : List Value} {l1 : Int32} {l2 : Int32} {u w1 : CSt} {y1 : (Sum Nat Int32)} (hst : l.stackTraces = false) (X : CC p s m args c cc nL c0 RX3 D kA V A)  (hS : CS D kA Z A s u H locs) (h : F_X3_variables N l1 l2 u = some (y1, w1)) (hF : 10 + 1 ≤ R.frames) (hL : 8 + (5 + 11) + 195 ≤ R.locals) (hC : 1 ≤ R.cells ∧ 6 ≤ R.slots) (hl : ls.size = nL) (hc : (rest.map fun v => v.category).sum ≤ 8) (hdg : decode cc pc = .ok (.invokevirtual 76, 3)) (kk : ∀ r, y1 = .inr r → ∀ H locs, CS D kA Z A s w1 H locs → W p l e R s m args below meth c H locs 0 0 Q (F0 m (pc + 3) ls (rest))) (kx : ∀ x, y1 = .inl x → ∀ (H : Heap) (locs : List Loc) (q : Addr) (ce : Cell), CS D kA Z A s w1 H locs → H[q]? = some ce → ce.vm = .none → s.vm.findClass (exN x) = some ce.cls → vx_W p l e R s m args below meth c H locs 1 6 Q (F0 m pc ls rest) q) : W p l e R s m args below meth c H locs 0 0 Q (F0 m pc ls (.int l2 :: .int l1 :: .ref (Z 227) :: rest)) :=
  ccall_vx (n := 2) X hS (k_X3_variables l hst D kA V Z N l1 l2  u H.size h) (gw_V gw_1001 gw_1003 gs_3_9 gw_13 gw_1004) (by decide +kernel) (va_recv X.2.1 hS.1 (ci := 3) (q0 := 27) rfl (cw_lit rfl)) hF hL hC rfl hl hc rfl hdg kk kx
def B_X3_placed_0 (N : Nat) (l1 : Int32) (u : CSt) : Option ((Sum Nat Int32) × CSt) := bc (F_X9_takeKind N u) fun r_2 u_1 => bt (F_X3_newName N 0 u_1) fun r_4 u_3 => ok (r_4 < 338) inferInstance <| pc (xmI u_3 r_4 6 l1) fun u_7 => pc (xmI u_7 r_4 5 r_2) fun u_8 => pc (xmI u_8 r_4 7 1) fun u_9 => bc (F_X9_next N u_9) fun _ u_10 => rd (fun j => bt_0.getD j 0) 5 r_2 fun v_11 => bt (F_X9_takeBounded N 0 ((64 - (v_11 / 8)).toInt64) u_10) fun r_14 u_13 => pc (xmI u_13 r_4 9 r_14.toInt32) fun u_16 => bc (F_X9_next N u_16) fun _ u_17 => some (.inr 0, u_17)
set_option maxHeartbeats 4000000 in
theorem b_X3_placed_0 {y : (Sum Nat Int32)} (X : CC p s m args c cX3_placed 4 (Cond.code yX3_placed cX3_placed 4 none) RX3 D kA V A) (hE : CEvx p l e R s m args below meth c cX3_placed D kA Z A Q y w) (hst : l.stackTraces = false) (hX : CX p l e R s m args below meth c D kA Z A Q y w) (hC : 1 ≤ R.cells ∧ 6 ≤ R.slots) (hF : 8 ≤ R.frames) (hL : 148 ≤ R.locals) {l1 : Int32} {u : CSt}  (h : B_X3_placed_0 N l1 u = some (y, w))  (hS : CS D kA Z A s u H locs) (hl : lv_has ls 4 [(0, .ref (Z 227)), (1, .int l1)]) : W p l e R s m args below meth c H locs 0 0 Q (F0 m 0 ls []) := by
  obtain ⟨⟨hx, hb, hml, hown, hts⟩, hK, hEV, hA⟩ := id X
  have hG : ∀ w ∈ GW, w.before args s = true := fun w h => hts w (List.mem_cons_of_mem _ h)
  unfold B_X3_placed_0 at h
  refine lv_aload_n hx hb dX3_placed_0 rfl (lv_at hl 0 rfl) ?_
  refine cg_X3_15 X hS dX3_placed_1 ?_
  obtain ⟨r_2, u_1, h_u_1, h⟩ := bc_of h
  refine kc_X9_takeKind_RX3 X  hS h_u_1 (Nat.le_trans (Nat.le_of_ble_eq_true rfl) hF) (Nat.le_trans (Nat.le_of_ble_eq_true rfl) hL) hl.1 (Nat.le_of_ble_eq_true rfl) dX3_placed_4 (fun H locs hS => ?_)
  refine lv_istore_n (lv' := [(2, .int r_2), (0, .ref (Z 227)), (1, .int l1)]) hx hb dX3_placed_7 rfl hl (by decide) rfl (fun ls hl => ?_)
  refine lv_aload_n hx hb dX3_placed_8 rfl (lv_at hl 1 rfl) ?_
  refine lv_iconst (v := 0) hx hb dX3_placed_9 (by decide) ?_
  obtain ⟨y_5, u_3, h_u_3, h⟩ := bt_of h
  refine kc_X3_newName_RX3 hst X  hS h_u_3 (Nat.le_trans (Nat.le_of_ble_eq_true rfl) hF) (Nat.le_trans (Nat.le_of_ble_eq_true rfl) hL) hC hl.1 (Nat.le_of_ble_eq_true rfl) dX3_placed_10 (fun r_4 hr_u_3 H locs hS => ?_) (fun x9 hn H locs q9 ce hS a1 a2 a3 => by obtain ⟨e2, rfl⟩ := bt_no h hn; exact hX _ e2 _ _ _ _ _ _ _ hS a1 a2 a3)
  replace h := bt_ok h hr_u_3
  obtain ⟨z_6, h⟩ := ok_of h
  refine lv_astore_n (lv' := [(3, .ref (Z (1000 + r_4))), (2, .int r_2), (0, .ref (Z 227)), (1, .int l1)]) hx hb dX3_placed_13 rfl hl (by decide) rfl (fun ls hl => ?_)
  refine lv_aload_n hx hb dX3_placed_14 rfl (lv_at hl 0 rfl) ?_
  refine lv_iload_n hx hb dX3_placed_15 rfl (lv_at hl 3 rfl) ?_
  obtain ⟨u_7, e_u_7, h⟩ := pc_of h
  refine cp_X3_143 X z_6 hS e_u_7 dX3_placed_16 (fun H locs hS => ?_)
  refine lv_aload_n hx hb dX3_placed_19 rfl (lv_at hl 0 rfl) ?_
  refine lv_iload_n hx hb dX3_placed_20 rfl (lv_at hl 1 rfl) ?_
  obtain ⟨u_8, e_u_8, h⟩ := pc_of h
  refine cp_X3_146 X z_6 hS e_u_8 dX3_placed_21 (fun H locs hS => ?_)
  refine lv_aload_n hx hb dX3_placed_24 rfl (lv_at hl 0 rfl) ?_
  refine lv_iconst (v := 1) hx hb dX3_placed_25 (by decide) ?_
  obtain ⟨u_9, e_u_9, h⟩ := pc_of h
  refine cp_X3_149 X z_6 hS e_u_9 dX3_placed_26 (fun H locs hS => ?_)
  refine lv_aload_n hx hb dX3_placed_29 rfl (lv_at hl 2 rfl) ?_
  refine cg_X3_15 X hS dX3_placed_30 ?_
  obtain ⟨r_u_10, u_10, h_u_10, h⟩ := bc_of h
  refine kc_X9_next_RX3 X  hS h_u_10 (Nat.le_trans (Nat.le_of_ble_eq_true rfl) hF) (Nat.le_trans (Nat.le_of_ble_eq_true rfl) hL) hl.1 (Nat.le_of_ble_eq_true rfl) dX3_placed_33 (fun H locs hS => ?_)
  refine lv_aload_n hx hb dX3_placed_36 rfl (lv_at hl 0 rfl) ?_
  refine lv_aload_n hx hb dX3_placed_37 rfl (lv_at hl 2 rfl) ?_
  refine cg_X3_15 X hS dX3_placed_38 ?_
  refine lv_lconst (v := 0) hx hb dX3_placed_41 (by decide) ?_
  refine lv_bipush (v := 64) hx hb dX3_placed_42 (by decide) ?_
  refine va_getsN hx hb hEV.2.2.2.2.2.2.2.2.2.2.2.2.2.2.2.2.2.2.1.1 hS.2.2 hown (va_Nw.use rfl (hEV.1 _ nw_1092)) (fun _ h9 => h9) dX3_placed_44 ?_
  refine lv_iload_n hx hb dX3_placed_47 rfl (lv_at hl 1 rfl) ?_
  obtain ⟨v_11, e_v_11, i_12, h⟩ := rd_of h
  refine va_ti hx hb hEV.2.2.2.2.2.2.2.2.2.2.2.2.2.2.2.2.2.2.1.2 hS.2.2 i_12 rfl dX3_placed_48 ?_
  rw [e_v_11]
  refine lv_bipush (v := 8) hx hb dX3_placed_49 (by decide) ?_
  refine lv_idiv hx hb dX3_placed_51 (by decide) ?_
  refine lv_isub hx hb dX3_placed_52 ?_
  refine lv_i2l (v := (64 - (v_11 / 8)).toInt64) hx hb dX3_placed_53 rfl ?_
  obtain ⟨y_15, u_13, h_u_13, h⟩ := bt_of h
  refine kc_X9_takeBounded_RX3 hst X  hS h_u_13 (Nat.le_trans (Nat.le_of_ble_eq_true rfl) hF) (Nat.le_trans (Nat.le_of_ble_eq_true rfl) hL) hC hl.1 (Nat.le_of_ble_eq_true rfl) dX3_placed_54 (fun r_14 hr_u_13 H locs hS => ?_) (fun x9 hn H locs q9 ce hS a1 a2 a3 => by obtain ⟨e2, rfl⟩ := bt_no h hn; exact hX _ e2 _ _ _ _ _ _ _ hS a1 a2 a3)
  replace h := bt_ok h hr_u_13
  refine lv_l2i (v := r_14.toInt32) hx hb dX3_placed_57 rfl ?_
  obtain ⟨u_16, e_u_16, h⟩ := pc_of h
  refine cp_X3_170 X z_6 hS e_u_16 dX3_placed_58 (fun H locs hS => ?_)
  refine lv_aload_n hx hb dX3_placed_61 rfl (lv_at hl 2 rfl) ?_
  refine cg_X3_15 X hS dX3_placed_62 ?_
  obtain ⟨r_u_17, u_17, h_u_17, h⟩ := bc_of h
  refine kc_X9_next_RX3 X  hS h_u_17 (Nat.le_trans (Nat.le_of_ble_eq_true rfl) hF) (Nat.le_trans (Nat.le_of_ble_eq_true rfl) hL) hl.1 (Nat.le_of_ble_eq_true rfl) dX3_placed_65 (fun H locs hS => ?_)
  obtain ⟨e9, rfl⟩ := so9 h
  exact hE _ e9.symm _ _ _ _ hS dX3_placed_68
def F_X3_placed (N : Nat) (l1 : Int32) (u : CSt) : Option ((Sum Nat Int32) × CSt) := B_X3_placed_0 N l1 u
set_option maxHeartbeats 4000000 in
theorem k_X3_placed (l : Launch) (hst : l.stackTraces = false) (D : va_G) (kA : Nat → ClassId) (V Z : Nat → Nat) (N : Nat) (l1 : Int32) (u : CSt) (sz : Nat) {y : (Sum Nat Int32)} {w : CSt} (h : F_X3_placed N l1 u = some (y, w)) : vx_Met l yX3_placed (Cond.code yX3_placed cX3_placed 4 none :: GW) { frames := 8, cells := 1, slots := 6, locals := 148 } (cPc D kA V Z [.ref (Z 227), .int l1] u sz) (cQvx D kA Z u sz y w) (cXc D kA Z u sz y w) 1 6 (va_A (CW kA Z u) sz) := by
  refine vx_ofW (cc := cX3_placed) (maxL := 4) (ret := none) (by decide) rfl ?_
  intro p e s m args below meth c s₁ Bd hml hxt hv
  obtain ⟨rfl, hsz, hP, hK, hD0, hE⟩ := hv
  have hts := atoms_spec (ws := Cond.code yX3_placed cX3_placed 4 none :: GW) Bd.pre
  have hl := lv_entry ([.ref (Z 227), .int l1]) (n := 4) (Nat.le_of_ble_eq_true rfl)
  rw [lg_entry_eq]
  generalize (lg_sl ([.ref (Z 227), .int l1]) ++ List.replicate (4 - (lg_sl ([.ref (Z 227), .int l1])).length) Slot.unset).toArray = ls at hl ⊢
  have hl : lv_has ls 4 [(0, .ref (Z 227)), (1, .int l1)] := hl
  subst hsz
  have X : CC p s m ([.ref (Z 227), .int l1]).toArray c cX3_placed 4 (Cond.code yX3_placed cX3_placed 4 none) RX3 D kA V (va_A (CW kA Z u) s.heap.size) := ⟨⟨Bd.exec, Bd.bytes, hml, findClass_of_methodNamed Bd.named, hts⟩, hK, hE, fun q h => Or.inr h⟩
  refine b_X3_placed_0 X (cend_vx X Bd.returns Bd.notSynchronized) hst (cend_X X hxt Bd.notSynchronized) ⟨Nat.le_refl _, Nat.le_refl _⟩ (Nat.le_refl _) (Nat.le_refl _) h  ⟨hP, hD0.self, va_S.rf⟩ (lv_sub hl [0, 1] rfl)
theorem kc_X3_placed_RX3 {cc : ByteArray} {pc nL : Nat} {c0 : Cond} {rest : List Value} {l1 : Int32} {u w1 : CSt} {y1 : (Sum Nat Int32)} (hst : l.stackTraces = false) (X : CC p s m args c cc nL c0 RX3 D kA V A)  (hS : CS D kA Z A s u H locs) (h : F_X3_placed N l1 u = some (y1, w1)) (hF : 8 + 1 ≤ R.frames) (hL : 8 + (4 + 11) + 148 ≤ R.locals) (hC : 1 ≤ R.cells ∧ 6 ≤ R.slots) (hl : ls.size = nL) (hc : (rest.map fun v => v.category).sum ≤ 8) (hdg : decode cc pc = .ok (.invokevirtual 80, 3)) (kk : ∀ r, y1 = .inr r → ∀ H locs, CS D kA Z A s w1 H locs → W p l e R s m args below meth c H locs 0 0 Q (F0 m (pc + 3) ls (rest))) (kx : ∀ x, y1 = .inl x → ∀ (H : Heap) (locs : List Loc) (q : Addr) (ce : Cell), CS D kA Z A s w1 H locs → H[q]? = some ce → ce.vm = .none → s.vm.findClass (exN x) = some ce.cls → vx_W p l e R s m args below meth c H locs 1 6 Q (F0 m pc ls rest) q) : W p l e R s m args below meth c H locs 0 0 Q (F0 m pc ls (.int l1 :: .ref (Z 227) :: rest)) :=
  ccall_vx (n := 1) X hS (k_X3_placed l hst D kA V Z N l1  u H.size h) (gw_V gw_1088 gw_1090 gs_3_15 gw_13 gw_1091) (by decide +kernel) (va_recv X.2.1 hS.1 (ci := 3) (q0 := 27) rfl (cw_lit rfl)) hF hL hC rfl hl hc rfl hdg kk kx
def B_X3_oneUse_33 (N : Nat) (R_33 : Nat × Int32 × Int32 × CSt → Option ((Sum Nat Int32) × CSt)) (l1 : Nat) (l2 : Int32) (l4 : Int32) (u : CSt) : Option ((Sum Nat Int32) × CSt) := if (mI u l1 12) ≤ l4 then (some (.inr 0, u)) else (ok (cR u 2 < 2) inferInstance <| bc (F_X6_local N (cR u 2) l1 l4 u) fun r_4 u_3 => ok (r_4 < 338) inferInstance <| bt (F_X3_allot N (mI u_3 r_4 5) (mI u_3 r_4 7) l2 u_3) fun _ u_6 => R_33 (l1, l2, (l4 + 1), u_6))
set_option maxHeartbeats 4000000 in
theorem b_X3_oneUse_33 {y : (Sum Nat Int32)} (X : CC p s m args c cX3_oneUse 6 (Cond.code yX3_oneUse cX3_oneUse 6 none) RX3 D kA V A) (hE : CEvx p l e R s m args below meth c cX3_oneUse D kA Z A Q y w) (hst : l.stackTraces = false) (hX : CX p l e R s m args below meth c D kA Z A Q y w) (hC : 1 ≤ R.cells ∧ 6 ≤ R.slots) (hF : 8 ≤ R.frames) (hL : 148 ≤ R.locals) {R_33 : Nat × Int32 × Int32 × CSt → Option ((Sum Nat Int32) × CSt)} {l1 : Nat} {l2 : Int32} {l4 : Int32} {u : CSt} (hR_33 : ∀ (l1 : Nat) (l2 : Int32) (l4 : Int32) (u : CSt), l1 < 338 → R_33 (l1, l2, l4, u) = some (y, w) → ∀ (H : Heap) (locs : List Loc) (ls : Array Slot), CS D kA Z A s u H locs → lv_has ls 6 [(0, .ref (Z 227)), (1, .ref (Z (1000 + l1))), (2, .int l2), (4, .int l4)] → W p l e R s m args below meth c H locs 0 0 Q (F0 m 33 ls [])) (h : B_X3_oneUse_33 N R_33 l1 l2 l4 u = some (y, w)) (h_l1 : l1 < 338) (hS : CS D kA Z A s u H locs) (hl : lv_has ls 6 [(0, .ref (Z 227)), (1, .ref (Z (1000 + l1))), (2, .int l2), (4, .int l4)]) : W p l e R s m args below meth c H locs 0 0 Q (F0 m 33 ls []) := by
  obtain ⟨⟨hx, hb, hml, hown, hts⟩, hK, hEV, hA⟩ := id X
  have hG : ∀ w ∈ GW, w.before args s = true := fun w h => hts w (List.mem_cons_of_mem _ h)
  unfold B_X3_oneUse_33 at h
  refine lv_iload hx hb dX3_oneUse_33 (lv_at hl 3 rfl) ?_
  refine lv_aload_n hx hb dX3_oneUse_35 rfl (lv_at hl 1 rfl) ?_
  refine cg_X3_197 X h_l1 hS dX3_oneUse_36 ?_
  refine lv_icmp_ge (tgt := 75) hx hb dX3_oneUse_39 (by decide) (fun c_1 => ?_) (fun c_1 => ?_)
  · have h := ip (c_1) h
    obtain ⟨e9, rfl⟩ := so9 h
    exact hE _ e9.symm _ _ _ _ hS dX3_oneUse_75
  · have h := im (c_1) h
    refine lv_aload_n hx hb dX3_oneUse_42 rfl (lv_at hl 0 rfl) ?_
    refine cg_X3_19 X hS dX3_oneUse_43 ?_
    obtain ⟨z_2, h⟩ := ok_of h
    refine lv_aload_n hx hb dX3_oneUse_46 rfl (lv_at hl 1 rfl) ?_
    refine lv_iload hx hb dX3_oneUse_47 (lv_at hl 3 rfl) ?_
    obtain ⟨r_4, u_3, h_u_3, h⟩ := bc_of h
    refine kc_X6_local_RX3 X z_2 h_l1 hS h_u_3 (Nat.le_trans (Nat.le_of_ble_eq_true rfl) hF) (Nat.le_trans (Nat.le_of_ble_eq_true rfl) hL) hl.1 (Nat.le_of_ble_eq_true rfl) dX3_oneUse_49 (fun H locs hS => ?_)
    obtain ⟨z_5, h⟩ := ok_of h
    refine lv_astore (lv' := [(5, .ref (Z (1000 + r_4))), (0, .ref (Z 227)), (1, .ref (Z (1000 + l1))), (2, .int l2), (4, .int l4)]) hx hb dX3_oneUse_52 hl (by decide) rfl (fun ls hl => ?_)
    refine lv_aload_n hx hb dX3_oneUse_54 rfl (lv_at hl 1 rfl) ?_
    refine lv_aload hx hb dX3_oneUse_55 (lv_at hl 0 rfl) ?_
    refine cg_X3_146 X z_5 hS dX3_oneUse_57 ?_
    refine lv_aload hx hb dX3_oneUse_60 (lv_at hl 0 rfl) ?_
    refine cg_X3_149 X z_5 hS dX3_oneUse_62 ?_
    refine lv_iload_n hx hb dX3_oneUse_65 rfl (lv_at hl 3 rfl) ?_
    obtain ⟨y_7, u_6, h_u_6, h⟩ := bt_of h
    refine kc_X3_allot_RX3 hst X  hS h_u_6 (Nat.le_trans (Nat.le_of_ble_eq_true rfl) hF) (Nat.le_trans (Nat.le_of_ble_eq_true rfl) hL) hC hl.1 (Nat.le_of_ble_eq_true rfl) dX3_oneUse_66 (fun r_u_6 hr_u_6 H locs hS => ?_) (fun x9 hn H locs q9 ce hS a1 a2 a3 => by obtain ⟨e2, rfl⟩ := bt_no h hn; exact hX _ e2 _ _ _ _ _ _ _ hS a1 a2 a3)
    replace h := bt_ok h hr_u_6
    refine lv_iinc (v := l4 + 1) (lv' := [(4, .int (l4 + 1)), (5, .ref (Z (1000 + r_4))), (0, .ref (Z 227)), (1, .ref (Z (1000 + l1))), (2, .int l2)]) hx hb dX3_oneUse_69 hl (k := 4) rfl rfl (by decide) rfl (fun ls hl => ?_)
    refine lv_goto (tgt := 33) hx hb dX3_oneUse_72 (by decide) ?_
    exact hR_33 _ _ _ _ h_l1 h _ _ _ hS (lv_sub hl [2, 3, 4, 0] rfl)
def LP_X3_oneUse_33 (N : Nat) : Nat → Nat × Int32 × Int32 × CSt → Option ((Sum Nat Int32) × CSt) := lp (fun R a => B_X3_oneUse_33 N R a.1 a.2.1 a.2.2.1 a.2.2.2)
theorem bl_X3_oneUse_33 {y : (Sum Nat Int32)} (X : CC p s m args c cX3_oneUse 6 (Cond.code yX3_oneUse cX3_oneUse 6 none) RX3 D kA V A) (hE : CEvx p l e R s m args below meth c cX3_oneUse D kA Z A Q y w) (hst : l.stackTraces = false) (hX : CX p l e R s m args below meth c D kA Z A Q y w) (hC : 1 ≤ R.cells ∧ 6 ≤ R.slots) (hF : 8 ≤ R.frames) (hL : 148 ≤ R.locals)  : ∀ (n : Nat) (l1 : Nat) (l2 : Int32) (l4 : Int32) (u : CSt), l1 < 338 → LP_X3_oneUse_33 N n (l1, l2, l4, u) = some (y, w) → ∀ (H : Heap) (locs : List Loc) (ls : Array Slot), CS D kA Z A s u H locs → lv_has ls 6 [(0, .ref (Z 227)), (1, .ref (Z (1000 + l1))), (2, .int l2), (4, .int l4)] → W p l e R s m args below meth c H locs 0 0 Q (F0 m 33 ls []) := by
  intro n
  induction n with
  | zero => intro l1 l2 l4 u h_l1 h; exact nomatch h
  | succ n ih => intro l1 l2 l4 u h_l1 h H locs ls hS hl; exact b_X3_oneUse_33 (N := N) (R_33 := LP_X3_oneUse_33 N n) X hE hst hX hC hF hL  ih h h_l1 hS hl
def B_X3_oneUse_0 (N : Nat) (l1 : Nat) (u : CSt) : Option ((Sum Nat Int32) × CSt) := bc (F_X9_here N u) fun r_9 u_8 => bt (F_X3_newName N 1 u_8) fun r_11 u_10 => ok (r_11 < 338) inferInstance <| pc (xmI u_10 r_11 14 (mI u_10 l1 3)) fun u_14 => pc (xmI u_14 r_11 9 (cI u_14 12)) fun u_15 => LP_X3_oneUse_33 N N (l1, r_9, 0, u_15)
set_option maxHeartbeats 4000000 in
theorem b_X3_oneUse_0 {y : (Sum Nat Int32)} (X : CC p s m args c cX3_oneUse 6 (Cond.code yX3_oneUse cX3_oneUse 6 none) RX3 D kA V A) (hE : CEvx p l e R s m args below meth c cX3_oneUse D kA Z A Q y w) (hst : l.stackTraces = false) (hX : CX p l e R s m args below meth c D kA Z A Q y w) (hC : 1 ≤ R.cells ∧ 6 ≤ R.slots) (hF : 8 ≤ R.frames) (hL : 148 ≤ R.locals) {l1 : Nat} {u : CSt}  (h : B_X3_oneUse_0 N l1 u = some (y, w)) (h_l1 : l1 < 338) (hS : CS D kA Z A s u H locs) (hl : lv_has ls 6 [(0, .ref (Z 227)), (1, .ref (Z (1000 + l1)))]) : W p l e R s m args below meth c H locs 0 0 Q (F0 m 0 ls []) := by
  obtain ⟨⟨hx, hb, hml, hown, hts⟩, hK, hEV, hA⟩ := id X
  have hG : ∀ w ∈ GW, w.before args s = true := fun w h => hts w (List.mem_cons_of_mem _ h)
  unfold B_X3_oneUse_0 at h
  refine lv_aload_n hx hb dX3_oneUse_0 rfl (lv_at hl 0 rfl) ?_
  refine cg_X3_15 X hS dX3_oneUse_1 ?_
  obtain ⟨r_9, u_8, h_u_8, h⟩ := bc_of h
  refine kc_X9_here_RX3 X  hS h_u_8 (Nat.le_trans (Nat.le_of_ble_eq_true rfl) hF) (Nat.le_trans (Nat.le_of_ble_eq_true rfl) hL) hl.1 (Nat.le_of_ble_eq_true rfl) dX3_oneUse_4 (fun H locs hS => ?_)
  refine lv_istore_n (lv' := [(2, .int r_9), (0, .ref (Z 227)), (1, .ref (Z (1000 + l1)))]) hx hb dX3_oneUse_7 rfl hl (by decide) rfl (fun ls hl => ?_)
  refine lv_aload_n hx hb dX3_oneUse_8 rfl (lv_at hl 1 rfl) ?_
  refine lv_iconst (v := 1) hx hb dX3_oneUse_9 (by decide) ?_
  obtain ⟨y_12, u_10, h_u_10, h⟩ := bt_of h
  refine kc_X3_newName_RX3 hst X  hS h_u_10 (Nat.le_trans (Nat.le_of_ble_eq_true rfl) hF) (Nat.le_trans (Nat.le_of_ble_eq_true rfl) hL) hC hl.1 (Nat.le_of_ble_eq_true rfl) dX3_oneUse_10 (fun r_11 hr_u_10 H locs hS => ?_) (fun x9 hn H locs q9 ce hS a1 a2 a3 => by obtain ⟨e2, rfl⟩ := bt_no h hn; exact hX _ e2 _ _ _ _ _ _ _ hS a1 a2 a3)
  replace h := bt_ok h hr_u_10
  obtain ⟨z_13, h⟩ := ok_of h
  refine lv_astore_n (lv' := [(3, .ref (Z (1000 + r_11))), (2, .int r_9), (0, .ref (Z 227)), (1, .ref (Z (1000 + l1)))]) hx hb dX3_oneUse_13 rfl hl (by decide) rfl (fun ls hl => ?_)
  refine lv_aload_n hx hb dX3_oneUse_14 rfl (lv_at hl 0 rfl) ?_
  refine lv_aload_n hx hb dX3_oneUse_15 rfl (lv_at hl 3 rfl) ?_
  refine cg_X3_214 X h_l1 hS dX3_oneUse_16 ?_
  obtain ⟨u_14, e_u_14, h⟩ := pc_of h
  refine cp_X3_217 X z_13 hS e_u_14 dX3_oneUse_19 (fun H locs hS => ?_)
  refine lv_aload_n hx hb dX3_oneUse_22 rfl (lv_at hl 0 rfl) ?_
  refine lv_aload_n hx hb dX3_oneUse_23 rfl (lv_at hl 2 rfl) ?_
  refine cg_X3_47 X hS dX3_oneUse_24 ?_
  obtain ⟨u_15, e_u_15, h⟩ := pc_of h
  refine cp_X3_170 X z_13 hS e_u_15 dX3_oneUse_27 (fun H locs hS => ?_)
  refine lv_iconst (v := 0) hx hb dX3_oneUse_30 (by decide) ?_
  refine lv_istore (lv' := [(4, .int 0), (3, .ref (Z (1000 + r_11))), (2, .int r_9), (0, .ref (Z 227)), (1, .ref (Z (1000 + l1)))]) hx hb dX3_oneUse_31 hl (by decide) rfl (fun ls hl => ?_)
  exact bl_X3_oneUse_33 X hE hst hX hC hF hL  _ _ _ _ _ h_l1 h _ _ _ hS (lv_sub hl [3, 4, 2, 0] rfl)
def F_X3_oneUse (N : Nat) (l1 : Nat) (u : CSt) : Option ((Sum Nat Int32) × CSt) := B_X3_oneUse_0 N l1 u
set_option maxHeartbeats 4000000 in
theorem k_X3_oneUse (l : Launch) (hst : l.stackTraces = false) (D : va_G) (kA : Nat → ClassId) (V Z : Nat → Nat) (N : Nat) (l1 : Nat) (h_l1 : l1 < 338) (u : CSt) (sz : Nat) {y : (Sum Nat Int32)} {w : CSt} (h : F_X3_oneUse N l1 u = some (y, w)) : vx_Met l yX3_oneUse (Cond.code yX3_oneUse cX3_oneUse 6 none :: GW) { frames := 8, cells := 1, slots := 6, locals := 148 } (cPc D kA V Z [.ref (Z 227), .ref (Z (1000 + l1))] u sz) (cQvx D kA Z u sz y w) (cXc D kA Z u sz y w) 1 6 (va_A (CW kA Z u) sz) := by
  refine vx_ofW (cc := cX3_oneUse) (maxL := 6) (ret := none) (by decide) rfl ?_
  intro p e s m args below meth c s₁ Bd hml hxt hv
  obtain ⟨rfl, hsz, hP, hK, hD0, hE⟩ := hv
  have hts := atoms_spec (ws := Cond.code yX3_oneUse cX3_oneUse 6 none :: GW) Bd.pre
  have hl := lv_entry ([.ref (Z 227), .ref (Z (1000 + l1))]) (n := 6) (Nat.le_of_ble_eq_true rfl)
  rw [lg_entry_eq]
  generalize (lg_sl ([.ref (Z 227), .ref (Z (1000 + l1))]) ++ List.replicate (6 - (lg_sl ([.ref (Z 227), .ref (Z (1000 + l1))])).length) Slot.unset).toArray = ls at hl ⊢
  have hl : lv_has ls 6 [(0, .ref (Z 227)), (1, .ref (Z (1000 + l1)))] := hl
  subst hsz
  have X : CC p s m ([.ref (Z 227), .ref (Z (1000 + l1))]).toArray c cX3_oneUse 6 (Cond.code yX3_oneUse cX3_oneUse 6 none) RX3 D kA V (va_A (CW kA Z u) s.heap.size) := ⟨⟨Bd.exec, Bd.bytes, hml, findClass_of_methodNamed Bd.named, hts⟩, hK, hE, fun q h => Or.inr h⟩
  refine b_X3_oneUse_0 X (cend_vx X Bd.returns Bd.notSynchronized) hst (cend_X X hxt Bd.notSynchronized) ⟨Nat.le_refl _, Nat.le_refl _⟩ (Nat.le_refl _) (Nat.le_refl _) h h_l1 ⟨hP, hD0.self, va_S.rf⟩ (lv_sub hl [0, 1] rfl)
theorem kc_X3_oneUse_RX3 {cc : ByteArray} {pc nL : Nat} {c0 : Cond} {rest : List Value} {l1 : Nat} {u w1 : CSt} {y1 : (Sum Nat Int32)} (hst : l.stackTraces = false) (X : CC p s m args c cc nL c0 RX3 D kA V A) (h_l1 : l1 < 338) (hS : CS D kA Z A s u H locs) (h : F_X3_oneUse N l1 u = some (y1, w1)) (hF : 8 + 1 ≤ R.frames) (hL : 8 + (6 + 11) + 148 ≤ R.locals) (hC : 1 ≤ R.cells ∧ 6 ≤ R.slots) (hl : ls.size = nL) (hc : (rest.map fun v => v.category).sum ≤ 8) (hdg : decode cc pc = .ok (.invokevirtual 210, 3)) (kk : ∀ r, y1 = .inr r → ∀ H locs, CS D kA Z A s w1 H locs → W p l e R s m args below meth c H locs 0 0 Q (F0 m (pc + 3) ls (rest))) (kx : ∀ x, y1 = .inl x → ∀ (H : Heap) (locs : List Loc) (q : Addr) (ce : Cell), CS D kA Z A s w1 H locs → H[q]? = some ce → ce.vm = .none → s.vm.findClass (exN x) = some ce.cls → vx_W p l e R s m args below meth c H locs 1 6 Q (F0 m pc ls rest) q) : W p l e R s m args below meth c H locs 0 0 Q (F0 m pc ls (.ref (Z (1000 + l1)) :: .ref (Z 227) :: rest)) :=
  ccall_vx (n := 1) X hS (k_X3_oneUse l hst D kA V Z N l1 h_l1 u H.size h) (gw_V gw_1358 gw_1360 gs_6_1 gw_13 gw_1361) (by decide +kernel) (va_recv X.2.1 hS.1 (ci := 3) (q0 := 27) rfl (cw_lit rfl)) hF hL hC rfl hl hc rfl hdg kk kx
def B_X3_uses_82 (N : Nat) (u : CSt) : Option ((Sum Nat Int32) × CSt) := bc (F_X9_next N u) fun _ u_1 => some (.inr 0, u_1)
set_option maxHeartbeats 4000000 in
theorem b_X3_uses_82 {y : (Sum Nat Int32)} (X : CC p s m args c cX3_uses 3 (Cond.code yX3_uses cX3_uses 3 none) RX3 D kA V A) (hE : CEvx p l e R s m args below meth c cX3_uses D kA Z A Q y w) (hst : l.stackTraces = false) (hX : CX p l e R s m args below meth c D kA Z A Q y w) (hC : 1 ≤ R.cells ∧ 6 ≤ R.slots) (hF : 9 ≤ R.frames) (hL : 173 ≤ R.locals) {u : CSt}  (h : B_X3_uses_82 N u = some (y, w))  (hS : CS D kA Z A s u H locs) (hl : lv_has ls 3 [(0, .ref (Z 227))]) : W p l e R s m args below meth c H locs 0 0 Q (F0 m 82 ls []) := by
  obtain ⟨⟨hx, hb, hml, hown, hts⟩, hK, hEV, hA⟩ := id X
  have hG : ∀ w ∈ GW, w.before args s = true := fun w h => hts w (List.mem_cons_of_mem _ h)
  unfold B_X3_uses_82 at h
  refine lv_aload_n hx hb dX3_uses_82 rfl (lv_at hl 0 rfl) ?_
  refine cg_X3_15 X hS dX3_uses_83 ?_
  obtain ⟨r_u_1, u_1, h_u_1, h⟩ := bc_of h
  refine kc_X9_next_RX3 X  hS h_u_1 (Nat.le_trans (Nat.le_of_ble_eq_true rfl) hF) (Nat.le_trans (Nat.le_of_ble_eq_true rfl) hL) hl.1 (Nat.le_of_ble_eq_true rfl) dX3_uses_86 (fun H locs hS => ?_)
  obtain ⟨e9, rfl⟩ := so9 h
  exact hE _ e9.symm _ _ _ _ hS dX3_uses_89
def B_X3_uses_45 (N : Nat) (R_45 : Nat × Int32 × CSt → Option ((Sum Nat Int32) × CSt)) (l1 : Nat) (l2 : Int32) (u : CSt) : Option ((Sum Nat Int32) × CSt) := if (1500 : Int32) ≤ l2 then (B_X3_uses_82 N u) else (bc (F_X9_is N 44 u) fun r_4 u_3 => if r_4 = (0 : Int32) then (B_X3_uses_82 N u_3) else (bc (F_X9_next N u_3) fun _ u_6 => bt (F_X3_oneUse N l1 u_6) fun _ u_7 => R_45 (l1, (l2 + 1), u_7)))
set_option maxHeartbeats 4000000 in
theorem b_X3_uses_45 {y : (Sum Nat Int32)} (X : CC p s m args c cX3_uses 3 (Cond.code yX3_uses cX3_uses 3 none) RX3 D kA V A) (hE : CEvx p l e R s m args below meth c cX3_uses D kA Z A Q y w) (hst : l.stackTraces = false) (hX : CX p l e R s m args below meth c D kA Z A Q y w) (hC : 1 ≤ R.cells ∧ 6 ≤ R.slots) (hF : 9 ≤ R.frames) (hL : 173 ≤ R.locals) {R_45 : Nat × Int32 × CSt → Option ((Sum Nat Int32) × CSt)} {l1 : Nat} {l2 : Int32} {u : CSt} (hR_45 : ∀ (l1 : Nat) (l2 : Int32) (u : CSt), l1 < 338 → R_45 (l1, l2, u) = some (y, w) → ∀ (H : Heap) (locs : List Loc) (ls : Array Slot), CS D kA Z A s u H locs → lv_has ls 3 [(0, .ref (Z 227)), (1, .ref (Z (1000 + l1))), (2, .int l2)] → W p l e R s m args below meth c H locs 0 0 Q (F0 m 45 ls [])) (h : B_X3_uses_45 N R_45 l1 l2 u = some (y, w)) (h_l1 : l1 < 338) (hS : CS D kA Z A s u H locs) (hl : lv_has ls 3 [(0, .ref (Z 227)), (1, .ref (Z (1000 + l1))), (2, .int l2)]) : W p l e R s m args below meth c H locs 0 0 Q (F0 m 45 ls []) := by
  obtain ⟨⟨hx, hb, hml, hown, hts⟩, hK, hEV, hA⟩ := id X
  have hG : ∀ w ∈ GW, w.before args s = true := fun w h => hts w (List.mem_cons_of_mem _ h)
  unfold B_X3_uses_45 at h
  refine lv_iload_n hx hb dX3_uses_45 rfl (lv_at hl 2 rfl) ?_
  refine lv_sipush (v := 1500) hx hb dX3_uses_46 (by decide) ?_
  refine lv_icmp_ge (tgt := 82) hx hb dX3_uses_49 (by decide) (fun c_2 => ?_) (fun c_2 => ?_)
  · have h := ip (c_2) h
    exact b_X3_uses_82 X hE hst hX hC hF hL  h  hS (lv_sub hl [0] rfl)
  · have h := im (c_2) h
    refine lv_aload_n hx hb dX3_uses_52 rfl (lv_at hl 0 rfl) ?_
    refine cg_X3_15 X hS dX3_uses_53 ?_
    refine lv_bipush (v := 44) hx hb dX3_uses_56 (by decide) ?_
    obtain ⟨r_4, u_3, h_u_3, h⟩ := bc_of h
    refine kc_X9_is_RX3 X  hS h_u_3 (Nat.le_trans (Nat.le_of_ble_eq_true rfl) hF) (Nat.le_trans (Nat.le_of_ble_eq_true rfl) hL) hl.1 (Nat.le_of_ble_eq_true rfl) dX3_uses_58 (fun H locs hS => ?_)
    refine lv_if_eq (tgt := 82) hx hb dX3_uses_61 (by decide) (fun c_5 => ?_) (fun c_5 => ?_)
    · have h := ip (c_5) h
      exact b_X3_uses_82 X hE hst hX hC hF hL  h  hS (lv_sub hl [0] rfl)
    · have h := im (c_5) h
      refine lv_aload_n hx hb dX3_uses_64 rfl (lv_at hl 0 rfl) ?_
      refine cg_X3_15 X hS dX3_uses_65 ?_
      obtain ⟨r_u_6, u_6, h_u_6, h⟩ := bc_of h
      refine kc_X9_next_RX3 X  hS h_u_6 (Nat.le_trans (Nat.le_of_ble_eq_true rfl) hF) (Nat.le_trans (Nat.le_of_ble_eq_true rfl) hL) hl.1 (Nat.le_of_ble_eq_true rfl) dX3_uses_68 (fun H locs hS => ?_)
      refine lv_aload_n hx hb dX3_uses_71 rfl (lv_at hl 0 rfl) ?_
      refine lv_aload_n hx hb dX3_uses_72 rfl (lv_at hl 1 rfl) ?_
      obtain ⟨y_8, u_7, h_u_7, h⟩ := bt_of h
      refine kc_X3_oneUse_RX3 hst X h_l1 hS h_u_7 (Nat.le_trans (Nat.le_of_ble_eq_true rfl) hF) (Nat.le_trans (Nat.le_of_ble_eq_true rfl) hL) hC hl.1 (Nat.le_of_ble_eq_true rfl) dX3_uses_73 (fun r_u_7 hr_u_7 H locs hS => ?_) (fun x9 hn H locs q9 ce hS a1 a2 a3 => by obtain ⟨e2, rfl⟩ := bt_no h hn; exact hX _ e2 _ _ _ _ _ _ _ hS a1 a2 a3)
      replace h := bt_ok h hr_u_7
      refine lv_iinc (v := l2 + 1) (lv' := [(2, .int (l2 + 1)), (0, .ref (Z 227)), (1, .ref (Z (1000 + l1)))]) hx hb dX3_uses_76 hl (k := 2) rfl rfl (by decide) rfl (fun ls hl => ?_)
      refine lv_goto (tgt := 45) hx hb dX3_uses_79 (by decide) ?_
      exact hR_45 _ _ _ h_l1 h _ _ _ hS (lv_sub hl [1, 2, 0] rfl)
def LP_X3_uses_45 (N : Nat) : Nat → Nat × Int32 × CSt → Option ((Sum Nat Int32) × CSt) := lp (fun R a => B_X3_uses_45 N R a.1 a.2.1 a.2.2)
theorem bl_X3_uses_45 {y : (Sum Nat Int32)} (X : CC p s m args c cX3_uses 3 (Cond.code yX3_uses cX3_uses 3 none) RX3 D kA V A) (hE : CEvx p l e R s m args below meth c cX3_uses D kA Z A Q y w) (hst : l.stackTraces = false) (hX : CX p l e R s m args below meth c D kA Z A Q y w) (hC : 1 ≤ R.cells ∧ 6 ≤ R.slots) (hF : 9 ≤ R.frames) (hL : 173 ≤ R.locals)  : ∀ (n : Nat) (l1 : Nat) (l2 : Int32) (u : CSt), l1 < 338 → LP_X3_uses_45 N n (l1, l2, u) = some (y, w) → ∀ (H : Heap) (locs : List Loc) (ls : Array Slot), CS D kA Z A s u H locs → lv_has ls 3 [(0, .ref (Z 227)), (1, .ref (Z (1000 + l1))), (2, .int l2)] → W p l e R s m args below meth c H locs 0 0 Q (F0 m 45 ls []) := by
  intro n
  induction n with
  | zero => intro l1 l2 u h_l1 h; exact nomatch h
  | succ n ih => intro l1 l2 u h_l1 h H locs ls hS hl; exact b_X3_uses_45 (N := N) (R_45 := LP_X3_uses_45 N n) X hE hst hX hC hF hL  ih h h_l1 hS hl
def B_X3_uses_31 (N : Nat) (l1 : Nat) (u : CSt) : Option ((Sum Nat Int32) × CSt) := bc (F_X9_next N u) fun _ u_9 => bt (F_X3_oneUse N l1 u_9) fun _ u_10 => LP_X3_uses_45 N N (l1, 0, u_10)
set_option maxHeartbeats 4000000 in
theorem b_X3_uses_31 {y : (Sum Nat Int32)} (X : CC p s m args c cX3_uses 3 (Cond.code yX3_uses cX3_uses 3 none) RX3 D kA V A) (hE : CEvx p l e R s m args below meth c cX3_uses D kA Z A Q y w) (hst : l.stackTraces = false) (hX : CX p l e R s m args below meth c D kA Z A Q y w) (hC : 1 ≤ R.cells ∧ 6 ≤ R.slots) (hF : 9 ≤ R.frames) (hL : 173 ≤ R.locals) {l1 : Nat} {u : CSt}  (h : B_X3_uses_31 N l1 u = some (y, w)) (h_l1 : l1 < 338) (hS : CS D kA Z A s u H locs) (hl : lv_has ls 3 [(0, .ref (Z 227)), (1, .ref (Z (1000 + l1)))]) : W p l e R s m args below meth c H locs 0 0 Q (F0 m 31 ls []) := by
  obtain ⟨⟨hx, hb, hml, hown, hts⟩, hK, hEV, hA⟩ := id X
  have hG : ∀ w ∈ GW, w.before args s = true := fun w h => hts w (List.mem_cons_of_mem _ h)
  unfold B_X3_uses_31 at h
  refine lv_aload_n hx hb dX3_uses_31 rfl (lv_at hl 0 rfl) ?_
  refine cg_X3_15 X hS dX3_uses_32 ?_
  obtain ⟨r_u_9, u_9, h_u_9, h⟩ := bc_of h
  refine kc_X9_next_RX3 X  hS h_u_9 (Nat.le_trans (Nat.le_of_ble_eq_true rfl) hF) (Nat.le_trans (Nat.le_of_ble_eq_true rfl) hL) hl.1 (Nat.le_of_ble_eq_true rfl) dX3_uses_35 (fun H locs hS => ?_)
  refine lv_aload_n hx hb dX3_uses_38 rfl (lv_at hl 0 rfl) ?_
  refine lv_aload_n hx hb dX3_uses_39 rfl (lv_at hl 1 rfl) ?_
  obtain ⟨y_11, u_10, h_u_10, h⟩ := bt_of h
  refine kc_X3_oneUse_RX3 hst X h_l1 hS h_u_10 (Nat.le_trans (Nat.le_of_ble_eq_true rfl) hF) (Nat.le_trans (Nat.le_of_ble_eq_true rfl) hL) hC hl.1 (Nat.le_of_ble_eq_true rfl) dX3_uses_40 (fun r_u_10 hr_u_10 H locs hS => ?_) (fun x9 hn H locs q9 ce hS a1 a2 a3 => by obtain ⟨e2, rfl⟩ := bt_no h hn; exact hX _ e2 _ _ _ _ _ _ _ hS a1 a2 a3)
  replace h := bt_ok h hr_u_10
  refine lv_iconst (v := 0) hx hb dX3_uses_43 (by decide) ?_
  refine lv_istore_n (lv' := [(2, .int 0), (0, .ref (Z 227)), (1, .ref (Z (1000 + l1)))]) hx hb dX3_uses_44 rfl hl (by decide) rfl (fun ls hl => ?_)
  exact bl_X3_uses_45 X hE hst hX hC hF hL  _ _ _ _ h_l1 h _ _ _ hS (lv_sub hl [1, 2, 0] rfl)
def B_X3_uses_0 (N : Nat) (u : CSt) : Option ((Sum Nat Int32) × CSt) := bc (F_X8_known N u) fun r_13 u_12 => ok (r_13 < 338) inferInstance <| if (mI u_12 r_13 2) = (3 : Int32) then (B_X3_uses_31 N r_13 u_12) else (bc (F_X9_here N u_12) fun r_17 u_16 => bt (F_X9_refuse N 3 r_17 u_16) fun _ u_18 => B_X3_uses_31 N r_13 u_18)
set_option maxHeartbeats 4000000 in
theorem b_X3_uses_0 {y : (Sum Nat Int32)} (X : CC p s m args c cX3_uses 3 (Cond.code yX3_uses cX3_uses 3 none) RX3 D kA V A) (hE : CEvx p l e R s m args below meth c cX3_uses D kA Z A Q y w) (hst : l.stackTraces = false) (hX : CX p l e R s m args below meth c D kA Z A Q y w) (hC : 1 ≤ R.cells ∧ 6 ≤ R.slots) (hF : 9 ≤ R.frames) (hL : 173 ≤ R.locals) {u : CSt}  (h : B_X3_uses_0 N u = some (y, w))  (hS : CS D kA Z A s u H locs) (hl : lv_has ls 3 [(0, .ref (Z 227))]) : W p l e R s m args below meth c H locs 0 0 Q (F0 m 0 ls []) := by
  obtain ⟨⟨hx, hb, hml, hown, hts⟩, hK, hEV, hA⟩ := id X
  have hG : ∀ w ∈ GW, w.before args s = true := fun w h => hts w (List.mem_cons_of_mem _ h)
  unfold B_X3_uses_0 at h
  refine lv_aload_n hx hb dX3_uses_0 rfl (lv_at hl 0 rfl) ?_
  refine cg_X3_28 X hS dX3_uses_1 ?_
  obtain ⟨r_13, u_12, h_u_12, h⟩ := bc_of h
  refine kc_X8_known_RX3 X  hS h_u_12 (Nat.le_trans (Nat.le_of_ble_eq_true rfl) hF) (Nat.le_trans (Nat.le_of_ble_eq_true rfl) hL) hl.1 (Nat.le_of_ble_eq_true rfl) dX3_uses_4 (fun H locs hS => ?_)
  obtain ⟨z_14, h⟩ := ok_of h
  refine lv_astore_n (lv' := [(1, .ref (Z (1000 + r_13))), (0, .ref (Z 227))]) hx hb dX3_uses_7 rfl hl (by decide) rfl (fun ls hl => ?_)
  refine lv_aload_n hx hb dX3_uses_8 rfl (lv_at hl 0 rfl) ?_
  refine cg_X3_121 X z_14 hS dX3_uses_9 ?_
  refine lv_iconst (v := 3) hx hb dX3_uses_12 (by decide) ?_
  refine lv_icmp_eq (tgt := 31) hx hb dX3_uses_13 (by decide) (fun c_15 => ?_) (fun c_15 => ?_)
  · have h := ip (c_15) h
    exact b_X3_uses_31 X hE hst hX hC hF hL  h z_14 hS (lv_sub hl [1, 0] rfl)
  · have h := im (c_15) h
    refine lv_aload_n hx hb dX3_uses_16 rfl (lv_at hl 1 rfl) ?_
    refine cg_X3_15 X hS dX3_uses_17 ?_
    refine lv_iconst (v := 3) hx hb dX3_uses_20 (by decide) ?_
    refine lv_aload_n hx hb dX3_uses_21 rfl (lv_at hl 1 rfl) ?_
    refine cg_X3_15 X hS dX3_uses_22 ?_
    obtain ⟨r_17, u_16, h_u_16, h⟩ := bc_of h
    refine kc_X9_here_RX3 X  hS h_u_16 (Nat.le_trans (Nat.le_of_ble_eq_true rfl) hF) (Nat.le_trans (Nat.le_of_ble_eq_true rfl) hL) hl.1 (Nat.le_of_ble_eq_true rfl) dX3_uses_25 (fun H locs hS => ?_)
    obtain ⟨y_19, u_18, h_u_18, h⟩ := bt_of h
    refine kc_X9_refuse_RX3 hst X  hS h_u_18 (Nat.le_trans (Nat.le_of_ble_eq_true rfl) hF) (Nat.le_trans (Nat.le_of_ble_eq_true rfl) hL) hC hl.1 (Nat.le_of_ble_eq_true rfl) dX3_uses_28 (fun r_u_18 hr_u_18 H locs hS => ?_) (fun x9 hn H locs q9 ce hS a1 a2 a3 => by obtain ⟨e2, rfl⟩ := bt_no h hn; exact hX _ e2 _ _ _ _ _ _ _ hS a1 a2 a3)
    replace h := bt_ok h hr_u_18
    exact b_X3_uses_31 X hE hst hX hC hF hL  h z_14 hS (lv_sub hl [1, 0] rfl)
def F_X3_uses (N : Nat) (u : CSt) : Option ((Sum Nat Int32) × CSt) := B_X3_uses_0 N u
set_option maxHeartbeats 4000000 in
theorem k_X3_uses (l : Launch) (hst : l.stackTraces = false) (D : va_G) (kA : Nat → ClassId) (V Z : Nat → Nat) (N : Nat) (u : CSt) (sz : Nat) {y : (Sum Nat Int32)} {w : CSt} (h : F_X3_uses N u = some (y, w)) : vx_Met l yX3_uses (Cond.code yX3_uses cX3_uses 3 none :: GW) { frames := 9, cells := 1, slots := 6, locals := 173 } (cPc D kA V Z [.ref (Z 227)] u sz) (cQvx D kA Z u sz y w) (cXc D kA Z u sz y w) 1 6 (va_A (CW kA Z u) sz) := by
  refine vx_ofW (cc := cX3_uses) (maxL := 3) (ret := none) (by decide) rfl ?_
  intro p e s m args below meth c s₁ Bd hml hxt hv
  obtain ⟨rfl, hsz, hP, hK, hD0, hE⟩ := hv
  have hts := atoms_spec (ws := Cond.code yX3_uses cX3_uses 3 none :: GW) Bd.pre
  have hl := lv_entry ([.ref (Z 227)]) (n := 3) (Nat.le_of_ble_eq_true rfl)
  rw [lg_entry_eq]
  generalize (lg_sl ([.ref (Z 227)]) ++ List.replicate (3 - (lg_sl ([.ref (Z 227)])).length) Slot.unset).toArray = ls at hl ⊢
  have hl : lv_has ls 3 [(0, .ref (Z 227))] := hl
  subst hsz
  have X : CC p s m ([.ref (Z 227)]).toArray c cX3_uses 3 (Cond.code yX3_uses cX3_uses 3 none) RX3 D kA V (va_A (CW kA Z u) s.heap.size) := ⟨⟨Bd.exec, Bd.bytes, hml, findClass_of_methodNamed Bd.named, hts⟩, hK, hE, fun q h => Or.inr h⟩
  refine b_X3_uses_0 X (cend_vx X Bd.returns Bd.notSynchronized) hst (cend_X X hxt Bd.notSynchronized) ⟨Nat.le_refl _, Nat.le_refl _⟩ (Nat.le_refl _) (Nat.le_refl _) h  ⟨hP, hD0.self, va_S.rf⟩ (lv_sub hl [0] rfl)
theorem kc_X3_uses_RX3 {cc : ByteArray} {pc nL : Nat} {c0 : Cond} {rest : List Value} {u w1 : CSt} {y1 : (Sum Nat Int32)} (hst : l.stackTraces = false) (X : CC p s m args c cc nL c0 RX3 D kA V A)  (hS : CS D kA Z A s u H locs) (h : F_X3_uses N u = some (y1, w1)) (hF : 9 + 1 ≤ R.frames) (hL : 8 + (3 + 11) + 173 ≤ R.locals) (hC : 1 ≤ R.cells ∧ 6 ≤ R.slots) (hl : ls.size = nL) (hc : (rest.map fun v => v.category).sum ≤ 8) (hdg : decode cc pc = .ok (.invokevirtual 87, 3)) (kk : ∀ r, y1 = .inr r → ∀ H locs, CS D kA Z A s w1 H locs → W p l e R s m args below meth c H locs 0 0 Q (F0 m (pc + 3) ls (rest))) (kx : ∀ x, y1 = .inl x → ∀ (H : Heap) (locs : List Loc) (q : Addr) (ce : Cell), CS D kA Z A s w1 H locs → H[q]? = some ce → ce.vm = .none → s.vm.findClass (exN x) = some ce.cls → vx_W p l e R s m args below meth c H locs 1 6 Q (F0 m pc ls rest) q) : W p l e R s m args below meth c H locs 0 0 Q (F0 m pc ls (.ref (Z 227) :: rest)) :=
  ccall_vx (n := 0) X hS (k_X3_uses l hst D kA V Z N   u H.size h) (gw_V gw_1354 gw_1356 gs_6_0 gw_13 gw_1357) (by decide +kernel) (va_recv X.2.1 hS.1 (ci := 3) (q0 := 27) rfl (cw_lit rfl)) hF hL hC rfl hl hc rfl hdg kk kx
def B_X3_parameter_19 (N : Nat) (u : CSt) : Option ((Sum Nat Int32) × CSt) := bc (F_X9_takeKind N u) fun r_2 u_1 => bc (F_X9_here N u_1) fun r_4 u_3 => bt (F_X3_newName N 5 u_3) fun r_6 u_5 => ok (r_6 < 338) inferInstance <| pc (xmI u_5 r_6 5 r_2) fun u_9 => pc (xmI u_9 r_6 7 1) fun u_10 => bt (F_X3_join N r_6 r_4 u_10) fun _ u_11 => some (.inr 0, u_11)
set_option maxHeartbeats 4000000 in
theorem b_X3_parameter_19 {y : (Sum Nat Int32)} (X : CC p s m args c cX3_parameter 4 (Cond.code yX3_parameter cX3_parameter 4 none) RX3 D kA V A) (hE : CEvx p l e R s m args below meth c cX3_parameter D kA Z A Q y w) (hst : l.stackTraces = false) (hX : CX p l e R s m args below meth c D kA Z A Q y w) (hC : 1 ≤ R.cells ∧ 6 ≤ R.slots) (hF : 8 ≤ R.frames) (hL : 148 ≤ R.locals) {u : CSt}  (h : B_X3_parameter_19 N u = some (y, w))  (hS : CS D kA Z A s u H locs) (hl : lv_has ls 4 [(0, .ref (Z 227))]) : W p l e R s m args below meth c H locs 0 0 Q (F0 m 19 ls []) := by
  obtain ⟨⟨hx, hb, hml, hown, hts⟩, hK, hEV, hA⟩ := id X
  have hG : ∀ w ∈ GW, w.before args s = true := fun w h => hts w (List.mem_cons_of_mem _ h)
  unfold B_X3_parameter_19 at h
  refine lv_aload_n hx hb dX3_parameter_19 rfl (lv_at hl 0 rfl) ?_
  refine cg_X3_15 X hS dX3_parameter_20 ?_
  obtain ⟨r_2, u_1, h_u_1, h⟩ := bc_of h
  refine kc_X9_takeKind_RX3 X  hS h_u_1 (Nat.le_trans (Nat.le_of_ble_eq_true rfl) hF) (Nat.le_trans (Nat.le_of_ble_eq_true rfl) hL) hl.1 (Nat.le_of_ble_eq_true rfl) dX3_parameter_23 (fun H locs hS => ?_)
  refine lv_istore_n (lv' := [(1, .int r_2), (0, .ref (Z 227))]) hx hb dX3_parameter_26 rfl hl (by decide) rfl (fun ls hl => ?_)
  refine lv_aload_n hx hb dX3_parameter_27 rfl (lv_at hl 1 rfl) ?_
  refine cg_X3_15 X hS dX3_parameter_28 ?_
  obtain ⟨r_4, u_3, h_u_3, h⟩ := bc_of h
  refine kc_X9_here_RX3 X  hS h_u_3 (Nat.le_trans (Nat.le_of_ble_eq_true rfl) hF) (Nat.le_trans (Nat.le_of_ble_eq_true rfl) hL) hl.1 (Nat.le_of_ble_eq_true rfl) dX3_parameter_31 (fun H locs hS => ?_)
  refine lv_istore_n (lv' := [(2, .int r_4), (1, .int r_2), (0, .ref (Z 227))]) hx hb dX3_parameter_34 rfl hl (by decide) rfl (fun ls hl => ?_)
  refine lv_aload_n hx hb dX3_parameter_35 rfl (lv_at hl 2 rfl) ?_
  refine lv_iconst (v := 5) hx hb dX3_parameter_36 (by decide) ?_
  obtain ⟨y_7, u_5, h_u_5, h⟩ := bt_of h
  refine kc_X3_newName_RX3 hst X  hS h_u_5 (Nat.le_trans (Nat.le_of_ble_eq_true rfl) hF) (Nat.le_trans (Nat.le_of_ble_eq_true rfl) hL) hC hl.1 (Nat.le_of_ble_eq_true rfl) dX3_parameter_37 (fun r_6 hr_u_5 H locs hS => ?_) (fun x9 hn H locs q9 ce hS a1 a2 a3 => by obtain ⟨e2, rfl⟩ := bt_no h hn; exact hX _ e2 _ _ _ _ _ _ _ hS a1 a2 a3)
  replace h := bt_ok h hr_u_5
  obtain ⟨z_8, h⟩ := ok_of h
  refine lv_astore_n (lv' := [(3, .ref (Z (1000 + r_6))), (2, .int r_4), (1, .int r_2), (0, .ref (Z 227))]) hx hb dX3_parameter_40 rfl hl (by decide) rfl (fun ls hl => ?_)
  refine lv_aload_n hx hb dX3_parameter_41 rfl (lv_at hl 0 rfl) ?_
  refine lv_iload_n hx hb dX3_parameter_42 rfl (lv_at hl 2 rfl) ?_
  obtain ⟨u_9, e_u_9, h⟩ := pc_of h
  refine cp_X3_146 X z_8 hS e_u_9 dX3_parameter_43 (fun H locs hS => ?_)
  refine lv_aload_n hx hb dX3_parameter_46 rfl (lv_at hl 0 rfl) ?_
  refine lv_iconst (v := 1) hx hb dX3_parameter_47 (by decide) ?_
  obtain ⟨u_10, e_u_10, h⟩ := pc_of h
  refine cp_X3_149 X z_8 hS e_u_10 dX3_parameter_48 (fun H locs hS => ?_)
  refine lv_aload_n hx hb dX3_parameter_51 rfl (lv_at hl 3 rfl) ?_
  refine lv_aload_n hx hb dX3_parameter_52 rfl (lv_at hl 0 rfl) ?_
  refine lv_iload_n hx hb dX3_parameter_53 rfl (lv_at hl 1 rfl) ?_
  obtain ⟨y_12, u_11, h_u_11, h⟩ := bt_of h
  refine kc_X3_join_RX3 hst X z_8 hS h_u_11 (Nat.le_trans (Nat.le_of_ble_eq_true rfl) hF) (Nat.le_trans (Nat.le_of_ble_eq_true rfl) hL) hC hl.1 (Nat.le_of_ble_eq_true rfl) dX3_parameter_54 (fun r_u_11 hr_u_11 H locs hS => ?_) (fun x9 hn H locs q9 ce hS a1 a2 a3 => by obtain ⟨e2, rfl⟩ := bt_no h hn; exact hX _ e2 _ _ _ _ _ _ _ hS a1 a2 a3)
  replace h := bt_ok h hr_u_11
  obtain ⟨e9, rfl⟩ := so9 h
  exact hE _ e9.symm _ _ _ _ hS dX3_parameter_57
def B_X3_parameter_0 (N : Nat) (u : CSt) : Option ((Sum Nat Int32) × CSt) := bc (F_X9_is N 44 u) fun r_14 u_13 => if r_14 = (0 : Int32) then (B_X3_parameter_19 N u_13) else (bc (F_X9_next N u_13) fun _ u_16 => B_X3_parameter_19 N u_16)
set_option maxHeartbeats 4000000 in
theorem b_X3_parameter_0 {y : (Sum Nat Int32)} (X : CC p s m args c cX3_parameter 4 (Cond.code yX3_parameter cX3_parameter 4 none) RX3 D kA V A) (hE : CEvx p l e R s m args below meth c cX3_parameter D kA Z A Q y w) (hst : l.stackTraces = false) (hX : CX p l e R s m args below meth c D kA Z A Q y w) (hC : 1 ≤ R.cells ∧ 6 ≤ R.slots) (hF : 8 ≤ R.frames) (hL : 148 ≤ R.locals) {u : CSt}  (h : B_X3_parameter_0 N u = some (y, w))  (hS : CS D kA Z A s u H locs) (hl : lv_has ls 4 [(0, .ref (Z 227))]) : W p l e R s m args below meth c H locs 0 0 Q (F0 m 0 ls []) := by
  obtain ⟨⟨hx, hb, hml, hown, hts⟩, hK, hEV, hA⟩ := id X
  have hG : ∀ w ∈ GW, w.before args s = true := fun w h => hts w (List.mem_cons_of_mem _ h)
  unfold B_X3_parameter_0 at h
  refine lv_aload_n hx hb dX3_parameter_0 rfl (lv_at hl 0 rfl) ?_
  refine cg_X3_15 X hS dX3_parameter_1 ?_
  refine lv_bipush (v := 44) hx hb dX3_parameter_4 (by decide) ?_
  obtain ⟨r_14, u_13, h_u_13, h⟩ := bc_of h
  refine kc_X9_is_RX3 X  hS h_u_13 (Nat.le_trans (Nat.le_of_ble_eq_true rfl) hF) (Nat.le_trans (Nat.le_of_ble_eq_true rfl) hL) hl.1 (Nat.le_of_ble_eq_true rfl) dX3_parameter_6 (fun H locs hS => ?_)
  refine lv_if_eq (tgt := 19) hx hb dX3_parameter_9 (by decide) (fun c_15 => ?_) (fun c_15 => ?_)
  · have h := ip (c_15) h
    exact b_X3_parameter_19 X hE hst hX hC hF hL  h  hS (lv_sub hl [0] rfl)
  · have h := im (c_15) h
    refine lv_aload_n hx hb dX3_parameter_12 rfl (lv_at hl 0 rfl) ?_
    refine cg_X3_15 X hS dX3_parameter_13 ?_
    obtain ⟨r_u_16, u_16, h_u_16, h⟩ := bc_of h
    refine kc_X9_next_RX3 X  hS h_u_16 (Nat.le_trans (Nat.le_of_ble_eq_true rfl) hF) (Nat.le_trans (Nat.le_of_ble_eq_true rfl) hL) hl.1 (Nat.le_of_ble_eq_true rfl) dX3_parameter_16 (fun H locs hS => ?_)
    exact b_X3_parameter_19 X hE hst hX hC hF hL  h  hS (lv_sub hl [0] rfl)
def F_X3_parameter (N : Nat) (u : CSt) : Option ((Sum Nat Int32) × CSt) := B_X3_parameter_0 N u
set_option maxHeartbeats 4000000 in
theorem k_X3_parameter (l : Launch) (hst : l.stackTraces = false) (D : va_G) (kA : Nat → ClassId) (V Z : Nat → Nat) (N : Nat) (u : CSt) (sz : Nat) {y : (Sum Nat Int32)} {w : CSt} (h : F_X3_parameter N u = some (y, w)) : vx_Met l yX3_parameter (Cond.code yX3_parameter cX3_parameter 4 none :: GW) { frames := 8, cells := 1, slots := 6, locals := 148 } (cPc D kA V Z [.ref (Z 227)] u sz) (cQvx D kA Z u sz y w) (cXc D kA Z u sz y w) 1 6 (va_A (CW kA Z u) sz) := by
  refine vx_ofW (cc := cX3_parameter) (maxL := 4) (ret := none) (by decide) rfl ?_
  intro p e s m args below meth c s₁ Bd hml hxt hv
  obtain ⟨rfl, hsz, hP, hK, hD0, hE⟩ := hv
  have hts := atoms_spec (ws := Cond.code yX3_parameter cX3_parameter 4 none :: GW) Bd.pre
  have hl := lv_entry ([.ref (Z 227)]) (n := 4) (Nat.le_of_ble_eq_true rfl)
  rw [lg_entry_eq]
  generalize (lg_sl ([.ref (Z 227)]) ++ List.replicate (4 - (lg_sl ([.ref (Z 227)])).length) Slot.unset).toArray = ls at hl ⊢
  have hl : lv_has ls 4 [(0, .ref (Z 227))] := hl
  subst hsz
  have X : CC p s m ([.ref (Z 227)]).toArray c cX3_parameter 4 (Cond.code yX3_parameter cX3_parameter 4 none) RX3 D kA V (va_A (CW kA Z u) s.heap.size) := ⟨⟨Bd.exec, Bd.bytes, hml, findClass_of_methodNamed Bd.named, hts⟩, hK, hE, fun q h => Or.inr h⟩
  refine b_X3_parameter_0 X (cend_vx X Bd.returns Bd.notSynchronized) hst (cend_X X hxt Bd.notSynchronized) ⟨Nat.le_refl _, Nat.le_refl _⟩ (Nat.le_refl _) (Nat.le_refl _) h  ⟨hP, hD0.self, va_S.rf⟩ (lv_sub hl [0] rfl)
theorem kc_X3_parameter_RX3 {cc : ByteArray} {pc nL : Nat} {c0 : Cond} {rest : List Value} {u w1 : CSt} {y1 : (Sum Nat Int32)} (hst : l.stackTraces = false) (X : CC p s m args c cc nL c0 RX3 D kA V A)  (hS : CS D kA Z A s u H locs) (h : F_X3_parameter N u = some (y1, w1)) (hF : 8 + 1 ≤ R.frames) (hL : 8 + (4 + 11) + 148 ≤ R.locals) (hC : 1 ≤ R.cells ∧ 6 ≤ R.slots) (hl : ls.size = nL) (hc : (rest.map fun v => v.category).sum ≤ 8) (hdg : decode cc pc = .ok (.invokevirtual 224, 3)) (kk : ∀ r, y1 = .inr r → ∀ H locs, CS D kA Z A s w1 H locs → W p l e R s m args below meth c H locs 0 0 Q (F0 m (pc + 3) ls (rest))) (kx : ∀ x, y1 = .inl x → ∀ (H : Heap) (locs : List Loc) (q : Addr) (ce : Cell), CS D kA Z A s w1 H locs → H[q]? = some ce → ce.vm = .none → s.vm.findClass (exN x) = some ce.cls → vx_W p l e R s m args below meth c H locs 1 6 Q (F0 m pc ls rest) q) : W p l e R s m args below meth c H locs 0 0 Q (F0 m pc ls (.ref (Z 227) :: rest)) :=
  ccall_vx (n := 0) X hS (k_X3_parameter l hst D kA V Z N   u H.size h) (gw_V gw_1098 gw_1100 gs_4_1 gw_13 gw_1101) (by decide +kernel) (va_recv X.2.1 hS.1 (ci := 3) (q0 := 27) rfl (cw_lit rfl)) hF hL hC rfl hl hc rfl hdg kk kx
def B_X3_put_0 (N : Nat) (l1 : Nat) (l2 : Int32) (u : CSt) : Option (Int32 × CSt) := if (mI u l1 8) = (0 : Int32) then (bc (F_X8_set N l1 l2 u) fun _ u_2 => some (0, u_2)) else (ok (cR u 2 < 2) inferInstance <| bc (F_X6_step N (cR u 2) 15 0 (mI u l1 5) l2 u) fun r_5 u_4 => some (0, u_4))
set_option maxHeartbeats 4000000 in
theorem b_X3_put_0 {r : Int32} (X : CC p s m args c cX3_put 3 (Cond.code yX3_put cX3_put 3 none) RX3 D kA V A) (hE : CEv p l e R s m args below meth c cX3_put D kA Z A Q w) (hF : 2 ≤ R.frames) (hL : 47 ≤ R.locals) {l1 : Nat} {l2 : Int32} {u : CSt}  (h : B_X3_put_0 N l1 l2 u = some (r, w)) (h_l1 : l1 < 338) (hS : CS D kA Z A s u H locs) (hl : lv_has ls 3 [(0, .ref (Z 227)), (1, .ref (Z (1000 + l1))), (2, .int l2)]) : W p l e R s m args below meth c H locs 0 0 Q (F0 m 0 ls []) := by
  obtain ⟨⟨hx, hb, hml, hown, hts⟩, hK, hEV, hA⟩ := id X
  have hG : ∀ w ∈ GW, w.before args s = true := fun w h => hts w (List.mem_cons_of_mem _ h)
  unfold B_X3_put_0 at h
  refine lv_aload_n hx hb dX3_put_0 rfl (lv_at hl 1 rfl) ?_
  refine cg_X3_152 X h_l1 hS dX3_put_1 ?_
  refine lv_if_eq (tgt := 26) hx hb dX3_put_4 (by decide) (fun c_1 => ?_) (fun c_1 => ?_)
  · have h := ip (c_1) h
    refine lv_aload_n hx hb dX3_put_26 rfl (lv_at hl 0 rfl) ?_
    refine cg_X3_28 X hS dX3_put_27 ?_
    refine lv_aload_n hx hb dX3_put_30 rfl (lv_at hl 1 rfl) ?_
    refine lv_iload_n hx hb dX3_put_31 rfl (lv_at hl 2 rfl) ?_
    obtain ⟨r_u_2, u_2, h_u_2, h⟩ := bc_of h
    refine kc_X8_set_RX3 X h_l1 hS h_u_2 (Nat.le_trans (Nat.le_of_ble_eq_true rfl) hF) (Nat.le_trans (Nat.le_of_ble_eq_true rfl) hL) hl.1 (Nat.le_of_ble_eq_true rfl) dX3_put_32 (fun H locs hS => ?_)
    obtain ⟨-, rfl⟩ := so9 h
    exact hE _ _ _ _ hS dX3_put_35
  · have h := im (c_1) h
    refine lv_aload_n hx hb dX3_put_7 rfl (lv_at hl 0 rfl) ?_
    refine cg_X3_19 X hS dX3_put_8 ?_
    obtain ⟨z_3, h⟩ := ok_of h
    refine lv_bipush (v := 15) hx hb dX3_put_11 (by decide) ?_
    refine lv_iconst (v := 0) hx hb dX3_put_13 (by decide) ?_
    refine lv_aload_n hx hb dX3_put_14 rfl (lv_at hl 1 rfl) ?_
    refine cg_X3_146 X h_l1 hS dX3_put_15 ?_
    refine lv_iload_n hx hb dX3_put_18 rfl (lv_at hl 2 rfl) ?_
    obtain ⟨r_5, u_4, h_u_4, h⟩ := bc_of h
    refine kc_X6_step_RX3 X z_3 hS h_u_4 (Nat.le_trans (Nat.le_of_ble_eq_true rfl) hF) (Nat.le_trans (Nat.le_of_ble_eq_true rfl) hL) hl.1 (Nat.le_of_ble_eq_true rfl) dX3_put_19 (fun H locs hS => ?_)
    refine lv_pop hx hb dX3_put_22 rfl ?_
    refine lv_goto (tgt := 35) hx hb dX3_put_23 (by decide) ?_
    obtain ⟨-, rfl⟩ := so9 h
    exact hE _ _ _ _ hS dX3_put_35
def F_X3_put (N : Nat) (l1 : Nat) (l2 : Int32) (u : CSt) : Option (Int32 × CSt) := B_X3_put_0 N l1 l2 u
set_option maxHeartbeats 4000000 in
theorem k_X3_put (l : Launch) (D : va_G) (kA : Nat → ClassId) (V Z : Nat → Nat) (N : Nat) (l1 : Nat) (l2 : Int32) (h_l1 : l1 < 338) (u : CSt) (sz : Nat) {r : Int32} {w : CSt} (h : F_X3_put N l1 l2 u = some (r, w)) : Met l yX3_put (Cond.code yX3_put cX3_put 3 none :: GW) { frames := 2, cells := 0, slots := 0, locals := 47 } (cPc D kA V Z [.ref (Z 227), .ref (Z (1000 + l1)), .int l2] u sz) (cQv D kA Z u sz w) 0 0 (va_A (CW kA Z u) sz) := by
  refine Met.ofW (cc := cX3_put) (maxL := 3) (ret := none) (by decide) rfl ?_
  intro p e s m args below meth c s₁ Bd hml hv
  obtain ⟨rfl, hsz, hP, hK, hD0, hE⟩ := hv
  have hts := atoms_spec (ws := Cond.code yX3_put cX3_put 3 none :: GW) Bd.pre
  have hl := lv_entry ([.ref (Z 227), .ref (Z (1000 + l1)), .int l2]) (n := 3) (Nat.le_of_ble_eq_true rfl)
  rw [lg_entry_eq]
  generalize (lg_sl ([.ref (Z 227), .ref (Z (1000 + l1)), .int l2]) ++ List.replicate (3 - (lg_sl ([.ref (Z 227), .ref (Z (1000 + l1)), .int l2])).length) Slot.unset).toArray = ls at hl ⊢
  have hl : lv_has ls 3 [(0, .ref (Z 227)), (1, .ref (Z (1000 + l1))), (2, .int l2)] := hl
  subst hsz
  have X : CC p s m ([.ref (Z 227), .ref (Z (1000 + l1)), .int l2]).toArray c cX3_put 3 (Cond.code yX3_put cX3_put 3 none) RX3 D kA V (va_A (CW kA Z u) s.heap.size) := ⟨⟨Bd.exec, Bd.bytes, hml, findClass_of_methodNamed Bd.named, hts⟩, hK, hE, fun q h => Or.inr h⟩
  refine b_X3_put_0 X (cend_v X Bd.returns Bd.notSynchronized) (Nat.le_refl _) (Nat.le_refl _) h h_l1 ⟨hP, hD0.self, va_S.rf⟩ (lv_sub hl [0, 1, 2] rfl)
theorem kc_X3_put_RX3 {cc : ByteArray} {pc nL : Nat} {c0 : Cond} {rest : List Value} {l1 : Nat} {l2 : Int32} {u w1 : CSt} {r : Int32} (X : CC p s m args c cc nL c0 RX3 D kA V A) (h_l1 : l1 < 338) (hS : CS D kA Z A s u H locs) (h : F_X3_put N l1 l2 u = some (r, w1)) (hF : 2 + 1 ≤ R.frames) (hL : 8 + (3 + 11) + 47 ≤ R.locals) (hl : ls.size = nL) (hc : (rest.map fun v => v.category).sum ≤ 8) (hdg : decode cc pc = .ok (.invokevirtual 313, 3)) (kk : ∀ H locs, CS D kA Z A s w1 H locs → W p l e R s m args below meth c H locs 0 0 Q (F0 m (pc + 3) ls (rest))) : W p l e R s m args below meth c H locs 0 0 Q (F0 m pc ls (.int l2 :: .ref (Z (1000 + l1)) :: .ref (Z 227) :: rest)) :=
  ccall_v (n := 2) X hS (k_X3_put l D kA V Z N l1 l2 h_l1 u H.size h) (gw_V gw_1345 gw_1347 gs_5_14 gw_13 gw_1348) (by decide +kernel) (va_recv X.2.1 hS.1 (ci := 3) (q0 := 27) rfl (cw_lit rfl)) hF hL rfl hl hc rfl hdg kk
def B_X3_setPlain_0 (N : Nat) (l1 : Nat) (u : CSt) : Option ((Sum Nat Int32) × CSt) := bc (F_X9_here N u) fun r_2 u_1 => bc (F_X9_next N u_1) fun _ u_3 => bt (G_X8_expression N u_3) fun r_5 u_4 => bc (F_X8_isTooWide N r_5 (mI u_4 l1 5) u_4) fun r_8 u_7 => if r_8 = (0 : Int32) then (some (.inr 0, u_7)) else (bt (F_X9_refuse N 4 r_2 u_7) fun _ u_10 => some (.inr 0, u_10))
set_option maxHeartbeats 4000000 in
theorem b_X3_setPlain_0 {y : (Sum Nat Int32)} (X : CC p s m args c cX3_setPlain 4 (Cond.code yX3_setPlain cX3_setPlain 4 none) RX3 D kA V A) (hE : CEvx p l e R s m args below meth c cX3_setPlain D kA Z A Q y w) (hst : l.stackTraces = false) (hX : CX p l e R s m args below meth c D kA Z A Q y w) (hC : 1 ≤ R.cells ∧ 6 ≤ R.slots) (hF : 321 ≤ R.frames) (hL : 18726 ≤ R.locals) {l1 : Nat} {u : CSt}  (h : B_X3_setPlain_0 N l1 u = some (y, w)) (h_l1 : l1 < 338) (hS : CS D kA Z A s u H locs) (hl : lv_has ls 4 [(0, .ref (Z 227)), (1, .ref (Z (1000 + l1)))]) : W p l e R s m args below meth c H locs 0 0 Q (F0 m 0 ls []) := by
  obtain ⟨⟨hx, hb, hml, hown, hts⟩, hK, hEV, hA⟩ := id X
  have hG : ∀ w ∈ GW, w.before args s = true := fun w h => hts w (List.mem_cons_of_mem _ h)
  unfold B_X3_setPlain_0 at h
  refine lv_aload_n hx hb dX3_setPlain_0 rfl (lv_at hl 0 rfl) ?_
  refine cg_X3_15 X hS dX3_setPlain_1 ?_
  obtain ⟨r_2, u_1, h_u_1, h⟩ := bc_of h
  refine kc_X9_here_RX3 X  hS h_u_1 (Nat.le_trans (Nat.le_of_ble_eq_true rfl) hF) (Nat.le_trans (Nat.le_of_ble_eq_true rfl) hL) hl.1 (Nat.le_of_ble_eq_true rfl) dX3_setPlain_4 (fun H locs hS => ?_)
  refine lv_istore_n (lv' := [(2, .int r_2), (0, .ref (Z 227)), (1, .ref (Z (1000 + l1)))]) hx hb dX3_setPlain_7 rfl hl (by decide) rfl (fun ls hl => ?_)
  refine lv_aload_n hx hb dX3_setPlain_8 rfl (lv_at hl 1 rfl) ?_
  refine cg_X3_15 X hS dX3_setPlain_9 ?_
  obtain ⟨r_u_3, u_3, h_u_3, h⟩ := bc_of h
  refine kc_X9_next_RX3 X  hS h_u_3 (Nat.le_trans (Nat.le_of_ble_eq_true rfl) hF) (Nat.le_trans (Nat.le_of_ble_eq_true rfl) hL) hl.1 (Nat.le_of_ble_eq_true rfl) dX3_setPlain_12 (fun H locs hS => ?_)
  refine lv_aload_n hx hb dX3_setPlain_15 rfl (lv_at hl 1 rfl) ?_
  refine cg_X3_28 X hS dX3_setPlain_16 ?_
  obtain ⟨y_6, u_4, h_u_4, h⟩ := bt_of h
  refine kg_X8_expression_RX3 hst X  hS h_u_4 (Nat.le_trans (Nat.le_of_ble_eq_true rfl) hF) (Nat.le_trans (Nat.le_of_ble_eq_true rfl) hL) hC hl.1 (Nat.le_of_ble_eq_true rfl) dX3_setPlain_19 (fun r_5 hr_u_4 H locs hS => ?_) (fun x9 hn H locs q9 ce hS a1 a2 a3 => by obtain ⟨e2, rfl⟩ := bt_no h hn; exact hX _ e2 _ _ _ _ _ _ _ hS a1 a2 a3)
  replace h := bt_ok h hr_u_4
  refine lv_istore_n (lv' := [(3, .int r_5), (2, .int r_2), (0, .ref (Z 227)), (1, .ref (Z (1000 + l1)))]) hx hb dX3_setPlain_22 rfl hl (by decide) rfl (fun ls hl => ?_)
  refine lv_aload_n hx hb dX3_setPlain_23 rfl (lv_at hl 2 rfl) ?_
  refine cg_X3_28 X hS dX3_setPlain_24 ?_
  refine lv_iload_n hx hb dX3_setPlain_27 rfl (lv_at hl 0 rfl) ?_
  refine lv_aload_n hx hb dX3_setPlain_28 rfl (lv_at hl 3 rfl) ?_
  refine cg_X3_146 X h_l1 hS dX3_setPlain_29 ?_
  obtain ⟨r_8, u_7, h_u_7, h⟩ := bc_of h
  refine kc_X8_isTooWide_RX3 X  hS h_u_7 (Nat.le_trans (Nat.le_of_ble_eq_true rfl) hF) (Nat.le_trans (Nat.le_of_ble_eq_true rfl) hL) hl.1 (Nat.le_of_ble_eq_true rfl) dX3_setPlain_32 (fun H locs hS => ?_)
  refine lv_if_eq (tgt := 47) hx hb dX3_setPlain_35 (by decide) (fun c_9 => ?_) (fun c_9 => ?_)
  · have h := ip (c_9) h
    obtain ⟨e9, rfl⟩ := so9 h
    exact hE _ e9.symm _ _ _ _ hS dX3_setPlain_47
  · have h := im (c_9) h
    refine lv_aload_n hx hb dX3_setPlain_38 rfl (lv_at hl 2 rfl) ?_
    refine cg_X3_15 X hS dX3_setPlain_39 ?_
    refine lv_iconst (v := 4) hx hb dX3_setPlain_42 (by decide) ?_
    refine lv_iload_n hx hb dX3_setPlain_43 rfl (lv_at hl 1 rfl) ?_
    obtain ⟨y_11, u_10, h_u_10, h⟩ := bt_of h
    refine kc_X9_refuse_RX3 hst X  hS h_u_10 (Nat.le_trans (Nat.le_of_ble_eq_true rfl) hF) (Nat.le_trans (Nat.le_of_ble_eq_true rfl) hL) hC hl.1 (Nat.le_of_ble_eq_true rfl) dX3_setPlain_44 (fun r_u_10 hr_u_10 H locs hS => ?_) (fun x9 hn H locs q9 ce hS a1 a2 a3 => by obtain ⟨e2, rfl⟩ := bt_no h hn; exact hX _ e2 _ _ _ _ _ _ _ hS a1 a2 a3)
    replace h := bt_ok h hr_u_10
    obtain ⟨e9, rfl⟩ := so9 h
    exact hE _ e9.symm _ _ _ _ hS dX3_setPlain_47
def F_X3_setPlain (N : Nat) (l1 : Nat) (u : CSt) : Option ((Sum Nat Int32) × CSt) := B_X3_setPlain_0 N l1 u
set_option maxHeartbeats 4000000 in
theorem k_X3_setPlain (l : Launch) (hst : l.stackTraces = false) (D : va_G) (kA : Nat → ClassId) (V Z : Nat → Nat) (N : Nat) (l1 : Nat) (h_l1 : l1 < 338) (u : CSt) (sz : Nat) {y : (Sum Nat Int32)} {w : CSt} (h : F_X3_setPlain N l1 u = some (y, w)) : vx_Met l yX3_setPlain (Cond.code yX3_setPlain cX3_setPlain 4 none :: GW) { frames := 321, cells := 1, slots := 6, locals := 18726 } (cPc D kA V Z [.ref (Z 227), .ref (Z (1000 + l1))] u sz) (cQvx D kA Z u sz y w) (cXc D kA Z u sz y w) 1 6 (va_A (CW kA Z u) sz) := by
  refine vx_ofW (cc := cX3_setPlain) (maxL := 4) (ret := none) (by decide) rfl ?_
  intro p e s m args below meth c s₁ Bd hml hxt hv
  obtain ⟨rfl, hsz, hP, hK, hD0, hE⟩ := hv
  have hts := atoms_spec (ws := Cond.code yX3_setPlain cX3_setPlain 4 none :: GW) Bd.pre
  have hl := lv_entry ([.ref (Z 227), .ref (Z (1000 + l1))]) (n := 4) (Nat.le_of_ble_eq_true rfl)
  rw [lg_entry_eq]
  generalize (lg_sl ([.ref (Z 227), .ref (Z (1000 + l1))]) ++ List.replicate (4 - (lg_sl ([.ref (Z 227), .ref (Z (1000 + l1))])).length) Slot.unset).toArray = ls at hl ⊢
  have hl : lv_has ls 4 [(0, .ref (Z 227)), (1, .ref (Z (1000 + l1)))] := hl
  subst hsz
  have X : CC p s m ([.ref (Z 227), .ref (Z (1000 + l1))]).toArray c cX3_setPlain 4 (Cond.code yX3_setPlain cX3_setPlain 4 none) RX3 D kA V (va_A (CW kA Z u) s.heap.size) := ⟨⟨Bd.exec, Bd.bytes, hml, findClass_of_methodNamed Bd.named, hts⟩, hK, hE, fun q h => Or.inr h⟩
  refine b_X3_setPlain_0 X (cend_vx X Bd.returns Bd.notSynchronized) hst (cend_X X hxt Bd.notSynchronized) ⟨Nat.le_refl _, Nat.le_refl _⟩ (Nat.le_refl _) (Nat.le_refl _) h h_l1 ⟨hP, hD0.self, va_S.rf⟩ (lv_sub hl [0, 1] rfl)
theorem kc_X3_setPlain_RX3 {cc : ByteArray} {pc nL : Nat} {c0 : Cond} {rest : List Value} {l1 : Nat} {u w1 : CSt} {y1 : (Sum Nat Int32)} (hst : l.stackTraces = false) (X : CC p s m args c cc nL c0 RX3 D kA V A) (h_l1 : l1 < 338) (hS : CS D kA Z A s u H locs) (h : F_X3_setPlain N l1 u = some (y1, w1)) (hF : 321 + 1 ≤ R.frames) (hL : 8 + (4 + 11) + 18726 ≤ R.locals) (hC : 1 ≤ R.cells ∧ 6 ≤ R.slots) (hl : ls.size = nL) (hc : (rest.map fun v => v.category).sum ≤ 8) (hdg : decode cc pc = .ok (.invokevirtual 310, 3)) (kk : ∀ r, y1 = .inr r → ∀ H locs, CS D kA Z A s w1 H locs → W p l e R s m args below meth c H locs 0 0 Q (F0 m (pc + 3) ls (rest))) (kx : ∀ x, y1 = .inl x → ∀ (H : Heap) (locs : List Loc) (q : Addr) (ce : Cell), CS D kA Z A s w1 H locs → H[q]? = some ce → ce.vm = .none → s.vm.findClass (exN x) = some ce.cls → vx_W p l e R s m args below meth c H locs 1 6 Q (F0 m pc ls rest) q) : W p l e R s m args below meth c H locs 0 0 Q (F0 m pc ls (.ref (Z (1000 + l1)) :: .ref (Z 227) :: rest)) :=
  ccall_vx (n := 1) X hS (k_X3_setPlain l hst D kA V Z N l1 h_l1 u H.size h) (gw_V gw_1296 gw_1298 gs_5_6 gw_13 gw_1299) (by decide +kernel) (va_recv X.2.1 hS.1 (ci := 3) (q0 := 27) rfl (cw_lit rfl)) hF hL hC rfl hl hc rfl hdg kk kx
def B_X3_setBit_75 (N : Nat) (l1 : Nat) (l2 : Int32) (l3 : Int32) (u : CSt) : Option ((Sum Nat Int32) × CSt) := ok (cR u 2 < 2) inferInstance <| bc (F_X6_step N (cR u 2) 21 l2 0 l3 u) fun r_3 u_2 => bc (F_X3_put N l1 l3 u_2) fun _ u_4 => some (.inr 0, u_4)
set_option maxHeartbeats 4000000 in
theorem b_X3_setBit_75 {y : (Sum Nat Int32)} (X : CC p s m args c cX3_setBit 4 (Cond.code yX3_setBit cX3_setBit 4 none) RX3 D kA V A) (hE : CEvx p l e R s m args below meth c cX3_setBit D kA Z A Q y w) (hst : l.stackTraces = false) (hX : CX p l e R s m args below meth c D kA Z A Q y w) (hC : 1 ≤ R.cells ∧ 6 ≤ R.slots) (hF : 321 ≤ R.frames) (hL : 18726 ≤ R.locals) {l1 : Nat} {l2 : Int32} {l3 : Int32} {u : CSt}  (h : B_X3_setBit_75 N l1 l2 l3 u = some (y, w)) (h_l1 : l1 < 338) (hS : CS D kA Z A s u H locs) (hl : lv_has ls 4 [(0, .ref (Z 227)), (1, .ref (Z (1000 + l1))), (2, .int l2), (3, .int l3)]) : W p l e R s m args below meth c H locs 0 0 Q (F0 m 75 ls []) := by
  obtain ⟨⟨hx, hb, hml, hown, hts⟩, hK, hEV, hA⟩ := id X
  have hG : ∀ w ∈ GW, w.before args s = true := fun w h => hts w (List.mem_cons_of_mem _ h)
  unfold B_X3_setBit_75 at h
  refine lv_aload_n hx hb dX3_setBit_75 rfl (lv_at hl 0 rfl) ?_
  refine cg_X3_19 X hS dX3_setBit_76 ?_
  obtain ⟨z_1, h⟩ := ok_of h
  refine lv_bipush (v := 21) hx hb dX3_setBit_79 (by decide) ?_
  refine lv_iload_n hx hb dX3_setBit_81 rfl (lv_at hl 2 rfl) ?_
  refine lv_iconst (v := 0) hx hb dX3_setBit_82 (by decide) ?_
  refine lv_iload_n hx hb dX3_setBit_83 rfl (lv_at hl 3 rfl) ?_
  obtain ⟨r_3, u_2, h_u_2, h⟩ := bc_of h
  refine kc_X6_step_RX3 X z_1 hS h_u_2 (Nat.le_trans (Nat.le_of_ble_eq_true rfl) hF) (Nat.le_trans (Nat.le_of_ble_eq_true rfl) hL) hl.1 (Nat.le_of_ble_eq_true rfl) dX3_setBit_84 (fun H locs hS => ?_)
  refine lv_pop hx hb dX3_setBit_87 rfl ?_
  refine lv_aload_n hx hb dX3_setBit_88 rfl (lv_at hl 0 rfl) ?_
  refine lv_aload_n hx hb dX3_setBit_89 rfl (lv_at hl 1 rfl) ?_
  refine lv_iload_n hx hb dX3_setBit_90 rfl (lv_at hl 3 rfl) ?_
  obtain ⟨r_u_4, u_4, h_u_4, h⟩ := bc_of h
  refine kc_X3_put_RX3 X h_l1 hS h_u_4 (Nat.le_trans (Nat.le_of_ble_eq_true rfl) hF) (Nat.le_trans (Nat.le_of_ble_eq_true rfl) hL) hl.1 (Nat.le_of_ble_eq_true rfl) dX3_setBit_91 (fun H locs hS => ?_)
  obtain ⟨e9, rfl⟩ := so9 h
  exact hE _ e9.symm _ _ _ _ hS dX3_setBit_94
def B_X3_setBit_27 (N : Nat) (l1 : Nat) (l2 : Int32) (l3 : Int32) (u : CSt) : Option ((Sum Nat Int32) × CSt) := bc (F_X9_next N u) fun _ u_5 => bt (G_X8_expression N u_5) fun r_7 u_6 => if (mI u_6 l1 8) = (0 : Int32) then (bc (F_X8_get N l1 0 l3 u_6) fun _ u_10 => B_X3_setBit_75 N l1 l2 l3 u_10) else (ok (cR u_6 2 < 2) inferInstance <| bc (F_X6_step N (cR u_6 2) 14 0 0 l3 u_6) fun r_13 u_12 => B_X3_setBit_75 N l1 l2 l3 u_12)
set_option maxHeartbeats 4000000 in
theorem b_X3_setBit_27 {y : (Sum Nat Int32)} (X : CC p s m args c cX3_setBit 4 (Cond.code yX3_setBit cX3_setBit 4 none) RX3 D kA V A) (hE : CEvx p l e R s m args below meth c cX3_setBit D kA Z A Q y w) (hst : l.stackTraces = false) (hX : CX p l e R s m args below meth c D kA Z A Q y w) (hC : 1 ≤ R.cells ∧ 6 ≤ R.slots) (hF : 321 ≤ R.frames) (hL : 18726 ≤ R.locals) {l1 : Nat} {l2 : Int32} {l3 : Int32} {u : CSt}  (h : B_X3_setBit_27 N l1 l2 l3 u = some (y, w)) (h_l1 : l1 < 338) (hS : CS D kA Z A s u H locs) (hl : lv_has ls 4 [(0, .ref (Z 227)), (1, .ref (Z (1000 + l1))), (2, .int l2), (3, .int l3)]) : W p l e R s m args below meth c H locs 0 0 Q (F0 m 27 ls []) := by
  obtain ⟨⟨hx, hb, hml, hown, hts⟩, hK, hEV, hA⟩ := id X
  have hG : ∀ w ∈ GW, w.before args s = true := fun w h => hts w (List.mem_cons_of_mem _ h)
  unfold B_X3_setBit_27 at h
  refine lv_aload_n hx hb dX3_setBit_27 rfl (lv_at hl 0 rfl) ?_
  refine cg_X3_15 X hS dX3_setBit_28 ?_
  obtain ⟨r_u_5, u_5, h_u_5, h⟩ := bc_of h
  refine kc_X9_next_RX3 X  hS h_u_5 (Nat.le_trans (Nat.le_of_ble_eq_true rfl) hF) (Nat.le_trans (Nat.le_of_ble_eq_true rfl) hL) hl.1 (Nat.le_of_ble_eq_true rfl) dX3_setBit_31 (fun H locs hS => ?_)
  refine lv_aload_n hx hb dX3_setBit_34 rfl (lv_at hl 0 rfl) ?_
  refine cg_X3_28 X hS dX3_setBit_35 ?_
  obtain ⟨y_8, u_6, h_u_6, h⟩ := bt_of h
  refine kg_X8_expression_RX3 hst X  hS h_u_6 (Nat.le_trans (Nat.le_of_ble_eq_true rfl) hF) (Nat.le_trans (Nat.le_of_ble_eq_true rfl) hL) hC hl.1 (Nat.le_of_ble_eq_true rfl) dX3_setBit_38 (fun r_7 hr_u_6 H locs hS => ?_) (fun x9 hn H locs q9 ce hS a1 a2 a3 => by obtain ⟨e2, rfl⟩ := bt_no h hn; exact hX _ e2 _ _ _ _ _ _ _ hS a1 a2 a3)
  replace h := bt_ok h hr_u_6
  refine lv_pop hx hb dX3_setBit_41 rfl ?_
  refine lv_aload_n hx hb dX3_setBit_42 rfl (lv_at hl 1 rfl) ?_
  refine cg_X3_152 X h_l1 hS dX3_setBit_43 ?_
  refine lv_if_eq (tgt := 65) hx hb dX3_setBit_46 (by decide) (fun c_9 => ?_) (fun c_9 => ?_)
  · have h := ip (c_9) h
    refine lv_aload_n hx hb dX3_setBit_65 rfl (lv_at hl 0 rfl) ?_
    refine cg_X3_28 X hS dX3_setBit_66 ?_
    refine lv_aload_n hx hb dX3_setBit_69 rfl (lv_at hl 1 rfl) ?_
    refine lv_iconst (v := 0) hx hb dX3_setBit_70 (by decide) ?_
    refine lv_iload_n hx hb dX3_setBit_71 rfl (lv_at hl 3 rfl) ?_
    obtain ⟨r_u_10, u_10, h_u_10, h⟩ := bc_of h
    refine kc_X8_get_RX3 X h_l1 hS h_u_10 (Nat.le_trans (Nat.le_of_ble_eq_true rfl) hF) (Nat.le_trans (Nat.le_of_ble_eq_true rfl) hL) hl.1 (Nat.le_of_ble_eq_true rfl) dX3_setBit_72 (fun H locs hS => ?_)
    exact b_X3_setBit_75 X hE hst hX hC hF hL  h h_l1 hS (lv_sub hl [0, 1, 2, 3] rfl)
  · have h := im (c_9) h
    refine lv_aload_n hx hb dX3_setBit_49 rfl (lv_at hl 0 rfl) ?_
    refine cg_X3_19 X hS dX3_setBit_50 ?_
    obtain ⟨z_11, h⟩ := ok_of h
    refine lv_bipush (v := 14) hx hb dX3_setBit_53 (by decide) ?_
    refine lv_iconst (v := 0) hx hb dX3_setBit_55 (by decide) ?_
    refine lv_iconst (v := 0) hx hb dX3_setBit_56 (by decide) ?_
    refine lv_iload_n hx hb dX3_setBit_57 rfl (lv_at hl 3 rfl) ?_
    obtain ⟨r_13, u_12, h_u_12, h⟩ := bc_of h
    refine kc_X6_step_RX3 X z_11 hS h_u_12 (Nat.le_trans (Nat.le_of_ble_eq_true rfl) hF) (Nat.le_trans (Nat.le_of_ble_eq_true rfl) hL) hl.1 (Nat.le_of_ble_eq_true rfl) dX3_setBit_58 (fun H locs hS => ?_)
    refine lv_pop hx hb dX3_setBit_61 rfl ?_
    refine lv_goto (tgt := 75) hx hb dX3_setBit_62 (by decide) ?_
    exact b_X3_setBit_75 X hE hst hX hC hF hL  h h_l1 hS (lv_sub hl [0, 1, 2, 3] rfl)
def B_X3_setBit_0 (N : Nat) (l1 : Nat) (l2 : Int32) (l3 : Int32) (u : CSt) : Option ((Sum Nat Int32) × CSt) := bc (F_X9_is N 61 u) fun r_15 u_14 => if r_15 = (0 : Int32) then (bc (F_X9_here N u_14) fun r_18 u_17 => bt (F_X9_refuse N 4 r_18 u_17) fun _ u_19 => B_X3_setBit_27 N l1 l2 l3 u_19) else (B_X3_setBit_27 N l1 l2 l3 u_14)
set_option maxHeartbeats 4000000 in
theorem b_X3_setBit_0 {y : (Sum Nat Int32)} (X : CC p s m args c cX3_setBit 4 (Cond.code yX3_setBit cX3_setBit 4 none) RX3 D kA V A) (hE : CEvx p l e R s m args below meth c cX3_setBit D kA Z A Q y w) (hst : l.stackTraces = false) (hX : CX p l e R s m args below meth c D kA Z A Q y w) (hC : 1 ≤ R.cells ∧ 6 ≤ R.slots) (hF : 321 ≤ R.frames) (hL : 18726 ≤ R.locals) {l1 : Nat} {l2 : Int32} {l3 : Int32} {u : CSt}  (h : B_X3_setBit_0 N l1 l2 l3 u = some (y, w)) (h_l1 : l1 < 338) (hS : CS D kA Z A s u H locs) (hl : lv_has ls 4 [(0, .ref (Z 227)), (1, .ref (Z (1000 + l1))), (2, .int l2), (3, .int l3)]) : W p l e R s m args below meth c H locs 0 0 Q (F0 m 0 ls []) := by
  obtain ⟨⟨hx, hb, hml, hown, hts⟩, hK, hEV, hA⟩ := id X
  have hG : ∀ w ∈ GW, w.before args s = true := fun w h => hts w (List.mem_cons_of_mem _ h)
  unfold B_X3_setBit_0 at h
  refine lv_aload_n hx hb dX3_setBit_0 rfl (lv_at hl 0 rfl) ?_
  refine cg_X3_15 X hS dX3_setBit_1 ?_
  refine lv_bipush (v := 61) hx hb dX3_setBit_4 (by decide) ?_
  obtain ⟨r_15, u_14, h_u_14, h⟩ := bc_of h
  refine kc_X9_is_RX3 X  hS h_u_14 (Nat.le_trans (Nat.le_of_ble_eq_true rfl) hF) (Nat.le_trans (Nat.le_of_ble_eq_true rfl) hL) hl.1 (Nat.le_of_ble_eq_true rfl) dX3_setBit_6 (fun H locs hS => ?_)
  refine lv_if_ne (tgt := 27) hx hb dX3_setBit_9 (by decide) (fun c_16 => ?_) (fun c_16 => ?_)
  · have h := im (c_16) h
    exact b_X3_setBit_27 X hE hst hX hC hF hL  h h_l1 hS (lv_sub hl [0, 1, 2, 3] rfl)
  · have h := ip (c_16) h
    refine lv_aload_n hx hb dX3_setBit_12 rfl (lv_at hl 0 rfl) ?_
    refine cg_X3_15 X hS dX3_setBit_13 ?_
    refine lv_iconst (v := 4) hx hb dX3_setBit_16 (by decide) ?_
    refine lv_aload_n hx hb dX3_setBit_17 rfl (lv_at hl 0 rfl) ?_
    refine cg_X3_15 X hS dX3_setBit_18 ?_
    obtain ⟨r_18, u_17, h_u_17, h⟩ := bc_of h
    refine kc_X9_here_RX3 X  hS h_u_17 (Nat.le_trans (Nat.le_of_ble_eq_true rfl) hF) (Nat.le_trans (Nat.le_of_ble_eq_true rfl) hL) hl.1 (Nat.le_of_ble_eq_true rfl) dX3_setBit_21 (fun H locs hS => ?_)
    obtain ⟨y_20, u_19, h_u_19, h⟩ := bt_of h
    refine kc_X9_refuse_RX3 hst X  hS h_u_19 (Nat.le_trans (Nat.le_of_ble_eq_true rfl) hF) (Nat.le_trans (Nat.le_of_ble_eq_true rfl) hL) hC hl.1 (Nat.le_of_ble_eq_true rfl) dX3_setBit_24 (fun r_u_19 hr_u_19 H locs hS => ?_) (fun x9 hn H locs q9 ce hS a1 a2 a3 => by obtain ⟨e2, rfl⟩ := bt_no h hn; exact hX _ e2 _ _ _ _ _ _ _ hS a1 a2 a3)
    replace h := bt_ok h hr_u_19
    exact b_X3_setBit_27 X hE hst hX hC hF hL  h h_l1 hS (lv_sub hl [0, 1, 2, 3] rfl)
def F_X3_setBit (N : Nat) (l1 : Nat) (l2 : Int32) (l3 : Int32) (u : CSt) : Option ((Sum Nat Int32) × CSt) := B_X3_setBit_0 N l1 l2 l3 u
set_option maxHeartbeats 4000000 in
theorem k_X3_setBit (l : Launch) (hst : l.stackTraces = false) (D : va_G) (kA : Nat → ClassId) (V Z : Nat → Nat) (N : Nat) (l1 : Nat) (l2 : Int32) (l3 : Int32) (h_l1 : l1 < 338) (u : CSt) (sz : Nat) {y : (Sum Nat Int32)} {w : CSt} (h : F_X3_setBit N l1 l2 l3 u = some (y, w)) : vx_Met l yX3_setBit (Cond.code yX3_setBit cX3_setBit 4 none :: GW) { frames := 321, cells := 1, slots := 6, locals := 18726 } (cPc D kA V Z [.ref (Z 227), .ref (Z (1000 + l1)), .int l2, .int l3] u sz) (cQvx D kA Z u sz y w) (cXc D kA Z u sz y w) 1 6 (va_A (CW kA Z u) sz) := by
  refine vx_ofW (cc := cX3_setBit) (maxL := 4) (ret := none) (by decide) rfl ?_
  intro p e s m args below meth c s₁ Bd hml hxt hv
  obtain ⟨rfl, hsz, hP, hK, hD0, hE⟩ := hv
  have hts := atoms_spec (ws := Cond.code yX3_setBit cX3_setBit 4 none :: GW) Bd.pre
  have hl := lv_entry ([.ref (Z 227), .ref (Z (1000 + l1)), .int l2, .int l3]) (n := 4) (Nat.le_of_ble_eq_true rfl)
  rw [lg_entry_eq]
  generalize (lg_sl ([.ref (Z 227), .ref (Z (1000 + l1)), .int l2, .int l3]) ++ List.replicate (4 - (lg_sl ([.ref (Z 227), .ref (Z (1000 + l1)), .int l2, .int l3])).length) Slot.unset).toArray = ls at hl ⊢
  have hl : lv_has ls 4 [(0, .ref (Z 227)), (1, .ref (Z (1000 + l1))), (2, .int l2), (3, .int l3)] := hl
  subst hsz
  have X : CC p s m ([.ref (Z 227), .ref (Z (1000 + l1)), .int l2, .int l3]).toArray c cX3_setBit 4 (Cond.code yX3_setBit cX3_setBit 4 none) RX3 D kA V (va_A (CW kA Z u) s.heap.size) := ⟨⟨Bd.exec, Bd.bytes, hml, findClass_of_methodNamed Bd.named, hts⟩, hK, hE, fun q h => Or.inr h⟩
  refine b_X3_setBit_0 X (cend_vx X Bd.returns Bd.notSynchronized) hst (cend_X X hxt Bd.notSynchronized) ⟨Nat.le_refl _, Nat.le_refl _⟩ (Nat.le_refl _) (Nat.le_refl _) h h_l1 ⟨hP, hD0.self, va_S.rf⟩ (lv_sub hl [0, 1, 2, 3] rfl)
theorem kc_X3_setBit_RX3 {cc : ByteArray} {pc nL : Nat} {c0 : Cond} {rest : List Value} {l1 : Nat} {l2 : Int32} {l3 : Int32} {u w1 : CSt} {y1 : (Sum Nat Int32)} (hst : l.stackTraces = false) (X : CC p s m args c cc nL c0 RX3 D kA V A) (h_l1 : l1 < 338) (hS : CS D kA Z A s u H locs) (h : F_X3_setBit N l1 l2 l3 u = some (y1, w1)) (hF : 321 + 1 ≤ R.frames) (hL : 8 + (4 + 11) + 18726 ≤ R.locals) (hC : 1 ≤ R.cells ∧ 6 ≤ R.slots) (hl : ls.size = nL) (hc : (rest.map fun v => v.category).sum ≤ 8) (hdg : decode cc pc = .ok (.invokevirtual 307, 3)) (kk : ∀ r, y1 = .inr r → ∀ H locs, CS D kA Z A s w1 H locs → W p l e R s m args below meth c H locs 0 0 Q (F0 m (pc + 3) ls (rest))) (kx : ∀ x, y1 = .inl x → ∀ (H : Heap) (locs : List Loc) (q : Addr) (ce : Cell), CS D kA Z A s w1 H locs → H[q]? = some ce → ce.vm = .none → s.vm.findClass (exN x) = some ce.cls → vx_W p l e R s m args below meth c H locs 1 6 Q (F0 m pc ls rest) q) : W p l e R s m args below meth c H locs 0 0 Q (F0 m pc ls (.int l3 :: .int l2 :: .ref (Z (1000 + l1)) :: .ref (Z 227) :: rest)) :=
  ccall_vx (n := 3) X hS (k_X3_setBit l hst D kA V Z N l1 l2 l3 h_l1 u H.size h) (gw_V gw_1341 gw_1343 gs_5_13 gw_13 gw_1344) (by decide +kernel) (va_recv X.2.1 hS.1 (ci := 3) (q0 := 27) rfl (cw_lit rfl)) hF hL hC rfl hl hc rfl hdg kk kx
def B_X3_change_98 (N : Nat) (l1 : Nat) (l4 : Int32) (s1 : Int32) (u : CSt) : Option ((Sum Nat Int32) × CSt) := bc (F_X8_combine N s1 (mI u l1 5) 3 l4 u) fun r_2 u_1 => some (.inr 0, u_1)
set_option maxHeartbeats 4000000 in
theorem b_X3_change_98 {y : (Sum Nat Int32)} (X : CC p s m args c cX3_change 6 (Cond.code yX3_change cX3_change 6 none) RX3 D kA V A) (hE : CEvx p l e R s m args below meth c cX3_change D kA Z A Q y w) (hst : l.stackTraces = false) (hX : CX p l e R s m args below meth c D kA Z A Q y w) (hC : 1 ≤ R.cells ∧ 6 ≤ R.slots) (hF : 321 ≤ R.frames) (hL : 18726 ≤ R.locals) {l1 : Nat} {l4 : Int32} {s1 : Int32} {u : CSt}  (h : B_X3_change_98 N l1 l4 s1 u = some (y, w)) (h_l1 : l1 < 338) (hS : CS D kA Z A s u H locs) (hl : lv_has ls 6 [(1, .ref (Z (1000 + l1))), (4, .int l4)]) : W p l e R s m args below meth c H locs 0 0 Q (F0 m 98 ls [.int s1, .ref (Z 229)]) := by
  obtain ⟨⟨hx, hb, hml, hown, hts⟩, hK, hEV, hA⟩ := id X
  have hG : ∀ w ∈ GW, w.before args s = true := fun w h => hts w (List.mem_cons_of_mem _ h)
  unfold B_X3_change_98 at h
  refine lv_aload_n hx hb dX3_change_98 rfl (lv_at hl 0 rfl) ?_
  refine cg_X3_146 X h_l1 hS dX3_change_99 ?_
  refine lv_iconst (v := 3) hx hb dX3_change_102 (by decide) ?_
  refine lv_iload hx hb dX3_change_103 (lv_at hl 1 rfl) ?_
  obtain ⟨r_2, u_1, h_u_1, h⟩ := bc_of h
  refine kc_X8_combine_RX3 X  hS h_u_1 (Nat.le_trans (Nat.le_of_ble_eq_true rfl) hF) (Nat.le_trans (Nat.le_of_ble_eq_true rfl) hL) hl.1 (Nat.le_of_ble_eq_true rfl) dX3_change_105 (fun H locs hS => ?_)
  refine lv_pop hx hb dX3_change_108 rfl ?_
  refine lv_goto (tgt := 141) hx hb dX3_change_109 (by decide) ?_
  obtain ⟨e9, rfl⟩ := so9 h
  exact hE _ e9.symm _ _ _ _ hS dX3_change_141
def B_X3_change_71 (N : Nat) (l1 : Nat) (l3 : Int32) (l4 : Int32) (u : CSt) : Option ((Sum Nat Int32) × CSt) := ok (cR u 2 < 2) inferInstance <| bc (F_X6_constant N (cR u 2) 1 0 l4 u) fun _ u_4 => if l3 = (11051 : Int32) then (B_X3_change_98 N l1 l4 0 u_4) else (B_X3_change_98 N l1 l4 1 u_4)
set_option maxHeartbeats 4000000 in
theorem b_X3_change_71 {y : (Sum Nat Int32)} (X : CC p s m args c cX3_change 6 (Cond.code yX3_change cX3_change 6 none) RX3 D kA V A) (hE : CEvx p l e R s m args below meth c cX3_change D kA Z A Q y w) (hst : l.stackTraces = false) (hX : CX p l e R s m args below meth c D kA Z A Q y w) (hC : 1 ≤ R.cells ∧ 6 ≤ R.slots) (hF : 321 ≤ R.frames) (hL : 18726 ≤ R.locals) {l1 : Nat} {l3 : Int32} {l4 : Int32} {u : CSt}  (h : B_X3_change_71 N l1 l3 l4 u = some (y, w)) (h_l1 : l1 < 338) (hS : CS D kA Z A s u H locs) (hl : lv_has ls 6 [(0, .ref (Z 227)), (1, .ref (Z (1000 + l1))), (3, .int l3), (4, .int l4)]) : W p l e R s m args below meth c H locs 0 0 Q (F0 m 71 ls []) := by
  obtain ⟨⟨hx, hb, hml, hown, hts⟩, hK, hEV, hA⟩ := id X
  have hG : ∀ w ∈ GW, w.before args s = true := fun w h => hts w (List.mem_cons_of_mem _ h)
  unfold B_X3_change_71 at h
  refine lv_aload_n hx hb dX3_change_71 rfl (lv_at hl 0 rfl) ?_
  refine cg_X3_19 X hS dX3_change_72 ?_
  obtain ⟨z_3, h⟩ := ok_of h
  refine lv_lconst (v := 1) hx hb dX3_change_75 (by decide) ?_
  refine lv_iconst (v := 0) hx hb dX3_change_76 (by decide) ?_
  refine lv_iload hx hb dX3_change_77 (lv_at hl 3 rfl) ?_
  obtain ⟨r_u_4, u_4, h_u_4, h⟩ := bc_of h
  refine kc_X6_constant_RX3 X z_3 hS h_u_4 (Nat.le_trans (Nat.le_of_ble_eq_true rfl) hF) (Nat.le_trans (Nat.le_of_ble_eq_true rfl) hL) hl.1 (Nat.le_of_ble_eq_true rfl) dX3_change_79 (fun H locs hS => ?_)
  refine lv_aload_n hx hb dX3_change_82 rfl (lv_at hl 0 rfl) ?_
  refine cg_X3_28 X hS dX3_change_83 ?_
  refine lv_iload_n hx hb dX3_change_86 rfl (lv_at hl 2 rfl) ?_
  refine lv_sipush (v := 11051) hx hb dX3_change_87 (by decide) ?_
  refine lv_icmp_ne (tgt := 97) hx hb dX3_change_90 (by decide) (fun c_5 => ?_) (fun c_5 => ?_)
  · have h := im (c_5) h
    refine lv_iconst (v := 1) hx hb dX3_change_97 (by decide) ?_
    exact b_X3_change_98 X hE hst hX hC hF hL  h h_l1 hS (lv_sub hl [1, 3] rfl)
  · have h := ip (c_5) h
    refine lv_iconst (v := 0) hx hb dX3_change_93 (by decide) ?_
    refine lv_goto (tgt := 98) hx hb dX3_change_94 (by decide) ?_
    exact b_X3_change_98 X hE hst hX hC hF hL  h h_l1 hS (lv_sub hl [1, 3] rfl)
def B_X3_change_50 (N : Nat) (l1 : Nat) (l3 : Int32) (l4 : Int32) (u : CSt) : Option ((Sum Nat Int32) × CSt) := bc (F_X9_next N u) fun _ u_6 => if l3 = (11051 : Int32) then (B_X3_change_71 N l1 l3 l4 u_6) else (if l3 = (11565 : Int32) then (B_X3_change_71 N l1 l3 l4 u_6) else (bt (G_X8_expression N u_6) fun r_10 u_9 => pb (F_X9_assigned N l3) fun r_12 => bc (F_X8_combine N r_12 (mI u_9 l1 5) r_10 l4 u_9) fun r_16 u_15 => some (.inr 0, u_15)))
set_option maxHeartbeats 4000000 in
theorem b_X3_change_50 {y : (Sum Nat Int32)} (X : CC p s m args c cX3_change 6 (Cond.code yX3_change cX3_change 6 none) RX3 D kA V A) (hE : CEvx p l e R s m args below meth c cX3_change D kA Z A Q y w) (hst : l.stackTraces = false) (hX : CX p l e R s m args below meth c D kA Z A Q y w) (hC : 1 ≤ R.cells ∧ 6 ≤ R.slots) (hF : 321 ≤ R.frames) (hL : 18726 ≤ R.locals) {l1 : Nat} {l3 : Int32} {l4 : Int32} {u : CSt}  (h : B_X3_change_50 N l1 l3 l4 u = some (y, w)) (h_l1 : l1 < 338) (hS : CS D kA Z A s u H locs) (hl : lv_has ls 6 [(0, .ref (Z 227)), (1, .ref (Z (1000 + l1))), (3, .int l3), (4, .int l4)]) : W p l e R s m args below meth c H locs 0 0 Q (F0 m 50 ls []) := by
  obtain ⟨⟨hx, hb, hml, hown, hts⟩, hK, hEV, hA⟩ := id X
  have hG : ∀ w ∈ GW, w.before args s = true := fun w h => hts w (List.mem_cons_of_mem _ h)
  unfold B_X3_change_50 at h
  refine lv_aload_n hx hb dX3_change_50 rfl (lv_at hl 0 rfl) ?_
  refine cg_X3_15 X hS dX3_change_51 ?_
  obtain ⟨r_u_6, u_6, h_u_6, h⟩ := bc_of h
  refine kc_X9_next_RX3 X  hS h_u_6 (Nat.le_trans (Nat.le_of_ble_eq_true rfl) hF) (Nat.le_trans (Nat.le_of_ble_eq_true rfl) hL) hl.1 (Nat.le_of_ble_eq_true rfl) dX3_change_54 (fun H locs hS => ?_)
  refine lv_iload_n hx hb dX3_change_57 rfl (lv_at hl 2 rfl) ?_
  refine lv_sipush (v := 11051) hx hb dX3_change_58 (by decide) ?_
  refine lv_icmp_eq (tgt := 71) hx hb dX3_change_61 (by decide) (fun c_7 => ?_) (fun c_7 => ?_)
  · have h := ip (c_7) h
    exact b_X3_change_71 X hE hst hX hC hF hL  h h_l1 hS (lv_sub hl [0, 1, 2, 3] rfl)
  · have h := im (c_7) h
    refine lv_iload_n hx hb dX3_change_64 rfl (lv_at hl 2 rfl) ?_
    refine lv_sipush (v := 11565) hx hb dX3_change_65 (by decide) ?_
    refine lv_icmp_ne (tgt := 112) hx hb dX3_change_68 (by decide) (fun c_8 => ?_) (fun c_8 => ?_)
    · have h := im (c_8) h
      refine lv_aload_n hx hb dX3_change_112 rfl (lv_at hl 0 rfl) ?_
      refine cg_X3_28 X hS dX3_change_113 ?_
      obtain ⟨y_11, u_9, h_u_9, h⟩ := bt_of h
      refine kg_X8_expression_RX3 hst X  hS h_u_9 (Nat.le_trans (Nat.le_of_ble_eq_true rfl) hF) (Nat.le_trans (Nat.le_of_ble_eq_true rfl) hL) hC hl.1 (Nat.le_of_ble_eq_true rfl) dX3_change_116 (fun r_10 hr_u_9 H locs hS => ?_) (fun x9 hn H locs q9 ce hS a1 a2 a3 => by obtain ⟨e2, rfl⟩ := bt_no h hn; exact hX _ e2 _ _ _ _ _ _ _ hS a1 a2 a3)
      replace h := bt_ok h hr_u_9
      refine lv_istore (lv' := [(5, .int r_10), (0, .ref (Z 227)), (1, .ref (Z (1000 + l1))), (3, .int l3), (4, .int l4)]) hx hb dX3_change_119 hl (by decide) rfl (fun ls hl => ?_)
      refine lv_aload_n hx hb dX3_change_121 rfl (lv_at hl 1 rfl) ?_
      refine cg_X3_28 X hS dX3_change_122 ?_
      refine lv_iload_n hx hb dX3_change_125 rfl (lv_at hl 3 rfl) ?_
      obtain ⟨r_12, e_r_12, h⟩ := pb_of h
      refine vp_callSi (W.runS (As := [.int l3]) (rest := [.ref (Z 229)]) X.1 (k_X9_assigned l N l3 e_r_12) (va_cwS 1 hts (gw_S gw_1353 gw_944 gw_2 gw_945) rfl rfl rfl (by decide +kernel) ⟨Nat.le_trans (Nat.le_of_ble_eq_true rfl) hF, Nat.le_trans (Nat.le_of_ble_eq_true rfl) hL⟩) ⟨fun _ _ _ _ q => q, fun _ _ _ => ⟨rfl, trivial⟩⟩ rfl rfl hl.1 rfl (lv_room (Nat.le_of_ble_eq_true rfl)) dX3_change_126 ⟨Nat.zero_le _, Nat.zero_le _⟩) (fun r_13 q_14 => ?_)
      rw [q_14]
      refine lv_aload_n hx hb dX3_change_129 rfl (lv_at hl 2 rfl) ?_
      refine cg_X3_146 X h_l1 hS dX3_change_130 ?_
      refine lv_iload hx hb dX3_change_133 (lv_at hl 0 rfl) ?_
      refine lv_iload hx hb dX3_change_135 (lv_at hl 4 rfl) ?_
      obtain ⟨r_16, u_15, h_u_15, h⟩ := bc_of h
      refine kc_X8_combine_RX3 X  hS h_u_15 (Nat.le_trans (Nat.le_of_ble_eq_true rfl) hF) (Nat.le_trans (Nat.le_of_ble_eq_true rfl) hL) hl.1 (Nat.le_of_ble_eq_true rfl) dX3_change_137 (fun H locs hS => ?_)
      refine lv_pop hx hb dX3_change_140 rfl ?_
      obtain ⟨e9, rfl⟩ := so9 h
      exact hE _ e9.symm _ _ _ _ hS dX3_change_141
    · have h := ip (c_8) h
      exact b_X3_change_71 X hE hst hX hC hF hL  h h_l1 hS (lv_sub hl [0, 1, 2, 3] rfl)
def B_X3_change_0 (N : Nat) (l1 : Nat) (l2 : Int32) (u : CSt) : Option ((Sum Nat Int32) × CSt) := bc (F_X9_type N u) fun r_18 u_17 => bc (F_X9_here N u_17) fun r_20 u_19 => if (mI u_19 l1 8) = (0 : Int32) then (bc (F_X8_get N l1 0 l2 u_19) fun _ u_22 => B_X3_change_50 N l1 r_18 r_20 u_22) else (ok (cR u_19 2 < 2) inferInstance <| bc (F_X6_step N (cR u_19 2) 13 0 0 l2 u_19) fun r_25 u_24 => B_X3_change_50 N l1 r_18 r_20 u_24)
set_option maxHeartbeats 4000000 in
theorem b_X3_change_0 {y : (Sum Nat Int32)} (X : CC p s m args c cX3_change 6 (Cond.code yX3_change cX3_change 6 none) RX3 D kA V A) (hE : CEvx p l e R s m args below meth c cX3_change D kA Z A Q y w) (hst : l.stackTraces = false) (hX : CX p l e R s m args below meth c D kA Z A Q y w) (hC : 1 ≤ R.cells ∧ 6 ≤ R.slots) (hF : 321 ≤ R.frames) (hL : 18726 ≤ R.locals) {l1 : Nat} {l2 : Int32} {u : CSt}  (h : B_X3_change_0 N l1 l2 u = some (y, w)) (h_l1 : l1 < 338) (hS : CS D kA Z A s u H locs) (hl : lv_has ls 6 [(0, .ref (Z 227)), (1, .ref (Z (1000 + l1))), (2, .int l2)]) : W p l e R s m args below meth c H locs 0 0 Q (F0 m 0 ls []) := by
  obtain ⟨⟨hx, hb, hml, hown, hts⟩, hK, hEV, hA⟩ := id X
  have hG : ∀ w ∈ GW, w.before args s = true := fun w h => hts w (List.mem_cons_of_mem _ h)
  unfold B_X3_change_0 at h
  refine lv_aload_n hx hb dX3_change_0 rfl (lv_at hl 0 rfl) ?_
  refine cg_X3_15 X hS dX3_change_1 ?_
  obtain ⟨r_18, u_17, h_u_17, h⟩ := bc_of h
  refine kc_X9_type_RX3 X  hS h_u_17 (Nat.le_trans (Nat.le_of_ble_eq_true rfl) hF) (Nat.le_trans (Nat.le_of_ble_eq_true rfl) hL) hl.1 (Nat.le_of_ble_eq_true rfl) dX3_change_4 (fun H locs hS => ?_)
  refine lv_istore_n (lv' := [(3, .int r_18), (0, .ref (Z 227)), (1, .ref (Z (1000 + l1))), (2, .int l2)]) hx hb dX3_change_7 rfl hl (by decide) rfl (fun ls hl => ?_)
  refine lv_aload_n hx hb dX3_change_8 rfl (lv_at hl 1 rfl) ?_
  refine cg_X3_15 X hS dX3_change_9 ?_
  obtain ⟨r_20, u_19, h_u_19, h⟩ := bc_of h
  refine kc_X9_here_RX3 X  hS h_u_19 (Nat.le_trans (Nat.le_of_ble_eq_true rfl) hF) (Nat.le_trans (Nat.le_of_ble_eq_true rfl) hL) hl.1 (Nat.le_of_ble_eq_true rfl) dX3_change_12 (fun H locs hS => ?_)
  refine lv_istore (lv' := [(4, .int r_20), (3, .int r_18), (0, .ref (Z 227)), (1, .ref (Z (1000 + l1))), (2, .int l2)]) hx hb dX3_change_15 hl (by decide) rfl (fun ls hl => ?_)
  refine lv_aload_n hx hb dX3_change_17 rfl (lv_at hl 3 rfl) ?_
  refine cg_X3_152 X h_l1 hS dX3_change_18 ?_
  refine lv_if_eq (tgt := 40) hx hb dX3_change_21 (by decide) (fun c_21 => ?_) (fun c_21 => ?_)
  · have h := ip (c_21) h
    refine lv_aload_n hx hb dX3_change_40 rfl (lv_at hl 2 rfl) ?_
    refine cg_X3_28 X hS dX3_change_41 ?_
    refine lv_aload_n hx hb dX3_change_44 rfl (lv_at hl 3 rfl) ?_
    refine lv_iconst (v := 0) hx hb dX3_change_45 (by decide) ?_
    refine lv_iload_n hx hb dX3_change_46 rfl (lv_at hl 4 rfl) ?_
    obtain ⟨r_u_22, u_22, h_u_22, h⟩ := bc_of h
    refine kc_X8_get_RX3 X h_l1 hS h_u_22 (Nat.le_trans (Nat.le_of_ble_eq_true rfl) hF) (Nat.le_trans (Nat.le_of_ble_eq_true rfl) hL) hl.1 (Nat.le_of_ble_eq_true rfl) dX3_change_47 (fun H locs hS => ?_)
    exact b_X3_change_50 X hE hst hX hC hF hL  h h_l1 hS (lv_sub hl [2, 3, 1, 0] rfl)
  · have h := im (c_21) h
    refine lv_aload_n hx hb dX3_change_24 rfl (lv_at hl 2 rfl) ?_
    refine cg_X3_19 X hS dX3_change_25 ?_
    obtain ⟨z_23, h⟩ := ok_of h
    refine lv_bipush (v := 13) hx hb dX3_change_28 (by decide) ?_
    refine lv_iconst (v := 0) hx hb dX3_change_30 (by decide) ?_
    refine lv_iconst (v := 0) hx hb dX3_change_31 (by decide) ?_
    refine lv_iload_n hx hb dX3_change_32 rfl (lv_at hl 4 rfl) ?_
    obtain ⟨r_25, u_24, h_u_24, h⟩ := bc_of h
    refine kc_X6_step_RX3 X z_23 hS h_u_24 (Nat.le_trans (Nat.le_of_ble_eq_true rfl) hF) (Nat.le_trans (Nat.le_of_ble_eq_true rfl) hL) hl.1 (Nat.le_of_ble_eq_true rfl) dX3_change_33 (fun H locs hS => ?_)
    refine lv_pop hx hb dX3_change_36 rfl ?_
    refine lv_goto (tgt := 50) hx hb dX3_change_37 (by decide) ?_
    exact b_X3_change_50 X hE hst hX hC hF hL  h h_l1 hS (lv_sub hl [2, 3, 1, 0] rfl)
def F_X3_change (N : Nat) (l1 : Nat) (l2 : Int32) (u : CSt) : Option ((Sum Nat Int32) × CSt) := B_X3_change_0 N l1 l2 u
set_option maxHeartbeats 4000000 in
theorem k_X3_change (l : Launch) (hst : l.stackTraces = false) (D : va_G) (kA : Nat → ClassId) (V Z : Nat → Nat) (N : Nat) (l1 : Nat) (l2 : Int32) (h_l1 : l1 < 338) (u : CSt) (sz : Nat) {y : (Sum Nat Int32)} {w : CSt} (h : F_X3_change N l1 l2 u = some (y, w)) : vx_Met l yX3_change (Cond.code yX3_change cX3_change 6 none :: GW) { frames := 321, cells := 1, slots := 6, locals := 18726 } (cPc D kA V Z [.ref (Z 227), .ref (Z (1000 + l1)), .int l2] u sz) (cQvx D kA Z u sz y w) (cXc D kA Z u sz y w) 1 6 (va_A (CW kA Z u) sz) := by
  refine vx_ofW (cc := cX3_change) (maxL := 6) (ret := none) (by decide) rfl ?_
  intro p e s m args below meth c s₁ Bd hml hxt hv
  obtain ⟨rfl, hsz, hP, hK, hD0, hE⟩ := hv
  have hts := atoms_spec (ws := Cond.code yX3_change cX3_change 6 none :: GW) Bd.pre
  have hl := lv_entry ([.ref (Z 227), .ref (Z (1000 + l1)), .int l2]) (n := 6) (Nat.le_of_ble_eq_true rfl)
  rw [lg_entry_eq]
  generalize (lg_sl ([.ref (Z 227), .ref (Z (1000 + l1)), .int l2]) ++ List.replicate (6 - (lg_sl ([.ref (Z 227), .ref (Z (1000 + l1)), .int l2])).length) Slot.unset).toArray = ls at hl ⊢
  have hl : lv_has ls 6 [(0, .ref (Z 227)), (1, .ref (Z (1000 + l1))), (2, .int l2)] := hl
  subst hsz
  have X : CC p s m ([.ref (Z 227), .ref (Z (1000 + l1)), .int l2]).toArray c cX3_change 6 (Cond.code yX3_change cX3_change 6 none) RX3 D kA V (va_A (CW kA Z u) s.heap.size) := ⟨⟨Bd.exec, Bd.bytes, hml, findClass_of_methodNamed Bd.named, hts⟩, hK, hE, fun q h => Or.inr h⟩
  refine b_X3_change_0 X (cend_vx X Bd.returns Bd.notSynchronized) hst (cend_X X hxt Bd.notSynchronized) ⟨Nat.le_refl _, Nat.le_refl _⟩ (Nat.le_refl _) (Nat.le_refl _) h h_l1 ⟨hP, hD0.self, va_S.rf⟩ (lv_sub hl [0, 1, 2] rfl)
theorem kc_X3_change_RX3 {cc : ByteArray} {pc nL : Nat} {c0 : Cond} {rest : List Value} {l1 : Nat} {l2 : Int32} {u w1 : CSt} {y1 : (Sum Nat Int32)} (hst : l.stackTraces = false) (X : CC p s m args c cc nL c0 RX3 D kA V A) (h_l1 : l1 < 338) (hS : CS D kA Z A s u H locs) (h : F_X3_change N l1 l2 u = some (y1, w1)) (hF : 321 + 1 ≤ R.frames) (hL : 8 + (6 + 11) + 18726 ≤ R.locals) (hC : 1 ≤ R.cells ∧ 6 ≤ R.slots) (hl : ls.size = nL) (hc : (rest.map fun v => v.category).sum ≤ 8) (hdg : decode cc pc = .ok (.invokevirtual 316, 3)) (kk : ∀ r, y1 = .inr r → ∀ H locs, CS D kA Z A s w1 H locs → W p l e R s m args below meth c H locs 0 0 Q (F0 m (pc + 3) ls (rest))) (kx : ∀ x, y1 = .inl x → ∀ (H : Heap) (locs : List Loc) (q : Addr) (ce : Cell), CS D kA Z A s w1 H locs → H[q]? = some ce → ce.vm = .none → s.vm.findClass (exN x) = some ce.cls → vx_W p l e R s m args below meth c H locs 1 6 Q (F0 m pc ls rest) q) : W p l e R s m args below meth c H locs 0 0 Q (F0 m pc ls (.int l2 :: .ref (Z (1000 + l1)) :: .ref (Z 227) :: rest)) :=
  ccall_vx (n := 2) X hS (k_X3_change l hst D kA V Z N l1 l2 h_l1 u H.size h) (gw_V gw_1349 gw_1351 gs_5_15 gw_13 gw_1352) (by decide +kernel) (va_recv X.2.1 hS.1 (ci := 3) (q0 := 27) rfl (cw_lit rfl)) hF hL hC rfl hl hc rfl hdg kk kx
def B_X3_assignment_104 (N : Nat) (u : CSt) : Option ((Sum Nat Int32) × CSt) := bc (F_X9_next N u) fun _ u_1 => some (.inr 0, u_1)
set_option maxHeartbeats 4000000 in
theorem b_X3_assignment_104 {y : (Sum Nat Int32)} (X : CC p s m args c cX3_assignment 4 (Cond.code yX3_assignment cX3_assignment 4 none) RX3 D kA V A) (hE : CEvx p l e R s m args below meth c cX3_assignment D kA Z A Q y w) (hst : l.stackTraces = false) (hX : CX p l e R s m args below meth c D kA Z A Q y w) (hC : 1 ≤ R.cells ∧ 6 ≤ R.slots) (hF : 322 ≤ R.frames) (hL : 18751 ≤ R.locals) {u : CSt}  (h : B_X3_assignment_104 N u = some (y, w))  (hS : CS D kA Z A s u H locs) (hl : lv_has ls 4 [(0, .ref (Z 227))]) : W p l e R s m args below meth c H locs 0 0 Q (F0 m 104 ls []) := by
  obtain ⟨⟨hx, hb, hml, hown, hts⟩, hK, hEV, hA⟩ := id X
  have hG : ∀ w ∈ GW, w.before args s = true := fun w h => hts w (List.mem_cons_of_mem _ h)
  unfold B_X3_assignment_104 at h
  refine lv_aload_n hx hb dX3_assignment_104 rfl (lv_at hl 0 rfl) ?_
  refine cg_X3_15 X hS dX3_assignment_105 ?_
  obtain ⟨r_u_1, u_1, h_u_1, h⟩ := bc_of h
  refine kc_X9_next_RX3 X  hS h_u_1 (Nat.le_trans (Nat.le_of_ble_eq_true rfl) hF) (Nat.le_trans (Nat.le_of_ble_eq_true rfl) hL) hl.1 (Nat.le_of_ble_eq_true rfl) dX3_assignment_108 (fun H locs hS => ?_)
  obtain ⟨e9, rfl⟩ := so9 h
  exact hE _ e9.symm _ _ _ _ hS dX3_assignment_111
def B_X3_assignment_32 (N : Nat) (l1 : Int32) (l2 : Nat) (u : CSt) : Option ((Sum Nat Int32) × CSt) := bc (F_X9_is N 46 u) fun r_3 u_2 => if r_3 = (0 : Int32) then (bc (F_X9_is N 61 u_2) fun r_6 u_5 => if r_6 = (0 : Int32) then (bt (F_X3_change N l2 l1 u_5) fun _ u_8 => bc (F_X3_put N l2 l1 u_8) fun _ u_10 => B_X3_assignment_104 N u_10) else (bt (F_X3_setPlain N l2 u_5) fun _ u_11 => bc (F_X3_put N l2 l1 u_11) fun _ u_13 => B_X3_assignment_104 N u_13)) else (bt (F_X8_bit N (mI u_2 l2 5) u_2) fun r_15 u_14 => bt (F_X3_setBit N l2 r_15 l1 u_14) fun _ u_17 => B_X3_assignment_104 N u_17)
set_option maxHeartbeats 4000000 in
theorem b_X3_assignment_32 {y : (Sum Nat Int32)} (X : CC p s m args c cX3_assignment 4 (Cond.code yX3_assignment cX3_assignment 4 none) RX3 D kA V A) (hE : CEvx p l e R s m args below meth c cX3_assignment D kA Z A Q y w) (hst : l.stackTraces = false) (hX : CX p l e R s m args below meth c D kA Z A Q y w) (hC : 1 ≤ R.cells ∧ 6 ≤ R.slots) (hF : 322 ≤ R.frames) (hL : 18751 ≤ R.locals) {l1 : Int32} {l2 : Nat} {u : CSt}  (h : B_X3_assignment_32 N l1 l2 u = some (y, w)) (h_l2 : l2 < 338) (hS : CS D kA Z A s u H locs) (hl : lv_has ls 4 [(0, .ref (Z 227)), (1, .int l1), (2, .ref (Z (1000 + l2)))]) : W p l e R s m args below meth c H locs 0 0 Q (F0 m 32 ls []) := by
  obtain ⟨⟨hx, hb, hml, hown, hts⟩, hK, hEV, hA⟩ := id X
  have hG : ∀ w ∈ GW, w.before args s = true := fun w h => hts w (List.mem_cons_of_mem _ h)
  unfold B_X3_assignment_32 at h
  refine lv_aload_n hx hb dX3_assignment_32 rfl (lv_at hl 0 rfl) ?_
  refine cg_X3_15 X hS dX3_assignment_33 ?_
  refine lv_bipush (v := 46) hx hb dX3_assignment_36 (by decide) ?_
  obtain ⟨r_3, u_2, h_u_2, h⟩ := bc_of h
  refine kc_X9_is_RX3 X  hS h_u_2 (Nat.le_trans (Nat.le_of_ble_eq_true rfl) hF) (Nat.le_trans (Nat.le_of_ble_eq_true rfl) hL) hl.1 (Nat.le_of_ble_eq_true rfl) dX3_assignment_38 (fun H locs hS => ?_)
  refine lv_if_eq (tgt := 66) hx hb dX3_assignment_41 (by decide) (fun c_4 => ?_) (fun c_4 => ?_)
  · have h := ip (c_4) h
    refine lv_aload_n hx hb dX3_assignment_66 rfl (lv_at hl 0 rfl) ?_
    refine cg_X3_15 X hS dX3_assignment_67 ?_
    refine lv_bipush (v := 61) hx hb dX3_assignment_70 (by decide) ?_
    obtain ⟨r_6, u_5, h_u_5, h⟩ := bc_of h
    refine kc_X9_is_RX3 X  hS h_u_5 (Nat.le_trans (Nat.le_of_ble_eq_true rfl) hF) (Nat.le_trans (Nat.le_of_ble_eq_true rfl) hL) hl.1 (Nat.le_of_ble_eq_true rfl) dX3_assignment_72 (fun H locs hS => ?_)
    refine lv_if_eq (tgt := 92) hx hb dX3_assignment_75 (by decide) (fun c_7 => ?_) (fun c_7 => ?_)
    · have h := ip (c_7) h
      refine lv_aload_n hx hb dX3_assignment_92 rfl (lv_at hl 0 rfl) ?_
      refine lv_aload_n hx hb dX3_assignment_93 rfl (lv_at hl 2 rfl) ?_
      refine lv_iload_n hx hb dX3_assignment_94 rfl (lv_at hl 1 rfl) ?_
      obtain ⟨y_9, u_8, h_u_8, h⟩ := bt_of h
      refine kc_X3_change_RX3 hst X h_l2 hS h_u_8 (Nat.le_trans (Nat.le_of_ble_eq_true rfl) hF) (Nat.le_trans (Nat.le_of_ble_eq_true rfl) hL) hC hl.1 (Nat.le_of_ble_eq_true rfl) dX3_assignment_95 (fun r_u_8 hr_u_8 H locs hS => ?_) (fun x9 hn H locs q9 ce hS a1 a2 a3 => by obtain ⟨e2, rfl⟩ := bt_no h hn; exact hX _ e2 _ _ _ _ _ _ _ hS a1 a2 a3)
      replace h := bt_ok h hr_u_8
      refine lv_aload_n hx hb dX3_assignment_98 rfl (lv_at hl 0 rfl) ?_
      refine lv_aload_n hx hb dX3_assignment_99 rfl (lv_at hl 2 rfl) ?_
      refine lv_iload_n hx hb dX3_assignment_100 rfl (lv_at hl 1 rfl) ?_
      obtain ⟨r_u_10, u_10, h_u_10, h⟩ := bc_of h
      refine kc_X3_put_RX3 X h_l2 hS h_u_10 (Nat.le_trans (Nat.le_of_ble_eq_true rfl) hF) (Nat.le_trans (Nat.le_of_ble_eq_true rfl) hL) hl.1 (Nat.le_of_ble_eq_true rfl) dX3_assignment_101 (fun H locs hS => ?_)
      exact b_X3_assignment_104 X hE hst hX hC hF hL  h  hS (lv_sub hl [0] rfl)
    · have h := im (c_7) h
      refine lv_aload_n hx hb dX3_assignment_78 rfl (lv_at hl 0 rfl) ?_
      refine lv_aload_n hx hb dX3_assignment_79 rfl (lv_at hl 2 rfl) ?_
      obtain ⟨y_12, u_11, h_u_11, h⟩ := bt_of h
      refine kc_X3_setPlain_RX3 hst X h_l2 hS h_u_11 (Nat.le_trans (Nat.le_of_ble_eq_true rfl) hF) (Nat.le_trans (Nat.le_of_ble_eq_true rfl) hL) hC hl.1 (Nat.le_of_ble_eq_true rfl) dX3_assignment_80 (fun r_u_11 hr_u_11 H locs hS => ?_) (fun x9 hn H locs q9 ce hS a1 a2 a3 => by obtain ⟨e2, rfl⟩ := bt_no h hn; exact hX _ e2 _ _ _ _ _ _ _ hS a1 a2 a3)
      replace h := bt_ok h hr_u_11
      refine lv_aload_n hx hb dX3_assignment_83 rfl (lv_at hl 0 rfl) ?_
      refine lv_aload_n hx hb dX3_assignment_84 rfl (lv_at hl 2 rfl) ?_
      refine lv_iload_n hx hb dX3_assignment_85 rfl (lv_at hl 1 rfl) ?_
      obtain ⟨r_u_13, u_13, h_u_13, h⟩ := bc_of h
      refine kc_X3_put_RX3 X h_l2 hS h_u_13 (Nat.le_trans (Nat.le_of_ble_eq_true rfl) hF) (Nat.le_trans (Nat.le_of_ble_eq_true rfl) hL) hl.1 (Nat.le_of_ble_eq_true rfl) dX3_assignment_86 (fun H locs hS => ?_)
      refine lv_goto (tgt := 104) hx hb dX3_assignment_89 (by decide) ?_
      exact b_X3_assignment_104 X hE hst hX hC hF hL  h  hS (lv_sub hl [0] rfl)
  · have h := im (c_4) h
    refine lv_aload_n hx hb dX3_assignment_44 rfl (lv_at hl 0 rfl) ?_
    refine cg_X3_28 X hS dX3_assignment_45 ?_
    refine lv_aload_n hx hb dX3_assignment_48 rfl (lv_at hl 2 rfl) ?_
    refine cg_X3_146 X h_l2 hS dX3_assignment_49 ?_
    obtain ⟨y_16, u_14, h_u_14, h⟩ := bt_of h
    refine kc_X8_bit_RX3 hst X  hS h_u_14 (Nat.le_trans (Nat.le_of_ble_eq_true rfl) hF) (Nat.le_trans (Nat.le_of_ble_eq_true rfl) hL) hC hl.1 (Nat.le_of_ble_eq_true rfl) dX3_assignment_52 (fun r_15 hr_u_14 H locs hS => ?_) (fun x9 hn H locs q9 ce hS a1 a2 a3 => by obtain ⟨e2, rfl⟩ := bt_no h hn; exact hX _ e2 _ _ _ _ _ _ _ hS a1 a2 a3)
    replace h := bt_ok h hr_u_14
    refine lv_istore_n (lv' := [(3, .int r_15), (0, .ref (Z 227)), (1, .int l1), (2, .ref (Z (1000 + l2)))]) hx hb dX3_assignment_55 rfl hl (by decide) rfl (fun ls hl => ?_)
    refine lv_aload_n hx hb dX3_assignment_56 rfl (lv_at hl 1 rfl) ?_
    refine lv_aload_n hx hb dX3_assignment_57 rfl (lv_at hl 3 rfl) ?_
    refine lv_iload_n hx hb dX3_assignment_58 rfl (lv_at hl 0 rfl) ?_
    refine lv_iload_n hx hb dX3_assignment_59 rfl (lv_at hl 2 rfl) ?_
    obtain ⟨y_18, u_17, h_u_17, h⟩ := bt_of h
    refine kc_X3_setBit_RX3 hst X h_l2 hS h_u_17 (Nat.le_trans (Nat.le_of_ble_eq_true rfl) hF) (Nat.le_trans (Nat.le_of_ble_eq_true rfl) hL) hC hl.1 (Nat.le_of_ble_eq_true rfl) dX3_assignment_60 (fun r_u_17 hr_u_17 H locs hS => ?_) (fun x9 hn H locs q9 ce hS a1 a2 a3 => by obtain ⟨e2, rfl⟩ := bt_no h hn; exact hX _ e2 _ _ _ _ _ _ _ hS a1 a2 a3)
    replace h := bt_ok h hr_u_17
    refine lv_goto (tgt := 104) hx hb dX3_assignment_63 (by decide) ?_
    exact b_X3_assignment_104 X hE hst hX hC hF hL  h  hS (lv_sub hl [1] rfl)
def B_X3_assignment_0 (N : Nat) (l1 : Int32) (u : CSt) : Option ((Sum Nat Int32) × CSt) := bt (F_X8_placeName N 1 u) fun r_20 u_19 => ok (r_20 < 338) inferInstance <| bc (F_X9_next N u_19) fun _ u_23 => if (mI u_23 r_20 8) = (0 : Int32) then (B_X3_assignment_32 N l1 r_20 u_23) else (bt (G_X8_index N r_20 l1 u_23) fun _ u_25 => B_X3_assignment_32 N l1 r_20 u_25)
set_option maxHeartbeats 4000000 in
theorem b_X3_assignment_0 {y : (Sum Nat Int32)} (X : CC p s m args c cX3_assignment 4 (Cond.code yX3_assignment cX3_assignment 4 none) RX3 D kA V A) (hE : CEvx p l e R s m args below meth c cX3_assignment D kA Z A Q y w) (hst : l.stackTraces = false) (hX : CX p l e R s m args below meth c D kA Z A Q y w) (hC : 1 ≤ R.cells ∧ 6 ≤ R.slots) (hF : 322 ≤ R.frames) (hL : 18751 ≤ R.locals) {l1 : Int32} {u : CSt}  (h : B_X3_assignment_0 N l1 u = some (y, w))  (hS : CS D kA Z A s u H locs) (hl : lv_has ls 4 [(0, .ref (Z 227)), (1, .int l1)]) : W p l e R s m args below meth c H locs 0 0 Q (F0 m 0 ls []) := by
  obtain ⟨⟨hx, hb, hml, hown, hts⟩, hK, hEV, hA⟩ := id X
  have hG : ∀ w ∈ GW, w.before args s = true := fun w h => hts w (List.mem_cons_of_mem _ h)
  unfold B_X3_assignment_0 at h
  refine lv_aload_n hx hb dX3_assignment_0 rfl (lv_at hl 0 rfl) ?_
  refine cg_X3_28 X hS dX3_assignment_1 ?_
  refine lv_iconst (v := 1) hx hb dX3_assignment_4 (by decide) ?_
  obtain ⟨y_21, u_19, h_u_19, h⟩ := bt_of h
  refine kc_X8_placeName_RX3 hst X  hS h_u_19 (Nat.le_trans (Nat.le_of_ble_eq_true rfl) hF) (Nat.le_trans (Nat.le_of_ble_eq_true rfl) hL) hC hl.1 (Nat.le_of_ble_eq_true rfl) dX3_assignment_5 (fun r_20 hr_u_19 H locs hS => ?_) (fun x9 hn H locs q9 ce hS a1 a2 a3 => by obtain ⟨e2, rfl⟩ := bt_no h hn; exact hX _ e2 _ _ _ _ _ _ _ hS a1 a2 a3)
  replace h := bt_ok h hr_u_19
  obtain ⟨z_22, h⟩ := ok_of h
  refine lv_astore_n (lv' := [(2, .ref (Z (1000 + r_20))), (0, .ref (Z 227)), (1, .int l1)]) hx hb dX3_assignment_8 rfl hl (by decide) rfl (fun ls hl => ?_)
  refine lv_aload_n hx hb dX3_assignment_9 rfl (lv_at hl 1 rfl) ?_
  refine cg_X3_15 X hS dX3_assignment_10 ?_
  obtain ⟨r_u_23, u_23, h_u_23, h⟩ := bc_of h
  refine kc_X9_next_RX3 X  hS h_u_23 (Nat.le_trans (Nat.le_of_ble_eq_true rfl) hF) (Nat.le_trans (Nat.le_of_ble_eq_true rfl) hL) hl.1 (Nat.le_of_ble_eq_true rfl) dX3_assignment_13 (fun H locs hS => ?_)
  refine lv_aload_n hx hb dX3_assignment_16 rfl (lv_at hl 0 rfl) ?_
  refine cg_X3_152 X z_22 hS dX3_assignment_17 ?_
  refine lv_if_eq (tgt := 32) hx hb dX3_assignment_20 (by decide) (fun c_24 => ?_) (fun c_24 => ?_)
  · have h := ip (c_24) h
    exact b_X3_assignment_32 X hE hst hX hC hF hL  h z_22 hS (lv_sub hl [1, 2, 0] rfl)
  · have h := im (c_24) h
    refine lv_aload_n hx hb dX3_assignment_23 rfl (lv_at hl 1 rfl) ?_
    refine cg_X3_28 X hS dX3_assignment_24 ?_
    refine lv_aload_n hx hb dX3_assignment_27 rfl (lv_at hl 0 rfl) ?_
    refine lv_iload_n hx hb dX3_assignment_28 rfl (lv_at hl 2 rfl) ?_
    obtain ⟨y_26, u_25, h_u_25, h⟩ := bt_of h
    refine kg_X8_index_RX3 hst X z_22 hS h_u_25 (Nat.le_trans (Nat.le_of_ble_eq_true rfl) hF) (Nat.le_trans (Nat.le_of_ble_eq_true rfl) hL) hC hl.1 (Nat.le_of_ble_eq_true rfl) dX3_assignment_29 (fun r_u_25 hr_u_25 H locs hS => ?_) (fun x9 hn H locs q9 ce hS a1 a2 a3 => by obtain ⟨e2, rfl⟩ := bt_no h hn; exact hX _ e2 _ _ _ _ _ _ _ hS a1 a2 a3)
    replace h := bt_ok h hr_u_25
    exact b_X3_assignment_32 X hE hst hX hC hF hL  h z_22 hS (lv_sub hl [1, 2, 0] rfl)
def F_X3_assignment (N : Nat) (l1 : Int32) (u : CSt) : Option ((Sum Nat Int32) × CSt) := B_X3_assignment_0 N l1 u
set_option maxHeartbeats 4000000 in
theorem k_X3_assignment (l : Launch) (hst : l.stackTraces = false) (D : va_G) (kA : Nat → ClassId) (V Z : Nat → Nat) (N : Nat) (l1 : Int32) (u : CSt) (sz : Nat) {y : (Sum Nat Int32)} {w : CSt} (h : F_X3_assignment N l1 u = some (y, w)) : vx_Met l yX3_assignment (Cond.code yX3_assignment cX3_assignment 4 none :: GW) { frames := 322, cells := 1, slots := 6, locals := 18751 } (cPc D kA V Z [.ref (Z 227), .int l1] u sz) (cQvx D kA Z u sz y w) (cXc D kA Z u sz y w) 1 6 (va_A (CW kA Z u) sz) := by
  refine vx_ofW (cc := cX3_assignment) (maxL := 4) (ret := none) (by decide) rfl ?_
  intro p e s m args below meth c s₁ Bd hml hxt hv
  obtain ⟨rfl, hsz, hP, hK, hD0, hE⟩ := hv
  have hts := atoms_spec (ws := Cond.code yX3_assignment cX3_assignment 4 none :: GW) Bd.pre
  have hl := lv_entry ([.ref (Z 227), .int l1]) (n := 4) (Nat.le_of_ble_eq_true rfl)
  rw [lg_entry_eq]
  generalize (lg_sl ([.ref (Z 227), .int l1]) ++ List.replicate (4 - (lg_sl ([.ref (Z 227), .int l1])).length) Slot.unset).toArray = ls at hl ⊢
  have hl : lv_has ls 4 [(0, .ref (Z 227)), (1, .int l1)] := hl
  subst hsz
  have X : CC p s m ([.ref (Z 227), .int l1]).toArray c cX3_assignment 4 (Cond.code yX3_assignment cX3_assignment 4 none) RX3 D kA V (va_A (CW kA Z u) s.heap.size) := ⟨⟨Bd.exec, Bd.bytes, hml, findClass_of_methodNamed Bd.named, hts⟩, hK, hE, fun q h => Or.inr h⟩
  refine b_X3_assignment_0 X (cend_vx X Bd.returns Bd.notSynchronized) hst (cend_X X hxt Bd.notSynchronized) ⟨Nat.le_refl _, Nat.le_refl _⟩ (Nat.le_refl _) (Nat.le_refl _) h  ⟨hP, hD0.self, va_S.rf⟩ (lv_sub hl [0, 1] rfl)
theorem kc_X3_assignment_RX3 {cc : ByteArray} {pc nL : Nat} {c0 : Cond} {rest : List Value} {l1 : Int32} {u w1 : CSt} {y1 : (Sum Nat Int32)} (hst : l.stackTraces = false) (X : CC p s m args c cc nL c0 RX3 D kA V A)  (hS : CS D kA Z A s u H locs) (h : F_X3_assignment N l1 u = some (y1, w1)) (hF : 322 + 1 ≤ R.frames) (hL : 8 + (4 + 11) + 18751 ≤ R.locals) (hC : 1 ≤ R.cells ∧ 6 ≤ R.slots) (hl : ls.size = nL) (hc : (rest.map fun v => v.category).sum ≤ 8) (hdg : decode cc pc = .ok (.invokevirtual 291, 3)) (kk : ∀ r, y1 = .inr r → ∀ H locs, CS D kA Z A s w1 H locs → W p l e R s m args below meth c H locs 0 0 Q (F0 m (pc + 3) ls (rest))) (kx : ∀ x, y1 = .inl x → ∀ (H : Heap) (locs : List Loc) (q : Addr) (ce : Cell), CS D kA Z A s w1 H locs → H[q]? = some ce → ce.vm = .none → s.vm.findClass (exN x) = some ce.cls → vx_W p l e R s m args below meth c H locs 1 6 Q (F0 m pc ls rest) q) : W p l e R s m args below meth c H locs 0 0 Q (F0 m pc ls (.int l1 :: .ref (Z 227) :: rest)) :=
  ccall_vx (n := 1) X hS (k_X3_assignment l hst D kA V Z N l1  u H.size h) (gw_V gw_1334 gw_1336 gs_5_12 gw_13 gw_1337) (by decide +kernel) (va_recv X.2.1 hS.1 (ci := 3) (q0 := 27) rfl (cw_lit rfl)) hF hL hC rfl hl hc rfl hdg kk kx
def B_X3_instanceCall_25 (N : Nat) (l1 : Int32) (l2 : Nat) (u : CSt) : Option ((Sum Nat Int32) × CSt) := ok (cR u 2 < 2) inferInstance <| bc (F_X6_cost N (cR u 2) l1 u) fun _ u_2 => ok (cR u_2 2 < 2) inferInstance <| bc (F_X6_name N (cR u_2 2) (mI u_2 l2 14) u_2) fun r_5 u_4 => ok (r_5 < 338) inferInstance <| bt (G_X8_arguments N r_5 (mI u_4 l2 9) l1 u_4) fun _ u_7 => ok (cR u_7 2 < 2) inferInstance <| bc (F_X6_step N (cR u_7 2) 38 (mI u_7 l2 3) 0 l1 u_7) fun r_11 u_10 => bc (F_X9_next N u_10) fun _ u_12 => some (.inr 0, u_12)
set_option maxHeartbeats 4000000 in
theorem b_X3_instanceCall_25 {y : (Sum Nat Int32)} (X : CC p s m args c cX3_instanceCall 3 (Cond.code yX3_instanceCall cX3_instanceCall 3 none) RX3 D kA V A) (hE : CEvx p l e R s m args below meth c cX3_instanceCall D kA Z A Q y w) (hst : l.stackTraces = false) (hX : CX p l e R s m args below meth c D kA Z A Q y w) (hC : 1 ≤ R.cells ∧ 6 ≤ R.slots) (hF : 321 ≤ R.frames) (hL : 18727 ≤ R.locals) {l1 : Int32} {l2 : Nat} {u : CSt}  (h : B_X3_instanceCall_25 N l1 l2 u = some (y, w)) (h_l2 : l2 < 338) (hS : CS D kA Z A s u H locs) (hl : lv_has ls 3 [(0, .ref (Z 227)), (1, .int l1), (2, .ref (Z (1000 + l2)))]) : W p l e R s m args below meth c H locs 0 0 Q (F0 m 25 ls []) := by
  obtain ⟨⟨hx, hb, hml, hown, hts⟩, hK, hEV, hA⟩ := id X
  have hG : ∀ w ∈ GW, w.before args s = true := fun w h => hts w (List.mem_cons_of_mem _ h)
  unfold B_X3_instanceCall_25 at h
  refine lv_aload_n hx hb dX3_instanceCall_25 rfl (lv_at hl 0 rfl) ?_
  refine cg_X3_19 X hS dX3_instanceCall_26 ?_
  obtain ⟨z_1, h⟩ := ok_of h
  refine lv_iload_n hx hb dX3_instanceCall_29 rfl (lv_at hl 1 rfl) ?_
  obtain ⟨r_u_2, u_2, h_u_2, h⟩ := bc_of h
  refine kc_X6_cost_RX3 X z_1 hS h_u_2 (Nat.le_trans (Nat.le_of_ble_eq_true rfl) hF) (Nat.le_trans (Nat.le_of_ble_eq_true rfl) hL) hl.1 (Nat.le_of_ble_eq_true rfl) dX3_instanceCall_30 (fun H locs hS => ?_)
  refine lv_aload_n hx hb dX3_instanceCall_33 rfl (lv_at hl 0 rfl) ?_
  refine cg_X3_28 X hS dX3_instanceCall_34 ?_
  refine lv_aload_n hx hb dX3_instanceCall_37 rfl (lv_at hl 0 rfl) ?_
  refine cg_X3_19 X hS dX3_instanceCall_38 ?_
  obtain ⟨z_3, h⟩ := ok_of h
  refine lv_aload_n hx hb dX3_instanceCall_41 rfl (lv_at hl 2 rfl) ?_
  refine cg_X3_217 X h_l2 hS dX3_instanceCall_42 ?_
  obtain ⟨r_5, u_4, h_u_4, h⟩ := bc_of h
  refine kc_X6_name_RX3 X z_3 hS h_u_4 (Nat.le_trans (Nat.le_of_ble_eq_true rfl) hF) (Nat.le_trans (Nat.le_of_ble_eq_true rfl) hL) hl.1 (Nat.le_of_ble_eq_true rfl) dX3_instanceCall_45 (fun H locs hS => ?_)
  obtain ⟨z_6, h⟩ := ok_of h
  refine lv_aload_n hx hb dX3_instanceCall_48 rfl (lv_at hl 2 rfl) ?_
  refine cg_X3_170 X h_l2 hS dX3_instanceCall_49 ?_
  refine lv_iload_n hx hb dX3_instanceCall_52 rfl (lv_at hl 1 rfl) ?_
  obtain ⟨y_8, u_7, h_u_7, h⟩ := bt_of h
  refine kg_X8_arguments_RX3 hst X z_6 hS h_u_7 (Nat.le_trans (Nat.le_of_ble_eq_true rfl) hF) (Nat.le_trans (Nat.le_of_ble_eq_true rfl) hL) hC hl.1 (Nat.le_of_ble_eq_true rfl) dX3_instanceCall_53 (fun r_u_7 hr_u_7 H locs hS => ?_) (fun x9 hn H locs q9 ce hS a1 a2 a3 => by obtain ⟨e2, rfl⟩ := bt_no h hn; exact hX _ e2 _ _ _ _ _ _ _ hS a1 a2 a3)
  replace h := bt_ok h hr_u_7
  refine lv_aload_n hx hb dX3_instanceCall_56 rfl (lv_at hl 0 rfl) ?_
  refine cg_X3_19 X hS dX3_instanceCall_57 ?_
  obtain ⟨z_9, h⟩ := ok_of h
  refine lv_bipush (v := 38) hx hb dX3_instanceCall_60 (by decide) ?_
  refine lv_aload_n hx hb dX3_instanceCall_62 rfl (lv_at hl 2 rfl) ?_
  refine cg_X3_214 X h_l2 hS dX3_instanceCall_63 ?_
  refine lv_iconst (v := 0) hx hb dX3_instanceCall_66 (by decide) ?_
  refine lv_iload_n hx hb dX3_instanceCall_67 rfl (lv_at hl 1 rfl) ?_
  obtain ⟨r_11, u_10, h_u_10, h⟩ := bc_of h
  refine kc_X6_step_RX3 X z_9 hS h_u_10 (Nat.le_trans (Nat.le_of_ble_eq_true rfl) hF) (Nat.le_trans (Nat.le_of_ble_eq_true rfl) hL) hl.1 (Nat.le_of_ble_eq_true rfl) dX3_instanceCall_68 (fun H locs hS => ?_)
  refine lv_pop hx hb dX3_instanceCall_71 rfl ?_
  refine lv_aload_n hx hb dX3_instanceCall_72 rfl (lv_at hl 0 rfl) ?_
  refine cg_X3_15 X hS dX3_instanceCall_73 ?_
  obtain ⟨r_u_12, u_12, h_u_12, h⟩ := bc_of h
  refine kc_X9_next_RX3 X  hS h_u_12 (Nat.le_trans (Nat.le_of_ble_eq_true rfl) hF) (Nat.le_trans (Nat.le_of_ble_eq_true rfl) hL) hl.1 (Nat.le_of_ble_eq_true rfl) dX3_instanceCall_76 (fun H locs hS => ?_)
  obtain ⟨e9, rfl⟩ := so9 h
  exact hE _ e9.symm _ _ _ _ hS dX3_instanceCall_79
def B_X3_instanceCall_0 (N : Nat) (l1 : Int32) (u : CSt) : Option ((Sum Nat Int32) × CSt) := bc (F_X8_known N u) fun r_14 u_13 => ok (r_14 < 338) inferInstance <| if (mI u_13 r_14 2) = (1 : Int32) then (B_X3_instanceCall_25 N l1 r_14 u_13) else (bt (F_X9_refuse N 3 l1 u_13) fun _ u_17 => B_X3_instanceCall_25 N l1 r_14 u_17)
set_option maxHeartbeats 4000000 in
theorem b_X3_instanceCall_0 {y : (Sum Nat Int32)} (X : CC p s m args c cX3_instanceCall 3 (Cond.code yX3_instanceCall cX3_instanceCall 3 none) RX3 D kA V A) (hE : CEvx p l e R s m args below meth c cX3_instanceCall D kA Z A Q y w) (hst : l.stackTraces = false) (hX : CX p l e R s m args below meth c D kA Z A Q y w) (hC : 1 ≤ R.cells ∧ 6 ≤ R.slots) (hF : 321 ≤ R.frames) (hL : 18727 ≤ R.locals) {l1 : Int32} {u : CSt}  (h : B_X3_instanceCall_0 N l1 u = some (y, w))  (hS : CS D kA Z A s u H locs) (hl : lv_has ls 3 [(0, .ref (Z 227)), (1, .int l1)]) : W p l e R s m args below meth c H locs 0 0 Q (F0 m 0 ls []) := by
  obtain ⟨⟨hx, hb, hml, hown, hts⟩, hK, hEV, hA⟩ := id X
  have hG : ∀ w ∈ GW, w.before args s = true := fun w h => hts w (List.mem_cons_of_mem _ h)
  unfold B_X3_instanceCall_0 at h
  refine lv_aload_n hx hb dX3_instanceCall_0 rfl (lv_at hl 0 rfl) ?_
  refine cg_X3_28 X hS dX3_instanceCall_1 ?_
  obtain ⟨r_14, u_13, h_u_13, h⟩ := bc_of h
  refine kc_X8_known_RX3 X  hS h_u_13 (Nat.le_trans (Nat.le_of_ble_eq_true rfl) hF) (Nat.le_trans (Nat.le_of_ble_eq_true rfl) hL) hl.1 (Nat.le_of_ble_eq_true rfl) dX3_instanceCall_4 (fun H locs hS => ?_)
  obtain ⟨z_15, h⟩ := ok_of h
  refine lv_astore_n (lv' := [(2, .ref (Z (1000 + r_14))), (0, .ref (Z 227)), (1, .int l1)]) hx hb dX3_instanceCall_7 rfl hl (by decide) rfl (fun ls hl => ?_)
  refine lv_aload_n hx hb dX3_instanceCall_8 rfl (lv_at hl 0 rfl) ?_
  refine cg_X3_121 X z_15 hS dX3_instanceCall_9 ?_
  refine lv_iconst (v := 1) hx hb dX3_instanceCall_12 (by decide) ?_
  refine lv_icmp_eq (tgt := 25) hx hb dX3_instanceCall_13 (by decide) (fun c_16 => ?_) (fun c_16 => ?_)
  · have h := ip (c_16) h
    exact b_X3_instanceCall_25 X hE hst hX hC hF hL  h z_15 hS (lv_sub hl [1, 2, 0] rfl)
  · have h := im (c_16) h
    refine lv_aload_n hx hb dX3_instanceCall_16 rfl (lv_at hl 1 rfl) ?_
    refine cg_X3_15 X hS dX3_instanceCall_17 ?_
    refine lv_iconst (v := 3) hx hb dX3_instanceCall_20 (by decide) ?_
    refine lv_iload_n hx hb dX3_instanceCall_21 rfl (lv_at hl 2 rfl) ?_
    obtain ⟨y_18, u_17, h_u_17, h⟩ := bt_of h
    refine kc_X9_refuse_RX3 hst X  hS h_u_17 (Nat.le_trans (Nat.le_of_ble_eq_true rfl) hF) (Nat.le_trans (Nat.le_of_ble_eq_true rfl) hL) hC hl.1 (Nat.le_of_ble_eq_true rfl) dX3_instanceCall_22 (fun r_u_17 hr_u_17 H locs hS => ?_) (fun x9 hn H locs q9 ce hS a1 a2 a3 => by obtain ⟨e2, rfl⟩ := bt_no h hn; exact hX _ e2 _ _ _ _ _ _ _ hS a1 a2 a3)
    replace h := bt_ok h hr_u_17
    exact b_X3_instanceCall_25 X hE hst hX hC hF hL  h z_15 hS (lv_sub hl [1, 2, 0] rfl)
def F_X3_instanceCall (N : Nat) (l1 : Int32) (u : CSt) : Option ((Sum Nat Int32) × CSt) := B_X3_instanceCall_0 N l1 u
set_option maxHeartbeats 4000000 in
theorem k_X3_instanceCall (l : Launch) (hst : l.stackTraces = false) (D : va_G) (kA : Nat → ClassId) (V Z : Nat → Nat) (N : Nat) (l1 : Int32) (u : CSt) (sz : Nat) {y : (Sum Nat Int32)} {w : CSt} (h : F_X3_instanceCall N l1 u = some (y, w)) : vx_Met l yX3_instanceCall (Cond.code yX3_instanceCall cX3_instanceCall 3 none :: GW) { frames := 321, cells := 1, slots := 6, locals := 18727 } (cPc D kA V Z [.ref (Z 227), .int l1] u sz) (cQvx D kA Z u sz y w) (cXc D kA Z u sz y w) 1 6 (va_A (CW kA Z u) sz) := by
  refine vx_ofW (cc := cX3_instanceCall) (maxL := 3) (ret := none) (by decide) rfl ?_
  intro p e s m args below meth c s₁ Bd hml hxt hv
  obtain ⟨rfl, hsz, hP, hK, hD0, hE⟩ := hv
  have hts := atoms_spec (ws := Cond.code yX3_instanceCall cX3_instanceCall 3 none :: GW) Bd.pre
  have hl := lv_entry ([.ref (Z 227), .int l1]) (n := 3) (Nat.le_of_ble_eq_true rfl)
  rw [lg_entry_eq]
  generalize (lg_sl ([.ref (Z 227), .int l1]) ++ List.replicate (3 - (lg_sl ([.ref (Z 227), .int l1])).length) Slot.unset).toArray = ls at hl ⊢
  have hl : lv_has ls 3 [(0, .ref (Z 227)), (1, .int l1)] := hl
  subst hsz
  have X : CC p s m ([.ref (Z 227), .int l1]).toArray c cX3_instanceCall 3 (Cond.code yX3_instanceCall cX3_instanceCall 3 none) RX3 D kA V (va_A (CW kA Z u) s.heap.size) := ⟨⟨Bd.exec, Bd.bytes, hml, findClass_of_methodNamed Bd.named, hts⟩, hK, hE, fun q h => Or.inr h⟩
  refine b_X3_instanceCall_0 X (cend_vx X Bd.returns Bd.notSynchronized) hst (cend_X X hxt Bd.notSynchronized) ⟨Nat.le_refl _, Nat.le_refl _⟩ (Nat.le_refl _) (Nat.le_refl _) h  ⟨hP, hD0.self, va_S.rf⟩ (lv_sub hl [0, 1] rfl)
theorem kc_X3_instanceCall_RX3 {cc : ByteArray} {pc nL : Nat} {c0 : Cond} {rest : List Value} {l1 : Int32} {u w1 : CSt} {y1 : (Sum Nat Int32)} (hst : l.stackTraces = false) (X : CC p s m args c cc nL c0 RX3 D kA V A)  (hS : CS D kA Z A s u H locs) (h : F_X3_instanceCall N l1 u = some (y1, w1)) (hF : 321 + 1 ≤ R.frames) (hL : 8 + (3 + 11) + 18727 ≤ R.locals) (hC : 1 ≤ R.cells ∧ 6 ≤ R.slots) (hl : ls.size = nL) (hc : (rest.map fun v => v.category).sum ≤ 8) (hdg : decode cc pc = .ok (.invokevirtual 288, 3)) (kk : ∀ r, y1 = .inr r → ∀ H locs, CS D kA Z A s w1 H locs → W p l e R s m args below meth c H locs 0 0 Q (F0 m (pc + 3) ls (rest))) (kx : ∀ x, y1 = .inl x → ∀ (H : Heap) (locs : List Loc) (q : Addr) (ce : Cell), CS D kA Z A s w1 H locs → H[q]? = some ce → ce.vm = .none → s.vm.findClass (exN x) = some ce.cls → vx_W p l e R s m args below meth c H locs 1 6 Q (F0 m pc ls rest) q) : W p l e R s m args below meth c H locs 0 0 Q (F0 m pc ls (.int l1 :: .ref (Z 227) :: rest)) :=
  ccall_vx (n := 1) X hS (k_X3_instanceCall l hst D kA V Z N l1  u H.size h) (gw_V gw_1329 gw_1331 gs_5_11 gw_13 gw_1332) (by decide +kernel) (va_recv X.2.1 hS.1 (ci := 3) (q0 := 27) rfl (cw_lit rfl)) hF hL hC rfl hl hc rfl hdg kk kx
def B_X3_leave_69 (N : Nat) (u : CSt) : Option ((Sum Nat Int32) × CSt) := bc (F_X9_next N u) fun _ u_1 => bc (F_X9_next N u_1) fun _ u_2 => some (.inr 0, u_2)
set_option maxHeartbeats 4000000 in
theorem b_X3_leave_69 {y : (Sum Nat Int32)} (X : CC p s m args c cX3_leave 2 (Cond.code yX3_leave cX3_leave 2 none) RX3 D kA V A) (hE : CEvx p l e R s m args below meth c cX3_leave D kA Z A Q y w) (hst : l.stackTraces = false) (hX : CX p l e R s m args below meth c D kA Z A Q y w) (hC : 1 ≤ R.cells ∧ 6 ≤ R.slots) (hF : 7 ≤ R.frames) (hL : 122 ≤ R.locals) {u : CSt}  (h : B_X3_leave_69 N u = some (y, w))  (hS : CS D kA Z A s u H locs) (hl : lv_has ls 2 [(0, .ref (Z 227))]) : W p l e R s m args below meth c H locs 0 0 Q (F0 m 69 ls []) := by
  obtain ⟨⟨hx, hb, hml, hown, hts⟩, hK, hEV, hA⟩ := id X
  have hG : ∀ w ∈ GW, w.before args s = true := fun w h => hts w (List.mem_cons_of_mem _ h)
  unfold B_X3_leave_69 at h
  refine lv_aload_n hx hb dX3_leave_69 rfl (lv_at hl 0 rfl) ?_
  refine cg_X3_15 X hS dX3_leave_70 ?_
  obtain ⟨r_u_1, u_1, h_u_1, h⟩ := bc_of h
  refine kc_X9_next_RX3 X  hS h_u_1 (Nat.le_trans (Nat.le_of_ble_eq_true rfl) hF) (Nat.le_trans (Nat.le_of_ble_eq_true rfl) hL) hl.1 (Nat.le_of_ble_eq_true rfl) dX3_leave_73 (fun H locs hS => ?_)
  refine lv_aload_n hx hb dX3_leave_76 rfl (lv_at hl 0 rfl) ?_
  refine cg_X3_15 X hS dX3_leave_77 ?_
  obtain ⟨r_u_2, u_2, h_u_2, h⟩ := bc_of h
  refine kc_X9_next_RX3 X  hS h_u_2 (Nat.le_trans (Nat.le_of_ble_eq_true rfl) hF) (Nat.le_trans (Nat.le_of_ble_eq_true rfl) hL) hl.1 (Nat.le_of_ble_eq_true rfl) dX3_leave_80 (fun H locs hS => ?_)
  obtain ⟨e9, rfl⟩ := so9 h
  exact hE _ e9.symm _ _ _ _ hS dX3_leave_83
def B_X3_leave_16 (N : Nat) (l1 : Int32) (u : CSt) : Option ((Sum Nat Int32) × CSt) := bc (F_X9_is N 25 u) fun r_4 u_3 => if r_4 = (0 : Int32) then (ok (cR u_3 2 < 2) inferInstance <| bc (F_X6_step N (cR u_3 2) 30 (cI u_3 15) 0 l1 u_3) fun r_8 u_7 => pc (xI u_7 15 r_8) fun u_9 => B_X3_leave_69 N u_9) else (ok (cR u_3 2 < 2) inferInstance <| bc (F_X6_step N (cR u_3 2) 30 (cI u_3 14) 0 l1 u_3) fun r_12 u_11 => pc (xI u_11 14 r_12) fun u_13 => B_X3_leave_69 N u_13)
set_option maxHeartbeats 4000000 in
theorem b_X3_leave_16 {y : (Sum Nat Int32)} (X : CC p s m args c cX3_leave 2 (Cond.code yX3_leave cX3_leave 2 none) RX3 D kA V A) (hE : CEvx p l e R s m args below meth c cX3_leave D kA Z A Q y w) (hst : l.stackTraces = false) (hX : CX p l e R s m args below meth c D kA Z A Q y w) (hC : 1 ≤ R.cells ∧ 6 ≤ R.slots) (hF : 7 ≤ R.frames) (hL : 122 ≤ R.locals) {l1 : Int32} {u : CSt}  (h : B_X3_leave_16 N l1 u = some (y, w))  (hS : CS D kA Z A s u H locs) (hl : lv_has ls 2 [(0, .ref (Z 227)), (1, .int l1)]) : W p l e R s m args below meth c H locs 0 0 Q (F0 m 16 ls []) := by
  obtain ⟨⟨hx, hb, hml, hown, hts⟩, hK, hEV, hA⟩ := id X
  have hG : ∀ w ∈ GW, w.before args s = true := fun w h => hts w (List.mem_cons_of_mem _ h)
  unfold B_X3_leave_16 at h
  refine lv_aload_n hx hb dX3_leave_16 rfl (lv_at hl 0 rfl) ?_
  refine cg_X3_15 X hS dX3_leave_17 ?_
  refine lv_bipush (v := 25) hx hb dX3_leave_20 (by decide) ?_
  obtain ⟨r_4, u_3, h_u_3, h⟩ := bc_of h
  refine kc_X9_is_RX3 X  hS h_u_3 (Nat.le_trans (Nat.le_of_ble_eq_true rfl) hF) (Nat.le_trans (Nat.le_of_ble_eq_true rfl) hL) hl.1 (Nat.le_of_ble_eq_true rfl) dX3_leave_22 (fun H locs hS => ?_)
  refine lv_if_eq (tgt := 50) hx hb dX3_leave_25 (by decide) (fun c_5 => ?_) (fun c_5 => ?_)
  · have h := ip (c_5) h
    refine lv_aload_n hx hb dX3_leave_50 rfl (lv_at hl 0 rfl) ?_
    refine lv_aload_n hx hb dX3_leave_51 rfl (lv_at hl 0 rfl) ?_
    refine cg_X3_19 X hS dX3_leave_52 ?_
    obtain ⟨z_6, h⟩ := ok_of h
    refine lv_bipush (v := 30) hx hb dX3_leave_55 (by decide) ?_
    refine lv_aload_n hx hb dX3_leave_57 rfl (lv_at hl 0 rfl) ?_
    refine cg_X3_57 X hS dX3_leave_58 ?_
    refine lv_iconst (v := 0) hx hb dX3_leave_61 (by decide) ?_
    refine lv_iload_n hx hb dX3_leave_62 rfl (lv_at hl 1 rfl) ?_
    obtain ⟨r_8, u_7, h_u_7, h⟩ := bc_of h
    refine kc_X6_step_RX3 X z_6 hS h_u_7 (Nat.le_trans (Nat.le_of_ble_eq_true rfl) hF) (Nat.le_trans (Nat.le_of_ble_eq_true rfl) hL) hl.1 (Nat.le_of_ble_eq_true rfl) dX3_leave_63 (fun H locs hS => ?_)
    obtain ⟨u_9, e_u_9, h⟩ := pc_of h
    refine cp_X3_57 X hS e_u_9 dX3_leave_66 (fun H locs hS => ?_)
    exact b_X3_leave_69 X hE hst hX hC hF hL  h  hS (lv_sub hl [0] rfl)
  · have h := im (c_5) h
    refine lv_aload_n hx hb dX3_leave_28 rfl (lv_at hl 0 rfl) ?_
    refine lv_aload_n hx hb dX3_leave_29 rfl (lv_at hl 0 rfl) ?_
    refine cg_X3_19 X hS dX3_leave_30 ?_
    obtain ⟨z_10, h⟩ := ok_of h
    refine lv_bipush (v := 30) hx hb dX3_leave_33 (by decide) ?_
    refine lv_aload_n hx hb dX3_leave_35 rfl (lv_at hl 0 rfl) ?_
    refine cg_X3_54 X hS dX3_leave_36 ?_
    refine lv_iconst (v := 0) hx hb dX3_leave_39 (by decide) ?_
    refine lv_iload_n hx hb dX3_leave_40 rfl (lv_at hl 1 rfl) ?_
    obtain ⟨r_12, u_11, h_u_11, h⟩ := bc_of h
    refine kc_X6_step_RX3 X z_10 hS h_u_11 (Nat.le_trans (Nat.le_of_ble_eq_true rfl) hF) (Nat.le_trans (Nat.le_of_ble_eq_true rfl) hL) hl.1 (Nat.le_of_ble_eq_true rfl) dX3_leave_41 (fun H locs hS => ?_)
    obtain ⟨u_13, e_u_13, h⟩ := pc_of h
    refine cp_X3_54 X hS e_u_13 dX3_leave_44 (fun H locs hS => ?_)
    refine lv_goto (tgt := 69) hx hb dX3_leave_47 (by decide) ?_
    exact b_X3_leave_69 X hE hst hX hC hF hL  h  hS (lv_sub hl [0] rfl)
def B_X3_leave_0 (N : Nat) (l1 : Int32) (u : CSt) : Option ((Sum Nat Int32) × CSt) := if (cI u 13) = (0 : Int32) then (bt (F_X9_refuse N 3 l1 u) fun _ u_15 => B_X3_leave_16 N l1 u_15) else (B_X3_leave_16 N l1 u)
set_option maxHeartbeats 4000000 in
theorem b_X3_leave_0 {y : (Sum Nat Int32)} (X : CC p s m args c cX3_leave 2 (Cond.code yX3_leave cX3_leave 2 none) RX3 D kA V A) (hE : CEvx p l e R s m args below meth c cX3_leave D kA Z A Q y w) (hst : l.stackTraces = false) (hX : CX p l e R s m args below meth c D kA Z A Q y w) (hC : 1 ≤ R.cells ∧ 6 ≤ R.slots) (hF : 7 ≤ R.frames) (hL : 122 ≤ R.locals) {l1 : Int32} {u : CSt}  (h : B_X3_leave_0 N l1 u = some (y, w))  (hS : CS D kA Z A s u H locs) (hl : lv_has ls 2 [(0, .ref (Z 227)), (1, .int l1)]) : W p l e R s m args below meth c H locs 0 0 Q (F0 m 0 ls []) := by
  obtain ⟨⟨hx, hb, hml, hown, hts⟩, hK, hEV, hA⟩ := id X
  have hG : ∀ w ∈ GW, w.before args s = true := fun w h => hts w (List.mem_cons_of_mem _ h)
  unfold B_X3_leave_0 at h
  refine lv_aload_n hx hb dX3_leave_0 rfl (lv_at hl 0 rfl) ?_
  refine cg_X3_51 X hS dX3_leave_1 ?_
  refine lv_if_ne (tgt := 16) hx hb dX3_leave_4 (by decide) (fun c_14 => ?_) (fun c_14 => ?_)
  · have h := im (c_14) h
    exact b_X3_leave_16 X hE hst hX hC hF hL  h  hS (lv_sub hl [0, 1] rfl)
  · have h := ip (c_14) h
    refine lv_aload_n hx hb dX3_leave_7 rfl (lv_at hl 0 rfl) ?_
    refine cg_X3_15 X hS dX3_leave_8 ?_
    refine lv_iconst (v := 3) hx hb dX3_leave_11 (by decide) ?_
    refine lv_iload_n hx hb dX3_leave_12 rfl (lv_at hl 1 rfl) ?_
    obtain ⟨y_16, u_15, h_u_15, h⟩ := bt_of h
    refine kc_X9_refuse_RX3 hst X  hS h_u_15 (Nat.le_trans (Nat.le_of_ble_eq_true rfl) hF) (Nat.le_trans (Nat.le_of_ble_eq_true rfl) hL) hC hl.1 (Nat.le_of_ble_eq_true rfl) dX3_leave_13 (fun r_u_15 hr_u_15 H locs hS => ?_) (fun x9 hn H locs q9 ce hS a1 a2 a3 => by obtain ⟨e2, rfl⟩ := bt_no h hn; exact hX _ e2 _ _ _ _ _ _ _ hS a1 a2 a3)
    replace h := bt_ok h hr_u_15
    exact b_X3_leave_16 X hE hst hX hC hF hL  h  hS (lv_sub hl [0, 1] rfl)
def F_X3_leave (N : Nat) (l1 : Int32) (u : CSt) : Option ((Sum Nat Int32) × CSt) := B_X3_leave_0 N l1 u
set_option maxHeartbeats 4000000 in
theorem k_X3_leave (l : Launch) (hst : l.stackTraces = false) (D : va_G) (kA : Nat → ClassId) (V Z : Nat → Nat) (N : Nat) (l1 : Int32) (u : CSt) (sz : Nat) {y : (Sum Nat Int32)} {w : CSt} (h : F_X3_leave N l1 u = some (y, w)) : vx_Met l yX3_leave (Cond.code yX3_leave cX3_leave 2 none :: GW) { frames := 7, cells := 1, slots := 6, locals := 122 } (cPc D kA V Z [.ref (Z 227), .int l1] u sz) (cQvx D kA Z u sz y w) (cXc D kA Z u sz y w) 1 6 (va_A (CW kA Z u) sz) := by
  refine vx_ofW (cc := cX3_leave) (maxL := 2) (ret := none) (by decide) rfl ?_
  intro p e s m args below meth c s₁ Bd hml hxt hv
  obtain ⟨rfl, hsz, hP, hK, hD0, hE⟩ := hv
  have hts := atoms_spec (ws := Cond.code yX3_leave cX3_leave 2 none :: GW) Bd.pre
  have hl := lv_entry ([.ref (Z 227), .int l1]) (n := 2) (Nat.le_of_ble_eq_true rfl)
  rw [lg_entry_eq]
  generalize (lg_sl ([.ref (Z 227), .int l1]) ++ List.replicate (2 - (lg_sl ([.ref (Z 227), .int l1])).length) Slot.unset).toArray = ls at hl ⊢
  have hl : lv_has ls 2 [(0, .ref (Z 227)), (1, .int l1)] := hl
  subst hsz
  have X : CC p s m ([.ref (Z 227), .int l1]).toArray c cX3_leave 2 (Cond.code yX3_leave cX3_leave 2 none) RX3 D kA V (va_A (CW kA Z u) s.heap.size) := ⟨⟨Bd.exec, Bd.bytes, hml, findClass_of_methodNamed Bd.named, hts⟩, hK, hE, fun q h => Or.inr h⟩
  refine b_X3_leave_0 X (cend_vx X Bd.returns Bd.notSynchronized) hst (cend_X X hxt Bd.notSynchronized) ⟨Nat.le_refl _, Nat.le_refl _⟩ (Nat.le_refl _) (Nat.le_refl _) h  ⟨hP, hD0.self, va_S.rf⟩ (lv_sub hl [0, 1] rfl)
theorem kc_X3_leave_RX3 {cc : ByteArray} {pc nL : Nat} {c0 : Cond} {rest : List Value} {l1 : Int32} {u w1 : CSt} {y1 : (Sum Nat Int32)} (hst : l.stackTraces = false) (X : CC p s m args c cc nL c0 RX3 D kA V A)  (hS : CS D kA Z A s u H locs) (h : F_X3_leave N l1 u = some (y1, w1)) (hF : 7 + 1 ≤ R.frames) (hL : 8 + (2 + 11) + 122 ≤ R.locals) (hC : 1 ≤ R.cells ∧ 6 ≤ R.slots) (hl : ls.size = nL) (hc : (rest.map fun v => v.category).sum ≤ 8) (hdg : decode cc pc = .ok (.invokevirtual 275, 3)) (kk : ∀ r, y1 = .inr r → ∀ H locs, CS D kA Z A s w1 H locs → W p l e R s m args below meth c H locs 0 0 Q (F0 m (pc + 3) ls (rest))) (kx : ∀ x, y1 = .inl x → ∀ (H : Heap) (locs : List Loc) (q : Addr) (ce : Cell), CS D kA Z A s w1 H locs → H[q]? = some ce → ce.vm = .none → s.vm.findClass (exN x) = some ce.cls → vx_W p l e R s m args below meth c H locs 1 6 Q (F0 m pc ls rest) q) : W p l e R s m args below meth c H locs 0 0 Q (F0 m pc ls (.int l1 :: .ref (Z 227) :: rest)) :=
  ccall_vx (n := 1) X hS (k_X3_leave l hst D kA V Z N l1  u H.size h) (gw_V gw_1320 gw_1322 gs_5_9 gw_13 gw_1323) (by decide +kernel) (va_recv X.2.1 hS.1 (ci := 3) (q0 := 27) rfl (cw_lit rfl)) hF hL hC rfl hl hc rfl hdg kk kx
def B_X3_returned_147 (N : Nat) (u : CSt) : Option ((Sum Nat Int32) × CSt) := bc (F_X9_next N u) fun _ u_1 => some (.inr 0, u_1)
set_option maxHeartbeats 4000000 in
theorem b_X3_returned_147 {y : (Sum Nat Int32)} (X : CC p s m args c cX3_returned 6 (Cond.code yX3_returned cX3_returned 6 none) RX3 D kA V A) (hE : CEvx p l e R s m args below meth c cX3_returned D kA Z A Q y w) (hst : l.stackTraces = false) (hX : CX p l e R s m args below meth c D kA Z A Q y w) (hC : 1 ≤ R.cells ∧ 6 ≤ R.slots) (hF : 321 ≤ R.frames) (hL : 18726 ≤ R.locals) {u : CSt}  (h : B_X3_returned_147 N u = some (y, w))  (hS : CS D kA Z A s u H locs) (hl : lv_has ls 6 [(0, .ref (Z 227))]) : W p l e R s m args below meth c H locs 0 0 Q (F0 m 147 ls []) := by
  obtain ⟨⟨hx, hb, hml, hown, hts⟩, hK, hEV, hA⟩ := id X
  have hG : ∀ w ∈ GW, w.before args s = true := fun w h => hts w (List.mem_cons_of_mem _ h)
  unfold B_X3_returned_147 at h
  refine lv_aload_n hx hb dX3_returned_147 rfl (lv_at hl 0 rfl) ?_
  refine cg_X3_15 X hS dX3_returned_148 ?_
  obtain ⟨r_u_1, u_1, h_u_1, h⟩ := bc_of h
  refine kc_X9_next_RX3 X  hS h_u_1 (Nat.le_trans (Nat.le_of_ble_eq_true rfl) hF) (Nat.le_trans (Nat.le_of_ble_eq_true rfl) hL) hl.1 (Nat.le_of_ble_eq_true rfl) dX3_returned_151 (fun H locs hS => ?_)
  obtain ⟨e9, rfl⟩ := so9 h
  exact hE _ e9.symm _ _ _ _ hS dX3_returned_154
def B_X3_returned_115 (N : Nat) (l1 : Int32) (l3 : Nat) (u : CSt) : Option ((Sum Nat Int32) × CSt) := ok (cR u 2 < 2) inferInstance <| bc (F_X6_step N (cR u 2) 39 (mI u l3 5) 0 l1 u) fun r_4 u_3 => B_X3_returned_147 N u_3
set_option maxHeartbeats 4000000 in
theorem b_X3_returned_115 {y : (Sum Nat Int32)} (X : CC p s m args c cX3_returned 6 (Cond.code yX3_returned cX3_returned 6 none) RX3 D kA V A) (hE : CEvx p l e R s m args below meth c cX3_returned D kA Z A Q y w) (hst : l.stackTraces = false) (hX : CX p l e R s m args below meth c D kA Z A Q y w) (hC : 1 ≤ R.cells ∧ 6 ≤ R.slots) (hF : 321 ≤ R.frames) (hL : 18726 ≤ R.locals) {l1 : Int32} {l3 : Nat} {u : CSt}  (h : B_X3_returned_115 N l1 l3 u = some (y, w)) (h_l3 : l3 < 338) (hS : CS D kA Z A s u H locs) (hl : lv_has ls 6 [(0, .ref (Z 227)), (1, .int l1), (3, .ref (Z (1000 + l3)))]) : W p l e R s m args below meth c H locs 0 0 Q (F0 m 115 ls []) := by
  obtain ⟨⟨hx, hb, hml, hown, hts⟩, hK, hEV, hA⟩ := id X
  have hG : ∀ w ∈ GW, w.before args s = true := fun w h => hts w (List.mem_cons_of_mem _ h)
  unfold B_X3_returned_115 at h
  refine lv_aload_n hx hb dX3_returned_115 rfl (lv_at hl 0 rfl) ?_
  refine cg_X3_19 X hS dX3_returned_116 ?_
  obtain ⟨z_2, h⟩ := ok_of h
  refine lv_bipush (v := 39) hx hb dX3_returned_119 (by decide) ?_
  refine lv_aload_n hx hb dX3_returned_121 rfl (lv_at hl 2 rfl) ?_
  refine cg_X3_146 X h_l3 hS dX3_returned_122 ?_
  refine lv_iconst (v := 0) hx hb dX3_returned_125 (by decide) ?_
  refine lv_iload_n hx hb dX3_returned_126 rfl (lv_at hl 1 rfl) ?_
  obtain ⟨r_4, u_3, h_u_3, h⟩ := bc_of h
  refine kc_X6_step_RX3 X z_2 hS h_u_3 (Nat.le_trans (Nat.le_of_ble_eq_true rfl) hF) (Nat.le_trans (Nat.le_of_ble_eq_true rfl) hL) hl.1 (Nat.le_of_ble_eq_true rfl) dX3_returned_127 (fun H locs hS => ?_)
  refine lv_pop hx hb dX3_returned_130 rfl ?_
  refine lv_goto (tgt := 147) hx hb dX3_returned_131 (by decide) ?_
  exact b_X3_returned_147 X hE hst hX hC hF hL  h  hS (lv_sub hl [0] rfl)
def B_X3_returned_60 (N : Nat) (l1 : Int32) (l2 : Int32) (l3 : Nat) (u : CSt) : Option ((Sum Nat Int32) × CSt) := bc (F_X9_next N u) fun _ u_5 => if l2 = (0 : Int32) then (ok (cR u_5 2 < 2) inferInstance <| bc (F_X6_step N (cR u_5 2) 40 0 0 l1 u_5) fun r_9 u_8 => B_X3_returned_147 N u_8) else (bc (F_X9_here N u_5) fun r_11 u_10 => bt (G_X8_expression N u_10) fun r_13 u_12 => bc (F_X8_isTooWide N r_13 (mI u_12 l3 5) u_12) fun r_16 u_15 => if r_16 = (0 : Int32) then (B_X3_returned_115 N l1 l3 u_15) else (bt (F_X9_refuse N 4 r_11 u_15) fun _ u_18 => B_X3_returned_115 N l1 l3 u_18))
set_option maxHeartbeats 4000000 in
theorem b_X3_returned_60 {y : (Sum Nat Int32)} (X : CC p s m args c cX3_returned 6 (Cond.code yX3_returned cX3_returned 6 none) RX3 D kA V A) (hE : CEvx p l e R s m args below meth c cX3_returned D kA Z A Q y w) (hst : l.stackTraces = false) (hX : CX p l e R s m args below meth c D kA Z A Q y w) (hC : 1 ≤ R.cells ∧ 6 ≤ R.slots) (hF : 321 ≤ R.frames) (hL : 18726 ≤ R.locals) {l1 : Int32} {l2 : Int32} {l3 : Nat} {u : CSt}  (h : B_X3_returned_60 N l1 l2 l3 u = some (y, w)) (h_l3 : l3 < 338) (hS : CS D kA Z A s u H locs) (hl : lv_has ls 6 [(0, .ref (Z 227)), (1, .int l1), (2, .int l2), (3, .ref (Z (1000 + l3)))]) : W p l e R s m args below meth c H locs 0 0 Q (F0 m 60 ls []) := by
  obtain ⟨⟨hx, hb, hml, hown, hts⟩, hK, hEV, hA⟩ := id X
  have hG : ∀ w ∈ GW, w.before args s = true := fun w h => hts w (List.mem_cons_of_mem _ h)
  unfold B_X3_returned_60 at h
  refine lv_aload_n hx hb dX3_returned_60 rfl (lv_at hl 0 rfl) ?_
  refine cg_X3_15 X hS dX3_returned_61 ?_
  obtain ⟨r_u_5, u_5, h_u_5, h⟩ := bc_of h
  refine kc_X9_next_RX3 X  hS h_u_5 (Nat.le_trans (Nat.le_of_ble_eq_true rfl) hF) (Nat.le_trans (Nat.le_of_ble_eq_true rfl) hL) hl.1 (Nat.le_of_ble_eq_true rfl) dX3_returned_64 (fun H locs hS => ?_)
  refine lv_iload_n hx hb dX3_returned_67 rfl (lv_at hl 2 rfl) ?_
  refine lv_if_eq (tgt := 134) hx hb dX3_returned_68 (by decide) (fun c_6 => ?_) (fun c_6 => ?_)
  · have h := ip (c_6) h
    refine lv_aload_n hx hb dX3_returned_134 rfl (lv_at hl 0 rfl) ?_
    refine cg_X3_19 X hS dX3_returned_135 ?_
    obtain ⟨z_7, h⟩ := ok_of h
    refine lv_bipush (v := 40) hx hb dX3_returned_138 (by decide) ?_
    refine lv_iconst (v := 0) hx hb dX3_returned_140 (by decide) ?_
    refine lv_iconst (v := 0) hx hb dX3_returned_141 (by decide) ?_
    refine lv_iload_n hx hb dX3_returned_142 rfl (lv_at hl 1 rfl) ?_
    obtain ⟨r_9, u_8, h_u_8, h⟩ := bc_of h
    refine kc_X6_step_RX3 X z_7 hS h_u_8 (Nat.le_trans (Nat.le_of_ble_eq_true rfl) hF) (Nat.le_trans (Nat.le_of_ble_eq_true rfl) hL) hl.1 (Nat.le_of_ble_eq_true rfl) dX3_returned_143 (fun H locs hS => ?_)
    refine lv_pop hx hb dX3_returned_146 rfl ?_
    exact b_X3_returned_147 X hE hst hX hC hF hL  h  hS (lv_sub hl [0] rfl)
  · have h := im (c_6) h
    refine lv_aload_n hx hb dX3_returned_71 rfl (lv_at hl 0 rfl) ?_
    refine cg_X3_15 X hS dX3_returned_72 ?_
    obtain ⟨r_11, u_10, h_u_10, h⟩ := bc_of h
    refine kc_X9_here_RX3 X  hS h_u_10 (Nat.le_trans (Nat.le_of_ble_eq_true rfl) hF) (Nat.le_trans (Nat.le_of_ble_eq_true rfl) hL) hl.1 (Nat.le_of_ble_eq_true rfl) dX3_returned_75 (fun H locs hS => ?_)
    refine lv_istore (lv' := [(4, .int r_11), (0, .ref (Z 227)), (1, .int l1), (2, .int l2), (3, .ref (Z (1000 + l3)))]) hx hb dX3_returned_78 hl (by decide) rfl (fun ls hl => ?_)
    refine lv_aload_n hx hb dX3_returned_80 rfl (lv_at hl 1 rfl) ?_
    refine cg_X3_28 X hS dX3_returned_81 ?_
    obtain ⟨y_14, u_12, h_u_12, h⟩ := bt_of h
    refine kg_X8_expression_RX3 hst X  hS h_u_12 (Nat.le_trans (Nat.le_of_ble_eq_true rfl) hF) (Nat.le_trans (Nat.le_of_ble_eq_true rfl) hL) hC hl.1 (Nat.le_of_ble_eq_true rfl) dX3_returned_84 (fun r_13 hr_u_12 H locs hS => ?_) (fun x9 hn H locs q9 ce hS a1 a2 a3 => by obtain ⟨e2, rfl⟩ := bt_no h hn; exact hX _ e2 _ _ _ _ _ _ _ hS a1 a2 a3)
    replace h := bt_ok h hr_u_12
    refine lv_istore (lv' := [(5, .int r_13), (4, .int r_11), (0, .ref (Z 227)), (1, .int l1), (2, .int l2), (3, .ref (Z (1000 + l3)))]) hx hb dX3_returned_87 hl (by decide) rfl (fun ls hl => ?_)
    refine lv_aload_n hx hb dX3_returned_89 rfl (lv_at hl 2 rfl) ?_
    refine cg_X3_28 X hS dX3_returned_90 ?_
    refine lv_iload hx hb dX3_returned_93 (lv_at hl 0 rfl) ?_
    refine lv_aload_n hx hb dX3_returned_95 rfl (lv_at hl 5 rfl) ?_
    refine cg_X3_146 X h_l3 hS dX3_returned_96 ?_
    obtain ⟨r_16, u_15, h_u_15, h⟩ := bc_of h
    refine kc_X8_isTooWide_RX3 X  hS h_u_15 (Nat.le_trans (Nat.le_of_ble_eq_true rfl) hF) (Nat.le_trans (Nat.le_of_ble_eq_true rfl) hL) hl.1 (Nat.le_of_ble_eq_true rfl) dX3_returned_99 (fun H locs hS => ?_)
    refine lv_if_eq (tgt := 115) hx hb dX3_returned_102 (by decide) (fun c_17 => ?_) (fun c_17 => ?_)
    · have h := ip (c_17) h
      exact b_X3_returned_115 X hE hst hX hC hF hL  h h_l3 hS (lv_sub hl [2, 3, 5] rfl)
    · have h := im (c_17) h
      refine lv_aload_n hx hb dX3_returned_105 rfl (lv_at hl 2 rfl) ?_
      refine cg_X3_15 X hS dX3_returned_106 ?_
      refine lv_iconst (v := 4) hx hb dX3_returned_109 (by decide) ?_
      refine lv_iload hx hb dX3_returned_110 (lv_at hl 1 rfl) ?_
      obtain ⟨y_19, u_18, h_u_18, h⟩ := bt_of h
      refine kc_X9_refuse_RX3 hst X  hS h_u_18 (Nat.le_trans (Nat.le_of_ble_eq_true rfl) hF) (Nat.le_trans (Nat.le_of_ble_eq_true rfl) hL) hC hl.1 (Nat.le_of_ble_eq_true rfl) dX3_returned_112 (fun r_u_18 hr_u_18 H locs hS => ?_) (fun x9 hn H locs q9 ce hS a1 a2 a3 => by obtain ⟨e2, rfl⟩ := bt_no h hn; exact hX _ e2 _ _ _ _ _ _ _ hS a1 a2 a3)
      replace h := bt_ok h hr_u_18
      exact b_X3_returned_115 X hE hst hX hC hF hL  h h_l3 hS (lv_sub hl [2, 3, 5] rfl)
def B_X3_returned_48 (N : Nat) (l1 : Int32) (l2 : Int32) (l3 : Nat) (s0 : Int32) (s1 : Int32) (u : CSt) : Option ((Sum Nat Int32) × CSt) := if s0 = s1 then (B_X3_returned_60 N l1 l2 l3 u) else (bt (F_X9_refuse N 3 l1 u) fun _ u_21 => B_X3_returned_60 N l1 l2 l3 u_21)
set_option maxHeartbeats 4000000 in
theorem b_X3_returned_48 {y : (Sum Nat Int32)} (X : CC p s m args c cX3_returned 6 (Cond.code yX3_returned cX3_returned 6 none) RX3 D kA V A) (hE : CEvx p l e R s m args below meth c cX3_returned D kA Z A Q y w) (hst : l.stackTraces = false) (hX : CX p l e R s m args below meth c D kA Z A Q y w) (hC : 1 ≤ R.cells ∧ 6 ≤ R.slots) (hF : 321 ≤ R.frames) (hL : 18726 ≤ R.locals) {l1 : Int32} {l2 : Int32} {l3 : Nat} {s0 : Int32} {s1 : Int32} {u : CSt}  (h : B_X3_returned_48 N l1 l2 l3 s0 s1 u = some (y, w)) (h_l3 : l3 < 338) (hS : CS D kA Z A s u H locs) (hl : lv_has ls 6 [(0, .ref (Z 227)), (1, .int l1), (2, .int l2), (3, .ref (Z (1000 + l3)))]) : W p l e R s m args below meth c H locs 0 0 Q (F0 m 48 ls [.int s1, .int s0]) := by
  obtain ⟨⟨hx, hb, hml, hown, hts⟩, hK, hEV, hA⟩ := id X
  have hG : ∀ w ∈ GW, w.before args s = true := fun w h => hts w (List.mem_cons_of_mem _ h)
  unfold B_X3_returned_48 at h
  refine lv_icmp_eq (tgt := 60) hx hb dX3_returned_48 (by decide) (fun c_20 => ?_) (fun c_20 => ?_)
  · have h := ip (c_20) h
    exact b_X3_returned_60 X hE hst hX hC hF hL  h h_l3 hS (lv_sub hl [0, 1, 2, 3] rfl)
  · have h := im (c_20) h
    refine lv_aload_n hx hb dX3_returned_51 rfl (lv_at hl 0 rfl) ?_
    refine cg_X3_15 X hS dX3_returned_52 ?_
    refine lv_iconst (v := 3) hx hb dX3_returned_55 (by decide) ?_
    refine lv_iload_n hx hb dX3_returned_56 rfl (lv_at hl 1 rfl) ?_
    obtain ⟨y_22, u_21, h_u_21, h⟩ := bt_of h
    refine kc_X9_refuse_RX3 hst X  hS h_u_21 (Nat.le_trans (Nat.le_of_ble_eq_true rfl) hF) (Nat.le_trans (Nat.le_of_ble_eq_true rfl) hL) hC hl.1 (Nat.le_of_ble_eq_true rfl) dX3_returned_57 (fun r_u_21 hr_u_21 H locs hS => ?_) (fun x9 hn H locs q9 ce hS a1 a2 a3 => by obtain ⟨e2, rfl⟩ := bt_no h hn; exact hX _ e2 _ _ _ _ _ _ _ hS a1 a2 a3)
    replace h := bt_ok h hr_u_21
    exact b_X3_returned_60 X hE hst hX hC hF hL  h h_l3 hS (lv_sub hl [0, 1, 2, 3] rfl)
def B_X3_returned_18 (N : Nat) (l1 : Int32) (s0 : Int32) (u : CSt) : Option ((Sum Nat Int32) × CSt) := ok (cR u 2 < 2) inferInstance <| bc (F_X6_name N (cR u 2) (pI u (cR u 2) 15) u) fun r_25 u_24 => ok (r_25 < 338) inferInstance <| if (mI u_24 r_25 2) = (4 : Int32) then (B_X3_returned_48 N l1 s0 r_25 s0 1 u_24) else (B_X3_returned_48 N l1 s0 r_25 s0 0 u_24)
set_option maxHeartbeats 4000000 in
theorem b_X3_returned_18 {y : (Sum Nat Int32)} (X : CC p s m args c cX3_returned 6 (Cond.code yX3_returned cX3_returned 6 none) RX3 D kA V A) (hE : CEvx p l e R s m args below meth c cX3_returned D kA Z A Q y w) (hst : l.stackTraces = false) (hX : CX p l e R s m args below meth c D kA Z A Q y w) (hC : 1 ≤ R.cells ∧ 6 ≤ R.slots) (hF : 321 ≤ R.frames) (hL : 18726 ≤ R.locals) {l1 : Int32} {s0 : Int32} {u : CSt}  (h : B_X3_returned_18 N l1 s0 u = some (y, w))  (hS : CS D kA Z A s u H locs) (hl : lv_has ls 6 [(0, .ref (Z 227)), (1, .int l1)]) : W p l e R s m args below meth c H locs 0 0 Q (F0 m 18 ls [.int s0]) := by
  obtain ⟨⟨hx, hb, hml, hown, hts⟩, hK, hEV, hA⟩ := id X
  have hG : ∀ w ∈ GW, w.before args s = true := fun w h => hts w (List.mem_cons_of_mem _ h)
  unfold B_X3_returned_18 at h
  refine lv_istore_n (lv' := [(2, .int s0), (0, .ref (Z 227)), (1, .int l1)]) hx hb dX3_returned_18 rfl hl (by decide) rfl (fun ls hl => ?_)
  refine lv_aload_n hx hb dX3_returned_19 rfl (lv_at hl 1 rfl) ?_
  refine cg_X3_19 X hS dX3_returned_20 ?_
  obtain ⟨z_23, h⟩ := ok_of h
  refine lv_aload_n hx hb dX3_returned_23 rfl (lv_at hl 1 rfl) ?_
  refine cg_X3_19 X hS dX3_returned_24 ?_
  refine cg_X3_110 X z_23 hS dX3_returned_27 ?_
  obtain ⟨r_25, u_24, h_u_24, h⟩ := bc_of h
  refine kc_X6_name_RX3 X z_23 hS h_u_24 (Nat.le_trans (Nat.le_of_ble_eq_true rfl) hF) (Nat.le_trans (Nat.le_of_ble_eq_true rfl) hL) hl.1 (Nat.le_of_ble_eq_true rfl) dX3_returned_30 (fun H locs hS => ?_)
  obtain ⟨z_26, h⟩ := ok_of h
  refine lv_astore_n (lv' := [(3, .ref (Z (1000 + r_25))), (2, .int s0), (0, .ref (Z 227)), (1, .int l1)]) hx hb dX3_returned_33 rfl hl (by decide) rfl (fun ls hl => ?_)
  refine lv_iload_n hx hb dX3_returned_34 rfl (lv_at hl 1 rfl) ?_
  refine lv_aload_n hx hb dX3_returned_35 rfl (lv_at hl 0 rfl) ?_
  refine cg_X3_121 X z_26 hS dX3_returned_36 ?_
  refine lv_iconst (v := 4) hx hb dX3_returned_39 (by decide) ?_
  refine lv_icmp_ne (tgt := 47) hx hb dX3_returned_40 (by decide) (fun c_27 => ?_) (fun c_27 => ?_)
  · have h := im (c_27) h
    refine lv_iconst (v := 0) hx hb dX3_returned_47 (by decide) ?_
    exact b_X3_returned_48 X hE hst hX hC hF hL  h z_26 hS (lv_sub hl [2, 3, 1, 0] rfl)
  · have h := ip (c_27) h
    refine lv_iconst (v := 1) hx hb dX3_returned_43 (by decide) ?_
    refine lv_goto (tgt := 48) hx hb dX3_returned_44 (by decide) ?_
    exact b_X3_returned_48 X hE hst hX hC hF hL  h z_26 hS (lv_sub hl [2, 3, 1, 0] rfl)
def B_X3_returned_0 (N : Nat) (l1 : Int32) (u : CSt) : Option ((Sum Nat Int32) × CSt) := bc (F_X9_typeAhead N 1 u) fun r_29 u_28 => if r_29 = (59 : Int32) then (B_X3_returned_18 N l1 0 u_28) else (B_X3_returned_18 N l1 1 u_28)
set_option maxHeartbeats 4000000 in
theorem b_X3_returned_0 {y : (Sum Nat Int32)} (X : CC p s m args c cX3_returned 6 (Cond.code yX3_returned cX3_returned 6 none) RX3 D kA V A) (hE : CEvx p l e R s m args below meth c cX3_returned D kA Z A Q y w) (hst : l.stackTraces = false) (hX : CX p l e R s m args below meth c D kA Z A Q y w) (hC : 1 ≤ R.cells ∧ 6 ≤ R.slots) (hF : 321 ≤ R.frames) (hL : 18726 ≤ R.locals) {l1 : Int32} {u : CSt}  (h : B_X3_returned_0 N l1 u = some (y, w))  (hS : CS D kA Z A s u H locs) (hl : lv_has ls 6 [(0, .ref (Z 227)), (1, .int l1)]) : W p l e R s m args below meth c H locs 0 0 Q (F0 m 0 ls []) := by
  obtain ⟨⟨hx, hb, hml, hown, hts⟩, hK, hEV, hA⟩ := id X
  have hG : ∀ w ∈ GW, w.before args s = true := fun w h => hts w (List.mem_cons_of_mem _ h)
  unfold B_X3_returned_0 at h
  refine lv_aload_n hx hb dX3_returned_0 rfl (lv_at hl 0 rfl) ?_
  refine cg_X3_15 X hS dX3_returned_1 ?_
  refine lv_iconst (v := 1) hx hb dX3_returned_4 (by decide) ?_
  obtain ⟨r_29, u_28, h_u_28, h⟩ := bc_of h
  refine kc_X9_typeAhead_RX3 X  hS h_u_28 (Nat.le_trans (Nat.le_of_ble_eq_true rfl) hF) (Nat.le_trans (Nat.le_of_ble_eq_true rfl) hL) hl.1 (Nat.le_of_ble_eq_true rfl) dX3_returned_5 (fun H locs hS => ?_)
  refine lv_bipush (v := 59) hx hb dX3_returned_8 (by decide) ?_
  refine lv_icmp_eq (tgt := 17) hx hb dX3_returned_10 (by decide) (fun c_30 => ?_) (fun c_30 => ?_)
  · have h := ip (c_30) h
    refine lv_iconst (v := 0) hx hb dX3_returned_17 (by decide) ?_
    exact b_X3_returned_18 X hE hst hX hC hF hL  h  hS (lv_sub hl [0, 1] rfl)
  · have h := im (c_30) h
    refine lv_iconst (v := 1) hx hb dX3_returned_13 (by decide) ?_
    refine lv_goto (tgt := 18) hx hb dX3_returned_14 (by decide) ?_
    exact b_X3_returned_18 X hE hst hX hC hF hL  h  hS (lv_sub hl [0, 1] rfl)
def F_X3_returned (N : Nat) (l1 : Int32) (u : CSt) : Option ((Sum Nat Int32) × CSt) := B_X3_returned_0 N l1 u
set_option maxHeartbeats 4000000 in
theorem k_X3_returned (l : Launch) (hst : l.stackTraces = false) (D : va_G) (kA : Nat → ClassId) (V Z : Nat → Nat) (N : Nat) (l1 : Int32) (u : CSt) (sz : Nat) {y : (Sum Nat Int32)} {w : CSt} (h : F_X3_returned N l1 u = some (y, w)) : vx_Met l yX3_returned (Cond.code yX3_returned cX3_returned 6 none :: GW) { frames := 321, cells := 1, slots := 6, locals := 18726 } (cPc D kA V Z [.ref (Z 227), .int l1] u sz) (cQvx D kA Z u sz y w) (cXc D kA Z u sz y w) 1 6 (va_A (CW kA Z u) sz) := by
  refine vx_ofW (cc := cX3_returned) (maxL := 6) (ret := none) (by decide) rfl ?_
  intro p e s m args below meth c s₁ Bd hml hxt hv
  obtain ⟨rfl, hsz, hP, hK, hD0, hE⟩ := hv
  have hts := atoms_spec (ws := Cond.code yX3_returned cX3_returned 6 none :: GW) Bd.pre
  have hl := lv_entry ([.ref (Z 227), .int l1]) (n := 6) (Nat.le_of_ble_eq_true rfl)
  rw [lg_entry_eq]
  generalize (lg_sl ([.ref (Z 227), .int l1]) ++ List.replicate (6 - (lg_sl ([.ref (Z 227), .int l1])).length) Slot.unset).toArray = ls at hl ⊢
  have hl : lv_has ls 6 [(0, .ref (Z 227)), (1, .int l1)] := hl
  subst hsz
  have X : CC p s m ([.ref (Z 227), .int l1]).toArray c cX3_returned 6 (Cond.code yX3_returned cX3_returned 6 none) RX3 D kA V (va_A (CW kA Z u) s.heap.size) := ⟨⟨Bd.exec, Bd.bytes, hml, findClass_of_methodNamed Bd.named, hts⟩, hK, hE, fun q h => Or.inr h⟩
  refine b_X3_returned_0 X (cend_vx X Bd.returns Bd.notSynchronized) hst (cend_X X hxt Bd.notSynchronized) ⟨Nat.le_refl _, Nat.le_refl _⟩ (Nat.le_refl _) (Nat.le_refl _) h  ⟨hP, hD0.self, va_S.rf⟩ (lv_sub hl [0, 1] rfl)
theorem kc_X3_returned_RX3 {cc : ByteArray} {pc nL : Nat} {c0 : Cond} {rest : List Value} {l1 : Int32} {u w1 : CSt} {y1 : (Sum Nat Int32)} (hst : l.stackTraces = false) (X : CC p s m args c cc nL c0 RX3 D kA V A)  (hS : CS D kA Z A s u H locs) (h : F_X3_returned N l1 u = some (y1, w1)) (hF : 321 + 1 ≤ R.frames) (hL : 8 + (6 + 11) + 18726 ≤ R.locals) (hC : 1 ≤ R.cells ∧ 6 ≤ R.slots) (hl : ls.size = nL) (hc : (rest.map fun v => v.category).sum ≤ 8) (hdg : decode cc pc = .ok (.invokevirtual 278, 3)) (kk : ∀ r, y1 = .inr r → ∀ H locs, CS D kA Z A s w1 H locs → W p l e R s m args below meth c H locs 0 0 Q (F0 m (pc + 3) ls (rest))) (kx : ∀ x, y1 = .inl x → ∀ (H : Heap) (locs : List Loc) (q : Addr) (ce : Cell), CS D kA Z A s w1 H locs → H[q]? = some ce → ce.vm = .none → s.vm.findClass (exN x) = some ce.cls → vx_W p l e R s m args below meth c H locs 1 6 Q (F0 m pc ls rest) q) : W p l e R s m args below meth c H locs 0 0 Q (F0 m pc ls (.int l1 :: .ref (Z 227) :: rest)) :=
  ccall_vx (n := 1) X hS (k_X3_returned l hst D kA V Z N l1  u H.size h) (gw_V gw_1324 gw_1326 gs_5_10 gw_13 gw_1327) (by decide +kernel) (va_recv X.2.1 hS.1 (ci := 3) (q0 := 27) rfl (cw_lit rfl)) hF hL hC rfl hl hc rfl hdg kk kx
def B_X3_labels_90 (N : Nat) (R_2 : Int32 × CSt → Option ((Sum Nat Int32) × CSt)) (l1 : Int32) (l2 : Int64) (l4 : Int64) (u : CSt) : Option ((Sum Nat Int32) × CSt) := ok (cR u 2 < 2) inferInstance <| bc (F_X6_label N (cR u 2) l2 l4 u) fun _ u_2 => R_2 ((l1 + 1), u_2)
set_option maxHeartbeats 4000000 in
theorem b_X3_labels_90 {y : (Sum Nat Int32)} (X : CC p s m args c cX3_labels 7 (Cond.code yX3_labels cX3_labels 7 none) RX3 D kA V A) (hE : CEvx p l e R s m args below meth c cX3_labels D kA Z A Q y w) (hst : l.stackTraces = false) (hX : CX p l e R s m args below meth c D kA Z A Q y w) (hC : 1 ≤ R.cells ∧ 6 ≤ R.slots) (hF : 9 ≤ R.frames) (hL : 170 ≤ R.locals) {R_2 : Int32 × CSt → Option ((Sum Nat Int32) × CSt)} {l1 : Int32} {l2 : Int64} {l4 : Int64} {u : CSt} (hR_2 : ∀ (l1 : Int32) (u : CSt), R_2 (l1, u) = some (y, w) → ∀ (H : Heap) (locs : List Loc) (ls : Array Slot), CS D kA Z A s u H locs → lv_has ls 7 [(0, .ref (Z 227)), (1, .int l1)] → W p l e R s m args below meth c H locs 0 0 Q (F0 m 2 ls [])) (h : B_X3_labels_90 N R_2 l1 l2 l4 u = some (y, w))  (hS : CS D kA Z A s u H locs) (hl : lv_has ls 7 [(0, .ref (Z 227)), (1, .int l1), (2, .long l2), (4, .long l4)]) : W p l e R s m args below meth c H locs 0 0 Q (F0 m 90 ls []) := by
  obtain ⟨⟨hx, hb, hml, hown, hts⟩, hK, hEV, hA⟩ := id X
  have hG : ∀ w ∈ GW, w.before args s = true := fun w h => hts w (List.mem_cons_of_mem _ h)
  unfold B_X3_labels_90 at h
  refine lv_aload_n hx hb dX3_labels_90 rfl (lv_at hl 0 rfl) ?_
  refine cg_X3_19 X hS dX3_labels_91 ?_
  obtain ⟨z_1, h⟩ := ok_of h
  refine lv_lload_n hx hb dX3_labels_94 rfl (lv_at hl 2 rfl) ?_
  refine lv_lload hx hb dX3_labels_95 (lv_at hl 3 rfl) ?_
  obtain ⟨r_u_2, u_2, h_u_2, h⟩ := bc_of h
  refine kc_X6_label_RX3 X z_1 hS h_u_2 (Nat.le_trans (Nat.le_of_ble_eq_true rfl) hF) (Nat.le_trans (Nat.le_of_ble_eq_true rfl) hL) hl.1 (Nat.le_of_ble_eq_true rfl) dX3_labels_97 (fun H locs hS => ?_)
  refine lv_iinc (v := l1 + 1) (lv' := [(1, .int (l1 + 1)), (0, .ref (Z 227)), (2, .long l2), (4, .long l4)]) hx hb dX3_labels_100 hl (k := 1) rfl rfl (by decide) rfl (fun ls hl => ?_)
  refine lv_goto (tgt := 2) hx hb dX3_labels_103 (by decide) ?_
  exact hR_2 _ _  h _ _ _ hS (lv_sub hl [1, 0] rfl)
def B_X3_labels_2 (N : Nat) (R_2 : Int32 × CSt → Option ((Sum Nat Int32) × CSt)) (l1 : Int32) (u : CSt) : Option ((Sum Nat Int32) × CSt) := if (1500 : Int32) ≤ l1 then (some (.inr 0, u)) else (bc (F_X9_is N 123 u) fun r_5 u_4 => if r_5 = (0 : Int32) then (bc (F_X9_next N u_4) fun _ u_7 => bt (F_X3_constant N 4 u_7) fun r_9 u_8 => bc (F_X9_is N 11822 u_8) fun r_12 u_11 => if r_12 = (0 : Int32) then (B_X3_labels_90 N R_2 l1 r_9 r_9 u_11) else (bc (F_X9_next N u_11) fun _ u_14 => bc (F_X9_here N u_14) fun r_16 u_15 => bt (F_X3_constant N 4 u_15) fun r_18 u_17 => if r_9 ≤ r_18 then (B_X3_labels_90 N R_2 l1 r_9 r_18 u_17) else (bt (F_X9_refuse N 5 r_16 u_17) fun _ u_21 => B_X3_labels_90 N R_2 l1 r_9 r_18 u_21))) else (some (.inr 0, u_4)))
set_option maxHeartbeats 4000000 in
theorem b_X3_labels_2 {y : (Sum Nat Int32)} (X : CC p s m args c cX3_labels 7 (Cond.code yX3_labels cX3_labels 7 none) RX3 D kA V A) (hE : CEvx p l e R s m args below meth c cX3_labels D kA Z A Q y w) (hst : l.stackTraces = false) (hX : CX p l e R s m args below meth c D kA Z A Q y w) (hC : 1 ≤ R.cells ∧ 6 ≤ R.slots) (hF : 9 ≤ R.frames) (hL : 170 ≤ R.locals) {R_2 : Int32 × CSt → Option ((Sum Nat Int32) × CSt)} {l1 : Int32} {u : CSt} (hR_2 : ∀ (l1 : Int32) (u : CSt), R_2 (l1, u) = some (y, w) → ∀ (H : Heap) (locs : List Loc) (ls : Array Slot), CS D kA Z A s u H locs → lv_has ls 7 [(0, .ref (Z 227)), (1, .int l1)] → W p l e R s m args below meth c H locs 0 0 Q (F0 m 2 ls [])) (h : B_X3_labels_2 N R_2 l1 u = some (y, w))  (hS : CS D kA Z A s u H locs) (hl : lv_has ls 7 [(0, .ref (Z 227)), (1, .int l1)]) : W p l e R s m args below meth c H locs 0 0 Q (F0 m 2 ls []) := by
  obtain ⟨⟨hx, hb, hml, hown, hts⟩, hK, hEV, hA⟩ := id X
  have hG : ∀ w ∈ GW, w.before args s = true := fun w h => hts w (List.mem_cons_of_mem _ h)
  unfold B_X3_labels_2 at h
  refine lv_iload_n hx hb dX3_labels_2 rfl (lv_at hl 1 rfl) ?_
  refine lv_sipush (v := 1500) hx hb dX3_labels_3 (by decide) ?_
  refine lv_icmp_ge (tgt := 106) hx hb dX3_labels_6 (by decide) (fun c_3 => ?_) (fun c_3 => ?_)
  · have h := ip (c_3) h
    obtain ⟨e9, rfl⟩ := so9 h
    exact hE _ e9.symm _ _ _ _ hS dX3_labels_106
  · have h := im (c_3) h
    refine lv_aload_n hx hb dX3_labels_9 rfl (lv_at hl 0 rfl) ?_
    refine cg_X3_15 X hS dX3_labels_10 ?_
    refine lv_bipush (v := 123) hx hb dX3_labels_13 (by decide) ?_
    obtain ⟨r_5, u_4, h_u_4, h⟩ := bc_of h
    refine kc_X9_is_RX3 X  hS h_u_4 (Nat.le_trans (Nat.le_of_ble_eq_true rfl) hF) (Nat.le_trans (Nat.le_of_ble_eq_true rfl) hL) hl.1 (Nat.le_of_ble_eq_true rfl) dX3_labels_15 (fun H locs hS => ?_)
    refine lv_if_ne (tgt := 106) hx hb dX3_labels_18 (by decide) (fun c_6 => ?_) (fun c_6 => ?_)
    · have h := im (c_6) h
      obtain ⟨e9, rfl⟩ := so9 h
      exact hE _ e9.symm _ _ _ _ hS dX3_labels_106
    · have h := ip (c_6) h
      refine lv_aload_n hx hb dX3_labels_21 rfl (lv_at hl 0 rfl) ?_
      refine cg_X3_15 X hS dX3_labels_22 ?_
      obtain ⟨r_u_7, u_7, h_u_7, h⟩ := bc_of h
      refine kc_X9_next_RX3 X  hS h_u_7 (Nat.le_trans (Nat.le_of_ble_eq_true rfl) hF) (Nat.le_trans (Nat.le_of_ble_eq_true rfl) hL) hl.1 (Nat.le_of_ble_eq_true rfl) dX3_labels_25 (fun H locs hS => ?_)
      refine lv_aload_n hx hb dX3_labels_28 rfl (lv_at hl 0 rfl) ?_
      refine lv_iconst (v := 4) hx hb dX3_labels_29 (by decide) ?_
      obtain ⟨y_10, u_8, h_u_8, h⟩ := bt_of h
      refine kc_X3_constant_RX3 hst X  hS h_u_8 (Nat.le_trans (Nat.le_of_ble_eq_true rfl) hF) (Nat.le_trans (Nat.le_of_ble_eq_true rfl) hL) hC hl.1 (Nat.le_of_ble_eq_true rfl) dX3_labels_30 (fun r_9 hr_u_8 H locs hS => ?_) (fun x9 hn H locs q9 ce hS a1 a2 a3 => by obtain ⟨e2, rfl⟩ := bt_no h hn; exact hX _ e2 _ _ _ _ _ _ _ hS a1 a2 a3)
      replace h := bt_ok h hr_u_8
      refine lv_lstore_n (lv' := [(2, .long r_9), (0, .ref (Z 227)), (1, .int l1)]) hx hb dX3_labels_33 rfl hl (by decide) rfl (fun ls hl => ?_)
      refine lv_lload_n hx hb dX3_labels_34 rfl (lv_at hl 0 rfl) ?_
      refine lv_lstore (lv' := [(4, .long r_9), (2, .long r_9), (0, .ref (Z 227)), (1, .int l1)]) hx hb dX3_labels_35 hl (by decide) rfl (fun ls hl => ?_)
      refine lv_aload_n hx hb dX3_labels_37 rfl (lv_at hl 2 rfl) ?_
      refine cg_X3_15 X hS dX3_labels_38 ?_
      refine lv_sipush (v := 11822) hx hb dX3_labels_41 (by decide) ?_
      obtain ⟨r_12, u_11, h_u_11, h⟩ := bc_of h
      refine kc_X9_is_RX3 X  hS h_u_11 (Nat.le_trans (Nat.le_of_ble_eq_true rfl) hF) (Nat.le_trans (Nat.le_of_ble_eq_true rfl) hL) hl.1 (Nat.le_of_ble_eq_true rfl) dX3_labels_44 (fun H locs hS => ?_)
      refine lv_if_eq (tgt := 90) hx hb dX3_labels_47 (by decide) (fun c_13 => ?_) (fun c_13 => ?_)
      · have h := ip (c_13) h
        exact b_X3_labels_90 X hE hst hX hC hF hL hR_2 h  hS (lv_sub hl [2, 3, 1, 0] rfl)
      · have h := im (c_13) h
        refine lv_aload_n hx hb dX3_labels_50 rfl (lv_at hl 2 rfl) ?_
        refine cg_X3_15 X hS dX3_labels_51 ?_
        obtain ⟨r_u_14, u_14, h_u_14, h⟩ := bc_of h
        refine kc_X9_next_RX3 X  hS h_u_14 (Nat.le_trans (Nat.le_of_ble_eq_true rfl) hF) (Nat.le_trans (Nat.le_of_ble_eq_true rfl) hL) hl.1 (Nat.le_of_ble_eq_true rfl) dX3_labels_54 (fun H locs hS => ?_)
        refine lv_aload_n hx hb dX3_labels_57 rfl (lv_at hl 2 rfl) ?_
        refine cg_X3_15 X hS dX3_labels_58 ?_
        obtain ⟨r_16, u_15, h_u_15, h⟩ := bc_of h
        refine kc_X9_here_RX3 X  hS h_u_15 (Nat.le_trans (Nat.le_of_ble_eq_true rfl) hF) (Nat.le_trans (Nat.le_of_ble_eq_true rfl) hL) hl.1 (Nat.le_of_ble_eq_true rfl) dX3_labels_61 (fun H locs hS => ?_)
        refine lv_istore (lv' := [(6, .int r_16), (4, .long r_9), (2, .long r_9), (0, .ref (Z 227)), (1, .int l1)]) hx hb dX3_labels_64 hl (by decide) rfl (fun ls hl => ?_)
        refine lv_aload_n hx hb dX3_labels_66 rfl (lv_at hl 3 rfl) ?_
        refine lv_iconst (v := 4) hx hb dX3_labels_67 (by decide) ?_
        obtain ⟨y_19, u_17, h_u_17, h⟩ := bt_of h
        refine kc_X3_constant_RX3 hst X  hS h_u_17 (Nat.le_trans (Nat.le_of_ble_eq_true rfl) hF) (Nat.le_trans (Nat.le_of_ble_eq_true rfl) hL) hC hl.1 (Nat.le_of_ble_eq_true rfl) dX3_labels_68 (fun r_18 hr_u_17 H locs hS => ?_) (fun x9 hn H locs q9 ce hS a1 a2 a3 => by obtain ⟨e2, rfl⟩ := bt_no h hn; exact hX _ e2 _ _ _ _ _ _ _ hS a1 a2 a3)
        replace h := bt_ok h hr_u_17
        refine lv_lstore (lv' := [(4, .long r_18), (6, .int r_16), (2, .long r_9), (0, .ref (Z 227)), (1, .int l1)]) hx hb dX3_labels_71 hl (by decide) rfl (fun ls hl => ?_)
        refine lv_lload_n hx hb dX3_labels_73 rfl (lv_at hl 2 rfl) ?_
        refine lv_lload hx hb dX3_labels_74 (lv_at hl 0 rfl) ?_
        refine W.lcmp hx hb dX3_labels_76 ?_
        refine lv_if_le (tgt := 90) hx hb dX3_labels_77 (by decide) (fun c_20 => ?_) (fun c_20 => ?_)
        · have h := ip ((lg_cmp_le _ _).mp c_20) h
          exact b_X3_labels_90 X hE hst hX hC hF hL hR_2 h  hS (lv_sub hl [3, 4, 2, 0] rfl)
        · have h := im (mt (lg_cmp_le _ _).mpr c_20) h
          refine lv_aload_n hx hb dX3_labels_80 rfl (lv_at hl 3 rfl) ?_
          refine cg_X3_15 X hS dX3_labels_81 ?_
          refine lv_iconst (v := 5) hx hb dX3_labels_84 (by decide) ?_
          refine lv_iload hx hb dX3_labels_85 (lv_at hl 1 rfl) ?_
          obtain ⟨y_22, u_21, h_u_21, h⟩ := bt_of h
          refine kc_X9_refuse_RX3 hst X  hS h_u_21 (Nat.le_trans (Nat.le_of_ble_eq_true rfl) hF) (Nat.le_trans (Nat.le_of_ble_eq_true rfl) hL) hC hl.1 (Nat.le_of_ble_eq_true rfl) dX3_labels_87 (fun r_u_21 hr_u_21 H locs hS => ?_) (fun x9 hn H locs q9 ce hS a1 a2 a3 => by obtain ⟨e2, rfl⟩ := bt_no h hn; exact hX _ e2 _ _ _ _ _ _ _ hS a1 a2 a3)
          replace h := bt_ok h hr_u_21
          exact b_X3_labels_90 X hE hst hX hC hF hL hR_2 h  hS (lv_sub hl [3, 4, 2, 0] rfl)
def LP_X3_labels_2 (N : Nat) : Nat → Int32 × CSt → Option ((Sum Nat Int32) × CSt) := lp (fun R a => B_X3_labels_2 N R a.1 a.2)
theorem bl_X3_labels_2 {y : (Sum Nat Int32)} (X : CC p s m args c cX3_labels 7 (Cond.code yX3_labels cX3_labels 7 none) RX3 D kA V A) (hE : CEvx p l e R s m args below meth c cX3_labels D kA Z A Q y w) (hst : l.stackTraces = false) (hX : CX p l e R s m args below meth c D kA Z A Q y w) (hC : 1 ≤ R.cells ∧ 6 ≤ R.slots) (hF : 9 ≤ R.frames) (hL : 170 ≤ R.locals)  : ∀ (n : Nat) (l1 : Int32) (u : CSt), LP_X3_labels_2 N n (l1, u) = some (y, w) → ∀ (H : Heap) (locs : List Loc) (ls : Array Slot), CS D kA Z A s u H locs → lv_has ls 7 [(0, .ref (Z 227)), (1, .int l1)] → W p l e R s m args below meth c H locs 0 0 Q (F0 m 2 ls []) := by
  intro n
  induction n with
  | zero => intro l1 u h; exact nomatch h
  | succ n ih => intro l1 u h H locs ls hS hl; exact b_X3_labels_2 (N := N) (R_2 := LP_X3_labels_2 N n) X hE hst hX hC hF hL  ih h  hS hl
def B_X3_labels_0 (N : Nat) (u : CSt) : Option ((Sum Nat Int32) × CSt) := LP_X3_labels_2 N N (0, u)
set_option maxHeartbeats 4000000 in
theorem b_X3_labels_0 {y : (Sum Nat Int32)} (X : CC p s m args c cX3_labels 7 (Cond.code yX3_labels cX3_labels 7 none) RX3 D kA V A) (hE : CEvx p l e R s m args below meth c cX3_labels D kA Z A Q y w) (hst : l.stackTraces = false) (hX : CX p l e R s m args below meth c D kA Z A Q y w) (hC : 1 ≤ R.cells ∧ 6 ≤ R.slots) (hF : 9 ≤ R.frames) (hL : 170 ≤ R.locals) {u : CSt}  (h : B_X3_labels_0 N u = some (y, w))  (hS : CS D kA Z A s u H locs) (hl : lv_has ls 7 [(0, .ref (Z 227))]) : W p l e R s m args below meth c H locs 0 0 Q (F0 m 0 ls []) := by
  obtain ⟨⟨hx, hb, hml, hown, hts⟩, hK, hEV, hA⟩ := id X
  have hG : ∀ w ∈ GW, w.before args s = true := fun w h => hts w (List.mem_cons_of_mem _ h)
  unfold B_X3_labels_0 at h
  refine lv_iconst (v := 0) hx hb dX3_labels_0 (by decide) ?_
  refine lv_istore_n (lv' := [(1, .int 0), (0, .ref (Z 227))]) hx hb dX3_labels_1 rfl hl (by decide) rfl (fun ls hl => ?_)
  exact bl_X3_labels_2 X hE hst hX hC hF hL  _ _ _  h _ _ _ hS (lv_sub hl [1, 0] rfl)
def F_X3_labels (N : Nat) (u : CSt) : Option ((Sum Nat Int32) × CSt) := B_X3_labels_0 N u
set_option maxHeartbeats 4000000 in
theorem k_X3_labels (l : Launch) (hst : l.stackTraces = false) (D : va_G) (kA : Nat → ClassId) (V Z : Nat → Nat) (N : Nat) (u : CSt) (sz : Nat) {y : (Sum Nat Int32)} {w : CSt} (h : F_X3_labels N u = some (y, w)) : vx_Met l yX3_labels (Cond.code yX3_labels cX3_labels 7 none :: GW) { frames := 9, cells := 1, slots := 6, locals := 170 } (cPc D kA V Z [.ref (Z 227)] u sz) (cQvx D kA Z u sz y w) (cXc D kA Z u sz y w) 1 6 (va_A (CW kA Z u) sz) := by
  refine vx_ofW (cc := cX3_labels) (maxL := 7) (ret := none) (by decide) rfl ?_
  intro p e s m args below meth c s₁ Bd hml hxt hv
  obtain ⟨rfl, hsz, hP, hK, hD0, hE⟩ := hv
  have hts := atoms_spec (ws := Cond.code yX3_labels cX3_labels 7 none :: GW) Bd.pre
  have hl := lv_entry ([.ref (Z 227)]) (n := 7) (Nat.le_of_ble_eq_true rfl)
  rw [lg_entry_eq]
  generalize (lg_sl ([.ref (Z 227)]) ++ List.replicate (7 - (lg_sl ([.ref (Z 227)])).length) Slot.unset).toArray = ls at hl ⊢
  have hl : lv_has ls 7 [(0, .ref (Z 227))] := hl
  subst hsz
  have X : CC p s m ([.ref (Z 227)]).toArray c cX3_labels 7 (Cond.code yX3_labels cX3_labels 7 none) RX3 D kA V (va_A (CW kA Z u) s.heap.size) := ⟨⟨Bd.exec, Bd.bytes, hml, findClass_of_methodNamed Bd.named, hts⟩, hK, hE, fun q h => Or.inr h⟩
  refine b_X3_labels_0 X (cend_vx X Bd.returns Bd.notSynchronized) hst (cend_X X hxt Bd.notSynchronized) ⟨Nat.le_refl _, Nat.le_refl _⟩ (Nat.le_refl _) (Nat.le_refl _) h  ⟨hP, hD0.self, va_S.rf⟩ (lv_sub hl [0] rfl)
theorem kc_X3_labels_RX3 {cc : ByteArray} {pc nL : Nat} {c0 : Cond} {rest : List Value} {u w1 : CSt} {y1 : (Sum Nat Int32)} (hst : l.stackTraces = false) (X : CC p s m args c cc nL c0 RX3 D kA V A)  (hS : CS D kA Z A s u H locs) (h : F_X3_labels N u = some (y1, w1)) (hF : 9 + 1 ≤ R.frames) (hL : 8 + (7 + 11) + 170 ≤ R.locals) (hC : 1 ≤ R.cells ∧ 6 ≤ R.slots) (hl : ls.size = nL) (hc : (rest.map fun v => v.category).sum ≤ 8) (hdg : decode cc pc = .ok (.invokevirtual 353, 3)) (kk : ∀ r, y1 = .inr r → ∀ H locs, CS D kA Z A s w1 H locs → W p l e R s m args below meth c H locs 0 0 Q (F0 m (pc + 3) ls (rest))) (kx : ∀ x, y1 = .inl x → ∀ (H : Heap) (locs : List Loc) (q : Addr) (ce : Cell), CS D kA Z A s w1 H locs → H[q]? = some ce → ce.vm = .none → s.vm.findClass (exN x) = some ce.cls → vx_W p l e R s m args below meth c H locs 1 6 Q (F0 m pc ls rest) q) : W p l e R s m args below meth c H locs 0 0 Q (F0 m pc ls (.ref (Z 227) :: rest)) :=
  ccall_vx (n := 0) X hS (k_X3_labels l hst D kA V Z N   u H.size h) (gw_V gw_1312 gw_1314 gs_5_8 gw_13 gw_1315) (by decide +kernel) (va_recv X.2.1 hS.1 (ci := 3) (q0 := 27) rfl (cw_lit rfl)) hF hL hC rfl hl hc rfl hdg kk kx
end C39mleaf
