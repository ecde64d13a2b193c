abbrev cX12_among : ByteArray := prog_14_method_7_code
def yX12_among : MethodName := ⟨RX12, "among", "(Ljava/lang/String;II)I"⟩
theorem dX12_among_0 : decode cX12_among 0 = .ok (.iconst 0, 1) := by decide +kernel
theorem dX12_among_1 : decode cX12_among 1 = .ok (.istore 4, 2) := by decide +kernel
theorem dX12_among_3 : decode cX12_among 3 = .ok (.iconst 0, 1) := by decide +kernel
theorem dX12_among_4 : decode cX12_among 4 = .ok (.istore 5, 2) := by decide +kernel
theorem dX12_among_6 : decode cX12_among 6 = .ok (.iconst 0, 1) := by decide +kernel
theorem dX12_among_7 : decode cX12_among 7 = .ok (.istore 6, 2) := by decide +kernel
theorem dX12_among_9 : decode cX12_among 9 = .ok (.iload 6, 2) := by decide +kernel
theorem dX12_among_11 : decode cX12_among 11 = .ok (.aload_n 1, 1) := by decide +kernel
theorem dX12_among_12 : decode cX12_among 12 = .ok (.invokevirtual 18, 3) := by decide +kernel
theorem dX12_among_15 : decode cX12_among 15 = .ok (.if_icmp .ge 103, 3) := by decide +kernel
theorem dX12_among_18 : decode cX12_among 18 = .ok (.aload_n 1, 1) := by decide +kernel
theorem dX12_among_19 : decode cX12_among 19 = .ok (.iload 6, 2) := by decide +kernel
theorem dX12_among_21 : decode cX12_among 21 = .ok (.invokevirtual 24, 3) := by decide +kernel
theorem dX12_among_24 : decode cX12_among 24 = .ok (.bipush 32, 2) := by decide +kernel
theorem dX12_among_26 : decode cX12_among 26 = .ok (.if_icmp .eq 6, 3) := by decide +kernel
theorem dX12_among_29 : decode cX12_among 29 = .ok (.goto 83, 3) := by decide +kernel
theorem dX12_among_32 : decode cX12_among 32 = .ok (.iload 6, 2) := by decide +kernel
theorem dX12_among_34 : decode cX12_among 34 = .ok (.iload 5, 2) := by decide +kernel
theorem dX12_among_36 : decode cX12_among 36 = .ok (.isub, 1) := by decide +kernel
theorem dX12_among_37 : decode cX12_among 37 = .ok (.iload_n 3, 1) := by decide +kernel
theorem dX12_among_38 : decode cX12_among 38 = .ok (.if_icmp .ne 7, 3) := by decide +kernel
theorem dX12_among_41 : decode cX12_among 41 = .ok (.iconst 1, 1) := by decide +kernel
theorem dX12_among_42 : decode cX12_among 42 = .ok (.goto 4, 3) := by decide +kernel
theorem dX12_among_45 : decode cX12_among 45 = .ok (.iconst 0, 1) := by decide +kernel
theorem dX12_among_46 : decode cX12_among 46 = .ok (.istore 7, 2) := by decide +kernel
theorem dX12_among_48 : decode cX12_among 48 = .ok (.iconst 0, 1) := by decide +kernel
theorem dX12_among_49 : decode cX12_among 49 = .ok (.istore 8, 2) := by decide +kernel
theorem dX12_among_51 : decode cX12_among 51 = .ok (.iload 8, 2) := by decide +kernel
theorem dX12_among_53 : decode cX12_among 53 = .ok (.iload_n 3, 1) := by decide +kernel
theorem dX12_among_54 : decode cX12_among 54 = .ok (.if_icmp .ge 41, 3) := by decide +kernel
theorem dX12_among_57 : decode cX12_among 57 = .ok (.iload 7, 2) := by decide +kernel
theorem dX12_among_59 : decode cX12_among 59 = .ok (.ifCond .eq 36, 3) := by decide +kernel
theorem dX12_among_62 : decode cX12_among 62 = .ok (.aload_n 1, 1) := by decide +kernel
theorem dX12_among_63 : decode cX12_among 63 = .ok (.iload 5, 2) := by decide +kernel
theorem dX12_among_65 : decode cX12_among 65 = .ok (.iload 8, 2) := by decide +kernel
theorem dX12_among_67 : decode cX12_among 67 = .ok (.iadd, 1) := by decide +kernel
theorem dX12_among_68 : decode cX12_among 68 = .ok (.invokevirtual 24, 3) := by decide +kernel
theorem dX12_among_71 : decode cX12_among 71 = .ok (.aload_n 0, 1) := by decide +kernel
theorem dX12_among_72 : decode cX12_among 72 = .ok (.iload_n 2, 1) := by decide +kernel
theorem dX12_among_73 : decode cX12_among 73 = .ok (.iload 8, 2) := by decide +kernel
theorem dX12_among_75 : decode cX12_among 75 = .ok (.iadd, 1) := by decide +kernel
theorem dX12_among_76 : decode cX12_among 76 = .ok (.invokevirtual 28, 3) := by decide +kernel
theorem dX12_among_79 : decode cX12_among 79 = .ok (.if_icmp .ne 7, 3) := by decide +kernel
theorem dX12_among_82 : decode cX12_among 82 = .ok (.iconst 1, 1) := by decide +kernel
theorem dX12_among_83 : decode cX12_among 83 = .ok (.goto 4, 3) := by decide +kernel
theorem dX12_among_86 : decode cX12_among 86 = .ok (.iconst 0, 1) := by decide +kernel
theorem dX12_among_87 : decode cX12_among 87 = .ok (.istore 7, 2) := by decide +kernel
theorem dX12_among_89 : decode cX12_among 89 = .ok (.iinc 8 1, 3) := by decide +kernel
theorem dX12_among_92 : decode cX12_among 92 = .ok (.goto (-41), 3) := by decide +kernel
theorem dX12_among_95 : decode cX12_among 95 = .ok (.iload 7, 2) := by decide +kernel
theorem dX12_among_97 : decode cX12_among 97 = .ok (.ifCond .eq 6, 3) := by decide +kernel
theorem dX12_among_100 : decode cX12_among 100 = .ok (.iload 4, 2) := by decide +kernel
theorem dX12_among_102 : decode cX12_among 102 = .ok (.ireturn, 1) := by decide +kernel
theorem dX12_among_103 : decode cX12_among 103 = .ok (.iinc 4 1, 3) := by decide +kernel
theorem dX12_among_106 : decode cX12_among 106 = .ok (.iload 6, 2) := by decide +kernel
theorem dX12_among_108 : decode cX12_among 108 = .ok (.iconst 1, 1) := by decide +kernel
theorem dX12_among_109 : decode cX12_among 109 = .ok (.iadd, 1) := by decide +kernel
theorem dX12_among_110 : decode cX12_among 110 = .ok (.istore 5, 2) := by decide +kernel
theorem dX12_among_112 : decode cX12_among 112 = .ok (.iinc 6 1, 3) := by decide +kernel
theorem dX12_among_115 : decode cX12_among 115 = .ok (.goto (-106), 3) := by decide +kernel
theorem dX12_among_118 : decode cX12_among 118 = .ok (.iconst (-1), 1) := by decide +kernel
theorem dX12_among_119 : decode cX12_among 119 = .ok (.ireturn, 1) := by decide +kernel
abbrev cX12_word : ByteArray := prog_14_method_10_code
def yX12_word : MethodName := ⟨RX12, "word", "(I)I"⟩
theorem dX12_word_0 : decode cX12_word 0 = .ok (.iload_n 1, 1) := by decide +kernel
theorem dX12_word_1 : decode cX12_word 1 = .ok (.istore_n 2, 1) := by decide +kernel
theorem dX12_word_2 : decode cX12_word 2 = .ok (.aload_n 0, 1) := by decide +kernel
theorem dX12_word_3 : decode cX12_word 3 = .ok (.iload_n 2, 1) := by decide +kernel
theorem dX12_word_4 : decode cX12_word 4 = .ok (.invokevirtual 28, 3) := by decide +kernel
theorem dX12_word_7 : decode cX12_word 7 = .ok (.invokestatic 49, 3) := by decide +kernel
theorem dX12_word_10 : decode cX12_word 10 = .ok (.ifCond .ne 14, 3) := by decide +kernel
theorem dX12_word_13 : decode cX12_word 13 = .ok (.aload_n 0, 1) := by decide +kernel
theorem dX12_word_14 : decode cX12_word 14 = .ok (.iload_n 2, 1) := by decide +kernel
theorem dX12_word_15 : decode cX12_word 15 = .ok (.invokevirtual 28, 3) := by decide +kernel
theorem dX12_word_18 : decode cX12_word 18 = .ok (.invokestatic 14, 3) := by decide +kernel
theorem dX12_word_21 : decode cX12_word 21 = .ok (.ifCond .eq 9, 3) := by decide +kernel
theorem dX12_word_24 : decode cX12_word 24 = .ok (.iinc 2 1, 3) := by decide +kernel
theorem dX12_word_27 : decode cX12_word 27 = .ok (.goto (-25), 3) := by decide +kernel
theorem dX12_word_30 : decode cX12_word 30 = .ok (.aload_n 0, 1) := by decide +kernel
theorem dX12_word_31 : decode cX12_word 31 = .ok (.getfield 32, 3) := by decide +kernel
theorem dX12_word_34 : decode cX12_word 34 = .ok (.istore_n 3, 1) := by decide +kernel
theorem dX12_word_35 : decode cX12_word 35 = .ok (.aload_n 0, 1) := by decide +kernel
theorem dX12_word_36 : decode cX12_word 36 = .ok (.ldc 64, 2) := by decide +kernel
theorem dX12_word_38 : decode cX12_word 38 = .ok (.iload_n 1, 1) := by decide +kernel
theorem dX12_word_39 : decode cX12_word 39 = .ok (.iload_n 2, 1) := by decide +kernel
theorem dX12_word_40 : decode cX12_word 40 = .ok (.iload_n 1, 1) := by decide +kernel
theorem dX12_word_41 : decode cX12_word 41 = .ok (.isub, 1) := by decide +kernel
theorem dX12_word_42 : decode cX12_word 42 = .ok (.invokevirtual 60, 3) := by decide +kernel
theorem dX12_word_45 : decode cX12_word 45 = .ok (.istore 4, 2) := by decide +kernel
theorem dX12_word_47 : decode cX12_word 47 = .ok (.iload 4, 2) := by decide +kernel
theorem dX12_word_49 : decode cX12_word 49 = .ok (.iconst (-1), 1) := by decide +kernel
theorem dX12_word_50 : decode cX12_word 50 = .ok (.if_icmp .eq 17, 3) := by decide +kernel
theorem dX12_word_53 : decode cX12_word 53 = .ok (.aload_n 0, 1) := by decide +kernel
theorem dX12_word_54 : decode cX12_word 54 = .ok (.getfield 38, 3) := by decide +kernel
theorem dX12_word_57 : decode cX12_word 57 = .ok (.iload_n 3, 1) := by decide +kernel
theorem dX12_word_58 : decode cX12_word 58 = .ok (.bipush 100, 2) := by decide +kernel
theorem dX12_word_60 : decode cX12_word 60 = .ok (.iload 4, 2) := by decide +kernel
theorem dX12_word_62 : decode cX12_word 62 = .ok (.iadd, 1) := by decide +kernel
theorem dX12_word_63 : decode cX12_word 63 = .ok (.iastore, 1) := by decide +kernel
theorem dX12_word_64 : decode cX12_word 64 = .ok (.goto 45, 3) := by decide +kernel
theorem dX12_word_67 : decode cX12_word 67 = .ok (.iload_n 2, 1) := by decide +kernel
theorem dX12_word_68 : decode cX12_word 68 = .ok (.iload_n 1, 1) := by decide +kernel
theorem dX12_word_69 : decode cX12_word 69 = .ok (.isub, 1) := by decide +kernel
theorem dX12_word_70 : decode cX12_word 70 = .ok (.bipush 12, 2) := by decide +kernel
theorem dX12_word_72 : decode cX12_word 72 = .ok (.if_icmp .gt 37, 3) := by decide +kernel
theorem dX12_word_75 : decode cX12_word 75 = .ok (.aload_n 0, 1) := by decide +kernel
theorem dX12_word_76 : decode cX12_word 76 = .ok (.getfield 38, 3) := by decide +kernel
theorem dX12_word_79 : decode cX12_word 79 = .ok (.iload_n 3, 1) := by decide +kernel
theorem dX12_word_80 : decode cX12_word 80 = .ok (.iconst 1, 1) := by decide +kernel
theorem dX12_word_81 : decode cX12_word 81 = .ok (.iastore, 1) := by decide +kernel
theorem dX12_word_82 : decode cX12_word 82 = .ok (.aload_n 0, 1) := by decide +kernel
theorem dX12_word_83 : decode cX12_word 83 = .ok (.getfield 66, 3) := by decide +kernel
theorem dX12_word_86 : decode cX12_word 86 = .ok (.iload_n 3, 1) := by decide +kernel
theorem dX12_word_87 : decode cX12_word 87 = .ok (.aload_n 0, 1) := by decide +kernel
theorem dX12_word_88 : decode cX12_word 88 = .ok (.iload_n 1, 1) := by decide +kernel
theorem dX12_word_89 : decode cX12_word 89 = .ok (.iload_n 2, 1) := by decide +kernel
theorem dX12_word_90 : decode cX12_word 90 = .ok (.iconst 0, 1) := by decide +kernel
theorem dX12_word_91 : decode cX12_word 91 = .ok (.invokevirtual 69, 3) := by decide +kernel
theorem dX12_word_94 : decode cX12_word 94 = .ok (.lastore, 1) := by decide +kernel
theorem dX12_word_95 : decode cX12_word 95 = .ok (.aload_n 0, 1) := by decide +kernel
theorem dX12_word_96 : decode cX12_word 96 = .ok (.getfield 73, 3) := by decide +kernel
theorem dX12_word_99 : decode cX12_word 99 = .ok (.iload_n 3, 1) := by decide +kernel
theorem dX12_word_100 : decode cX12_word 100 = .ok (.aload_n 0, 1) := by decide +kernel
theorem dX12_word_101 : decode cX12_word 101 = .ok (.iload_n 1, 1) := by decide +kernel
theorem dX12_word_102 : decode cX12_word 102 = .ok (.iload_n 2, 1) := by decide +kernel
theorem dX12_word_103 : decode cX12_word 103 = .ok (.bipush 6, 2) := by decide +kernel
theorem dX12_word_105 : decode cX12_word 105 = .ok (.invokevirtual 69, 3) := by decide +kernel
theorem dX12_word_108 : decode cX12_word 108 = .ok (.lastore, 1) := by decide +kernel
theorem dX12_word_109 : decode cX12_word 109 = .ok (.iload_n 2, 1) := by decide +kernel
theorem dX12_word_110 : decode cX12_word 110 = .ok (.ireturn, 1) := by decide +kernel
abbrev cX12_token : ByteArray := prog_14_method_9_code
def yX12_token : MethodName := ⟨RX12, "token", "(I)I"⟩
theorem dX12_token_0 : decode cX12_token 0 = .ok (.aload_n 0, 1) := by decide +kernel
theorem dX12_token_1 : decode cX12_token 1 = .ok (.iload_n 1, 1) := by decide +kernel
theorem dX12_token_2 : decode cX12_token 2 = .ok (.invokevirtual 28, 3) := by decide +kernel
theorem dX12_token_5 : decode cX12_token 5 = .ok (.istore_n 2, 1) := by decide +kernel
theorem dX12_token_6 : decode cX12_token 6 = .ok (.aload_n 0, 1) := by decide +kernel
theorem dX12_token_7 : decode cX12_token 7 = .ok (.getfield 32, 3) := by decide +kernel
theorem dX12_token_10 : decode cX12_token 10 = .ok (.istore_n 3, 1) := by decide +kernel
theorem dX12_token_11 : decode cX12_token 11 = .ok (.aload_n 0, 1) := by decide +kernel
theorem dX12_token_12 : decode cX12_token 12 = .ok (.getfield 35, 3) := by decide +kernel
theorem dX12_token_15 : decode cX12_token 15 = .ok (.iload_n 3, 1) := by decide +kernel
theorem dX12_token_16 : decode cX12_token 16 = .ok (.iload_n 1, 1) := by decide +kernel
theorem dX12_token_17 : decode cX12_token 17 = .ok (.iastore, 1) := by decide +kernel
theorem dX12_token_18 : decode cX12_token 18 = .ok (.aload_n 0, 1) := by decide +kernel
theorem dX12_token_19 : decode cX12_token 19 = .ok (.getfield 38, 3) := by decide +kernel
theorem dX12_token_22 : decode cX12_token 22 = .ok (.iload_n 3, 1) := by decide +kernel
theorem dX12_token_23 : decode cX12_token 23 = .ok (.iconst 0, 1) := by decide +kernel
theorem dX12_token_24 : decode cX12_token 24 = .ok (.iastore, 1) := by decide +kernel
theorem dX12_token_25 : decode cX12_token 25 = .ok (.aload_n 0, 1) := by decide +kernel
theorem dX12_token_26 : decode cX12_token 26 = .ok (.getfield 41, 3) := by decide +kernel
theorem dX12_token_29 : decode cX12_token 29 = .ok (.iload_n 3, 1) := by decide +kernel
theorem dX12_token_30 : decode cX12_token 30 = .ok (.iconst 0, 1) := by decide +kernel
theorem dX12_token_31 : decode cX12_token 31 = .ok (.bastore, 1) := by decide +kernel
theorem dX12_token_32 : decode cX12_token 32 = .ok (.aload_n 0, 1) := by decide +kernel
theorem dX12_token_33 : decode cX12_token 33 = .ok (.getfield 45, 3) := by decide +kernel
theorem dX12_token_36 : decode cX12_token 36 = .ok (.iload_n 3, 1) := by decide +kernel
theorem dX12_token_37 : decode cX12_token 37 = .ok (.lconst 0, 1) := by decide +kernel
theorem dX12_token_38 : decode cX12_token 38 = .ok (.lastore, 1) := by decide +kernel
theorem dX12_token_39 : decode cX12_token 39 = .ok (.iload_n 2, 1) := by decide +kernel
theorem dX12_token_40 : decode cX12_token 40 = .ok (.invokestatic 49, 3) := by decide +kernel
theorem dX12_token_43 : decode cX12_token 43 = .ok (.ifCond .eq 9, 3) := by decide +kernel
theorem dX12_token_46 : decode cX12_token 46 = .ok (.aload_n 0, 1) := by decide +kernel
theorem dX12_token_47 : decode cX12_token 47 = .ok (.iload_n 1, 1) := by decide +kernel
theorem dX12_token_48 : decode cX12_token 48 = .ok (.invokevirtual 52, 3) := by decide +kernel
theorem dX12_token_51 : decode cX12_token 51 = .ok (.ireturn, 1) := by decide +kernel
theorem dX12_token_52 : decode cX12_token 52 = .ok (.iload_n 2, 1) := by decide +kernel
theorem dX12_token_53 : decode cX12_token 53 = .ok (.invokestatic 14, 3) := by decide +kernel
theorem dX12_token_56 : decode cX12_token 56 = .ok (.ifCond .eq 9, 3) := by decide +kernel
theorem dX12_token_59 : decode cX12_token 59 = .ok (.aload_n 0, 1) := by decide +kernel
theorem dX12_token_60 : decode cX12_token 60 = .ok (.iload_n 1, 1) := by decide +kernel
theorem dX12_token_61 : decode cX12_token 61 = .ok (.invokevirtual 55, 3) := by decide +kernel
theorem dX12_token_64 : decode cX12_token 64 = .ok (.ireturn, 1) := by decide +kernel
theorem dX12_token_65 : decode cX12_token 65 = .ok (.iload_n 2, 1) := by decide +kernel
theorem dX12_token_66 : decode cX12_token 66 = .ok (.bipush 39, 2) := by decide +kernel
theorem dX12_token_68 : decode cX12_token 68 = .ok (.if_icmp .ne 64, 3) := by decide +kernel
theorem dX12_token_71 : decode cX12_token 71 = .ok (.aload_n 0, 1) := by decide +kernel
theorem dX12_token_72 : decode cX12_token 72 = .ok (.iload_n 1, 1) := by decide +kernel
theorem dX12_token_73 : decode cX12_token 73 = .ok (.iconst 1, 1) := by decide +kernel
theorem dX12_token_74 : decode cX12_token 74 = .ok (.iadd, 1) := by decide +kernel
theorem dX12_token_75 : decode cX12_token 75 = .ok (.invokevirtual 28, 3) := by decide +kernel
theorem dX12_token_78 : decode cX12_token 78 = .ok (.bipush 32, 2) := by decide +kernel
theorem dX12_token_80 : decode cX12_token 80 = .ok (.if_icmp .lt 48, 3) := by decide +kernel
theorem dX12_token_83 : decode cX12_token 83 = .ok (.aload_n 0, 1) := by decide +kernel
theorem dX12_token_84 : decode cX12_token 84 = .ok (.iload_n 1, 1) := by decide +kernel
theorem dX12_token_85 : decode cX12_token 85 = .ok (.iconst 1, 1) := by decide +kernel
theorem dX12_token_86 : decode cX12_token 86 = .ok (.iadd, 1) := by decide +kernel
theorem dX12_token_87 : decode cX12_token 87 = .ok (.invokevirtual 28, 3) := by decide +kernel
theorem dX12_token_90 : decode cX12_token 90 = .ok (.bipush 126, 2) := by decide +kernel
theorem dX12_token_92 : decode cX12_token 92 = .ok (.if_icmp .gt 36, 3) := by decide +kernel
theorem dX12_token_95 : decode cX12_token 95 = .ok (.aload_n 0, 1) := by decide +kernel
theorem dX12_token_96 : decode cX12_token 96 = .ok (.iload_n 1, 1) := by decide +kernel
theorem dX12_token_97 : decode cX12_token 97 = .ok (.iconst 2, 1) := by decide +kernel
theorem dX12_token_98 : decode cX12_token 98 = .ok (.iadd, 1) := by decide +kernel
theorem dX12_token_99 : decode cX12_token 99 = .ok (.invokevirtual 28, 3) := by decide +kernel
theorem dX12_token_102 : decode cX12_token 102 = .ok (.bipush 39, 2) := by decide +kernel
theorem dX12_token_104 : decode cX12_token 104 = .ok (.if_icmp .ne 24, 3) := by decide +kernel
theorem dX12_token_107 : decode cX12_token 107 = .ok (.aload_n 0, 1) := by decide +kernel
theorem dX12_token_108 : decode cX12_token 108 = .ok (.getfield 38, 3) := by decide +kernel
theorem dX12_token_111 : decode cX12_token 111 = .ok (.iload_n 3, 1) := by decide +kernel
theorem dX12_token_112 : decode cX12_token 112 = .ok (.iconst 4, 1) := by decide +kernel
theorem dX12_token_113 : decode cX12_token 113 = .ok (.iastore, 1) := by decide +kernel
theorem dX12_token_114 : decode cX12_token 114 = .ok (.aload_n 0, 1) := by decide +kernel
theorem dX12_token_115 : decode cX12_token 115 = .ok (.getfield 45, 3) := by decide +kernel
theorem dX12_token_118 : decode cX12_token 118 = .ok (.iload_n 3, 1) := by decide +kernel
theorem dX12_token_119 : decode cX12_token 119 = .ok (.aload_n 0, 1) := by decide +kernel
theorem dX12_token_120 : decode cX12_token 120 = .ok (.iload_n 1, 1) := by decide +kernel
theorem dX12_token_121 : decode cX12_token 121 = .ok (.iconst 1, 1) := by decide +kernel
theorem dX12_token_122 : decode cX12_token 122 = .ok (.iadd, 1) := by decide +kernel
theorem dX12_token_123 : decode cX12_token 123 = .ok (.invokevirtual 28, 3) := by decide +kernel
theorem dX12_token_126 : decode cX12_token 126 = .ok (.i2l, 1) := by decide +kernel
theorem dX12_token_127 : decode cX12_token 127 = .ok (.lastore, 1) := by decide +kernel
theorem dX12_token_128 : decode cX12_token 128 = .ok (.iload_n 1, 1) := by decide +kernel
theorem dX12_token_129 : decode cX12_token 129 = .ok (.iconst 3, 1) := by decide +kernel
theorem dX12_token_130 : decode cX12_token 130 = .ok (.iadd, 1) := by decide +kernel
theorem dX12_token_131 : decode cX12_token 131 = .ok (.ireturn, 1) := by decide +kernel
theorem dX12_token_132 : decode cX12_token 132 = .ok (.iconst 4, 1) := by decide +kernel
theorem dX12_token_133 : decode cX12_token 133 = .ok (.istore 4, 2) := by decide +kernel
theorem dX12_token_135 : decode cX12_token 135 = .ok (.iload 4, 2) := by decide +kernel
theorem dX12_token_137 : decode cX12_token 137 = .ok (.ifCond .le 61, 3) := by decide +kernel
theorem dX12_token_140 : decode cX12_token 140 = .ok (.iload_n 1, 1) := by decide +kernel
theorem dX12_token_141 : decode cX12_token 141 = .ok (.iload 4, 2) := by decide +kernel
theorem dX12_token_143 : decode cX12_token 143 = .ok (.iadd, 1) := by decide +kernel
theorem dX12_token_144 : decode cX12_token 144 = .ok (.aload_n 0, 1) := by decide +kernel
theorem dX12_token_145 : decode cX12_token 145 = .ok (.getfield 7, 3) := by decide +kernel
theorem dX12_token_148 : decode cX12_token 148 = .ok (.if_icmp .gt 15, 3) := by decide +kernel
theorem dX12_token_151 : decode cX12_token 151 = .ok (.aload_n 0, 1) := by decide +kernel
theorem dX12_token_152 : decode cX12_token 152 = .ok (.ldc 58, 2) := by decide +kernel
theorem dX12_token_154 : decode cX12_token 154 = .ok (.iload_n 1, 1) := by decide +kernel
theorem dX12_token_155 : decode cX12_token 155 = .ok (.iload 4, 2) := by decide +kernel
theorem dX12_token_157 : decode cX12_token 157 = .ok (.invokevirtual 60, 3) := by decide +kernel
theorem dX12_token_160 : decode cX12_token 160 = .ok (.goto 4, 3) := by decide +kernel
theorem dX12_token_163 : decode cX12_token 163 = .ok (.iconst (-1), 1) := by decide +kernel
theorem dX12_token_164 : decode cX12_token 164 = .ok (.istore 5, 2) := by decide +kernel
theorem dX12_token_166 : decode cX12_token 166 = .ok (.iload 5, 2) := by decide +kernel
theorem dX12_token_168 : decode cX12_token 168 = .ok (.iconst (-1), 1) := by decide +kernel
theorem dX12_token_169 : decode cX12_token 169 = .ok (.if_icmp .ne 6, 3) := by decide +kernel
theorem dX12_token_172 : decode cX12_token 172 = .ok (.goto 20, 3) := by decide +kernel
theorem dX12_token_175 : decode cX12_token 175 = .ok (.aload_n 0, 1) := by decide +kernel
theorem dX12_token_176 : decode cX12_token 176 = .ok (.getfield 38, 3) := by decide +kernel
theorem dX12_token_179 : decode cX12_token 179 = .ok (.iload_n 3, 1) := by decide +kernel
theorem dX12_token_180 : decode cX12_token 180 = .ok (.sipush 200, 3) := by decide +kernel
theorem dX12_token_183 : decode cX12_token 183 = .ok (.iload 5, 2) := by decide +kernel
theorem dX12_token_185 : decode cX12_token 185 = .ok (.iadd, 1) := by decide +kernel
theorem dX12_token_186 : decode cX12_token 186 = .ok (.iastore, 1) := by decide +kernel
theorem dX12_token_187 : decode cX12_token 187 = .ok (.iload_n 1, 1) := by decide +kernel
theorem dX12_token_188 : decode cX12_token 188 = .ok (.iload 4, 2) := by decide +kernel
theorem dX12_token_190 : decode cX12_token 190 = .ok (.iadd, 1) := by decide +kernel
theorem dX12_token_191 : decode cX12_token 191 = .ok (.ireturn, 1) := by decide +kernel
theorem dX12_token_192 : decode cX12_token 192 = .ok (.iinc 4 (-1), 3) := by decide +kernel
theorem dX12_token_195 : decode cX12_token 195 = .ok (.goto (-60), 3) := by decide +kernel
theorem dX12_token_198 : decode cX12_token 198 = .ok (.iload_n 1, 1) := by decide +kernel
theorem dX12_token_199 : decode cX12_token 199 = .ok (.iconst 1, 1) := by decide +kernel
theorem dX12_token_200 : decode cX12_token 200 = .ok (.iadd, 1) := by decide +kernel
theorem dX12_token_201 : decode cX12_token 201 = .ok (.ireturn, 1) := by decide +kernel
abbrev cX12_cutAll : ByteArray := prog_14_method_13_code
def yX12_cutAll : MethodName := ⟨RX12, "cutAll", "()V"⟩
theorem dX12_cutAll_0 : decode cX12_cutAll 0 = .ok (.aload_n 0, 1) := by decide +kernel
theorem dX12_cutAll_1 : decode cX12_cutAll 1 = .ok (.iconst 0, 1) := by decide +kernel
theorem dX12_cutAll_2 : decode cX12_cutAll 2 = .ok (.putfield 32, 3) := by decide +kernel
theorem dX12_cutAll_5 : decode cX12_cutAll 5 = .ok (.iconst 0, 1) := by decide +kernel
theorem dX12_cutAll_6 : decode cX12_cutAll 6 = .ok (.istore_n 1, 1) := by decide +kernel
theorem dX12_cutAll_7 : decode cX12_cutAll 7 = .ok (.iconst 1, 1) := by decide +kernel
theorem dX12_cutAll_8 : decode cX12_cutAll 8 = .ok (.istore_n 2, 1) := by decide +kernel
theorem dX12_cutAll_9 : decode cX12_cutAll 9 = .ok (.iload_n 2, 1) := by decide +kernel
theorem dX12_cutAll_10 : decode cX12_cutAll 10 = .ok (.ifCond .eq 172, 3) := by decide +kernel
theorem dX12_cutAll_13 : decode cX12_cutAll 13 = .ok (.iconst 1, 1) := by decide +kernel
theorem dX12_cutAll_14 : decode cX12_cutAll 14 = .ok (.istore_n 3, 1) := by decide +kernel
theorem dX12_cutAll_15 : decode cX12_cutAll 15 = .ok (.iload_n 3, 1) := by decide +kernel
theorem dX12_cutAll_16 : decode cX12_cutAll 16 = .ok (.ifCond .eq 71, 3) := by decide +kernel
theorem dX12_cutAll_19 : decode cX12_cutAll 19 = .ok (.aload_n 0, 1) := by decide +kernel
theorem dX12_cutAll_20 : decode cX12_cutAll 20 = .ok (.iload_n 1, 1) := by decide +kernel
theorem dX12_cutAll_21 : decode cX12_cutAll 21 = .ok (.invokevirtual 28, 3) := by decide +kernel
theorem dX12_cutAll_24 : decode cX12_cutAll 24 = .ok (.invokestatic 89, 3) := by decide +kernel
theorem dX12_cutAll_27 : decode cX12_cutAll 27 = .ok (.ifCond .eq 9, 3) := by decide +kernel
theorem dX12_cutAll_30 : decode cX12_cutAll 30 = .ok (.iinc 1 1, 3) := by decide +kernel
theorem dX12_cutAll_33 : decode cX12_cutAll 33 = .ok (.goto (-18), 3) := by decide +kernel
theorem dX12_cutAll_36 : decode cX12_cutAll 36 = .ok (.aload_n 0, 1) := by decide +kernel
theorem dX12_cutAll_37 : decode cX12_cutAll 37 = .ok (.iload_n 1, 1) := by decide +kernel
theorem dX12_cutAll_38 : decode cX12_cutAll 38 = .ok (.invokevirtual 28, 3) := by decide +kernel
theorem dX12_cutAll_41 : decode cX12_cutAll 41 = .ok (.bipush 47, 2) := by decide +kernel
theorem dX12_cutAll_43 : decode cX12_cutAll 43 = .ok (.if_icmp .ne 39, 3) := by decide +kernel
theorem dX12_cutAll_46 : decode cX12_cutAll 46 = .ok (.aload_n 0, 1) := by decide +kernel
theorem dX12_cutAll_47 : decode cX12_cutAll 47 = .ok (.iload_n 1, 1) := by decide +kernel
theorem dX12_cutAll_48 : decode cX12_cutAll 48 = .ok (.iconst 1, 1) := by decide +kernel
theorem dX12_cutAll_49 : decode cX12_cutAll 49 = .ok (.iadd, 1) := by decide +kernel
theorem dX12_cutAll_50 : decode cX12_cutAll 50 = .ok (.invokevirtual 28, 3) := by decide +kernel
theorem dX12_cutAll_53 : decode cX12_cutAll 53 = .ok (.bipush 47, 2) := by decide +kernel
theorem dX12_cutAll_55 : decode cX12_cutAll 55 = .ok (.if_icmp .ne 27, 3) := by decide +kernel
theorem dX12_cutAll_58 : decode cX12_cutAll 58 = .ok (.iload_n 1, 1) := by decide +kernel
theorem dX12_cutAll_59 : decode cX12_cutAll 59 = .ok (.aload_n 0, 1) := by decide +kernel
theorem dX12_cutAll_60 : decode cX12_cutAll 60 = .ok (.getfield 7, 3) := by decide +kernel
theorem dX12_cutAll_63 : decode cX12_cutAll 63 = .ok (.if_icmp .ge (-48), 3) := by decide +kernel
theorem dX12_cutAll_66 : decode cX12_cutAll 66 = .ok (.aload_n 0, 1) := by decide +kernel
theorem dX12_cutAll_67 : decode cX12_cutAll 67 = .ok (.iload_n 1, 1) := by decide +kernel
theorem dX12_cutAll_68 : decode cX12_cutAll 68 = .ok (.invokevirtual 28, 3) := by decide +kernel
theorem dX12_cutAll_71 : decode cX12_cutAll 71 = .ok (.bipush 10, 2) := by decide +kernel
theorem dX12_cutAll_73 : decode cX12_cutAll 73 = .ok (.if_icmp .eq (-58), 3) := by decide +kernel
theorem dX12_cutAll_76 : decode cX12_cutAll 76 = .ok (.iinc 1 1, 3) := by decide +kernel
theorem dX12_cutAll_79 : decode cX12_cutAll 79 = .ok (.goto (-21), 3) := by decide +kernel
theorem dX12_cutAll_82 : decode cX12_cutAll 82 = .ok (.iconst 0, 1) := by decide +kernel
theorem dX12_cutAll_83 : decode cX12_cutAll 83 = .ok (.istore_n 3, 1) := by decide +kernel
theorem dX12_cutAll_84 : decode cX12_cutAll 84 = .ok (.goto (-69), 3) := by decide +kernel
theorem dX12_cutAll_87 : decode cX12_cutAll 87 = .ok (.iload_n 1, 1) := by decide +kernel
theorem dX12_cutAll_88 : decode cX12_cutAll 88 = .ok (.aload_n 0, 1) := by decide +kernel
theorem dX12_cutAll_89 : decode cX12_cutAll 89 = .ok (.getfield 7, 3) := by decide +kernel
theorem dX12_cutAll_92 : decode cX12_cutAll 92 = .ok (.if_icmp .lt 31, 3) := by decide +kernel
theorem dX12_cutAll_95 : decode cX12_cutAll 95 = .ok (.aload_n 0, 1) := by decide +kernel
theorem dX12_cutAll_96 : decode cX12_cutAll 96 = .ok (.getfield 38, 3) := by decide +kernel
theorem dX12_cutAll_99 : decode cX12_cutAll 99 = .ok (.aload_n 0, 1) := by decide +kernel
theorem dX12_cutAll_100 : decode cX12_cutAll 100 = .ok (.getfield 32, 3) := by decide +kernel
theorem dX12_cutAll_103 : decode cX12_cutAll 103 = .ok (.iconst 5, 1) := by decide +kernel
theorem dX12_cutAll_104 : decode cX12_cutAll 104 = .ok (.iastore, 1) := by decide +kernel
theorem dX12_cutAll_105 : decode cX12_cutAll 105 = .ok (.aload_n 0, 1) := by decide +kernel
theorem dX12_cutAll_106 : decode cX12_cutAll 106 = .ok (.getfield 35, 3) := by decide +kernel
theorem dX12_cutAll_109 : decode cX12_cutAll 109 = .ok (.aload_n 0, 1) := by decide +kernel
theorem dX12_cutAll_110 : decode cX12_cutAll 110 = .ok (.getfield 32, 3) := by decide +kernel
theorem dX12_cutAll_113 : decode cX12_cutAll 113 = .ok (.aload_n 0, 1) := by decide +kernel
theorem dX12_cutAll_114 : decode cX12_cutAll 114 = .ok (.getfield 7, 3) := by decide +kernel
theorem dX12_cutAll_117 : decode cX12_cutAll 117 = .ok (.iastore, 1) := by decide +kernel
theorem dX12_cutAll_118 : decode cX12_cutAll 118 = .ok (.iconst 0, 1) := by decide +kernel
theorem dX12_cutAll_119 : decode cX12_cutAll 119 = .ok (.istore_n 2, 1) := by decide +kernel
theorem dX12_cutAll_120 : decode cX12_cutAll 120 = .ok (.goto 59, 3) := by decide +kernel
theorem dX12_cutAll_123 : decode cX12_cutAll 123 = .ok (.aload_n 0, 1) := by decide +kernel
theorem dX12_cutAll_124 : decode cX12_cutAll 124 = .ok (.iload_n 1, 1) := by decide +kernel
theorem dX12_cutAll_125 : decode cX12_cutAll 125 = .ok (.invokevirtual 92, 3) := by decide +kernel
theorem dX12_cutAll_128 : decode cX12_cutAll 128 = .ok (.istore_n 1, 1) := by decide +kernel
theorem dX12_cutAll_129 : decode cX12_cutAll 129 = .ok (.aload_n 0, 1) := by decide +kernel
theorem dX12_cutAll_130 : decode cX12_cutAll 130 = .ok (.getfield 38, 3) := by decide +kernel
theorem dX12_cutAll_133 : decode cX12_cutAll 133 = .ok (.aload_n 0, 1) := by decide +kernel
theorem dX12_cutAll_134 : decode cX12_cutAll 134 = .ok (.getfield 32, 3) := by decide +kernel
theorem dX12_cutAll_137 : decode cX12_cutAll 137 = .ok (.iaload, 1) := by decide +kernel
theorem dX12_cutAll_138 : decode cX12_cutAll 138 = .ok (.ifCond .ne 8, 3) := by decide +kernel
theorem dX12_cutAll_141 : decode cX12_cutAll 141 = .ok (.iconst 0, 1) := by decide +kernel
theorem dX12_cutAll_142 : decode cX12_cutAll 142 = .ok (.istore_n 2, 1) := by decide +kernel
theorem dX12_cutAll_143 : decode cX12_cutAll 143 = .ok (.goto 26, 3) := by decide +kernel
theorem dX12_cutAll_146 : decode cX12_cutAll 146 = .ok (.aload_n 0, 1) := by decide +kernel
theorem dX12_cutAll_147 : decode cX12_cutAll 147 = .ok (.getfield 32, 3) := by decide +kernel
theorem dX12_cutAll_150 : decode cX12_cutAll 150 = .ok (.sipush 1500, 3) := by decide +kernel
theorem dX12_cutAll_153 : decode cX12_cutAll 153 = .ok (.if_icmp .ne 16, 3) := by decide +kernel
theorem dX12_cutAll_156 : decode cX12_cutAll 156 = .ok (.aload_n 0, 1) := by decide +kernel
theorem dX12_cutAll_157 : decode cX12_cutAll 157 = .ok (.getfield 38, 3) := by decide +kernel
theorem dX12_cutAll_160 : decode cX12_cutAll 160 = .ok (.aload_n 0, 1) := by decide +kernel
theorem dX12_cutAll_161 : decode cX12_cutAll 161 = .ok (.getfield 32, 3) := by decide +kernel
theorem dX12_cutAll_164 : decode cX12_cutAll 164 = .ok (.bipush 6, 2) := by decide +kernel
theorem dX12_cutAll_166 : decode cX12_cutAll 166 = .ok (.iastore, 1) := by decide +kernel
theorem dX12_cutAll_167 : decode cX12_cutAll 167 = .ok (.iconst 0, 1) := by decide +kernel
theorem dX12_cutAll_168 : decode cX12_cutAll 168 = .ok (.istore_n 2, 1) := by decide +kernel
theorem dX12_cutAll_169 : decode cX12_cutAll 169 = .ok (.aload_n 0, 1) := by decide +kernel
theorem dX12_cutAll_170 : decode cX12_cutAll 170 = .ok (.dup, 1) := by decide +kernel
theorem dX12_cutAll_171 : decode cX12_cutAll 171 = .ok (.getfield 32, 3) := by decide +kernel
theorem dX12_cutAll_174 : decode cX12_cutAll 174 = .ok (.iconst 1, 1) := by decide +kernel
theorem dX12_cutAll_175 : decode cX12_cutAll 175 = .ok (.iadd, 1) := by decide +kernel
theorem dX12_cutAll_176 : decode cX12_cutAll 176 = .ok (.putfield 32, 3) := by decide +kernel
theorem dX12_cutAll_179 : decode cX12_cutAll 179 = .ok (.goto (-170), 3) := by decide +kernel
theorem dX12_cutAll_182 : decode cX12_cutAll 182 = .ok (.return_, 1) := by decide +kernel
abbrev cX12_eight : ByteArray := prog_14_method_99_code
def yX12_eight : MethodName := ⟨RX12, "eight", "()V"⟩
theorem dX12_eight_0 : decode cX12_eight 0 = .ok (.aload_n 0, 1) := by decide +kernel
theorem dX12_eight_1 : decode cX12_eight 1 = .ok (.iconst 0, 1) := by decide +kernel
theorem dX12_eight_2 : decode cX12_eight 2 = .ok (.putfield 174, 3) := by decide +kernel
theorem dX12_eight_5 : decode cX12_eight 5 = .ok (.lconst 0, 1) := by decide +kernel
theorem dX12_eight_6 : decode cX12_eight 6 = .ok (.lstore_n 1, 1) := by decide +kernel
theorem dX12_eight_7 : decode cX12_eight 7 = .ok (.iconst 0, 1) := by decide +kernel
theorem dX12_eight_8 : decode cX12_eight 8 = .ok (.istore_n 3, 1) := by decide +kernel
theorem dX12_eight_9 : decode cX12_eight 9 = .ok (.iload_n 3, 1) := by decide +kernel
theorem dX12_eight_10 : decode cX12_eight 10 = .ok (.ldc_w 724, 3) := by decide +kernel
theorem dX12_eight_13 : decode cX12_eight 13 = .ok (.invokevirtual 18, 3) := by decide +kernel
theorem dX12_eight_16 : decode cX12_eight 16 = .ok (.if_icmp .ge 91, 3) := by decide +kernel
theorem dX12_eight_19 : decode cX12_eight 19 = .ok (.ldc_w 724, 3) := by decide +kernel
theorem dX12_eight_22 : decode cX12_eight 22 = .ok (.iload_n 3, 1) := by decide +kernel
theorem dX12_eight_23 : decode cX12_eight 23 = .ok (.invokevirtual 24, 3) := by decide +kernel
theorem dX12_eight_26 : decode cX12_eight 26 = .ok (.bipush 32, 2) := by decide +kernel
theorem dX12_eight_28 : decode cX12_eight 28 = .ok (.if_icmp .eq 18, 3) := by decide +kernel
theorem dX12_eight_31 : decode cX12_eight 31 = .ok (.lload_n 1, 1) := by decide +kernel
theorem dX12_eight_32 : decode cX12_eight 32 = .ok (.ldc_w 724, 3) := by decide +kernel
theorem dX12_eight_35 : decode cX12_eight 35 = .ok (.iload_n 3, 1) := by decide +kernel
theorem dX12_eight_36 : decode cX12_eight 36 = .ok (.invokevirtual 24, 3) := by decide +kernel
theorem dX12_eight_39 : decode cX12_eight 39 = .ok (.invokestatic 76, 3) := by decide +kernel
theorem dX12_eight_42 : decode cX12_eight 42 = .ok (.lstore_n 1, 1) := by decide +kernel
theorem dX12_eight_43 : decode cX12_eight 43 = .ok (.goto 58, 3) := by decide +kernel
theorem dX12_eight_46 : decode cX12_eight 46 = .ok (.aload_n 0, 1) := by decide +kernel
theorem dX12_eight_47 : decode cX12_eight 47 = .ok (.getfield 177, 3) := by decide +kernel
theorem dX12_eight_50 : decode cX12_eight 50 = .ok (.aload_n 0, 1) := by decide +kernel
theorem dX12_eight_51 : decode cX12_eight 51 = .ok (.getfield 174, 3) := by decide +kernel
theorem dX12_eight_54 : decode cX12_eight 54 = .ok (.lload_n 1, 1) := by decide +kernel
theorem dX12_eight_55 : decode cX12_eight 55 = .ok (.lastore, 1) := by decide +kernel
theorem dX12_eight_56 : decode cX12_eight 56 = .ok (.aload_n 0, 1) := by decide +kernel
theorem dX12_eight_57 : decode cX12_eight 57 = .ok (.getfield 180, 3) := by decide +kernel
theorem dX12_eight_60 : decode cX12_eight 60 = .ok (.aload_n 0, 1) := by decide +kernel
theorem dX12_eight_61 : decode cX12_eight 61 = .ok (.getfield 174, 3) := by decide +kernel
theorem dX12_eight_64 : decode cX12_eight 64 = .ok (.lconst 0, 1) := by decide +kernel
theorem dX12_eight_65 : decode cX12_eight 65 = .ok (.lastore, 1) := by decide +kernel
theorem dX12_eight_66 : decode cX12_eight 66 = .ok (.aload_n 0, 1) := by decide +kernel
theorem dX12_eight_67 : decode cX12_eight 67 = .ok (.getfield 209, 3) := by decide +kernel
theorem dX12_eight_70 : decode cX12_eight 70 = .ok (.aload_n 0, 1) := by decide +kernel
theorem dX12_eight_71 : decode cX12_eight 71 = .ok (.getfield 174, 3) := by decide +kernel
theorem dX12_eight_74 : decode cX12_eight 74 = .ok (.iconst 5, 1) := by decide +kernel
theorem dX12_eight_75 : decode cX12_eight 75 = .ok (.iastore, 1) := by decide +kernel
theorem dX12_eight_76 : decode cX12_eight 76 = .ok (.aload_n 0, 1) := by decide +kernel
theorem dX12_eight_77 : decode cX12_eight 77 = .ok (.getfield 212, 3) := by decide +kernel
theorem dX12_eight_80 : decode cX12_eight 80 = .ok (.aload_n 0, 1) := by decide +kernel
theorem dX12_eight_81 : decode cX12_eight 81 = .ok (.getfield 174, 3) := by decide +kernel
theorem dX12_eight_84 : decode cX12_eight 84 = .ok (.aload_n 0, 1) := by decide +kernel
theorem dX12_eight_85 : decode cX12_eight 85 = .ok (.getfield 174, 3) := by decide +kernel
theorem dX12_eight_88 : decode cX12_eight 88 = .ok (.iastore, 1) := by decide +kernel
theorem dX12_eight_89 : decode cX12_eight 89 = .ok (.aload_n 0, 1) := by decide +kernel
theorem dX12_eight_90 : decode cX12_eight 90 = .ok (.dup, 1) := by decide +kernel
theorem dX12_eight_91 : decode cX12_eight 91 = .ok (.getfield 174, 3) := by decide +kernel
theorem dX12_eight_94 : decode cX12_eight 94 = .ok (.iconst 1, 1) := by decide +kernel
theorem dX12_eight_95 : decode cX12_eight 95 = .ok (.iadd, 1) := by decide +kernel
theorem dX12_eight_96 : decode cX12_eight 96 = .ok (.putfield 174, 3) := by decide +kernel
theorem dX12_eight_99 : decode cX12_eight 99 = .ok (.lconst 0, 1) := by decide +kernel
theorem dX12_eight_100 : decode cX12_eight 100 = .ok (.lstore_n 1, 1) := by decide +kernel
theorem dX12_eight_101 : decode cX12_eight 101 = .ok (.iinc 3 1, 3) := by decide +kernel
theorem dX12_eight_104 : decode cX12_eight 104 = .ok (.goto (-95), 3) := by decide +kernel
theorem dX12_eight_107 : decode cX12_eight 107 = .ok (.return_, 1) := by decide +kernel
abbrev cX12_load : ByteArray := prog_14_method_98_code
def yX12_load : MethodName := ⟨RX12, "load", "(Z)I"⟩
theorem dX12_load_0 : decode cX12_load 0 = .ok (.aload_n 0, 1) := by decide +kernel
theorem dX12_load_1 : decode cX12_load 1 = .ok (.iconst 0, 1) := by decide +kernel
theorem dX12_load_2 : decode cX12_load 2 = .ok (.putfield 1, 3) := by decide +kernel
theorem dX12_load_5 : decode cX12_load 5 = .ok (.aload_n 0, 1) := by decide +kernel
theorem dX12_load_6 : decode cX12_load 6 = .ok (.invokevirtual 712, 3) := by decide +kernel
theorem dX12_load_9 : decode cX12_load 9 = .ok (.aload_n 0, 1) := by decide +kernel
theorem dX12_load_10 : decode cX12_load 10 = .ok (.iconst 1, 1) := by decide +kernel
theorem dX12_load_11 : decode cX12_load 11 = .ok (.aload_n 0, 1) := by decide +kernel
theorem dX12_load_12 : decode cX12_load 12 = .ok (.getfield 581, 3) := by decide +kernel
theorem dX12_load_15 : decode cX12_load 15 = .ok (.isub, 1) := by decide +kernel
theorem dX12_load_16 : decode cX12_load 16 = .ok (.putfield 129, 3) := by decide +kernel
theorem dX12_load_19 : decode cX12_load 19 = .ok (.aload_n 0, 1) := by decide +kernel
theorem dX12_load_20 : decode cX12_load 20 = .ok (.iconst 0, 1) := by decide +kernel
theorem dX12_load_21 : decode cX12_load 21 = .ok (.putfield 95, 3) := by decide +kernel
theorem dX12_load_24 : decode cX12_load 24 = .ok (.aload_n 0, 1) := by decide +kernel
theorem dX12_load_25 : decode cX12_load 25 = .ok (.iconst (-1), 1) := by decide +kernel
theorem dX12_load_26 : decode cX12_load 26 = .ok (.putfield 98, 3) := by decide +kernel
theorem dX12_load_29 : decode cX12_load 29 = .ok (.aload_n 0, 1) := by decide +kernel
theorem dX12_load_30 : decode cX12_load 30 = .ok (.iconst 0, 1) := by decide +kernel
theorem dX12_load_31 : decode cX12_load 31 = .ok (.invokevirtual 715, 3) := by decide +kernel
theorem dX12_load_34 : decode cX12_load 34 = .ok (.aload_n 0, 1) := by decide +kernel
theorem dX12_load_35 : decode cX12_load 35 = .ok (.getfield 95, 3) := by decide +kernel
theorem dX12_load_38 : decode cX12_load 38 = .ok (.ifCond .ne 112, 3) := by decide +kernel
theorem dX12_load_41 : decode cX12_load 41 = .ok (.aload_n 0, 1) := by decide +kernel
theorem dX12_load_42 : decode cX12_load 42 = .ok (.getfield 266, 3) := by decide +kernel
theorem dX12_load_45 : decode cX12_load 45 = .ok (.aload_n 0, 1) := by decide +kernel
theorem dX12_load_46 : decode cX12_load 46 = .ok (.getfield 129, 3) := by decide +kernel
theorem dX12_load_49 : decode cX12_load 49 = .ok (.iconst 0, 1) := by decide +kernel
theorem dX12_load_50 : decode cX12_load 50 = .ok (.iastore, 1) := by decide +kernel
theorem dX12_load_51 : decode cX12_load 51 = .ok (.aload_n 0, 1) := by decide +kernel
theorem dX12_load_52 : decode cX12_load 52 = .ok (.getfield 189, 3) := by decide +kernel
theorem dX12_load_55 : decode cX12_load 55 = .ok (.aload_n 0, 1) := by decide +kernel
theorem dX12_load_56 : decode cX12_load 56 = .ok (.getfield 129, 3) := by decide +kernel
theorem dX12_load_59 : decode cX12_load 59 = .ok (.iconst 0, 1) := by decide +kernel
theorem dX12_load_60 : decode cX12_load 60 = .ok (.iastore, 1) := by decide +kernel
theorem dX12_load_61 : decode cX12_load 61 = .ok (.aload_n 0, 1) := by decide +kernel
theorem dX12_load_62 : decode cX12_load 62 = .ok (.getfield 343, 3) := by decide +kernel
theorem dX12_load_65 : decode cX12_load 65 = .ok (.aload_n 0, 1) := by decide +kernel
theorem dX12_load_66 : decode cX12_load 66 = .ok (.getfield 129, 3) := by decide +kernel
theorem dX12_load_69 : decode cX12_load 69 = .ok (.iconst 0, 1) := by decide +kernel
theorem dX12_load_70 : decode cX12_load 70 = .ok (.iastore, 1) := by decide +kernel
theorem dX12_load_71 : decode cX12_load 71 = .ok (.aload_n 0, 1) := by decide +kernel
theorem dX12_load_72 : decode cX12_load 72 = .ok (.getfield 340, 3) := by decide +kernel
theorem dX12_load_75 : decode cX12_load 75 = .ok (.aload_n 0, 1) := by decide +kernel
theorem dX12_load_76 : decode cX12_load 76 = .ok (.getfield 129, 3) := by decide +kernel
theorem dX12_load_79 : decode cX12_load 79 = .ok (.iconst 0, 1) := by decide +kernel
theorem dX12_load_80 : decode cX12_load 80 = .ok (.iastore, 1) := by decide +kernel
theorem dX12_load_81 : decode cX12_load 81 = .ok (.aload_n 0, 1) := by decide +kernel
theorem dX12_load_82 : decode cX12_load 82 = .ok (.getfield 384, 3) := by decide +kernel
theorem dX12_load_85 : decode cX12_load 85 = .ok (.aload_n 0, 1) := by decide +kernel
theorem dX12_load_86 : decode cX12_load 86 = .ok (.getfield 129, 3) := by decide +kernel
theorem dX12_load_89 : decode cX12_load 89 = .ok (.iconst 0, 1) := by decide +kernel
theorem dX12_load_90 : decode cX12_load 90 = .ok (.iastore, 1) := by decide +kernel
theorem dX12_load_91 : decode cX12_load 91 = .ok (.aload_n 0, 1) := by decide +kernel
theorem dX12_load_92 : decode cX12_load 92 = .ok (.getfield 399, 3) := by decide +kernel
theorem dX12_load_95 : decode cX12_load 95 = .ok (.aload_n 0, 1) := by decide +kernel
theorem dX12_load_96 : decode cX12_load 96 = .ok (.getfield 129, 3) := by decide +kernel
theorem dX12_load_99 : decode cX12_load 99 = .ok (.iconst 0, 1) := by decide +kernel
theorem dX12_load_100 : decode cX12_load 100 = .ok (.iastore, 1) := by decide +kernel
theorem dX12_load_101 : decode cX12_load 101 = .ok (.aload_n 0, 1) := by decide +kernel
theorem dX12_load_102 : decode cX12_load 102 = .ok (.getfield 132, 3) := by decide +kernel
theorem dX12_load_105 : decode cX12_load 105 = .ok (.aload_n 0, 1) := by decide +kernel
theorem dX12_load_106 : decode cX12_load 106 = .ok (.getfield 129, 3) := by decide +kernel
theorem dX12_load_109 : decode cX12_load 109 = .ok (.iconst 0, 1) := by decide +kernel
theorem dX12_load_110 : decode cX12_load 110 = .ok (.iastore, 1) := by decide +kernel
theorem dX12_load_111 : decode cX12_load 111 = .ok (.aload_n 0, 1) := by decide +kernel
theorem dX12_load_112 : decode cX12_load 112 = .ok (.iconst 0, 1) := by decide +kernel
theorem dX12_load_113 : decode cX12_load 113 = .ok (.putfield 206, 3) := by decide +kernel
theorem dX12_load_116 : decode cX12_load 116 = .ok (.aload_n 0, 1) := by decide +kernel
theorem dX12_load_117 : decode cX12_load 117 = .ok (.iconst 0, 1) := by decide +kernel
theorem dX12_load_118 : decode cX12_load 118 = .ok (.putfield 296, 3) := by decide +kernel
theorem dX12_load_121 : decode cX12_load 121 = .ok (.iconst 0, 1) := by decide +kernel
theorem dX12_load_122 : decode cX12_load 122 = .ok (.istore_n 2, 1) := by decide +kernel
theorem dX12_load_123 : decode cX12_load 123 = .ok (.iload_n 2, 1) := by decide +kernel
theorem dX12_load_124 : decode cX12_load 124 = .ok (.iconst 5, 1) := by decide +kernel
theorem dX12_load_125 : decode cX12_load 125 = .ok (.if_icmp .ge 16, 3) := by decide +kernel
theorem dX12_load_128 : decode cX12_load 128 = .ok (.aload_n 0, 1) := by decide +kernel
theorem dX12_load_129 : decode cX12_load 129 = .ok (.getfield 263, 3) := by decide +kernel
theorem dX12_load_132 : decode cX12_load 132 = .ok (.iload_n 2, 1) := by decide +kernel
theorem dX12_load_133 : decode cX12_load 133 = .ok (.iconst 0, 1) := by decide +kernel
theorem dX12_load_134 : decode cX12_load 134 = .ok (.iastore, 1) := by decide +kernel
theorem dX12_load_135 : decode cX12_load 135 = .ok (.iinc 2 1, 3) := by decide +kernel
theorem dX12_load_138 : decode cX12_load 138 = .ok (.goto (-15), 3) := by decide +kernel
theorem dX12_load_141 : decode cX12_load 141 = .ok (.aload_n 0, 1) := by decide +kernel
theorem dX12_load_142 : decode cX12_load 142 = .ok (.invokevirtual 718, 3) := by decide +kernel
theorem dX12_load_145 : decode cX12_load 145 = .ok (.aload_n 0, 1) := by decide +kernel
theorem dX12_load_146 : decode cX12_load 146 = .ok (.iconst 1, 1) := by decide +kernel
theorem dX12_load_147 : decode cX12_load 147 = .ok (.invokevirtual 715, 3) := by decide +kernel
theorem dX12_load_150 : decode cX12_load 150 = .ok (.aload_n 0, 1) := by decide +kernel
theorem dX12_load_151 : decode cX12_load 151 = .ok (.iconst 0, 1) := by decide +kernel
theorem dX12_load_152 : decode cX12_load 152 = .ok (.putfield 7, 3) := by decide +kernel
theorem dX12_load_155 : decode cX12_load 155 = .ok (.aload_n 0, 1) := by decide +kernel
theorem dX12_load_156 : decode cX12_load 156 = .ok (.aload_n 0, 1) := by decide +kernel
theorem dX12_load_157 : decode cX12_load 157 = .ok (.getfield 95, 3) := by decide +kernel
theorem dX12_load_160 : decode cX12_load 160 = .ok (.ifCond .ne 7, 3) := by decide +kernel
theorem dX12_load_163 : decode cX12_load 163 = .ok (.iconst (-1), 1) := by decide +kernel
theorem dX12_load_164 : decode cX12_load 164 = .ok (.goto 7, 3) := by decide +kernel
theorem dX12_load_167 : decode cX12_load 167 = .ok (.aload_n 0, 1) := by decide +kernel
theorem dX12_load_168 : decode cX12_load 168 = .ok (.getfield 98, 3) := by decide +kernel
theorem dX12_load_171 : decode cX12_load 171 = .ok (.putfield 706, 3) := by decide +kernel
theorem dX12_load_174 : decode cX12_load 174 = .ok (.aload_n 0, 1) := by decide +kernel
theorem dX12_load_175 : decode cX12_load 175 = .ok (.getfield 95, 3) := by decide +kernel
theorem dX12_load_178 : decode cX12_load 178 = .ok (.ifCond .ne 8, 3) := by decide +kernel
theorem dX12_load_181 : decode cX12_load 181 = .ok (.aload_n 0, 1) := by decide +kernel
theorem dX12_load_182 : decode cX12_load 182 = .ok (.iload_n 1, 1) := by decide +kernel
theorem dX12_load_183 : decode cX12_load 183 = .ok (.invokevirtual 721, 3) := by decide +kernel
theorem dX12_load_186 : decode cX12_load 186 = .ok (.aload_n 0, 1) := by decide +kernel
theorem dX12_load_187 : decode cX12_load 187 = .ok (.getfield 95, 3) := by decide +kernel
theorem dX12_load_190 : decode cX12_load 190 = .ok (.ireturn, 1) := by decide +kernel
theorem gs_11_12 : Cond.selects "SoftControllerModel" ⟨"SoftControllerModel", "eight", "()V"⟩ ⟨"SoftControllerModel", "eight", "()V"⟩ ∈ GW := gw_s (List.mem_map.mpr ⟨_, pin_11 _ (List.mem_of_getElem? (i := 12) rfl), rfl⟩) rfl
theorem gs_7_10 : Cond.selects "SoftControllerModel" ⟨"SoftControllerModel", "word", "(I)I"⟩ ⟨"SoftControllerModel", "word", "(I)I"⟩ ∈ GW := gw_s (List.mem_map.mpr ⟨_, pin_7 _ (List.mem_of_getElem? (i := 10) rfl), rfl⟩) rfl
theorem gs_7_11 : Cond.selects "SoftControllerModel" ⟨"SoftControllerModel", "among", "(Ljava/lang/String;II)I"⟩ ⟨"SoftControllerModel", "among", "(Ljava/lang/String;II)I"⟩ ∈ GW := gw_s (List.mem_map.mpr ⟨_, pin_7 _ (List.mem_of_getElem? (i := 11) rfl), rfl⟩) rfl
theorem gs_7_7 : Cond.selects "SoftControllerModel" ⟨"SoftControllerModel", "cutAll", "()V"⟩ ⟨"SoftControllerModel", "cutAll", "()V"⟩ ∈ GW := gw_s (List.mem_map.mpr ⟨_, pin_7 _ (List.mem_of_getElem? (i := 7) rfl), rfl⟩) rfl
theorem gs_7_9 : Cond.selects "SoftControllerModel" ⟨"SoftControllerModel", "token", "(I)I"⟩ ⟨"SoftControllerModel", "token", "(I)I"⟩ ∈ GW := gw_s (List.mem_map.mpr ⟨_, pin_7 _ (List.mem_of_getElem? (i := 9) rfl), rfl⟩) rfl
theorem gw_2262 : (Jvm.Cond.methodLink "SoftControllerModel" (712 : Nat) ({ cls := "SoftControllerModel", name := "cutAll", desc := "()V" } : Jvm.MethodName)) ∈ GW := gw_t (tin_10 _ (List.mem_of_getElem? (i := 102) rfl)) rfl
theorem gw_2264 : (Jvm.Cond.instanceMethod ({ cls := "SoftControllerModel", name := "cutAll", desc := "()V" } : Jvm.MethodName)) ∈ GW := gw_t (tin_10 _ (List.mem_of_getElem? (i := 104) rfl)) rfl
theorem gw_2265 : (Jvm.Cond.code ({ cls := "SoftControllerModel", name := "cutAll", desc := "()V" } : Jvm.MethodName) prog_14_method_13_code (4 : Nat) (Option.none : Option Jvm.ClassFile.FieldType)) ∈ GW := gw_t (tin_10 _ (List.mem_of_getElem? (i := 105) rfl)) rfl
theorem gw_2270 : (Jvm.Cond.methodLink "SoftControllerModel" (89 : Nat) ({ cls := "SoftControllerModel", name := "isBlank", desc := "(I)Z" } : Jvm.MethodName)) ∈ GW := gw_t (tin_10 _ (List.mem_of_getElem? (i := 110) rfl)) rfl
theorem gw_2271 : (Jvm.Cond.static ({ cls := "SoftControllerModel", name := "isBlank", desc := "(I)Z" } : Jvm.MethodName)) ∈ GW := gw_t (tin_10 _ (List.mem_of_getElem? (i := 111) rfl)) rfl
theorem gw_2273 : (Jvm.Cond.methodLink "SoftControllerModel" (92 : Nat) ({ cls := "SoftControllerModel", name := "token", desc := "(I)I" } : Jvm.MethodName)) ∈ GW := gw_t (tin_10 _ (List.mem_of_getElem? (i := 113) rfl)) rfl
theorem gw_2275 : (Jvm.Cond.instanceMethod ({ cls := "SoftControllerModel", name := "token", desc := "(I)I" } : Jvm.MethodName)) ∈ GW := gw_t (tin_10 _ (List.mem_of_getElem? (i := 115) rfl)) rfl
theorem gw_2276 : (Jvm.Cond.code ({ cls := "SoftControllerModel", name := "token", desc := "(I)I" } : Jvm.MethodName) prog_14_method_9_code (6 : Nat) (Option.some Jvm.ClassFile.FieldType.int)) ∈ GW := gw_t (tin_10 _ (List.mem_of_getElem? (i := 116) rfl)) rfl
theorem gw_2280 : (Jvm.Cond.methodLink "SoftControllerModel" (52 : Nat) ({ cls := "SoftControllerModel", name := "word", desc := "(I)I" } : Jvm.MethodName)) ∈ GW := gw_t (tin_10 _ (List.mem_of_getElem? (i := 120) rfl)) rfl
theorem gw_2282 : (Jvm.Cond.instanceMethod ({ cls := "SoftControllerModel", name := "word", desc := "(I)I" } : Jvm.MethodName)) ∈ GW := gw_t (tin_10 _ (List.mem_of_getElem? (i := 122) rfl)) rfl
theorem gw_2283 : (Jvm.Cond.code ({ cls := "SoftControllerModel", name := "word", desc := "(I)I" } : Jvm.MethodName) prog_14_method_10_code (5 : Nat) (Option.some Jvm.ClassFile.FieldType.int)) ∈ GW := gw_t (tin_10 _ (List.mem_of_getElem? (i := 123) rfl)) rfl
theorem gw_2288 : (Jvm.Cond.methodLink "SoftControllerModel" (60 : Nat) ({ cls := "SoftControllerModel", name := "among", desc := "(Ljava/lang/String;II)I" } : Jvm.MethodName)) ∈ GW := gw_t (tin_10 _ (List.mem_of_getElem? (i := 128) rfl)) rfl
theorem gw_2290 : (Jvm.Cond.instanceMethod ({ cls := "SoftControllerModel", name := "among", desc := "(Ljava/lang/String;II)I" } : Jvm.MethodName)) ∈ GW := gw_t (tin_10 _ (List.mem_of_getElem? (i := 130) rfl)) rfl
theorem gw_2291 : (Jvm.Cond.code ({ cls := "SoftControllerModel", name := "among", desc := "(Ljava/lang/String;II)I" } : Jvm.MethodName) prog_14_method_7_code (9 : Nat) (Option.some Jvm.ClassFile.FieldType.int)) ∈ GW := gw_t (tin_10 _ (List.mem_of_getElem? (i := 131) rfl)) rfl
theorem gw_2580 : (Jvm.Cond.methodLink "SoftControllerModel" (718 : Nat) ({ cls := "SoftControllerModel", name := "eight", desc := "()V" } : Jvm.MethodName)) ∈ GW := gw_t (tin_11 _ (List.mem_of_getElem? (i := 180) rfl)) rfl
theorem gw_2582 : (Jvm.Cond.instanceMethod ({ cls := "SoftControllerModel", name := "eight", desc := "()V" } : Jvm.MethodName)) ∈ GW := gw_t (tin_11 _ (List.mem_of_getElem? (i := 182) rfl)) rfl
theorem gw_2583 : (Jvm.Cond.code ({ cls := "SoftControllerModel", name := "eight", desc := "()V" } : Jvm.MethodName) prog_14_method_99_code (4 : Nat) (Option.none : Option Jvm.ClassFile.FieldType)) ∈ GW := gw_t (tin_11 _ (List.mem_of_getElem? (i := 183) rfl)) rfl
theorem gwp_X12_isBlank : ∀ w ∈ wsX12_isBlank, w ∈ GW := gwl [2272] (by decide +kernel) (by decide +kernel)
section ReadRows
variable {p : Program} {l : Launch} {e : Env} {R : Room} {s : State} {m : MethodId} {args : Array Value} {below : List Frame} {meth : Method} {c : Code} {H : Heap} {locs : List Loc} {Q : State → Prop}
variable {ls : Array Slot} {D : va_G} {kA : Nat → ClassId} {V Z : Nat → Nat} {A : Nat → Prop} {N d : Nat} {w : RSt}
def B_among_3_87 (N : Nat) (R_9 : Int32 × Int32 × Int32 × Int32 × Int32 × RSt → Option (Int32 × RSt)) (R_51 : Int32 × Int32 × Int32 × Int32 × Int32 × Int32 × Int32 × RSt → Option (Int32 × RSt)) (l2 : Int32) (l3 : Int32) (l4 : Int32) (l5 : Int32) (l6 : Int32) (l8 : Int32) (s0 : Int32) (u : RSt) : Option (Int32 × RSt) := R_51 (l2, l3, l4, l5, l6, s0, (l8 + 1), u)
set_option maxHeartbeats 4000000 in
theorem b_among_3_87 {r : Int32} (X : RC p s m args c cX12_among 9 (Cond.code yX12_among cX12_among 9 (some .int)) D kA V A) (hE : REi p l e R s m args below meth c cX12_among D kA Z A Q r w) (hF : 4 ≤ R.frames) (hL : 85 ≤ R.locals) {R_9 : Int32 × Int32 × Int32 × Int32 × Int32 × RSt → Option (Int32 × RSt)} {R_51 : Int32 × Int32 × Int32 × Int32 × Int32 × Int32 × Int32 × RSt → Option (Int32 × RSt)} {l2 : Int32} {l3 : Int32} {l4 : Int32} {l5 : Int32} {l6 : Int32} {l8 : Int32} {s0 : Int32} (hR_9 : ∀ (l2 : Int32) (l3 : Int32) (l4 : Int32) (l5 : Int32) (l6 : Int32) (u : RSt), R_9 (l2, l3, l4, l5, l6, u) = some (r, w) → ∀ (H : Heap) (locs : List Loc) (ls : Array Slot), RS D kA Z A s u H locs → lv_has ls 9 [(0, .ref (Z 200)), (1, .ref (V 120)), (2, .int l2), (3, .int l3), (4, .int l4), (5, .int l5), (6, .int l6)] → W p l e R s m args below meth c H locs 0 0 Q (F0 m 9 ls [])) (hR_51 : ∀ (l2 : Int32) (l3 : Int32) (l4 : Int32) (l5 : Int32) (l6 : Int32) (l7 : Int32) (l8 : Int32) (u : RSt), R_51 (l2, l3, l4, l5, l6, l7, l8, u) = some (r, w) → ∀ (H : Heap) (locs : List Loc) (ls : Array Slot), RS D kA Z A s u H locs → lv_has ls 9 [(0, .ref (Z 200)), (1, .ref (V 120)), (2, .int l2), (3, .int l3), (4, .int l4), (5, .int l5), (6, .int l6), (7, .int l7), (8, .int l8)] → W p l e R s m args below meth c H locs 0 0 Q (F0 m 51 ls [])) {u : RSt} (h : B_among_3_87 N R_9 R_51 l2 l3 l4 l5 l6 l8 s0 u = some (r, w)) (hS : RS D kA Z A s u H locs) (hl : lv_has ls 9 [(0, .ref (Z 200)), (1, .ref (V 120)), (2, .int l2), (3, .int l3), (4, .int l4), (5, .int l5), (6, .int l6), (8, .int l8)]) : W p l e R s m args below meth c H locs 0 0 Q (F0 m 87 ls [.int s0]) := by
  obtain ⟨⟨hx, hb, hml, hown, hts⟩, hK, hEV, hA⟩ := id X
  have hG : ∀ w ∈ GW, w.before args s = true := fun w h => hts w (List.mem_cons_of_mem _ h)
  unfold B_among_3_87 at h
  refine lv_istore (lv' := [(7, .int s0), (0, .ref (Z 200)), (1, .ref (V 120)), (2, .int l2), (3, .int l3), (4, .int l4), (5, .int l5), (6, .int l6), (8, .int l8)]) hx hb dX12_among_87 hl (by decide) rfl (fun ls hl => ?_)
  refine lv_iinc (v := l8 + 1) (lv' := [(8, .int (l8 + 1)), (7, .int s0), (0, .ref (Z 200)), (1, .ref (V 120)), (2, .int l2), (3, .int l3), (4, .int l4), (5, .int l5), (6, .int l6)]) hx hb dX12_among_89 hl (k := 8) rfl rfl (by decide) rfl (fun ls hl => ?_)
  refine lv_goto (tgt := 51) hx hb dX12_among_92 (by decide) ?_
  exact hR_51 _ _ _ _ _ _ _ _ h _ _ _ hS (lv_sub hl [2, 3, 4, 5, 6, 7, 8, 1, 0] rfl)
def B_among_3_112 (N : Nat) (R_9 : Int32 × Int32 × Int32 × Int32 × Int32 × RSt → Option (Int32 × RSt)) (l2 : Int32) (l3 : Int32) (l4 : Int32) (l5 : Int32) (l6 : Int32) (u : RSt) : Option (Int32 × RSt) := R_9 (l2, l3, l4, l5, (l6 + 1), u)
set_option maxHeartbeats 4000000 in
theorem b_among_3_112 {r : Int32} (X : RC p s m args c cX12_among 9 (Cond.code yX12_among cX12_among 9 (some .int)) D kA V A) (hE : REi p l e R s m args below meth c cX12_among D kA Z A Q r w) (hF : 4 ≤ R.frames) (hL : 85 ≤ R.locals) {R_9 : Int32 × Int32 × Int32 × Int32 × Int32 × RSt → Option (Int32 × RSt)} {l2 : Int32} {l3 : Int32} {l4 : Int32} {l5 : Int32} {l6 : Int32} (hR_9 : ∀ (l2 : Int32) (l3 : Int32) (l4 : Int32) (l5 : Int32) (l6 : Int32) (u : RSt), R_9 (l2, l3, l4, l5, l6, u) = some (r, w) → ∀ (H : Heap) (locs : List Loc) (ls : Array Slot), RS D kA Z A s u H locs → lv_has ls 9 [(0, .ref (Z 200)), (1, .ref (V 120)), (2, .int l2), (3, .int l3), (4, .int l4), (5, .int l5), (6, .int l6)] → W p l e R s m args below meth c H locs 0 0 Q (F0 m 9 ls [])) {u : RSt} (h : B_among_3_112 N R_9 l2 l3 l4 l5 l6 u = some (r, w)) (hS : RS D kA Z A s u H locs) (hl : lv_has ls 9 [(0, .ref (Z 200)), (1, .ref (V 120)), (2, .int l2), (3, .int l3), (4, .int l4), (5, .int l5), (6, .int l6)]) : W p l e R s m args below meth c H locs 0 0 Q (F0 m 112 ls []) := by
  obtain ⟨⟨hx, hb, hml, hown, hts⟩, hK, hEV, hA⟩ := id X
  have hG : ∀ w ∈ GW, w.before args s = true := fun w h => hts w (List.mem_cons_of_mem _ h)
  unfold B_among_3_112 at h
  refine lv_iinc (v := l6 + 1) (lv' := [(6, .int (l6 + 1)), (0, .ref (Z 200)), (1, .ref (V 120)), (2, .int l2), (3, .int l3), (4, .int l4), (5, .int l5)]) hx hb dX12_among_112 hl (k := 6) rfl rfl (by decide) rfl (fun ls hl => ?_)
  refine lv_goto (tgt := 9) hx hb dX12_among_115 (by decide) ?_
  exact hR_9 _ _ _ _ _ _ h _ _ _ hS (lv_sub hl [1, 2, 3, 4, 5, 6, 0] rfl)
def B_among_3_95 (N : Nat) (R_9 : Int32 × Int32 × Int32 × Int32 × Int32 × RSt → Option (Int32 × RSt)) (l2 : Int32) (l3 : Int32) (l4 : Int32) (l6 : Int32) (l7 : Int32) (u : RSt) : Option (Int32 × RSt) := if l7 = (0 : Int32) then (B_among_3_112 N R_9 l2 l3 (l4 + 1) (l6 + 1) l6 u) else (some (l4, u))
set_option maxHeartbeats 4000000 in
theorem b_among_3_95 {r : Int32} (X : RC p s m args c cX12_among 9 (Cond.code yX12_among cX12_among 9 (some .int)) D kA V A) (hE : REi p l e R s m args below meth c cX12_among D kA Z A Q r w) (hF : 4 ≤ R.frames) (hL : 85 ≤ R.locals) {R_9 : Int32 × Int32 × Int32 × Int32 × Int32 × RSt → Option (Int32 × RSt)} {l2 : Int32} {l3 : Int32} {l4 : Int32} {l6 : Int32} {l7 : Int32} (hR_9 : ∀ (l2 : Int32) (l3 : Int32) (l4 : Int32) (l5 : Int32) (l6 : Int32) (u : RSt), R_9 (l2, l3, l4, l5, l6, u) = some (r, w) → ∀ (H : Heap) (locs : List Loc) (ls : Array Slot), RS D kA Z A s u H locs → lv_has ls 9 [(0, .ref (Z 200)), (1, .ref (V 120)), (2, .int l2), (3, .int l3), (4, .int l4), (5, .int l5), (6, .int l6)] → W p l e R s m args below meth c H locs 0 0 Q (F0 m 9 ls [])) {u : RSt} (h : B_among_3_95 N R_9 l2 l3 l4 l6 l7 u = some (r, w)) (hS : RS D kA Z A s u H locs) (hl : lv_has ls 9 [(0, .ref (Z 200)), (1, .ref (V 120)), (2, .int l2), (3, .int l3), (4, .int l4), (6, .int l6), (7, .int l7)]) : W p l e R s m args below meth c H locs 0 0 Q (F0 m 95 ls []) := by
  obtain ⟨⟨hx, hb, hml, hown, hts⟩, hK, hEV, hA⟩ := id X
  have hG : ∀ w ∈ GW, w.before args s = true := fun w h => hts w (List.mem_cons_of_mem _ h)
  unfold B_among_3_95 at h
  refine lv_iload hx hb dX12_among_95 (lv_at hl 6 rfl) ?_
  refine lv_if_eq (tgt := 103) hx hb dX12_among_97 (by decide) (fun c_1 => ?_) (fun c_1 => ?_)
  · have h := ip (c_1) h
    refine lv_iinc (v := l4 + 1) (lv' := [(4, .int (l4 + 1)), (0, .ref (Z 200)), (1, .ref (V 120)), (2, .int l2), (3, .int l3), (6, .int l6), (7, .int l7)]) hx hb dX12_among_103 hl (k := 4) rfl rfl (by decide) rfl (fun ls hl => ?_)
    refine lv_iload hx hb dX12_among_106 (lv_at hl 5 rfl) ?_
    refine lv_iconst (v := 1) hx hb dX12_among_108 (by decide) ?_
    refine lv_iadd hx hb dX12_among_109 ?_
    refine lv_istore (lv' := [(5, .int (l6 + 1)), (4, .int (l4 + 1)), (0, .ref (Z 200)), (1, .ref (V 120)), (2, .int l2), (3, .int l3), (6, .int l6), (7, .int l7)]) hx hb dX12_among_110 hl (by decide) rfl (fun ls hl => ?_)
    exact b_among_3_112 X hE hF hL hR_9 h hS (lv_sub hl [2, 3, 4, 5, 1, 0, 6] rfl)
  · have h := im (c_1) h
    refine lv_iload hx hb dX12_among_100 (lv_at hl 4 rfl) ?_
    obtain ⟨rfl, rfl⟩ := so h
    exact hE _ _ _ _ hS dX12_among_102
def B_among_3_51 (N : Nat) (R_9 : Int32 × Int32 × Int32 × Int32 × Int32 × RSt → Option (Int32 × RSt)) (R_51 : Int32 × Int32 × Int32 × Int32 × Int32 × Int32 × Int32 × RSt → Option (Int32 × RSt)) (l2 : Int32) (l3 : Int32) (l4 : Int32) (l5 : Int32) (l6 : Int32) (l7 : Int32) (l8 : Int32) (u : RSt) : Option (Int32 × RSt) := if l3 ≤ l8 then (B_among_3_95 N R_9 l2 l3 l4 l6 l7 u) else (if l7 = (0 : Int32) then (B_among_3_95 N R_9 l2 l3 l4 l6 l7 u) else (rd ch_3 151 (l5 + l8) fun v_4 => bn (F_see N (l2 + l8) u) fun r_7 u_6 => if v_4 = r_7 then (B_among_3_87 N R_9 R_51 l2 l3 l4 l5 l6 l8 1 u_6) else (B_among_3_87 N R_9 R_51 l2 l3 l4 l5 l6 l8 0 u_6)))
set_option maxHeartbeats 4000000 in
theorem b_among_3_51 {r : Int32} (X : RC p s m args c cX12_among 9 (Cond.code yX12_among cX12_among 9 (some .int)) D kA V A) (hE : REi p l e R s m args below meth c cX12_among D kA Z A Q r w) (hF : 4 ≤ R.frames) (hL : 85 ≤ R.locals) {R_9 : Int32 × Int32 × Int32 × Int32 × Int32 × RSt → Option (Int32 × RSt)} {R_51 : Int32 × Int32 × Int32 × Int32 × Int32 × Int32 × Int32 × RSt → Option (Int32 × RSt)} {l2 : Int32} {l3 : Int32} {l4 : Int32} {l5 : Int32} {l6 : Int32} {l7 : Int32} {l8 : Int32} (hR_9 : ∀ (l2 : Int32) (l3 : Int32) (l4 : Int32) (l5 : Int32) (l6 : Int32) (u : RSt), R_9 (l2, l3, l4, l5, l6, u) = some (r, w) → ∀ (H : Heap) (locs : List Loc) (ls : Array Slot), RS D kA Z A s u H locs → lv_has ls 9 [(0, .ref (Z 200)), (1, .ref (V 120)), (2, .int l2), (3, .int l3), (4, .int l4), (5, .int l5), (6, .int l6)] → W p l e R s m args below meth c H locs 0 0 Q (F0 m 9 ls [])) (hR_51 : ∀ (l2 : Int32) (l3 : Int32) (l4 : Int32) (l5 : Int32) (l6 : Int32) (l7 : Int32) (l8 : Int32) (u : RSt), R_51 (l2, l3, l4, l5, l6, l7, l8, u) = some (r, w) → ∀ (H : Heap) (locs : List Loc) (ls : Array Slot), RS D kA Z A s u H locs → lv_has ls 9 [(0, .ref (Z 200)), (1, .ref (V 120)), (2, .int l2), (3, .int l3), (4, .int l4), (5, .int l5), (6, .int l6), (7, .int l7), (8, .int l8)] → W p l e R s m args below meth c H locs 0 0 Q (F0 m 51 ls [])) {u : RSt} (h : B_among_3_51 N R_9 R_51 l2 l3 l4 l5 l6 l7 l8 u = some (r, w)) (hS : RS D kA Z A s u H locs) (hl : lv_has ls 9 [(0, .ref (Z 200)), (1, .ref (V 120)), (2, .int l2), (3, .int l3), (4, .int l4), (5, .int l5), (6, .int l6), (7, .int l7), (8, .int l8)]) : W p l e R s m args below meth c H locs 0 0 Q (F0 m 51 ls []) := by
  obtain ⟨⟨hx, hb, hml, hown, hts⟩, hK, hEV, hA⟩ := id X
  have hG : ∀ w ∈ GW, w.before args s = true := fun w h => hts w (List.mem_cons_of_mem _ h)
  unfold B_among_3_51 at h
  refine lv_iload hx hb dX12_among_51 (lv_at hl 8 rfl) ?_
  refine lv_iload_n hx hb dX12_among_53 rfl (lv_at hl 3 rfl) ?_
  refine lv_icmp_ge (tgt := 95) hx hb dX12_among_54 (by decide) (fun c_2 => ?_) (fun c_2 => ?_)
  · have h := ip (c_2) h
    exact b_among_3_95 X hE hF hL hR_9 h hS (lv_sub hl [0, 1, 2, 3, 4, 6, 7] rfl)
  · have h := im (c_2) h
    refine lv_iload hx hb dX12_among_57 (lv_at hl 7 rfl) ?_
    refine lv_if_eq (tgt := 95) hx hb dX12_among_59 (by decide) (fun c_3 => ?_) (fun c_3 => ?_)
    · have h := ip (c_3) h
      exact b_among_3_95 X hE hF hL hR_9 h hS (lv_sub hl [0, 1, 2, 3, 4, 6, 7] rfl)
    · have h := im (c_3) h
      refine lv_aload_n hx hb dX12_among_62 rfl (lv_at hl 1 rfl) ?_
      refine lv_iload hx hb dX12_among_63 (lv_at hl 5 rfl) ?_
      refine lv_iload hx hb dX12_among_65 (lv_at hl 8 rfl) ?_
      refine lv_iadd hx hb dX12_among_67 ?_
      obtain ⟨v_4, e_v_4, i_5, h⟩ := rd_of h
      refine kc_charAt_3 X hS i_5 e_v_4 (Nat.le_trans (Nat.le_of_ble_eq_true rfl) hF) (Nat.le_trans (Nat.le_of_ble_eq_true rfl) hL) hl.1 (Nat.le_of_ble_eq_true rfl) dX12_among_68 (fun H locs hS => ?_)
      refine lv_aload_n hx hb dX12_among_71 rfl (lv_at hl 0 rfl) ?_
      refine lv_iload_n hx hb dX12_among_72 rfl (lv_at hl 2 rfl) ?_
      refine lv_iload hx hb dX12_among_73 (lv_at hl 8 rfl) ?_
      refine lv_iadd hx hb dX12_among_75 ?_
      obtain ⟨r_7, u_6, h_u_6, h⟩ := bn_of h
      refine kc_see X hS h_u_6 (Nat.le_trans (Nat.le_of_ble_eq_true rfl) hF) (Nat.le_trans (Nat.le_of_ble_eq_true rfl) hL) hl.1 (Nat.le_of_ble_eq_true rfl) dX12_among_76 (fun H locs hS => ?_)
      refine lv_icmp_ne (tgt := 86) hx hb dX12_among_79 (by decide) (fun c_8 => ?_) (fun c_8 => ?_)
      · have h := im (c_8) h
        refine lv_iconst (v := 0) hx hb dX12_among_86 (by decide) ?_
        exact b_among_3_87 X hE hF hL hR_9 hR_51 h hS (lv_sub hl [0, 1, 2, 3, 4, 5, 6, 8] rfl)
      · have h := ip (c_8) h
        refine lv_iconst (v := 1) hx hb dX12_among_82 (by decide) ?_
        refine lv_goto (tgt := 87) hx hb dX12_among_83 (by decide) ?_
        exact b_among_3_87 X hE hF hL hR_9 hR_51 h hS (lv_sub hl [0, 1, 2, 3, 4, 5, 6, 8] rfl)
def LP_among_3_51 (N : Nat) (R_9 : Int32 × Int32 × Int32 × Int32 × Int32 × RSt → Option (Int32 × RSt)) : Nat → Int32 × Int32 × Int32 × Int32 × Int32 × Int32 × Int32 × RSt → Option (Int32 × RSt) := lp (fun R a => B_among_3_51 N R_9 R a.1 a.2.1 a.2.2.1 a.2.2.2.1 a.2.2.2.2.1 a.2.2.2.2.2.1 a.2.2.2.2.2.2.1 a.2.2.2.2.2.2.2)
theorem bl_among_3_51 {r : Int32} (X : RC p s m args c cX12_among 9 (Cond.code yX12_among cX12_among 9 (some .int)) D kA V A) (hE : REi p l e R s m args below meth c cX12_among D kA Z A Q r w) (hF : 4 ≤ R.frames) (hL : 85 ≤ R.locals) {R_9 : Int32 × Int32 × Int32 × Int32 × Int32 × RSt → Option (Int32 × RSt)} (hR_9 : ∀ (l2 : Int32) (l3 : Int32) (l4 : Int32) (l5 : Int32) (l6 : Int32) (u : RSt), R_9 (l2, l3, l4, l5, l6, u) = some (r, w) → ∀ (H : Heap) (locs : List Loc) (ls : Array Slot), RS D kA Z A s u H locs → lv_has ls 9 [(0, .ref (Z 200)), (1, .ref (V 120)), (2, .int l2), (3, .int l3), (4, .int l4), (5, .int l5), (6, .int l6)] → W p l e R s m args below meth c H locs 0 0 Q (F0 m 9 ls [])) : ∀ (n : Nat) (l2 : Int32) (l3 : Int32) (l4 : Int32) (l5 : Int32) (l6 : Int32) (l7 : Int32) (l8 : Int32) (u : RSt), LP_among_3_51 N R_9 n (l2, l3, l4, l5, l6, l7, l8, u) = some (r, w) → ∀ (H : Heap) (locs : List Loc) (ls : Array Slot), RS D kA Z A s u H locs → lv_has ls 9 [(0, .ref (Z 200)), (1, .ref (V 120)), (2, .int l2), (3, .int l3), (4, .int l4), (5, .int l5), (6, .int l6), (7, .int l7), (8, .int l8)] → W p l e R s m args below meth c H locs 0 0 Q (F0 m 51 ls []) := by
  intro n
  induction n with
  | zero => intro l2 l3 l4 l5 l6 l7 l8 u h; exact nomatch h
  | succ n ih => intro l2 l3 l4 l5 l6 l7 l8 u h H locs ls hS hl; exact b_among_3_51 (N := N) (R_51 := LP_among_3_51 N R_9 n) X hE hF hL hR_9 ih h hS hl
def B_among_3_46 (N : Nat) (R_9 : Int32 × Int32 × Int32 × Int32 × Int32 × RSt → Option (Int32 × RSt)) (l2 : Int32) (l3 : Int32) (l4 : Int32) (l5 : Int32) (l6 : Int32) (s0 : Int32) (u : RSt) : Option (Int32 × RSt) := LP_among_3_51 N R_9 N (l2, l3, l4, l5, l6, s0, 0, u)
set_option maxHeartbeats 4000000 in
theorem b_among_3_46 {r : Int32} (X : RC p s m args c cX12_among 9 (Cond.code yX12_among cX12_among 9 (some .int)) D kA V A) (hE : REi p l e R s m args below meth c cX12_among D kA Z A Q r w) (hF : 4 ≤ R.frames) (hL : 85 ≤ R.locals) {R_9 : Int32 × Int32 × Int32 × Int32 × Int32 × RSt → Option (Int32 × RSt)} {l2 : Int32} {l3 : Int32} {l4 : Int32} {l5 : Int32} {l6 : Int32} {s0 : Int32} (hR_9 : ∀ (l2 : Int32) (l3 : Int32) (l4 : Int32) (l5 : Int32) (l6 : Int32) (u : RSt), R_9 (l2, l3, l4, l5, l6, u) = some (r, w) → ∀ (H : Heap) (locs : List Loc) (ls : Array Slot), RS D kA Z A s u H locs → lv_has ls 9 [(0, .ref (Z 200)), (1, .ref (V 120)), (2, .int l2), (3, .int l3), (4, .int l4), (5, .int l5), (6, .int l6)] → W p l e R s m args below meth c H locs 0 0 Q (F0 m 9 ls [])) {u : RSt} (h : B_among_3_46 N R_9 l2 l3 l4 l5 l6 s0 u = some (r, w)) (hS : RS D kA Z A s u H locs) (hl : lv_has ls 9 [(0, .ref (Z 200)), (1, .ref (V 120)), (2, .int l2), (3, .int l3), (4, .int l4), (5, .int l5), (6, .int l6)]) : W p l e R s m args below meth c H locs 0 0 Q (F0 m 46 ls [.int s0]) := by
  obtain ⟨⟨hx, hb, hml, hown, hts⟩, hK, hEV, hA⟩ := id X
  have hG : ∀ w ∈ GW, w.before args s = true := fun w h => hts w (List.mem_cons_of_mem _ h)
  unfold B_among_3_46 at h
  refine lv_istore (lv' := [(7, .int s0), (0, .ref (Z 200)), (1, .ref (V 120)), (2, .int l2), (3, .int l3), (4, .int l4), (5, .int l5), (6, .int l6)]) hx hb dX12_among_46 hl (by decide) rfl (fun ls hl => ?_)
  refine lv_iconst (v := 0) hx hb dX12_among_48 (by decide) ?_
  refine lv_istore (lv' := [(8, .int 0), (7, .int s0), (0, .ref (Z 200)), (1, .ref (V 120)), (2, .int l2), (3, .int l3), (4, .int l4), (5, .int l5), (6, .int l6)]) hx hb dX12_among_49 hl (by decide) rfl (fun ls hl => ?_)
  exact bl_among_3_51 X hE hF hL hR_9 _ _ _ _ _ _ _ _ _ h _ _ _ hS (lv_sub hl [2, 3, 4, 5, 6, 7, 8, 1, 0] rfl)
def B_among_3_9 (N : Nat) (R_9 : Int32 × Int32 × Int32 × Int32 × Int32 × RSt → Option (Int32 × RSt)) (l2 : Int32) (l3 : Int32) (l4 : Int32) (l5 : Int32) (l6 : Int32) (u : RSt) : Option (Int32 × RSt) := if (151 : Int32) ≤ l6 then (some ((-1), u)) else (rd ch_3 151 l6 fun v_10 => if v_10 = (32 : Int32) then (if (l6 - l5) = l3 then (B_among_3_46 N R_9 l2 l3 l4 l5 l6 1 u) else (B_among_3_46 N R_9 l2 l3 l4 l5 l6 0 u)) else (B_among_3_112 N R_9 l2 l3 l4 l5 l6 u))
set_option maxHeartbeats 4000000 in
theorem b_among_3_9 {r : Int32} (X : RC p s m args c cX12_among 9 (Cond.code yX12_among cX12_among 9 (some .int)) D kA V A) (hE : REi p l e R s m args below meth c cX12_among D kA Z A Q r w) (hF : 4 ≤ R.frames) (hL : 85 ≤ R.locals) {R_9 : Int32 × Int32 × Int32 × Int32 × Int32 × RSt → Option (Int32 × RSt)} {l2 : Int32} {l3 : Int32} {l4 : Int32} {l5 : Int32} {l6 : Int32} (hR_9 : ∀ (l2 : Int32) (l3 : Int32) (l4 : Int32) (l5 : Int32) (l6 : Int32) (u : RSt), R_9 (l2, l3, l4, l5, l6, u) = some (r, w) → ∀ (H : Heap) (locs : List Loc) (ls : Array Slot), RS D kA Z A s u H locs → lv_has ls 9 [(0, .ref (Z 200)), (1, .ref (V 120)), (2, .int l2), (3, .int l3), (4, .int l4), (5, .int l5), (6, .int l6)] → W p l e R s m args below meth c H locs 0 0 Q (F0 m 9 ls [])) {u : RSt} (h : B_among_3_9 N R_9 l2 l3 l4 l5 l6 u = some (r, w)) (hS : RS D kA Z A s u H locs) (hl : lv_has ls 9 [(0, .ref (Z 200)), (1, .ref (V 120)), (2, .int l2), (3, .int l3), (4, .int l4), (5, .int l5), (6, .int l6)]) : W p l e R s m args below meth c H locs 0 0 Q (F0 m 9 ls []) := by
  obtain ⟨⟨hx, hb, hml, hown, hts⟩, hK, hEV, hA⟩ := id X
  have hG : ∀ w ∈ GW, w.before args s = true := fun w h => hts w (List.mem_cons_of_mem _ h)
  unfold B_among_3_9 at h
  refine lv_iload hx hb dX12_among_9 (lv_at hl 6 rfl) ?_
  refine lv_aload_n hx hb dX12_among_11 rfl (lv_at hl 1 rfl) ?_
  refine kc_length_3 X hS (Nat.le_trans (Nat.le_of_ble_eq_true rfl) hF) (Nat.le_trans (Nat.le_of_ble_eq_true rfl) hL) hl.1 (Nat.le_of_ble_eq_true rfl) dX12_among_12 (fun H locs hS => ?_)
  refine lv_icmp_ge (tgt := 118) hx hb dX12_among_15 (by decide) (fun c_9 => ?_) (fun c_9 => ?_)
  · have h := ip (c_9) h
    refine lv_iconst (v := (-1)) hx hb dX12_among_118 (by decide) ?_
    obtain ⟨rfl, rfl⟩ := so h
    exact hE _ _ _ _ hS dX12_among_119
  · have h := im (c_9) h
    refine lv_aload_n hx hb dX12_among_18 rfl (lv_at hl 1 rfl) ?_
    refine lv_iload hx hb dX12_among_19 (lv_at hl 6 rfl) ?_
    obtain ⟨v_10, e_v_10, i_11, h⟩ := rd_of h
    refine kc_charAt_3 X hS i_11 e_v_10 (Nat.le_trans (Nat.le_of_ble_eq_true rfl) hF) (Nat.le_trans (Nat.le_of_ble_eq_true rfl) hL) hl.1 (Nat.le_of_ble_eq_true rfl) dX12_among_21 (fun H locs hS => ?_)
    refine lv_bipush (v := 32) hx hb dX12_among_24 (by decide) ?_
    refine lv_icmp_eq (tgt := 32) hx hb dX12_among_26 (by decide) (fun c_12 => ?_) (fun c_12 => ?_)
    · have h := ip (c_12) h
      refine lv_iload hx hb dX12_among_32 (lv_at hl 6 rfl) ?_
      refine lv_iload hx hb dX12_among_34 (lv_at hl 5 rfl) ?_
      refine lv_isub hx hb dX12_among_36 ?_
      refine lv_iload_n hx hb dX12_among_37 rfl (lv_at hl 3 rfl) ?_
      refine lv_icmp_ne (tgt := 45) hx hb dX12_among_38 (by decide) (fun c_13 => ?_) (fun c_13 => ?_)
      · have h := im (c_13) h
        refine lv_iconst (v := 0) hx hb dX12_among_45 (by decide) ?_
        exact b_among_3_46 X hE hF hL hR_9 h hS (lv_sub hl [0, 1, 2, 3, 4, 5, 6] rfl)
      · have h := ip (c_13) h
        refine lv_iconst (v := 1) hx hb dX12_among_41 (by decide) ?_
        refine lv_goto (tgt := 46) hx hb dX12_among_42 (by decide) ?_
        exact b_among_3_46 X hE hF hL hR_9 h hS (lv_sub hl [0, 1, 2, 3, 4, 5, 6] rfl)
    · have h := im (c_12) h
      refine lv_goto (tgt := 112) hx hb dX12_among_29 (by decide) ?_
      exact b_among_3_112 X hE hF hL hR_9 h hS (lv_sub hl [0, 1, 2, 3, 4, 5, 6] rfl)
def LP_among_3_9 (N : Nat) : Nat → Int32 × Int32 × Int32 × Int32 × Int32 × RSt → Option (Int32 × RSt) := lp (fun R a => B_among_3_9 N R a.1 a.2.1 a.2.2.1 a.2.2.2.1 a.2.2.2.2.1 a.2.2.2.2.2)
theorem bl_among_3_9 {r : Int32} (X : RC p s m args c cX12_among 9 (Cond.code yX12_among cX12_among 9 (some .int)) D kA V A) (hE : REi p l e R s m args below meth c cX12_among D kA Z A Q r w) (hF : 4 ≤ R.frames) (hL : 85 ≤ R.locals)  : ∀ (n : Nat) (l2 : Int32) (l3 : Int32) (l4 : Int32) (l5 : Int32) (l6 : Int32) (u : RSt), LP_among_3_9 N n (l2, l3, l4, l5, l6, u) = some (r, w) → ∀ (H : Heap) (locs : List Loc) (ls : Array Slot), RS D kA Z A s u H locs → lv_has ls 9 [(0, .ref (Z 200)), (1, .ref (V 120)), (2, .int l2), (3, .int l3), (4, .int l4), (5, .int l5), (6, .int l6)] → W p l e R s m args below meth c H locs 0 0 Q (F0 m 9 ls []) := by
  intro n
  induction n with
  | zero => intro l2 l3 l4 l5 l6 u h; exact nomatch h
  | succ n ih => intro l2 l3 l4 l5 l6 u h H locs ls hS hl; exact b_among_3_9 (N := N) (R_9 := LP_among_3_9 N n) X hE hF hL  ih h hS hl
def B_among_3_0 (N : Nat) (l2 : Int32) (l3 : Int32) (u : RSt) : Option (Int32 × RSt) := LP_among_3_9 N N (l2, l3, 0, 0, 0, u)
set_option maxHeartbeats 4000000 in
theorem b_among_3_0 {r : Int32} (X : RC p s m args c cX12_among 9 (Cond.code yX12_among cX12_among 9 (some .int)) D kA V A) (hE : REi p l e R s m args below meth c cX12_among D kA Z A Q r w) (hF : 4 ≤ R.frames) (hL : 85 ≤ R.locals) {l2 : Int32} {l3 : Int32}  {u : RSt} (h : B_among_3_0 N l2 l3 u = some (r, w)) (hS : RS D kA Z A s u H locs) (hl : lv_has ls 9 [(0, .ref (Z 200)), (1, .ref (V 120)), (2, .int l2), (3, .int l3)]) : W p l e R s m args below meth c H locs 0 0 Q (F0 m 0 ls []) := by
  obtain ⟨⟨hx, hb, hml, hown, hts⟩, hK, hEV, hA⟩ := id X
  have hG : ∀ w ∈ GW, w.before args s = true := fun w h => hts w (List.mem_cons_of_mem _ h)
  unfold B_among_3_0 at h
  refine lv_iconst (v := 0) hx hb dX12_among_0 (by decide) ?_
  refine lv_istore (lv' := [(4, .int 0), (0, .ref (Z 200)), (1, .ref (V 120)), (2, .int l2), (3, .int l3)]) hx hb dX12_among_1 hl (by decide) rfl (fun ls hl => ?_)
  refine lv_iconst (v := 0) hx hb dX12_among_3 (by decide) ?_
  refine lv_istore (lv' := [(5, .int 0), (4, .int 0), (0, .ref (Z 200)), (1, .ref (V 120)), (2, .int l2), (3, .int l3)]) hx hb dX12_among_4 hl (by decide) rfl (fun ls hl => ?_)
  refine lv_iconst (v := 0) hx hb dX12_among_6 (by decide) ?_
  refine lv_istore (lv' := [(6, .int 0), (5, .int 0), (4, .int 0), (0, .ref (Z 200)), (1, .ref (V 120)), (2, .int l2), (3, .int l3)]) hx hb dX12_among_7 hl (by decide) rfl (fun ls hl => ?_)
  exact bl_among_3_9 X hE hF hL  _ _ _ _ _ _ _ h _ _ _ hS (lv_sub hl [3, 4, 5, 6, 2, 1, 0] rfl)
def F_among_3 (N : Nat) (l2 : Int32) (l3 : Int32) (u : RSt) : Option (Int32 × RSt) := B_among_3_0 N l2 l3 u
set_option maxHeartbeats 4000000 in
theorem k_among_3 (l : Launch) (D : va_G) (kA : Nat → ClassId) (V Z : Nat → Nat) (N : Nat) (l2 : Int32) (l3 : Int32) (u : RSt) (sz : Nat) {r : Int32} {w : RSt} (h : F_among_3 N l2 l3 u = some (r, w)) : Met l yX12_among (Cond.code yX12_among cX12_among 9 (some .int) :: GW) { frames := 4, cells := 0, slots := 0, locals := 85 } (rPc D kA V Z [.ref (V 120), .int l2, .int l3] u sz) (rQi D kA Z u sz r w) 0 0 (va_A (RW kA Z u) sz) := by
  refine Met.ofW (cc := cX12_among) (maxL := 9) (ret := (some .int)) (by decide) rfl ?_
  intro p e s m args below meth c s₁ Bd hml hv
  obtain ⟨rfl, hsz, hP, hK, hD0, hE⟩ := hv
  have hts := atoms_spec (ws := Cond.code yX12_among cX12_among 9 (some .int) :: GW) Bd.pre
  have hl := lv_entry (.ref (Z 200) :: [.ref (V 120), .int l2, .int l3]) (n := 9) (Nat.le_of_ble_eq_true rfl)
  rw [lg_entry_eq]
  generalize (lg_sl (.ref (Z 200) :: [.ref (V 120), .int l2, .int l3]) ++ List.replicate (9 - (lg_sl (.ref (Z 200) :: [.ref (V 120), .int l2, .int l3])).length) Slot.unset).toArray = ls at hl ⊢
  have hl : lv_has ls 9 [(0, .ref (Z 200)), (1, .ref (V 120)), (2, .int l2), (3, .int l3)] := hl
  subst hsz
  have X : RC p s m (.ref (Z 200) :: [.ref (V 120), .int l2, .int l3]).toArray c cX12_among 9 (Cond.code yX12_among cX12_among 9 (some .int)) D kA V (va_A (RW kA Z u) s.heap.size) := ⟨⟨Bd.exec, Bd.bytes, hml, findClass_of_methodNamed Bd.named, hts⟩, hK, hE, fun q h => Or.inr h⟩
  exact b_among_3_0 X (rend_i (cy := cX12_among) X Bd.returns Bd.notSynchronized) (Nat.le_refl _) (Nat.le_refl _) h ⟨hP, hD0.self, va_S.rf⟩ (lv_sub hl [0, 1, 2, 3] rfl)
theorem kc_among_3 {r : Int32} {cc : ByteArray} {pc nL : Nat} {c0 : Cond} {rest : List Value} {l2 : Int32} {l3 : Int32} {u : RSt} (X : RC p s m args c cc nL c0 D kA V A) (hS : RS D kA Z A s u H locs) (h : F_among_3 N l2 l3 u = some (r, w)) (hF : 4 + 1 ≤ R.frames) (hL : 8 + (9 + 11) + 85 ≤ R.locals) (hl : ls.size = nL) (hc : (rest.map fun v => v.category).sum ≤ 8) (hdg : decode cc pc = .ok (.invokevirtual 60, 3)) (kk : ∀ H locs, RS D kA Z A s w H locs → W p l e R s m args below meth c H locs 0 0 Q (F0 m (pc + 3) ls (.int r :: rest))) : W p l e R s m args below meth c H locs 0 0 Q (F0 m pc ls (.int l3 :: .int l2 :: .ref (V 120) :: .ref (Z 200) :: rest)) :=
  rcall_i (n := 3) X hS (k_among_3 l D kA V Z N l2 l3 u H.size h) (gw_V gw_2288 gw_2290 gs_7_11 gw_16 gw_2291) (by decide +kernel) hF hL rfl hl hc rfl hdg kk
def B_among_4_87 (N : Nat) (R_9 : Int32 × Int32 × Int32 × Int32 × Int32 × RSt → Option (Int32 × RSt)) (R_51 : Int32 × Int32 × Int32 × Int32 × Int32 × Int32 × Int32 × RSt → Option (Int32 × RSt)) (l2 : Int32) (l3 : Int32) (l4 : Int32) (l5 : Int32) (l6 : Int32) (l8 : Int32) (s0 : Int32) (u : RSt) : Option (Int32 × RSt) := R_51 (l2, l3, l4, l5, l6, s0, (l8 + 1), u)
set_option maxHeartbeats 4000000 in
theorem b_among_4_87 {r : Int32} (X : RC p s m args c cX12_among 9 (Cond.code yX12_among cX12_among 9 (some .int)) D kA V A) (hE : REi p l e R s m args below meth c cX12_among D kA Z A Q r w) (hF : 4 ≤ R.frames) (hL : 85 ≤ R.locals) {R_9 : Int32 × Int32 × Int32 × Int32 × Int32 × RSt → Option (Int32 × RSt)} {R_51 : Int32 × Int32 × Int32 × Int32 × Int32 × Int32 × Int32 × RSt → Option (Int32 × RSt)} {l2 : Int32} {l3 : Int32} {l4 : Int32} {l5 : Int32} {l6 : Int32} {l8 : Int32} {s0 : Int32} (hR_9 : ∀ (l2 : Int32) (l3 : Int32) (l4 : Int32) (l5 : Int32) (l6 : Int32) (u : RSt), R_9 (l2, l3, l4, l5, l6, u) = some (r, w) → ∀ (H : Heap) (locs : List Loc) (ls : Array Slot), RS D kA Z A s u H locs → lv_has ls 9 [(0, .ref (Z 200)), (1, .ref (V 122)), (2, .int l2), (3, .int l3), (4, .int l4), (5, .int l5), (6, .int l6)] → W p l e R s m args below meth c H locs 0 0 Q (F0 m 9 ls [])) (hR_51 : ∀ (l2 : Int32) (l3 : Int32) (l4 : Int32) (l5 : Int32) (l6 : Int32) (l7 : Int32) (l8 : Int32) (u : RSt), R_51 (l2, l3, l4, l5, l6, l7, l8, u) = some (r, w) → ∀ (H : Heap) (locs : List Loc) (ls : Array Slot), RS D kA Z A s u H locs → lv_has ls 9 [(0, .ref (Z 200)), (1, .ref (V 122)), (2, .int l2), (3, .int l3), (4, .int l4), (5, .int l5), (6, .int l6), (7, .int l7), (8, .int l8)] → W p l e R s m args below meth c H locs 0 0 Q (F0 m 51 ls [])) {u : RSt} (h : B_among_4_87 N R_9 R_51 l2 l3 l4 l5 l6 l8 s0 u = some (r, w)) (hS : RS D kA Z A s u H locs) (hl : lv_has ls 9 [(0, .ref (Z 200)), (1, .ref (V 122)), (2, .int l2), (3, .int l3), (4, .int l4), (5, .int l5), (6, .int l6), (8, .int l8)]) : W p l e R s m args below meth c H locs 0 0 Q (F0 m 87 ls [.int s0]) := by
  obtain ⟨⟨hx, hb, hml, hown, hts⟩, hK, hEV, hA⟩ := id X
  have hG : ∀ w ∈ GW, w.before args s = true := fun w h => hts w (List.mem_cons_of_mem _ h)
  unfold B_among_4_87 at h
  refine lv_istore (lv' := [(7, .int s0), (0, .ref (Z 200)), (1, .ref (V 122)), (2, .int l2), (3, .int l3), (4, .int l4), (5, .int l5), (6, .int l6), (8, .int l8)]) hx hb dX12_among_87 hl (by decide) rfl (fun ls hl => ?_)
  refine lv_iinc (v := l8 + 1) (lv' := [(8, .int (l8 + 1)), (7, .int s0), (0, .ref (Z 200)), (1, .ref (V 122)), (2, .int l2), (3, .int l3), (4, .int l4), (5, .int l5), (6, .int l6)]) hx hb dX12_among_89 hl (k := 8) rfl rfl (by decide) rfl (fun ls hl => ?_)
  refine lv_goto (tgt := 51) hx hb dX12_among_92 (by decide) ?_
  exact hR_51 _ _ _ _ _ _ _ _ h _ _ _ hS (lv_sub hl [2, 3, 4, 5, 6, 7, 8, 1, 0] rfl)
def B_among_4_112 (N : Nat) (R_9 : Int32 × Int32 × Int32 × Int32 × Int32 × RSt → Option (Int32 × RSt)) (l2 : Int32) (l3 : Int32) (l4 : Int32) (l5 : Int32) (l6 : Int32) (u : RSt) : Option (Int32 × RSt) := R_9 (l2, l3, l4, l5, (l6 + 1), u)
set_option maxHeartbeats 4000000 in
theorem b_among_4_112 {r : Int32} (X : RC p s m args c cX12_among 9 (Cond.code yX12_among cX12_among 9 (some .int)) D kA V A) (hE : REi p l e R s m args below meth c cX12_among D kA Z A Q r w) (hF : 4 ≤ R.frames) (hL : 85 ≤ R.locals) {R_9 : Int32 × Int32 × Int32 × Int32 × Int32 × RSt → Option (Int32 × RSt)} {l2 : Int32} {l3 : Int32} {l4 : Int32} {l5 : Int32} {l6 : Int32} (hR_9 : ∀ (l2 : Int32) (l3 : Int32) (l4 : Int32) (l5 : Int32) (l6 : Int32) (u : RSt), R_9 (l2, l3, l4, l5, l6, u) = some (r, w) → ∀ (H : Heap) (locs : List Loc) (ls : Array Slot), RS D kA Z A s u H locs → lv_has ls 9 [(0, .ref (Z 200)), (1, .ref (V 122)), (2, .int l2), (3, .int l3), (4, .int l4), (5, .int l5), (6, .int l6)] → W p l e R s m args below meth c H locs 0 0 Q (F0 m 9 ls [])) {u : RSt} (h : B_among_4_112 N R_9 l2 l3 l4 l5 l6 u = some (r, w)) (hS : RS D kA Z A s u H locs) (hl : lv_has ls 9 [(0, .ref (Z 200)), (1, .ref (V 122)), (2, .int l2), (3, .int l3), (4, .int l4), (5, .int l5), (6, .int l6)]) : W p l e R s m args below meth c H locs 0 0 Q (F0 m 112 ls []) := by
  obtain ⟨⟨hx, hb, hml, hown, hts⟩, hK, hEV, hA⟩ := id X
  have hG : ∀ w ∈ GW, w.before args s = true := fun w h => hts w (List.mem_cons_of_mem _ h)
  unfold B_among_4_112 at h
  refine lv_iinc (v := l6 + 1) (lv' := [(6, .int (l6 + 1)), (0, .ref (Z 200)), (1, .ref (V 122)), (2, .int l2), (3, .int l3), (4, .int l4), (5, .int l5)]) hx hb dX12_among_112 hl (k := 6) rfl rfl (by decide) rfl (fun ls hl => ?_)
  refine lv_goto (tgt := 9) hx hb dX12_among_115 (by decide) ?_
  exact hR_9 _ _ _ _ _ _ h _ _ _ hS (lv_sub hl [1, 2, 3, 4, 5, 6, 0] rfl)
def B_among_4_95 (N : Nat) (R_9 : Int32 × Int32 × Int32 × Int32 × Int32 × RSt → Option (Int32 × RSt)) (l2 : Int32) (l3 : Int32) (l4 : Int32) (l6 : Int32) (l7 : Int32) (u : RSt) : Option (Int32 × RSt) := if l7 = (0 : Int32) then (B_among_4_112 N R_9 l2 l3 (l4 + 1) (l6 + 1) l6 u) else (some (l4, u))
set_option maxHeartbeats 4000000 in
theorem b_among_4_95 {r : Int32} (X : RC p s m args c cX12_among 9 (Cond.code yX12_among cX12_among 9 (some .int)) D kA V A) (hE : REi p l e R s m args below meth c cX12_among D kA Z A Q r w) (hF : 4 ≤ R.frames) (hL : 85 ≤ R.locals) {R_9 : Int32 × Int32 × Int32 × Int32 × Int32 × RSt → Option (Int32 × RSt)} {l2 : Int32} {l3 : Int32} {l4 : Int32} {l6 : Int32} {l7 : Int32} (hR_9 : ∀ (l2 : Int32) (l3 : Int32) (l4 : Int32) (l5 : Int32) (l6 : Int32) (u : RSt), R_9 (l2, l3, l4, l5, l6, u) = some (r, w) → ∀ (H : Heap) (locs : List Loc) (ls : Array Slot), RS D kA Z A s u H locs → lv_has ls 9 [(0, .ref (Z 200)), (1, .ref (V 122)), (2, .int l2), (3, .int l3), (4, .int l4), (5, .int l5), (6, .int l6)] → W p l e R s m args below meth c H locs 0 0 Q (F0 m 9 ls [])) {u : RSt} (h : B_among_4_95 N R_9 l2 l3 l4 l6 l7 u = some (r, w)) (hS : RS D kA Z A s u H locs) (hl : lv_has ls 9 [(0, .ref (Z 200)), (1, .ref (V 122)), (2, .int l2), (3, .int l3), (4, .int l4), (6, .int l6), (7, .int l7)]) : W p l e R s m args below meth c H locs 0 0 Q (F0 m 95 ls []) := by
  obtain ⟨⟨hx, hb, hml, hown, hts⟩, hK, hEV, hA⟩ := id X
  have hG : ∀ w ∈ GW, w.before args s = true := fun w h => hts w (List.mem_cons_of_mem _ h)
  unfold B_among_4_95 at h
  refine lv_iload hx hb dX12_among_95 (lv_at hl 6 rfl) ?_
  refine lv_if_eq (tgt := 103) hx hb dX12_among_97 (by decide) (fun c_1 => ?_) (fun c_1 => ?_)
  · have h := ip (c_1) h
    refine lv_iinc (v := l4 + 1) (lv' := [(4, .int (l4 + 1)), (0, .ref (Z 200)), (1, .ref (V 122)), (2, .int l2), (3, .int l3), (6, .int l6), (7, .int l7)]) hx hb dX12_among_103 hl (k := 4) rfl rfl (by decide) rfl (fun ls hl => ?_)
    refine lv_iload hx hb dX12_among_106 (lv_at hl 5 rfl) ?_
    refine lv_iconst (v := 1) hx hb dX12_among_108 (by decide) ?_
    refine lv_iadd hx hb dX12_among_109 ?_
    refine lv_istore (lv' := [(5, .int (l6 + 1)), (4, .int (l4 + 1)), (0, .ref (Z 200)), (1, .ref (V 122)), (2, .int l2), (3, .int l3), (6, .int l6), (7, .int l7)]) hx hb dX12_among_110 hl (by decide) rfl (fun ls hl => ?_)
    exact b_among_4_112 X hE hF hL hR_9 h hS (lv_sub hl [2, 3, 4, 5, 1, 0, 6] rfl)
  · have h := im (c_1) h
    refine lv_iload hx hb dX12_among_100 (lv_at hl 4 rfl) ?_
    obtain ⟨rfl, rfl⟩ := so h
    exact hE _ _ _ _ hS dX12_among_102
def B_among_4_51 (N : Nat) (R_9 : Int32 × Int32 × Int32 × Int32 × Int32 × RSt → Option (Int32 × RSt)) (R_51 : Int32 × Int32 × Int32 × Int32 × Int32 × Int32 × Int32 × RSt → Option (Int32 × RSt)) (l2 : Int32) (l3 : Int32) (l4 : Int32) (l5 : Int32) (l6 : Int32) (l7 : Int32) (l8 : Int32) (u : RSt) : Option (Int32 × RSt) := if l3 ≤ l8 then (B_among_4_95 N R_9 l2 l3 l4 l6 l7 u) else (if l7 = (0 : Int32) then (B_among_4_95 N R_9 l2 l3 l4 l6 l7 u) else (rd ch_4 122 (l5 + l8) fun v_4 => bn (F_see N (l2 + l8) u) fun r_7 u_6 => if v_4 = r_7 then (B_among_4_87 N R_9 R_51 l2 l3 l4 l5 l6 l8 1 u_6) else (B_among_4_87 N R_9 R_51 l2 l3 l4 l5 l6 l8 0 u_6)))
set_option maxHeartbeats 4000000 in
theorem b_among_4_51 {r : Int32} (X : RC p s m args c cX12_among 9 (Cond.code yX12_among cX12_among 9 (some .int)) D kA V A) (hE : REi p l e R s m args below meth c cX12_among D kA Z A Q r w) (hF : 4 ≤ R.frames) (hL : 85 ≤ R.locals) {R_9 : Int32 × Int32 × Int32 × Int32 × Int32 × RSt → Option (Int32 × RSt)} {R_51 : Int32 × Int32 × Int32 × Int32 × Int32 × Int32 × Int32 × RSt → Option (Int32 × RSt)} {l2 : Int32} {l3 : Int32} {l4 : Int32} {l5 : Int32} {l6 : Int32} {l7 : Int32} {l8 : Int32} (hR_9 : ∀ (l2 : Int32) (l3 : Int32) (l4 : Int32) (l5 : Int32) (l6 : Int32) (u : RSt), R_9 (l2, l3, l4, l5, l6, u) = some (r, w) → ∀ (H : Heap) (locs : List Loc) (ls : Array Slot), RS D kA Z A s u H locs → lv_has ls 9 [(0, .ref (Z 200)), (1, .ref (V 122)), (2, .int l2), (3, .int l3), (4, .int l4), (5, .int l5), (6, .int l6)] → W p l e R s m args below meth c H locs 0 0 Q (F0 m 9 ls [])) (hR_51 : ∀ (l2 : Int32) (l3 : Int32) (l4 : Int32) (l5 : Int32) (l6 : Int32) (l7 : Int32) (l8 : Int32) (u : RSt), R_51 (l2, l3, l4, l5, l6, l7, l8, u) = some (r, w) → ∀ (H : Heap) (locs : List Loc) (ls : Array Slot), RS D kA Z A s u H locs → lv_has ls 9 [(0, .ref (Z 200)), (1, .ref (V 122)), (2, .int l2), (3, .int l3), (4, .int l4), (5, .int l5), (6, .int l6), (7, .int l7), (8, .int l8)] → W p l e R s m args below meth c H locs 0 0 Q (F0 m 51 ls [])) {u : RSt} (h : B_among_4_51 N R_9 R_51 l2 l3 l4 l5 l6 l7 l8 u = some (r, w)) (hS : RS D kA Z A s u H locs) (hl : lv_has ls 9 [(0, .ref (Z 200)), (1, .ref (V 122)), (2, .int l2), (3, .int l3), (4, .int l4), (5, .int l5), (6, .int l6), (7, .int l7), (8, .int l8)]) : W p l e R s m args below meth c H locs 0 0 Q (F0 m 51 ls []) := by
  obtain ⟨⟨hx, hb, hml, hown, hts⟩, hK, hEV, hA⟩ := id X
  have hG : ∀ w ∈ GW, w.before args s = true := fun w h => hts w (List.mem_cons_of_mem _ h)
  unfold B_among_4_51 at h
  refine lv_iload hx hb dX12_among_51 (lv_at hl 8 rfl) ?_
  refine lv_iload_n hx hb dX12_among_53 rfl (lv_at hl 3 rfl) ?_
  refine lv_icmp_ge (tgt := 95) hx hb dX12_among_54 (by decide) (fun c_2 => ?_) (fun c_2 => ?_)
  · have h := ip (c_2) h
    exact b_among_4_95 X hE hF hL hR_9 h hS (lv_sub hl [0, 1, 2, 3, 4, 6, 7] rfl)
  · have h := im (c_2) h
    refine lv_iload hx hb dX12_among_57 (lv_at hl 7 rfl) ?_
    refine lv_if_eq (tgt := 95) hx hb dX12_among_59 (by decide) (fun c_3 => ?_) (fun c_3 => ?_)
    · have h := ip (c_3) h
      exact b_among_4_95 X hE hF hL hR_9 h hS (lv_sub hl [0, 1, 2, 3, 4, 6, 7] rfl)
    · have h := im (c_3) h
      refine lv_aload_n hx hb dX12_among_62 rfl (lv_at hl 1 rfl) ?_
      refine lv_iload hx hb dX12_among_63 (lv_at hl 5 rfl) ?_
      refine lv_iload hx hb dX12_among_65 (lv_at hl 8 rfl) ?_
      refine lv_iadd hx hb dX12_among_67 ?_
      obtain ⟨v_4, e_v_4, i_5, h⟩ := rd_of h
      refine kc_charAt_4 X hS i_5 e_v_4 (Nat.le_trans (Nat.le_of_ble_eq_true rfl) hF) (Nat.le_trans (Nat.le_of_ble_eq_true rfl) hL) hl.1 (Nat.le_of_ble_eq_true rfl) dX12_among_68 (fun H locs hS => ?_)
      refine lv_aload_n hx hb dX12_among_71 rfl (lv_at hl 0 rfl) ?_
      refine lv_iload_n hx hb dX12_among_72 rfl (lv_at hl 2 rfl) ?_
      refine lv_iload hx hb dX12_among_73 (lv_at hl 8 rfl) ?_
      refine lv_iadd hx hb dX12_among_75 ?_
      obtain ⟨r_7, u_6, h_u_6, h⟩ := bn_of h
      refine kc_see X hS h_u_6 (Nat.le_trans (Nat.le_of_ble_eq_true rfl) hF) (Nat.le_trans (Nat.le_of_ble_eq_true rfl) hL) hl.1 (Nat.le_of_ble_eq_true rfl) dX12_among_76 (fun H locs hS => ?_)
      refine lv_icmp_ne (tgt := 86) hx hb dX12_among_79 (by decide) (fun c_8 => ?_) (fun c_8 => ?_)
      · have h := im (c_8) h
        refine lv_iconst (v := 0) hx hb dX12_among_86 (by decide) ?_
        exact b_among_4_87 X hE hF hL hR_9 hR_51 h hS (lv_sub hl [0, 1, 2, 3, 4, 5, 6, 8] rfl)
      · have h := ip (c_8) h
        refine lv_iconst (v := 1) hx hb dX12_among_82 (by decide) ?_
        refine lv_goto (tgt := 87) hx hb dX12_among_83 (by decide) ?_
        exact b_among_4_87 X hE hF hL hR_9 hR_51 h hS (lv_sub hl [0, 1, 2, 3, 4, 5, 6, 8] rfl)
def LP_among_4_51 (N : Nat) (R_9 : Int32 × Int32 × Int32 × Int32 × Int32 × RSt → Option (Int32 × RSt)) : Nat → Int32 × Int32 × Int32 × Int32 × Int32 × Int32 × Int32 × RSt → Option (Int32 × RSt) := lp (fun R a => B_among_4_51 N R_9 R a.1 a.2.1 a.2.2.1 a.2.2.2.1 a.2.2.2.2.1 a.2.2.2.2.2.1 a.2.2.2.2.2.2.1 a.2.2.2.2.2.2.2)
theorem bl_among_4_51 {r : Int32} (X : RC p s m args c cX12_among 9 (Cond.code yX12_among cX12_among 9 (some .int)) D kA V A) (hE : REi p l e R s m args below meth c cX12_among D kA Z A Q r w) (hF : 4 ≤ R.frames) (hL : 85 ≤ R.locals) {R_9 : Int32 × Int32 × Int32 × Int32 × Int32 × RSt → Option (Int32 × RSt)} (hR_9 : ∀ (l2 : Int32) (l3 : Int32) (l4 : Int32) (l5 : Int32) (l6 : Int32) (u : RSt), R_9 (l2, l3, l4, l5, l6, u) = some (r, w) → ∀ (H : Heap) (locs : List Loc) (ls : Array Slot), RS D kA Z A s u H locs → lv_has ls 9 [(0, .ref (Z 200)), (1, .ref (V 122)), (2, .int l2), (3, .int l3), (4, .int l4), (5, .int l5), (6, .int l6)] → W p l e R s m args below meth c H locs 0 0 Q (F0 m 9 ls [])) : ∀ (n : Nat) (l2 : Int32) (l3 : Int32) (l4 : Int32) (l5 : Int32) (l6 : Int32) (l7 : Int32) (l8 : Int32) (u : RSt), LP_among_4_51 N R_9 n (l2, l3, l4, l5, l6, l7, l8, u) = some (r, w) → ∀ (H : Heap) (locs : List Loc) (ls : Array Slot), RS D kA Z A s u H locs → lv_has ls 9 [(0, .ref (Z 200)), (1, .ref (V 122)), (2, .int l2), (3, .int l3), (4, .int l4), (5, .int l5), (6, .int l6), (7, .int l7), (8, .int l8)] → W p l e R s m args below meth c H locs 0 0 Q (F0 m 51 ls []) := by
  intro n
  induction n with
  | zero => intro l2 l3 l4 l5 l6 l7 l8 u h; exact nomatch h
  | succ n ih => intro l2 l3 l4 l5 l6 l7 l8 u h H locs ls hS hl; exact b_among_4_51 (N := N) (R_51 := LP_among_4_51 N R_9 n) X hE hF hL hR_9 ih h hS hl
def B_among_4_46 (N : Nat) (R_9 : Int32 × Int32 × Int32 × Int32 × Int32 × RSt → Option (Int32 × RSt)) (l2 : Int32) (l3 : Int32) (l4 : Int32) (l5 : Int32) (l6 : Int32) (s0 : Int32) (u : RSt) : Option (Int32 × RSt) := LP_among_4_51 N R_9 N (l2, l3, l4, l5, l6, s0, 0, u)
set_option maxHeartbeats 4000000 in
theorem b_among_4_46 {r : Int32} (X : RC p s m args c cX12_among 9 (Cond.code yX12_among cX12_among 9 (some .int)) D kA V A) (hE : REi p l e R s m args below meth c cX12_among D kA Z A Q r w) (hF : 4 ≤ R.frames) (hL : 85 ≤ R.locals) {R_9 : Int32 × Int32 × Int32 × Int32 × Int32 × RSt → Option (Int32 × RSt)} {l2 : Int32} {l3 : Int32} {l4 : Int32} {l5 : Int32} {l6 : Int32} {s0 : Int32} (hR_9 : ∀ (l2 : Int32) (l3 : Int32) (l4 : Int32) (l5 : Int32) (l6 : Int32) (u : RSt), R_9 (l2, l3, l4, l5, l6, u) = some (r, w) → ∀ (H : Heap) (locs : List Loc) (ls : Array Slot), RS D kA Z A s u H locs → lv_has ls 9 [(0, .ref (Z 200)), (1, .ref (V 122)), (2, .int l2), (3, .int l3), (4, .int l4), (5, .int l5), (6, .int l6)] → W p l e R s m args below meth c H locs 0 0 Q (F0 m 9 ls [])) {u : RSt} (h : B_among_4_46 N R_9 l2 l3 l4 l5 l6 s0 u = some (r, w)) (hS : RS D kA Z A s u H locs) (hl : lv_has ls 9 [(0, .ref (Z 200)), (1, .ref (V 122)), (2, .int l2), (3, .int l3), (4, .int l4), (5, .int l5), (6, .int l6)]) : W p l e R s m args below meth c H locs 0 0 Q (F0 m 46 ls [.int s0]) := by
  obtain ⟨⟨hx, hb, hml, hown, hts⟩, hK, hEV, hA⟩ := id X
  have hG : ∀ w ∈ GW, w.before args s = true := fun w h => hts w (List.mem_cons_of_mem _ h)
  unfold B_among_4_46 at h
  refine lv_istore (lv' := [(7, .int s0), (0, .ref (Z 200)), (1, .ref (V 122)), (2, .int l2), (3, .int l3), (4, .int l4), (5, .int l5), (6, .int l6)]) hx hb dX12_among_46 hl (by decide) rfl (fun ls hl => ?_)
  refine lv_iconst (v := 0) hx hb dX12_among_48 (by decide) ?_
  refine lv_istore (lv' := [(8, .int 0), (7, .int s0), (0, .ref (Z 200)), (1, .ref (V 122)), (2, .int l2), (3, .int l3), (4, .int l4), (5, .int l5), (6, .int l6)]) hx hb dX12_among_49 hl (by decide) rfl (fun ls hl => ?_)
  exact bl_among_4_51 X hE hF hL hR_9 _ _ _ _ _ _ _ _ _ h _ _ _ hS (lv_sub hl [2, 3, 4, 5, 6, 7, 8, 1, 0] rfl)
def B_among_4_9 (N : Nat) (R_9 : Int32 × Int32 × Int32 × Int32 × Int32 × RSt → Option (Int32 × RSt)) (l2 : Int32) (l3 : Int32) (l4 : Int32) (l5 : Int32) (l6 : Int32) (u : RSt) : Option (Int32 × RSt) := if (122 : Int32) ≤ l6 then (some ((-1), u)) else (rd ch_4 122 l6 fun v_10 => if v_10 = (32 : Int32) then (if (l6 - l5) = l3 then (B_among_4_46 N R_9 l2 l3 l4 l5 l6 1 u) else (B_among_4_46 N R_9 l2 l3 l4 l5 l6 0 u)) else (B_among_4_112 N R_9 l2 l3 l4 l5 l6 u))
set_option maxHeartbeats 4000000 in
theorem b_among_4_9 {r : Int32} (X : RC p s m args c cX12_among 9 (Cond.code yX12_among cX12_among 9 (some .int)) D kA V A) (hE : REi p l e R s m args below meth c cX12_among D kA Z A Q r w) (hF : 4 ≤ R.frames) (hL : 85 ≤ R.locals) {R_9 : Int32 × Int32 × Int32 × Int32 × Int32 × RSt → Option (Int32 × RSt)} {l2 : Int32} {l3 : Int32} {l4 : Int32} {l5 : Int32} {l6 : Int32} (hR_9 : ∀ (l2 : Int32) (l3 : Int32) (l4 : Int32) (l5 : Int32) (l6 : Int32) (u : RSt), R_9 (l2, l3, l4, l5, l6, u) = some (r, w) → ∀ (H : Heap) (locs : List Loc) (ls : Array Slot), RS D kA Z A s u H locs → lv_has ls 9 [(0, .ref (Z 200)), (1, .ref (V 122)), (2, .int l2), (3, .int l3), (4, .int l4), (5, .int l5), (6, .int l6)] → W p l e R s m args below meth c H locs 0 0 Q (F0 m 9 ls [])) {u : RSt} (h : B_among_4_9 N R_9 l2 l3 l4 l5 l6 u = some (r, w)) (hS : RS D kA Z A s u H locs) (hl : lv_has ls 9 [(0, .ref (Z 200)), (1, .ref (V 122)), (2, .int l2), (3, .int l3), (4, .int l4), (5, .int l5), (6, .int l6)]) : W p l e R s m args below meth c H locs 0 0 Q (F0 m 9 ls []) := by
  obtain ⟨⟨hx, hb, hml, hown, hts⟩, hK, hEV, hA⟩ := id X
  have hG : ∀ w ∈ GW, w.before args s = true := fun w h => hts w (List.mem_cons_of_mem _ h)
  unfold B_among_4_9 at h
  refine lv_iload hx hb dX12_among_9 (lv_at hl 6 rfl) ?_
  refine lv_aload_n hx hb dX12_among_11 rfl (lv_at hl 1 rfl) ?_
  refine kc_length_4 X hS (Nat.le_trans (Nat.le_of_ble_eq_true rfl) hF) (Nat.le_trans (Nat.le_of_ble_eq_true rfl) hL) hl.1 (Nat.le_of_ble_eq_true rfl) dX12_among_12 (fun H locs hS => ?_)
  refine lv_icmp_ge (tgt := 118) hx hb dX12_among_15 (by decide) (fun c_9 => ?_) (fun c_9 => ?_)
  · have h := ip (c_9) h
    refine lv_iconst (v := (-1)) hx hb dX12_among_118 (by decide) ?_
    obtain ⟨rfl, rfl⟩ := so h
    exact hE _ _ _ _ hS dX12_among_119
  · have h := im (c_9) h
    refine lv_aload_n hx hb dX12_among_18 rfl (lv_at hl 1 rfl) ?_
    refine lv_iload hx hb dX12_among_19 (lv_at hl 6 rfl) ?_
    obtain ⟨v_10, e_v_10, i_11, h⟩ := rd_of h
    refine kc_charAt_4 X hS i_11 e_v_10 (Nat.le_trans (Nat.le_of_ble_eq_true rfl) hF) (Nat.le_trans (Nat.le_of_ble_eq_true rfl) hL) hl.1 (Nat.le_of_ble_eq_true rfl) dX12_among_21 (fun H locs hS => ?_)
    refine lv_bipush (v := 32) hx hb dX12_among_24 (by decide) ?_
    refine lv_icmp_eq (tgt := 32) hx hb dX12_among_26 (by decide) (fun c_12 => ?_) (fun c_12 => ?_)
    · have h := ip (c_12) h
      refine lv_iload hx hb dX12_among_32 (lv_at hl 6 rfl) ?_
      refine lv_iload hx hb dX12_among_34 (lv_at hl 5 rfl) ?_
      refine lv_isub hx hb dX12_among_36 ?_
      refine lv_iload_n hx hb dX12_among_37 rfl (lv_at hl 3 rfl) ?_
      refine lv_icmp_ne (tgt := 45) hx hb dX12_among_38 (by decide) (fun c_13 => ?_) (fun c_13 => ?_)
      · have h := im (c_13) h
        refine lv_iconst (v := 0) hx hb dX12_among_45 (by decide) ?_
        exact b_among_4_46 X hE hF hL hR_9 h hS (lv_sub hl [0, 1, 2, 3, 4, 5, 6] rfl)
      · have h := ip (c_13) h
        refine lv_iconst (v := 1) hx hb dX12_among_41 (by decide) ?_
        refine lv_goto (tgt := 46) hx hb dX12_among_42 (by decide) ?_
        exact b_among_4_46 X hE hF hL hR_9 h hS (lv_sub hl [0, 1, 2, 3, 4, 5, 6] rfl)
    · have h := im (c_12) h
      refine lv_goto (tgt := 112) hx hb dX12_among_29 (by decide) ?_
      exact b_among_4_112 X hE hF hL hR_9 h hS (lv_sub hl [0, 1, 2, 3, 4, 5, 6] rfl)
def LP_among_4_9 (N : Nat) : Nat → Int32 × Int32 × Int32 × Int32 × Int32 × RSt → Option (Int32 × RSt) := lp (fun R a => B_among_4_9 N R a.1 a.2.1 a.2.2.1 a.2.2.2.1 a.2.2.2.2.1 a.2.2.2.2.2)
theorem bl_among_4_9 {r : Int32} (X : RC p s m args c cX12_among 9 (Cond.code yX12_among cX12_among 9 (some .int)) D kA V A) (hE : REi p l e R s m args below meth c cX12_among D kA Z A Q r w) (hF : 4 ≤ R.frames) (hL : 85 ≤ R.locals)  : ∀ (n : Nat) (l2 : Int32) (l3 : Int32) (l4 : Int32) (l5 : Int32) (l6 : Int32) (u : RSt), LP_among_4_9 N n (l2, l3, l4, l5, l6, u) = some (r, w) → ∀ (H : Heap) (locs : List Loc) (ls : Array Slot), RS D kA Z A s u H locs → lv_has ls 9 [(0, .ref (Z 200)), (1, .ref (V 122)), (2, .int l2), (3, .int l3), (4, .int l4), (5, .int l5), (6, .int l6)] → W p l e R s m args below meth c H locs 0 0 Q (F0 m 9 ls []) := by
  intro n
  induction n with
  | zero => intro l2 l3 l4 l5 l6 u h; exact nomatch h
  | succ n ih => intro l2 l3 l4 l5 l6 u h H locs ls hS hl; exact b_among_4_9 (N := N) (R_9 := LP_among_4_9 N n) X hE hF hL  ih h hS hl
def B_among_4_0 (N : Nat) (l2 : Int32) (l3 : Int32) (u : RSt) : Option (Int32 × RSt) := LP_among_4_9 N N (l2, l3, 0, 0, 0, u)
set_option maxHeartbeats 4000000 in
theorem b_among_4_0 {r : Int32} (X : RC p s m args c cX12_among 9 (Cond.code yX12_among cX12_among 9 (some .int)) D kA V A) (hE : REi p l e R s m args below meth c cX12_among D kA Z A Q r w) (hF : 4 ≤ R.frames) (hL : 85 ≤ R.locals) {l2 : Int32} {l3 : Int32}  {u : RSt} (h : B_among_4_0 N l2 l3 u = some (r, w)) (hS : RS D kA Z A s u H locs) (hl : lv_has ls 9 [(0, .ref (Z 200)), (1, .ref (V 122)), (2, .int l2), (3, .int l3)]) : W p l e R s m args below meth c H locs 0 0 Q (F0 m 0 ls []) := by
  obtain ⟨⟨hx, hb, hml, hown, hts⟩, hK, hEV, hA⟩ := id X
  have hG : ∀ w ∈ GW, w.before args s = true := fun w h => hts w (List.mem_cons_of_mem _ h)
  unfold B_among_4_0 at h
  refine lv_iconst (v := 0) hx hb dX12_among_0 (by decide) ?_
  refine lv_istore (lv' := [(4, .int 0), (0, .ref (Z 200)), (1, .ref (V 122)), (2, .int l2), (3, .int l3)]) hx hb dX12_among_1 hl (by decide) rfl (fun ls hl => ?_)
  refine lv_iconst (v := 0) hx hb dX12_among_3 (by decide) ?_
  refine lv_istore (lv' := [(5, .int 0), (4, .int 0), (0, .ref (Z 200)), (1, .ref (V 122)), (2, .int l2), (3, .int l3)]) hx hb dX12_among_4 hl (by decide) rfl (fun ls hl => ?_)
  refine lv_iconst (v := 0) hx hb dX12_among_6 (by decide) ?_
  refine lv_istore (lv' := [(6, .int 0), (5, .int 0), (4, .int 0), (0, .ref (Z 200)), (1, .ref (V 122)), (2, .int l2), (3, .int l3)]) hx hb dX12_among_7 hl (by decide) rfl (fun ls hl => ?_)
  exact bl_among_4_9 X hE hF hL  _ _ _ _ _ _ _ h _ _ _ hS (lv_sub hl [3, 4, 5, 6, 2, 1, 0] rfl)
def F_among_4 (N : Nat) (l2 : Int32) (l3 : Int32) (u : RSt) : Option (Int32 × RSt) := B_among_4_0 N l2 l3 u
set_option maxHeartbeats 4000000 in
theorem k_among_4 (l : Launch) (D : va_G) (kA : Nat → ClassId) (V Z : Nat → Nat) (N : Nat) (l2 : Int32) (l3 : Int32) (u : RSt) (sz : Nat) {r : Int32} {w : RSt} (h : F_among_4 N l2 l3 u = some (r, w)) : Met l yX12_among (Cond.code yX12_among cX12_among 9 (some .int) :: GW) { frames := 4, cells := 0, slots := 0, locals := 85 } (rPc D kA V Z [.ref (V 122), .int l2, .int l3] u sz) (rQi D kA Z u sz r w) 0 0 (va_A (RW kA Z u) sz) := by
  refine Met.ofW (cc := cX12_among) (maxL := 9) (ret := (some .int)) (by decide) rfl ?_
  intro p e s m args below meth c s₁ Bd hml hv
  obtain ⟨rfl, hsz, hP, hK, hD0, hE⟩ := hv
  have hts := atoms_spec (ws := Cond.code yX12_among cX12_among 9 (some .int) :: GW) Bd.pre
  have hl := lv_entry (.ref (Z 200) :: [.ref (V 122), .int l2, .int l3]) (n := 9) (Nat.le_of_ble_eq_true rfl)
  rw [lg_entry_eq]
  generalize (lg_sl (.ref (Z 200) :: [.ref (V 122), .int l2, .int l3]) ++ List.replicate (9 - (lg_sl (.ref (Z 200) :: [.ref (V 122), .int l2, .int l3])).length) Slot.unset).toArray = ls at hl ⊢
  have hl : lv_has ls 9 [(0, .ref (Z 200)), (1, .ref (V 122)), (2, .int l2), (3, .int l3)] := hl
  subst hsz
  have X : RC p s m (.ref (Z 200) :: [.ref (V 122), .int l2, .int l3]).toArray c cX12_among 9 (Cond.code yX12_among cX12_among 9 (some .int)) D kA V (va_A (RW kA Z u) s.heap.size) := ⟨⟨Bd.exec, Bd.bytes, hml, findClass_of_methodNamed Bd.named, hts⟩, hK, hE, fun q h => Or.inr h⟩
  exact b_among_4_0 X (rend_i (cy := cX12_among) X Bd.returns Bd.notSynchronized) (Nat.le_refl _) (Nat.le_refl _) h ⟨hP, hD0.self, va_S.rf⟩ (lv_sub hl [0, 1, 2, 3] rfl)
theorem kc_among_4 {r : Int32} {cc : ByteArray} {pc nL : Nat} {c0 : Cond} {rest : List Value} {l2 : Int32} {l3 : Int32} {u : RSt} (X : RC p s m args c cc nL c0 D kA V A) (hS : RS D kA Z A s u H locs) (h : F_among_4 N l2 l3 u = some (r, w)) (hF : 4 + 1 ≤ R.frames) (hL : 8 + (9 + 11) + 85 ≤ R.locals) (hl : ls.size = nL) (hc : (rest.map fun v => v.category).sum ≤ 8) (hdg : decode cc pc = .ok (.invokevirtual 60, 3)) (kk : ∀ H locs, RS D kA Z A s w H locs → W p l e R s m args below meth c H locs 0 0 Q (F0 m (pc + 3) ls (.int r :: rest))) : W p l e R s m args below meth c H locs 0 0 Q (F0 m pc ls (.int l3 :: .int l2 :: .ref (V 122) :: .ref (Z 200) :: rest)) :=
  rcall_i (n := 3) X hS (k_among_4 l D kA V Z N l2 l3 u H.size h) (gw_V gw_2288 gw_2290 gs_7_11 gw_16 gw_2291) (by decide +kernel) hF hL rfl hl hc rfl hdg kk
def B_word_24 (N : Nat) (R_2 : Int32 × Int32 × RSt → Option (Int32 × RSt)) (l1 : Int32) (l2 : Int32) (u : RSt) : Option (Int32 × RSt) := R_2 (l1, (l2 + 1), u)
set_option maxHeartbeats 4000000 in
theorem b_word_24 {r : Int32} (X : RC p s m args c cX12_word 5 (Cond.code yX12_word cX12_word 5 (some .int)) D kA V A) (hE : REi p l e R s m args below meth c cX12_word D kA Z A Q r w) (hF : 5 ≤ R.frames) (hL : 113 ≤ R.locals) {R_2 : Int32 × Int32 × RSt → Option (Int32 × RSt)} {l1 : Int32} {l2 : Int32} (hR_2 : ∀ (l1 : Int32) (l2 : Int32) (u : RSt), R_2 (l1, l2, u) = some (r, w) → ∀ (H : Heap) (locs : List Loc) (ls : Array Slot), RS D kA Z A s u H locs → lv_has ls 5 [(0, .ref (Z 200)), (1, .int l1), (2, .int l2)] → W p l e R s m args below meth c H locs 0 0 Q (F0 m 2 ls [])) {u : RSt} (h : B_word_24 N R_2 l1 l2 u = some (r, w)) (hS : RS D kA Z A s u H locs) (hl : lv_has ls 5 [(0, .ref (Z 200)), (1, .int l1), (2, .int l2)]) : W p l e R s m args below meth c H locs 0 0 Q (F0 m 24 ls []) := by
  obtain ⟨⟨hx, hb, hml, hown, hts⟩, hK, hEV, hA⟩ := id X
  have hG : ∀ w ∈ GW, w.before args s = true := fun w h => hts w (List.mem_cons_of_mem _ h)
  unfold B_word_24 at h
  refine lv_iinc (v := l2 + 1) (lv' := [(2, .int (l2 + 1)), (0, .ref (Z 200)), (1, .int l1)]) hx hb dX12_word_24 hl (k := 2) rfl rfl (by decide) rfl (fun ls hl => ?_)
  refine lv_goto (tgt := 2) hx hb dX12_word_27 (by decide) ?_
  exact hR_2 _ _ _ h _ _ _ hS (lv_sub hl [1, 2, 0] rfl)
def B_word_2 (N : Nat) (R_2 : Int32 × Int32 × RSt → Option (Int32 × RSt)) (l1 : Int32) (l2 : Int32) (u : RSt) : Option (Int32 × RSt) := bn (F_see N l2 u) fun r_2 u_1 => if (r_let r_2) = (0 : Int32) then (bn (F_see N l2 u_1) fun r_7 u_6 => if (r_dig r_7) = (0 : Int32) then (bn (F_among_3 N l1 (l2 - l1) u_6) fun r_12 u_11 => if r_12 = ((-1) : Int32) then (if (12 : Int32) < (l2 - l1) then (some (l2, u_11)) else (wr 1502 (u_6.1 8) (sA u_11 2 (u_6.1 8).toNatClampNeg 1) fun u_15 => bn (F_packed N l1 l2 0 u_15) fun r_18 u_17 => wr 1502 (u_6.1 8) (sB u_17 6 (u_6.1 8).toNatClampNeg r_18) fun u_19 => bn (F_packed N l1 l2 6 u_19) fun r_22 u_21 => wr 1502 (u_6.1 8) (sB u_21 7 (u_6.1 8).toNatClampNeg r_22) fun u_23 => some (l2, u_23))) else (wr 1502 (u_6.1 8) (sA u_11 2 (u_6.1 8).toNatClampNeg (100 + r_12)) fun u_25 => some (l2, u_25))) else (B_word_24 N R_2 l1 l2 u_6)) else (B_word_24 N R_2 l1 l2 u_1)
set_option maxHeartbeats 4000000 in
theorem b_word_2 {r : Int32} (X : RC p s m args c cX12_word 5 (Cond.code yX12_word cX12_word 5 (some .int)) D kA V A) (hE : REi p l e R s m args below meth c cX12_word D kA Z A Q r w) (hF : 5 ≤ R.frames) (hL : 113 ≤ R.locals) {R_2 : Int32 × Int32 × RSt → Option (Int32 × RSt)} {l1 : Int32} {l2 : Int32} (hR_2 : ∀ (l1 : Int32) (l2 : Int32) (u : RSt), R_2 (l1, l2, u) = some (r, w) → ∀ (H : Heap) (locs : List Loc) (ls : Array Slot), RS D kA Z A s u H locs → lv_has ls 5 [(0, .ref (Z 200)), (1, .int l1), (2, .int l2)] → W p l e R s m args below meth c H locs 0 0 Q (F0 m 2 ls [])) {u : RSt} (h : B_word_2 N R_2 l1 l2 u = some (r, w)) (hS : RS D kA Z A s u H locs) (hl : lv_has ls 5 [(0, .ref (Z 200)), (1, .int l1), (2, .int l2)]) : W p l e R s m args below meth c H locs 0 0 Q (F0 m 2 ls []) := by
  obtain ⟨⟨hx, hb, hml, hown, hts⟩, hK, hEV, hA⟩ := id X
  have hG : ∀ w ∈ GW, w.before args s = true := fun w h => hts w (List.mem_cons_of_mem _ h)
  unfold B_word_2 at h
  refine lv_aload_n hx hb dX12_word_2 rfl (lv_at hl 0 rfl) ?_
  refine lv_iload_n hx hb dX12_word_3 rfl (lv_at hl 2 rfl) ?_
  obtain ⟨r_2, u_1, h_u_1, h⟩ := bn_of h
  refine kc_see X hS h_u_1 (Nat.le_trans (Nat.le_of_ble_eq_true rfl) hF) (Nat.le_trans (Nat.le_of_ble_eq_true rfl) hL) hl.1 (Nat.le_of_ble_eq_true rfl) dX12_word_4 (fun H locs hS => ?_)
  refine vp_callSi (W.runS (As := [.int r_2]) (rest := []) X.1 (c_X12_isLetter l r_2) (va_cwS 1 hts (gw_P gw_2277 gw_2278 gw_16 gwp_X12_isLetter) rfl rfl rfl (by decide +kernel) ⟨Nat.le_trans (Nat.le_of_ble_eq_true rfl) hF, Nat.le_trans (Nat.le_of_ble_eq_true rfl) hL⟩) ⟨fun _ _ _ _ q => q, fun _ _ _ => ⟨rfl, trivial⟩⟩ rfl rfl hl.1 rfl (lv_room (Nat.le_of_ble_eq_true rfl)) dX12_word_7 ⟨Nat.zero_le _, Nat.zero_le _⟩) (fun r_3 q_4 => ?_)
  subst q_4
  refine lv_if_ne (tgt := 24) hx hb dX12_word_10 (by decide) (fun c_5 => ?_) (fun c_5 => ?_)
  · have h := im (c_5) h
    exact b_word_24 X hE hF hL hR_2 h hS (lv_sub hl [0, 1, 2] rfl)
  · have h := ip (c_5) h
    refine lv_aload_n hx hb dX12_word_13 rfl (lv_at hl 0 rfl) ?_
    refine lv_iload_n hx hb dX12_word_14 rfl (lv_at hl 2 rfl) ?_
    obtain ⟨r_7, u_6, h_u_6, h⟩ := bn_of h
    refine kc_see X hS h_u_6 (Nat.le_trans (Nat.le_of_ble_eq_true rfl) hF) (Nat.le_trans (Nat.le_of_ble_eq_true rfl) hL) hl.1 (Nat.le_of_ble_eq_true rfl) dX12_word_15 (fun H locs hS => ?_)
    refine vp_callSi (W.runS (As := [.int r_7]) (rest := []) X.1 (c_X12_isDigit l r_7) (va_cwS 1 hts (gw_P gw_2284 gw_2285 gw_16 gwp_X12_isDigit) rfl rfl rfl (by decide +kernel) ⟨Nat.le_trans (Nat.le_of_ble_eq_true rfl) hF, Nat.le_trans (Nat.le_of_ble_eq_true rfl) hL⟩) ⟨fun _ _ _ _ q => q, fun _ _ _ => ⟨rfl, trivial⟩⟩ rfl rfl hl.1 rfl (lv_room (Nat.le_of_ble_eq_true rfl)) dX12_word_18 ⟨Nat.zero_le _, Nat.zero_le _⟩) (fun r_8 q_9 => ?_)
    subst q_9
    refine lv_if_eq (tgt := 30) hx hb dX12_word_21 (by decide) (fun c_10 => ?_) (fun c_10 => ?_)
    · have h := ip (c_10) h
      refine lv_aload_n hx hb dX12_word_30 rfl (lv_at hl 0 rfl) ?_
      refine rg_8 X hS dX12_word_31 ?_
      refine lv_istore_n (lv' := [(3, .int (u_6.1 8)), (0, .ref (Z 200)), (1, .int l1), (2, .int l2)]) hx hb dX12_word_34 rfl hl (by decide) rfl (fun ls hl => ?_)
      refine lv_aload_n hx hb dX12_word_35 rfl (lv_at hl 1 rfl) ?_
      refine va_ldcS hx hb hown (hEV.2.2.2.2.2.2.2.2.2.2.2.2.2.2.2.1).1 dX12_word_36 ?_
      refine lv_iload_n hx hb dX12_word_38 rfl (lv_at hl 2 rfl) ?_
      refine lv_iload_n hx hb dX12_word_39 rfl (lv_at hl 3 rfl) ?_
      refine lv_iload_n hx hb dX12_word_40 rfl (lv_at hl 2 rfl) ?_
      refine lv_isub hx hb dX12_word_41 ?_
      obtain ⟨r_12, u_11, h_u_11, h⟩ := bn_of h
      refine kc_among_3 X hS h_u_11 (Nat.le_trans (Nat.le_of_ble_eq_true rfl) hF) (Nat.le_trans (Nat.le_of_ble_eq_true rfl) hL) hl.1 (Nat.le_of_ble_eq_true rfl) dX12_word_42 (fun H locs hS => ?_)
      refine lv_istore (lv' := [(4, .int r_12), (3, .int (u_6.1 8)), (0, .ref (Z 200)), (1, .int l1), (2, .int l2)]) hx hb dX12_word_45 hl (by decide) rfl (fun ls hl => ?_)
      refine lv_iload hx hb dX12_word_47 (lv_at hl 0 rfl) ?_
      refine lv_iconst (v := (-1)) hx hb dX12_word_49 (by decide) ?_
      refine lv_icmp_eq (tgt := 67) hx hb dX12_word_50 (by decide) (fun c_13 => ?_) (fun c_13 => ?_)
      · have h := ip (c_13) h
        refine lv_iload_n hx hb dX12_word_67 rfl (lv_at hl 4 rfl) ?_
        refine lv_iload_n hx hb dX12_word_68 rfl (lv_at hl 3 rfl) ?_
        refine lv_isub hx hb dX12_word_69 ?_
        refine lv_bipush (v := 12) hx hb dX12_word_70 (by decide) ?_
        refine lv_icmp_gt (tgt := 109) hx hb dX12_word_72 (by decide) (fun c_14 => ?_) (fun c_14 => ?_)
        · have h := ip (c_14) h
          refine lv_iload_n hx hb dX12_word_109 rfl (lv_at hl 4 rfl) ?_
          obtain ⟨rfl, rfl⟩ := so h
          exact hE _ _ _ _ hS dX12_word_110
        · have h := im (c_14) h
          refine lv_aload_n hx hb dX12_word_75 rfl (lv_at hl 2 rfl) ?_
          refine rg_2 X hS dX12_word_76 ?_
          refine lv_iload_n hx hb dX12_word_79 rfl (lv_at hl 1 rfl) ?_
          refine lv_iconst (v := 1) hx hb dX12_word_80 (by decide) ?_
          obtain ⟨u_15, e_u_15, i_16, h⟩ := wr_of h
          refine rs_2 X hS i_16 e_u_15 dX12_word_81 (fun H locs hS => ?_)
          refine lv_aload_n hx hb dX12_word_82 rfl (lv_at hl 2 rfl) ?_
          refine rg_6 X hS dX12_word_83 ?_
          refine lv_iload_n hx hb dX12_word_86 rfl (lv_at hl 1 rfl) ?_
          refine lv_aload_n hx hb dX12_word_87 rfl (lv_at hl 2 rfl) ?_
          refine lv_iload_n hx hb dX12_word_88 rfl (lv_at hl 3 rfl) ?_
          refine lv_iload_n hx hb dX12_word_89 rfl (lv_at hl 4 rfl) ?_
          refine lv_iconst (v := 0) hx hb dX12_word_90 (by decide) ?_
          obtain ⟨r_18, u_17, h_u_17, h⟩ := bn_of h
          refine kc_packed X hS h_u_17 (Nat.le_trans (Nat.le_of_ble_eq_true rfl) hF) (Nat.le_trans (Nat.le_of_ble_eq_true rfl) hL) hl.1 (Nat.le_of_ble_eq_true rfl) dX12_word_91 (fun H locs hS => ?_)
          obtain ⟨u_19, e_u_19, i_20, h⟩ := wr_of h
          refine rs_6 X hS i_20 e_u_19 dX12_word_94 (fun H locs hS => ?_)
          refine lv_aload_n hx hb dX12_word_95 rfl (lv_at hl 2 rfl) ?_
          refine rg_7 X hS dX12_word_96 ?_
          refine lv_iload_n hx hb dX12_word_99 rfl (lv_at hl 1 rfl) ?_
          refine lv_aload_n hx hb dX12_word_100 rfl (lv_at hl 2 rfl) ?_
          refine lv_iload_n hx hb dX12_word_101 rfl (lv_at hl 3 rfl) ?_
          refine lv_iload_n hx hb dX12_word_102 rfl (lv_at hl 4 rfl) ?_
          refine lv_bipush (v := 6) hx hb dX12_word_103 (by decide) ?_
          obtain ⟨r_22, u_21, h_u_21, h⟩ := bn_of h
          refine kc_packed X hS h_u_21 (Nat.le_trans (Nat.le_of_ble_eq_true rfl) hF) (Nat.le_trans (Nat.le_of_ble_eq_true rfl) hL) hl.1 (Nat.le_of_ble_eq_true rfl) dX12_word_105 (fun H locs hS => ?_)
          obtain ⟨u_23, e_u_23, i_24, h⟩ := wr_of h
          refine rs_7 X hS i_24 e_u_23 dX12_word_108 (fun H locs hS => ?_)
          refine lv_iload_n hx hb dX12_word_109 rfl (lv_at hl 4 rfl) ?_
          obtain ⟨rfl, rfl⟩ := so h
          exact hE _ _ _ _ hS dX12_word_110
      · have h := im (c_13) h
        refine lv_aload_n hx hb dX12_word_53 rfl (lv_at hl 2 rfl) ?_
        refine rg_2 X hS dX12_word_54 ?_
        refine lv_iload_n hx hb dX12_word_57 rfl (lv_at hl 1 rfl) ?_
        refine lv_bipush (v := 100) hx hb dX12_word_58 (by decide) ?_
        refine lv_iload hx hb dX12_word_60 (lv_at hl 0 rfl) ?_
        refine lv_iadd hx hb dX12_word_62 ?_
        obtain ⟨u_25, e_u_25, i_26, h⟩ := wr_of h
        refine rs_2 X hS i_26 e_u_25 dX12_word_63 (fun H locs hS => ?_)
        refine lv_goto (tgt := 109) hx hb dX12_word_64 (by decide) ?_
        refine lv_iload_n hx hb dX12_word_109 rfl (lv_at hl 4 rfl) ?_
        obtain ⟨rfl, rfl⟩ := so h
        exact hE _ _ _ _ hS dX12_word_110
    · have h := im (c_10) h
      exact b_word_24 X hE hF hL hR_2 h hS (lv_sub hl [0, 1, 2] rfl)
def LP_word_2 (N : Nat) : Nat → Int32 × Int32 × RSt → Option (Int32 × RSt) := lp (fun R a => B_word_2 N R a.1 a.2.1 a.2.2)
theorem bl_word_2 {r : Int32} (X : RC p s m args c cX12_word 5 (Cond.code yX12_word cX12_word 5 (some .int)) D kA V A) (hE : REi p l e R s m args below meth c cX12_word D kA Z A Q r w) (hF : 5 ≤ R.frames) (hL : 113 ≤ R.locals)  : ∀ (n : Nat) (l1 : Int32) (l2 : Int32) (u : RSt), LP_word_2 N n (l1, l2, u) = some (r, w) → ∀ (H : Heap) (locs : List Loc) (ls : Array Slot), RS D kA Z A s u H locs → lv_has ls 5 [(0, .ref (Z 200)), (1, .int l1), (2, .int l2)] → W p l e R s m args below meth c H locs 0 0 Q (F0 m 2 ls []) := by
  intro n
  induction n with
  | zero => intro l1 l2 u h; exact nomatch h
  | succ n ih => intro l1 l2 u h H locs ls hS hl; exact b_word_2 (N := N) (R_2 := LP_word_2 N n) X hE hF hL  ih h hS hl
def B_word_0 (N : Nat) (l1 : Int32) (u : RSt) : Option (Int32 × RSt) := LP_word_2 N N (l1, l1, u)
set_option maxHeartbeats 4000000 in
theorem b_word_0 {r : Int32} (X : RC p s m args c cX12_word 5 (Cond.code yX12_word cX12_word 5 (some .int)) D kA V A) (hE : REi p l e R s m args below meth c cX12_word D kA Z A Q r w) (hF : 5 ≤ R.frames) (hL : 113 ≤ R.locals) {l1 : Int32}  {u : RSt} (h : B_word_0 N l1 u = some (r, w)) (hS : RS D kA Z A s u H locs) (hl : lv_has ls 5 [(0, .ref (Z 200)), (1, .int l1)]) : W p l e R s m args below meth c H locs 0 0 Q (F0 m 0 ls []) := by
  obtain ⟨⟨hx, hb, hml, hown, hts⟩, hK, hEV, hA⟩ := id X
  have hG : ∀ w ∈ GW, w.before args s = true := fun w h => hts w (List.mem_cons_of_mem _ h)
  unfold B_word_0 at h
  refine lv_iload_n hx hb dX12_word_0 rfl (lv_at hl 1 rfl) ?_
  refine lv_istore_n (lv' := [(2, .int l1), (0, .ref (Z 200)), (1, .int l1)]) hx hb dX12_word_1 rfl hl (by decide) rfl (fun ls hl => ?_)
  exact bl_word_2 X hE hF hL  _ _ _ _ h _ _ _ hS (lv_sub hl [1, 2, 0] rfl)
def F_word (N : Nat) (l1 : Int32) (u : RSt) : Option (Int32 × RSt) := B_word_0 N l1 u
set_option maxHeartbeats 4000000 in
theorem k_word (l : Launch) (D : va_G) (kA : Nat → ClassId) (V Z : Nat → Nat) (N : Nat) (l1 : Int32) (u : RSt) (sz : Nat) {r : Int32} {w : RSt} (h : F_word N l1 u = some (r, w)) : Met l yX12_word (Cond.code yX12_word cX12_word 5 (some .int) :: GW) { frames := 5, cells := 0, slots := 0, locals := 113 } (rPc D kA V Z [.int l1] u sz) (rQi D kA Z u sz r w) 0 0 (va_A (RW kA Z u) sz) := by
  refine Met.ofW (cc := cX12_word) (maxL := 5) (ret := (some .int)) (by decide) rfl ?_
  intro p e s m args below meth c s₁ Bd hml hv
  obtain ⟨rfl, hsz, hP, hK, hD0, hE⟩ := hv
  have hts := atoms_spec (ws := Cond.code yX12_word cX12_word 5 (some .int) :: GW) Bd.pre
  have hl := lv_entry (.ref (Z 200) :: [.int l1]) (n := 5) (Nat.le_of_ble_eq_true rfl)
  rw [lg_entry_eq]
  generalize (lg_sl (.ref (Z 200) :: [.int l1]) ++ List.replicate (5 - (lg_sl (.ref (Z 200) :: [.int l1])).length) Slot.unset).toArray = ls at hl ⊢
  have hl : lv_has ls 5 [(0, .ref (Z 200)), (1, .int l1)] := hl
  subst hsz
  have X : RC p s m (.ref (Z 200) :: [.int l1]).toArray c cX12_word 5 (Cond.code yX12_word cX12_word 5 (some .int)) D kA V (va_A (RW kA Z u) s.heap.size) := ⟨⟨Bd.exec, Bd.bytes, hml, findClass_of_methodNamed Bd.named, hts⟩, hK, hE, fun q h => Or.inr h⟩
  exact b_word_0 X (rend_i (cy := cX12_word) X Bd.returns Bd.notSynchronized) (Nat.le_refl _) (Nat.le_refl _) h ⟨hP, hD0.self, va_S.rf⟩ (lv_sub hl [0, 1] rfl)
theorem kc_word {r : Int32} {cc : ByteArray} {pc nL : Nat} {c0 : Cond} {rest : List Value} {l1 : Int32} {u : RSt} (X : RC p s m args c cc nL c0 D kA V A) (hS : RS D kA Z A s u H locs) (h : F_word N l1 u = some (r, w)) (hF : 5 + 1 ≤ R.frames) (hL : 8 + (5 + 11) + 113 ≤ R.locals) (hl : ls.size = nL) (hc : (rest.map fun v => v.category).sum ≤ 8) (hdg : decode cc pc = .ok (.invokevirtual 52, 3)) (kk : ∀ H locs, RS D kA Z A s w H locs → W p l e R s m args below meth c H locs 0 0 Q (F0 m (pc + 3) ls (.int r :: rest))) : W p l e R s m args below meth c H locs 0 0 Q (F0 m pc ls (.int l1 :: .ref (Z 200) :: rest)) :=
  rcall_i (n := 1) X hS (k_word l D kA V Z N l1 u H.size h) (gw_V gw_2280 gw_2282 gs_7_10 gw_16 gw_2283) (by decide +kernel) hF hL rfl hl hc rfl hdg kk
def B_token_164 (N : Nat) (R_135 : Int32 × Int32 × Int32 × RSt → Option (Int32 × RSt)) (l1 : Int32) (l3 : Int32) (l4 : Int32) (s0 : Int32) (u : RSt) : Option (Int32 × RSt) := if s0 = ((-1) : Int32) then (R_135 (l1, l3, (l4 + (-1)), u)) else (wr 1502 l3 (sA u 2 l3.toNatClampNeg (200 + s0)) fun u_2 => some (l1 + l4, u_2))
set_option maxHeartbeats 4000000 in
theorem b_token_164 {r : Int32} (X : RC p s m args c cX12_token 6 (Cond.code yX12_token cX12_token 6 (some .int)) D kA V A) (hE : REi p l e R s m args below meth c cX12_token D kA Z A Q r w) (hF : 6 ≤ R.frames) (hL : 137 ≤ R.locals) {R_135 : Int32 × Int32 × Int32 × RSt → Option (Int32 × RSt)} {l1 : Int32} {l3 : Int32} {l4 : Int32} {s0 : Int32} (hR_135 : ∀ (l1 : Int32) (l3 : Int32) (l4 : Int32) (u : RSt), R_135 (l1, l3, l4, u) = some (r, w) → ∀ (H : Heap) (locs : List Loc) (ls : Array Slot), RS D kA Z A s u H locs → lv_has ls 6 [(0, .ref (Z 200)), (1, .int l1), (3, .int l3), (4, .int l4)] → W p l e R s m args below meth c H locs 0 0 Q (F0 m 135 ls [])) {u : RSt} (h : B_token_164 N R_135 l1 l3 l4 s0 u = some (r, w)) (hS : RS D kA Z A s u H locs) (hl : lv_has ls 6 [(0, .ref (Z 200)), (1, .int l1), (3, .int l3), (4, .int l4)]) : W p l e R s m args below meth c H locs 0 0 Q (F0 m 164 ls [.int s0]) := by
  obtain ⟨⟨hx, hb, hml, hown, hts⟩, hK, hEV, hA⟩ := id X
  have hG : ∀ w ∈ GW, w.before args s = true := fun w h => hts w (List.mem_cons_of_mem _ h)
  unfold B_token_164 at h
  refine lv_istore (lv' := [(5, .int s0), (0, .ref (Z 200)), (1, .int l1), (3, .int l3), (4, .int l4)]) hx hb dX12_token_164 hl (by decide) rfl (fun ls hl => ?_)
  refine lv_iload hx hb dX12_token_166 (lv_at hl 0 rfl) ?_
  refine lv_iconst (v := (-1)) hx hb dX12_token_168 (by decide) ?_
  refine lv_icmp_ne (tgt := 175) hx hb dX12_token_169 (by decide) (fun c_1 => ?_) (fun c_1 => ?_)
  · have h := im (c_1) h
    refine lv_aload_n hx hb dX12_token_175 rfl (lv_at hl 1 rfl) ?_
    refine rg_2 X hS dX12_token_176 ?_
    refine lv_iload_n hx hb dX12_token_179 rfl (lv_at hl 3 rfl) ?_
    refine lv_sipush (v := 200) hx hb dX12_token_180 (by decide) ?_
    refine lv_iload hx hb dX12_token_183 (lv_at hl 0 rfl) ?_
    refine lv_iadd hx hb dX12_token_185 ?_
    obtain ⟨u_2, e_u_2, i_3, h⟩ := wr_of h
    refine rs_2 X hS i_3 e_u_2 dX12_token_186 (fun H locs hS => ?_)
    refine lv_iload_n hx hb dX12_token_187 rfl (lv_at hl 2 rfl) ?_
    refine lv_iload hx hb dX12_token_188 (lv_at hl 4 rfl) ?_
    refine lv_iadd hx hb dX12_token_190 ?_
    obtain ⟨rfl, rfl⟩ := so h
    exact hE _ _ _ _ hS dX12_token_191
  · have h := ip (c_1) h
    refine lv_goto (tgt := 192) hx hb dX12_token_172 (by decide) ?_
    refine lv_iinc (v := l4 + (-1)) (lv' := [(4, .int (l4 + (-1))), (5, .int s0), (0, .ref (Z 200)), (1, .int l1), (3, .int l3)]) hx hb dX12_token_192 hl (k := 4) rfl rfl (by decide) rfl (fun ls hl => ?_)
    refine lv_goto (tgt := 135) hx hb dX12_token_195 (by decide) ?_
    exact hR_135 _ _ _ _ h _ _ _ hS (lv_sub hl [2, 3, 4, 0] rfl)
def B_token_135 (N : Nat) (R_135 : Int32 × Int32 × Int32 × RSt → Option (Int32 × RSt)) (l1 : Int32) (l3 : Int32) (l4 : Int32) (u : RSt) : Option (Int32 × RSt) := if l4 ≤ (0 : Int32) then (some (l1 + 1, u)) else (if (u.1 1) < (l1 + l4) then (B_token_164 N R_135 l1 l3 l4 (-1) u) else (bn (F_among_4 N l1 l4 u) fun r_7 u_6 => B_token_164 N R_135 l1 l3 l4 r_7 u_6))
set_option maxHeartbeats 4000000 in
theorem b_token_135 {r : Int32} (X : RC p s m args c cX12_token 6 (Cond.code yX12_token cX12_token 6 (some .int)) D kA V A) (hE : REi p l e R s m args below meth c cX12_token D kA Z A Q r w) (hF : 6 ≤ R.frames) (hL : 137 ≤ R.locals) {R_135 : Int32 × Int32 × Int32 × RSt → Option (Int32 × RSt)} {l1 : Int32} {l3 : Int32} {l4 : Int32} (hR_135 : ∀ (l1 : Int32) (l3 : Int32) (l4 : Int32) (u : RSt), R_135 (l1, l3, l4, u) = some (r, w) → ∀ (H : Heap) (locs : List Loc) (ls : Array Slot), RS D kA Z A s u H locs → lv_has ls 6 [(0, .ref (Z 200)), (1, .int l1), (3, .int l3), (4, .int l4)] → W p l e R s m args below meth c H locs 0 0 Q (F0 m 135 ls [])) {u : RSt} (h : B_token_135 N R_135 l1 l3 l4 u = some (r, w)) (hS : RS D kA Z A s u H locs) (hl : lv_has ls 6 [(0, .ref (Z 200)), (1, .int l1), (3, .int l3), (4, .int l4)]) : W p l e R s m args below meth c H locs 0 0 Q (F0 m 135 ls []) := by
  obtain ⟨⟨hx, hb, hml, hown, hts⟩, hK, hEV, hA⟩ := id X
  have hG : ∀ w ∈ GW, w.before args s = true := fun w h => hts w (List.mem_cons_of_mem _ h)
  unfold B_token_135 at h
  refine lv_iload hx hb dX12_token_135 (lv_at hl 3 rfl) ?_
  refine lv_if_le (tgt := 198) hx hb dX12_token_137 (by decide) (fun c_4 => ?_) (fun c_4 => ?_)
  · have h := ip (c_4) h
    refine lv_iload_n hx hb dX12_token_198 rfl (lv_at hl 1 rfl) ?_
    refine lv_iconst (v := 1) hx hb dX12_token_199 (by decide) ?_
    refine lv_iadd hx hb dX12_token_200 ?_
    obtain ⟨rfl, rfl⟩ := so h
    exact hE _ _ _ _ hS dX12_token_201
  · have h := im (c_4) h
    refine lv_iload_n hx hb dX12_token_140 rfl (lv_at hl 1 rfl) ?_
    refine lv_iload hx hb dX12_token_141 (lv_at hl 3 rfl) ?_
    refine lv_iadd hx hb dX12_token_143 ?_
    refine lv_aload_n hx hb dX12_token_144 rfl (lv_at hl 0 rfl) ?_
    refine rg_1 X hS dX12_token_145 ?_
    refine lv_icmp_gt (tgt := 163) hx hb dX12_token_148 (by decide) (fun c_5 => ?_) (fun c_5 => ?_)
    · have h := ip (c_5) h
      refine lv_iconst (v := (-1)) hx hb dX12_token_163 (by decide) ?_
      exact b_token_164 X hE hF hL hR_135 h hS (lv_sub hl [0, 1, 2, 3] rfl)
    · have h := im (c_5) h
      refine lv_aload_n hx hb dX12_token_151 rfl (lv_at hl 0 rfl) ?_
      refine va_ldcS hx hb hown (hEV.2.2.2.2.2.2.2.2.2.2.2.2.2.2.2.2.1).1 dX12_token_152 ?_
      refine lv_iload_n hx hb dX12_token_154 rfl (lv_at hl 1 rfl) ?_
      refine lv_iload hx hb dX12_token_155 (lv_at hl 3 rfl) ?_
      obtain ⟨r_7, u_6, h_u_6, h⟩ := bn_of h
      refine kc_among_4 X hS h_u_6 (Nat.le_trans (Nat.le_of_ble_eq_true rfl) hF) (Nat.le_trans (Nat.le_of_ble_eq_true rfl) hL) hl.1 (Nat.le_of_ble_eq_true rfl) dX12_token_157 (fun H locs hS => ?_)
      refine lv_goto (tgt := 164) hx hb dX12_token_160 (by decide) ?_
      exact b_token_164 X hE hF hL hR_135 h hS (lv_sub hl [0, 1, 2, 3] rfl)
def LP_token_135 (N : Nat) : Nat → Int32 × Int32 × Int32 × RSt → Option (Int32 × RSt) := lp (fun R a => B_token_135 N R a.1 a.2.1 a.2.2.1 a.2.2.2)
theorem bl_token_135 {r : Int32} (X : RC p s m args c cX12_token 6 (Cond.code yX12_token cX12_token 6 (some .int)) D kA V A) (hE : REi p l e R s m args below meth c cX12_token D kA Z A Q r w) (hF : 6 ≤ R.frames) (hL : 137 ≤ R.locals)  : ∀ (n : Nat) (l1 : Int32) (l3 : Int32) (l4 : Int32) (u : RSt), LP_token_135 N n (l1, l3, l4, u) = some (r, w) → ∀ (H : Heap) (locs : List Loc) (ls : Array Slot), RS D kA Z A s u H locs → lv_has ls 6 [(0, .ref (Z 200)), (1, .int l1), (3, .int l3), (4, .int l4)] → W p l e R s m args below meth c H locs 0 0 Q (F0 m 135 ls []) := by
  intro n
  induction n with
  | zero => intro l1 l3 l4 u h; exact nomatch h
  | succ n ih => intro l1 l3 l4 u h H locs ls hS hl; exact b_token_135 (N := N) (R_135 := LP_token_135 N n) X hE hF hL  ih h hS hl
def B_token_0 (N : Nat) (l1 : Int32) (u : RSt) : Option (Int32 × RSt) := bn (F_see N l1 u) fun r_9 u_8 => wr 1502 (u_8.1 8) (sA u_8 3 (u_8.1 8).toNatClampNeg l1) fun u_10 => wr 1502 (u_8.1 8) (sA u_10 2 (u_8.1 8).toNatClampNeg 0) fun u_12 => wr 1502 (u_8.1 8) (sA u_12 5 (u_8.1 8).toNatClampNeg (vp_nar .boolean 0)) fun u_14 => wr 1502 (u_8.1 8) (sB u_14 4 (u_8.1 8).toNatClampNeg 0) fun u_16 => if (r_let r_9) = (0 : Int32) then (if (r_dig r_9) = (0 : Int32) then (if r_9 = (39 : Int32) then (bn (F_see N (l1 + 1) u_16) fun r_26 u_25 => if r_26 < (32 : Int32) then (some (l1 + 3, u_25)) else (bn (F_see N (l1 + 1) u_25) fun r_29 u_28 => if (126 : Int32) < r_29 then (some (l1 + 3, u_28)) else (bn (F_see N (l1 + 2) u_28) fun r_32 u_31 => if r_32 = (39 : Int32) then (wr 1502 (u_8.1 8) (sA u_31 2 (u_8.1 8).toNatClampNeg 4) fun u_34 => bn (F_see N (l1 + 1) u_34) fun r_37 u_36 => wr 1502 (u_8.1 8) (sB u_36 4 (u_8.1 8).toNatClampNeg r_37.toInt64) fun u_38 => some (l1 + 3, u_38)) else (some (l1 + 3, u_31))))) else (LP_token_135 N N (l1, (u_8.1 8), 4, u_16))) else (bn (F_figures N l1 u_16) fun r_41 u_40 => some (r_41, u_40))) else (bn (F_word N l1 u_16) fun r_43 u_42 => some (r_43, u_42))
set_option maxHeartbeats 4000000 in
theorem b_token_0 {r : Int32} (X : RC p s m args c cX12_token 6 (Cond.code yX12_token cX12_token 6 (some .int)) D kA V A) (hE : REi p l e R s m args below meth c cX12_token D kA Z A Q r w) (hF : 6 ≤ R.frames) (hL : 137 ≤ R.locals) {l1 : Int32}  {u : RSt} (h : B_token_0 N l1 u = some (r, w)) (hS : RS D kA Z A s u H locs) (hl : lv_has ls 6 [(0, .ref (Z 200)), (1, .int l1)]) : W p l e R s m args below meth c H locs 0 0 Q (F0 m 0 ls []) := by
  obtain ⟨⟨hx, hb, hml, hown, hts⟩, hK, hEV, hA⟩ := id X
  have hG : ∀ w ∈ GW, w.before args s = true := fun w h => hts w (List.mem_cons_of_mem _ h)
  unfold B_token_0 at h
  refine lv_aload_n hx hb dX12_token_0 rfl (lv_at hl 0 rfl) ?_
  refine lv_iload_n hx hb dX12_token_1 rfl (lv_at hl 1 rfl) ?_
  obtain ⟨r_9, u_8, h_u_8, h⟩ := bn_of h
  refine kc_see X hS h_u_8 (Nat.le_trans (Nat.le_of_ble_eq_true rfl) hF) (Nat.le_trans (Nat.le_of_ble_eq_true rfl) hL) hl.1 (Nat.le_of_ble_eq_true rfl) dX12_token_2 (fun H locs hS => ?_)
  refine lv_istore_n (lv' := [(2, .int r_9), (0, .ref (Z 200)), (1, .int l1)]) hx hb dX12_token_5 rfl hl (by decide) rfl (fun ls hl => ?_)
  refine lv_aload_n hx hb dX12_token_6 rfl (lv_at hl 1 rfl) ?_
  refine rg_8 X hS dX12_token_7 ?_
  refine lv_istore_n (lv' := [(3, .int (u_8.1 8)), (2, .int r_9), (0, .ref (Z 200)), (1, .int l1)]) hx hb dX12_token_10 rfl hl (by decide) rfl (fun ls hl => ?_)
  refine lv_aload_n hx hb dX12_token_11 rfl (lv_at hl 2 rfl) ?_
  refine rg_3 X hS dX12_token_12 ?_
  refine lv_iload_n hx hb dX12_token_15 rfl (lv_at hl 0 rfl) ?_
  refine lv_iload_n hx hb dX12_token_16 rfl (lv_at hl 3 rfl) ?_
  obtain ⟨u_10, e_u_10, i_11, h⟩ := wr_of h
  refine rs_3 X hS i_11 e_u_10 dX12_token_17 (fun H locs hS => ?_)
  refine lv_aload_n hx hb dX12_token_18 rfl (lv_at hl 2 rfl) ?_
  refine rg_2 X hS dX12_token_19 ?_
  refine lv_iload_n hx hb dX12_token_22 rfl (lv_at hl 0 rfl) ?_
  refine lv_iconst (v := 0) hx hb dX12_token_23 (by decide) ?_
  obtain ⟨u_12, e_u_12, i_13, h⟩ := wr_of h
  refine rs_2 X hS i_13 e_u_12 dX12_token_24 (fun H locs hS => ?_)
  refine lv_aload_n hx hb dX12_token_25 rfl (lv_at hl 2 rfl) ?_
  refine rg_5 X hS dX12_token_26 ?_
  refine lv_iload_n hx hb dX12_token_29 rfl (lv_at hl 0 rfl) ?_
  refine lv_iconst (v := 0) hx hb dX12_token_30 (by decide) ?_
  obtain ⟨u_14, e_u_14, i_15, h⟩ := wr_of h
  refine rs_5 X hS i_15 e_u_14 dX12_token_31 (fun H locs hS => ?_)
  refine lv_aload_n hx hb dX12_token_32 rfl (lv_at hl 2 rfl) ?_
  refine rg_4 X hS dX12_token_33 ?_
  refine lv_iload_n hx hb dX12_token_36 rfl (lv_at hl 0 rfl) ?_
  refine lv_lconst (v := 0) hx hb dX12_token_37 (by decide) ?_
  obtain ⟨u_16, e_u_16, i_17, h⟩ := wr_of h
  refine rs_4 X hS i_17 e_u_16 dX12_token_38 (fun H locs hS => ?_)
  refine lv_iload_n hx hb dX12_token_39 rfl (lv_at hl 1 rfl) ?_
  refine vp_callSi (W.runS (As := [.int r_9]) (rest := []) X.1 (c_X12_isLetter l r_9) (va_cwS 1 hts (gw_P gw_2277 gw_2278 gw_16 gwp_X12_isLetter) rfl rfl rfl (by decide +kernel) ⟨Nat.le_trans (Nat.le_of_ble_eq_true rfl) hF, Nat.le_trans (Nat.le_of_ble_eq_true rfl) hL⟩) ⟨fun _ _ _ _ q => q, fun _ _ _ => ⟨rfl, trivial⟩⟩ rfl rfl hl.1 rfl (lv_room (Nat.le_of_ble_eq_true rfl)) dX12_token_40 ⟨Nat.zero_le _, Nat.zero_le _⟩) (fun r_18 q_19 => ?_)
  subst q_19
  refine lv_if_eq (tgt := 52) hx hb dX12_token_43 (by decide) (fun c_20 => ?_) (fun c_20 => ?_)
  · have h := ip (c_20) h
    refine lv_iload_n hx hb dX12_token_52 rfl (lv_at hl 1 rfl) ?_
    refine vp_callSi (W.runS (As := [.int r_9]) (rest := []) X.1 (c_X12_isDigit l r_9) (va_cwS 1 hts (gw_P gw_2284 gw_2285 gw_16 gwp_X12_isDigit) rfl rfl rfl (by decide +kernel) ⟨Nat.le_trans (Nat.le_of_ble_eq_true rfl) hF, Nat.le_trans (Nat.le_of_ble_eq_true rfl) hL⟩) ⟨fun _ _ _ _ q => q, fun _ _ _ => ⟨rfl, trivial⟩⟩ rfl rfl hl.1 rfl (lv_room (Nat.le_of_ble_eq_true rfl)) dX12_token_53 ⟨Nat.zero_le _, Nat.zero_le _⟩) (fun r_21 q_22 => ?_)
    subst q_22
    refine lv_if_eq (tgt := 65) hx hb dX12_token_56 (by decide) (fun c_23 => ?_) (fun c_23 => ?_)
    · have h := ip (c_23) h
      refine lv_iload_n hx hb dX12_token_65 rfl (lv_at hl 1 rfl) ?_
      refine lv_bipush (v := 39) hx hb dX12_token_66 (by decide) ?_
      refine lv_icmp_ne (tgt := 132) hx hb dX12_token_68 (by decide) (fun c_24 => ?_) (fun c_24 => ?_)
      · have h := im (c_24) h
        refine lv_iconst (v := 4) hx hb dX12_token_132 (by decide) ?_
        refine lv_istore (lv' := [(4, .int 4), (3, .int (u_8.1 8)), (2, .int r_9), (0, .ref (Z 200)), (1, .int l1)]) hx hb dX12_token_133 hl (by decide) rfl (fun ls hl => ?_)
        exact bl_token_135 X hE hF hL  _ _ _ _ _ h _ _ _ hS (lv_sub hl [3, 4, 1, 0] rfl)
      · have h := ip (c_24) h
        refine lv_aload_n hx hb dX12_token_71 rfl (lv_at hl 2 rfl) ?_
        refine lv_iload_n hx hb dX12_token_72 rfl (lv_at hl 3 rfl) ?_
        refine lv_iconst (v := 1) hx hb dX12_token_73 (by decide) ?_
        refine lv_iadd hx hb dX12_token_74 ?_
        obtain ⟨r_26, u_25, h_u_25, h⟩ := bn_of h
        refine kc_see X hS h_u_25 (Nat.le_trans (Nat.le_of_ble_eq_true rfl) hF) (Nat.le_trans (Nat.le_of_ble_eq_true rfl) hL) hl.1 (Nat.le_of_ble_eq_true rfl) dX12_token_75 (fun H locs hS => ?_)
        refine lv_bipush (v := 32) hx hb dX12_token_78 (by decide) ?_
        refine lv_icmp_lt (tgt := 128) hx hb dX12_token_80 (by decide) (fun c_27 => ?_) (fun c_27 => ?_)
        · have h := ip (c_27) h
          refine lv_iload_n hx hb dX12_token_128 rfl (lv_at hl 3 rfl) ?_
          refine lv_iconst (v := 3) hx hb dX12_token_129 (by decide) ?_
          refine lv_iadd hx hb dX12_token_130 ?_
          obtain ⟨rfl, rfl⟩ := so h
          exact hE _ _ _ _ hS dX12_token_131
        · have h := im (c_27) h
          refine lv_aload_n hx hb dX12_token_83 rfl (lv_at hl 2 rfl) ?_
          refine lv_iload_n hx hb dX12_token_84 rfl (lv_at hl 3 rfl) ?_
          refine lv_iconst (v := 1) hx hb dX12_token_85 (by decide) ?_
          refine lv_iadd hx hb dX12_token_86 ?_
          obtain ⟨r_29, u_28, h_u_28, h⟩ := bn_of h
          refine kc_see X hS h_u_28 (Nat.le_trans (Nat.le_of_ble_eq_true rfl) hF) (Nat.le_trans (Nat.le_of_ble_eq_true rfl) hL) hl.1 (Nat.le_of_ble_eq_true rfl) dX12_token_87 (fun H locs hS => ?_)
          refine lv_bipush (v := 126) hx hb dX12_token_90 (by decide) ?_
          refine lv_icmp_gt (tgt := 128) hx hb dX12_token_92 (by decide) (fun c_30 => ?_) (fun c_30 => ?_)
          · have h := ip (c_30) h
            refine lv_iload_n hx hb dX12_token_128 rfl (lv_at hl 3 rfl) ?_
            refine lv_iconst (v := 3) hx hb dX12_token_129 (by decide) ?_
            refine lv_iadd hx hb dX12_token_130 ?_
            obtain ⟨rfl, rfl⟩ := so h
            exact hE _ _ _ _ hS dX12_token_131
          · have h := im (c_30) h
            refine lv_aload_n hx hb dX12_token_95 rfl (lv_at hl 2 rfl) ?_
            refine lv_iload_n hx hb dX12_token_96 rfl (lv_at hl 3 rfl) ?_
            refine lv_iconst (v := 2) hx hb dX12_token_97 (by decide) ?_
            refine lv_iadd hx hb dX12_token_98 ?_
            obtain ⟨r_32, u_31, h_u_31, h⟩ := bn_of h
            refine kc_see X hS h_u_31 (Nat.le_trans (Nat.le_of_ble_eq_true rfl) hF) (Nat.le_trans (Nat.le_of_ble_eq_true rfl) hL) hl.1 (Nat.le_of_ble_eq_true rfl) dX12_token_99 (fun H locs hS => ?_)
            refine lv_bipush (v := 39) hx hb dX12_token_102 (by decide) ?_
            refine lv_icmp_ne (tgt := 128) hx hb dX12_token_104 (by decide) (fun c_33 => ?_) (fun c_33 => ?_)
            · have h := im (c_33) h
              refine lv_iload_n hx hb dX12_token_128 rfl (lv_at hl 3 rfl) ?_
              refine lv_iconst (v := 3) hx hb dX12_token_129 (by decide) ?_
              refine lv_iadd hx hb dX12_token_130 ?_
              obtain ⟨rfl, rfl⟩ := so h
              exact hE _ _ _ _ hS dX12_token_131
            · have h := ip (c_33) h
              refine lv_aload_n hx hb dX12_token_107 rfl (lv_at hl 2 rfl) ?_
              refine rg_2 X hS dX12_token_108 ?_
              refine lv_iload_n hx hb dX12_token_111 rfl (lv_at hl 0 rfl) ?_
              refine lv_iconst (v := 4) hx hb dX12_token_112 (by decide) ?_
              obtain ⟨u_34, e_u_34, i_35, h⟩ := wr_of h
              refine rs_2 X hS i_35 e_u_34 dX12_token_113 (fun H locs hS => ?_)
              refine lv_aload_n hx hb dX12_token_114 rfl (lv_at hl 2 rfl) ?_
              refine rg_4 X hS dX12_token_115 ?_
              refine lv_iload_n hx hb dX12_token_118 rfl (lv_at hl 0 rfl) ?_
              refine lv_aload_n hx hb dX12_token_119 rfl (lv_at hl 2 rfl) ?_
              refine lv_iload_n hx hb dX12_token_120 rfl (lv_at hl 3 rfl) ?_
              refine lv_iconst (v := 1) hx hb dX12_token_121 (by decide) ?_
              refine lv_iadd hx hb dX12_token_122 ?_
              obtain ⟨r_37, u_36, h_u_36, h⟩ := bn_of h
              refine kc_see X hS h_u_36 (Nat.le_trans (Nat.le_of_ble_eq_true rfl) hF) (Nat.le_trans (Nat.le_of_ble_eq_true rfl) hL) hl.1 (Nat.le_of_ble_eq_true rfl) dX12_token_123 (fun H locs hS => ?_)
              refine lv_i2l (v := r_37.toInt64) hx hb dX12_token_126 rfl ?_
              obtain ⟨u_38, e_u_38, i_39, h⟩ := wr_of h
              refine rs_4 X hS i_39 e_u_38 dX12_token_127 (fun H locs hS => ?_)
              refine lv_iload_n hx hb dX12_token_128 rfl (lv_at hl 3 rfl) ?_
              refine lv_iconst (v := 3) hx hb dX12_token_129 (by decide) ?_
              refine lv_iadd hx hb dX12_token_130 ?_
              obtain ⟨rfl, rfl⟩ := so h
              exact hE _ _ _ _ hS dX12_token_131
    · have h := im (c_23) h
      refine lv_aload_n hx hb dX12_token_59 rfl (lv_at hl 2 rfl) ?_
      refine lv_iload_n hx hb dX12_token_60 rfl (lv_at hl 3 rfl) ?_
      obtain ⟨r_41, u_40, h_u_40, h⟩ := bn_of h
      refine kc_figures X hS h_u_40 (Nat.le_trans (Nat.le_of_ble_eq_true rfl) hF) (Nat.le_trans (Nat.le_of_ble_eq_true rfl) hL) hl.1 (Nat.le_of_ble_eq_true rfl) dX12_token_61 (fun H locs hS => ?_)
      obtain ⟨rfl, rfl⟩ := so h
      exact hE _ _ _ _ hS dX12_token_64
  · have h := im (c_20) h
    refine lv_aload_n hx hb dX12_token_46 rfl (lv_at hl 2 rfl) ?_
    refine lv_iload_n hx hb dX12_token_47 rfl (lv_at hl 3 rfl) ?_
    obtain ⟨r_43, u_42, h_u_42, h⟩ := bn_of h
    refine kc_word X hS h_u_42 (Nat.le_trans (Nat.le_of_ble_eq_true rfl) hF) (Nat.le_trans (Nat.le_of_ble_eq_true rfl) hL) hl.1 (Nat.le_of_ble_eq_true rfl) dX12_token_48 (fun H locs hS => ?_)
    obtain ⟨rfl, rfl⟩ := so h
    exact hE _ _ _ _ hS dX12_token_51
def F_token (N : Nat) (l1 : Int32) (u : RSt) : Option (Int32 × RSt) := B_token_0 N l1 u
set_option maxHeartbeats 4000000 in
theorem k_token (l : Launch) (D : va_G) (kA : Nat → ClassId) (V Z : Nat → Nat) (N : Nat) (l1 : Int32) (u : RSt) (sz : Nat) {r : Int32} {w : RSt} (h : F_token N l1 u = some (r, w)) : Met l yX12_token (Cond.code yX12_token cX12_token 6 (some .int) :: GW) { frames := 6, cells := 0, slots := 0, locals := 137 } (rPc D kA V Z [.int l1] u sz) (rQi D kA Z u sz r w) 0 0 (va_A (RW kA Z u) sz) := by
  refine Met.ofW (cc := cX12_token) (maxL := 6) (ret := (some .int)) (by decide) rfl ?_
  intro p e s m args below meth c s₁ Bd hml hv
  obtain ⟨rfl, hsz, hP, hK, hD0, hE⟩ := hv
  have hts := atoms_spec (ws := Cond.code yX12_token cX12_token 6 (some .int) :: GW) Bd.pre
  have hl := lv_entry (.ref (Z 200) :: [.int l1]) (n := 6) (Nat.le_of_ble_eq_true rfl)
  rw [lg_entry_eq]
  generalize (lg_sl (.ref (Z 200) :: [.int l1]) ++ List.replicate (6 - (lg_sl (.ref (Z 200) :: [.int l1])).length) Slot.unset).toArray = ls at hl ⊢
  have hl : lv_has ls 6 [(0, .ref (Z 200)), (1, .int l1)] := hl
  subst hsz
  have X : RC p s m (.ref (Z 200) :: [.int l1]).toArray c cX12_token 6 (Cond.code yX12_token cX12_token 6 (some .int)) D kA V (va_A (RW kA Z u) s.heap.size) := ⟨⟨Bd.exec, Bd.bytes, hml, findClass_of_methodNamed Bd.named, hts⟩, hK, hE, fun q h => Or.inr h⟩
  exact b_token_0 X (rend_i (cy := cX12_token) X Bd.returns Bd.notSynchronized) (Nat.le_refl _) (Nat.le_refl _) h ⟨hP, hD0.self, va_S.rf⟩ (lv_sub hl [0, 1] rfl)
theorem kc_token {r : Int32} {cc : ByteArray} {pc nL : Nat} {c0 : Cond} {rest : List Value} {l1 : Int32} {u : RSt} (X : RC p s m args c cc nL c0 D kA V A) (hS : RS D kA Z A s u H locs) (h : F_token N l1 u = some (r, w)) (hF : 6 + 1 ≤ R.frames) (hL : 8 + (6 + 11) + 137 ≤ R.locals) (hl : ls.size = nL) (hc : (rest.map fun v => v.category).sum ≤ 8) (hdg : decode cc pc = .ok (.invokevirtual 92, 3)) (kk : ∀ H locs, RS D kA Z A s w H locs → W p l e R s m args below meth c H locs 0 0 Q (F0 m (pc + 3) ls (.int r :: rest))) : W p l e R s m args below meth c H locs 0 0 Q (F0 m pc ls (.int l1 :: .ref (Z 200) :: rest)) :=
  rcall_i (n := 1) X hS (k_token l D kA V Z N l1 u H.size h) (gw_V gw_2273 gw_2275 gs_7_9 gw_16 gw_2276) (by decide +kernel) hF hL rfl hl hc rfl hdg kk
def B_cutAll_58 (N : Nat) (R_9 : Int32 × Int32 × RSt → Option (Int32 × RSt)) (R_15 : Int32 × Int32 × Int32 × RSt → Option (Int32 × RSt)) (R_58 : Int32 × Int32 × Int32 × RSt → Option (Int32 × RSt)) (l1 : Int32) (l2 : Int32) (l3 : Int32) (u : RSt) : Option (Int32 × RSt) := if (u.1 1) ≤ l1 then (R_15 (l1, l2, l3, u)) else (bn (F_see N l1 u) fun r_3 u_2 => if r_3 = (10 : Int32) then (R_15 (l1, l2, l3, u_2)) else (R_58 ((l1 + 1), l2, l3, u_2)))
set_option maxHeartbeats 4000000 in
theorem b_cutAll_58 {r : Int32} (X : RC p s m args c cX12_cutAll 4 (Cond.code yX12_cutAll cX12_cutAll 4 none) D kA V A) (hE : REv p l e R s m args below meth c cX12_cutAll D kA Z A Q w) (hF : 7 ≤ R.frames) (hL : 162 ≤ R.locals) {R_9 : Int32 × Int32 × RSt → Option (Int32 × RSt)} {R_15 : Int32 × Int32 × Int32 × RSt → Option (Int32 × RSt)} {R_58 : Int32 × Int32 × Int32 × RSt → Option (Int32 × RSt)} {l1 : Int32} {l2 : Int32} {l3 : Int32} (hR_9 : ∀ (l1 : Int32) (l2 : Int32) (u : RSt), R_9 (l1, l2, u) = some (r, w) → ∀ (H : Heap) (locs : List Loc) (ls : Array Slot), RS D kA Z A s u H locs → lv_has ls 4 [(0, .ref (Z 200)), (1, .int l1), (2, .int l2)] → W p l e R s m args below meth c H locs 0 0 Q (F0 m 9 ls [])) (hR_15 : ∀ (l1 : Int32) (l2 : Int32) (l3 : Int32) (u : RSt), R_15 (l1, l2, l3, u) = some (r, w) → ∀ (H : Heap) (locs : List Loc) (ls : Array Slot), RS D kA Z A s u H locs → lv_has ls 4 [(0, .ref (Z 200)), (1, .int l1), (2, .int l2), (3, .int l3)] → W p l e R s m args below meth c H locs 0 0 Q (F0 m 15 ls [])) (hR_58 : ∀ (l1 : Int32) (l2 : Int32) (l3 : Int32) (u : RSt), R_58 (l1, l2, l3, u) = some (r, w) → ∀ (H : Heap) (locs : List Loc) (ls : Array Slot), RS D kA Z A s u H locs → lv_has ls 4 [(0, .ref (Z 200)), (1, .int l1), (2, .int l2), (3, .int l3)] → W p l e R s m args below meth c H locs 0 0 Q (F0 m 58 ls [])) {u : RSt} (h : B_cutAll_58 N R_9 R_15 R_58 l1 l2 l3 u = some (r, w)) (hS : RS D kA Z A s u H locs) (hl : lv_has ls 4 [(0, .ref (Z 200)), (1, .int l1), (2, .int l2), (3, .int l3)]) : W p l e R s m args below meth c H locs 0 0 Q (F0 m 58 ls []) := by
  obtain ⟨⟨hx, hb, hml, hown, hts⟩, hK, hEV, hA⟩ := id X
  have hG : ∀ w ∈ GW, w.before args s = true := fun w h => hts w (List.mem_cons_of_mem _ h)
  unfold B_cutAll_58 at h
  refine lv_iload_n hx hb dX12_cutAll_58 rfl (lv_at hl 1 rfl) ?_
  refine lv_aload_n hx hb dX12_cutAll_59 rfl (lv_at hl 0 rfl) ?_
  refine rg_1 X hS dX12_cutAll_60 ?_
  refine lv_icmp_ge (tgt := 15) hx hb dX12_cutAll_63 (by decide) (fun c_1 => ?_) (fun c_1 => ?_)
  · have h := ip (c_1) h
    exact hR_15 _ _ _ _ h _ _ _ hS (lv_sub hl [0, 1, 2, 3] rfl)
  · have h := im (c_1) h
    refine lv_aload_n hx hb dX12_cutAll_66 rfl (lv_at hl 0 rfl) ?_
    refine lv_iload_n hx hb dX12_cutAll_67 rfl (lv_at hl 1 rfl) ?_
    obtain ⟨r_3, u_2, h_u_2, h⟩ := bn_of h
    refine kc_see X hS h_u_2 (Nat.le_trans (Nat.le_of_ble_eq_true rfl) hF) (Nat.le_trans (Nat.le_of_ble_eq_true rfl) hL) hl.1 (Nat.le_of_ble_eq_true rfl) dX12_cutAll_68 (fun H locs hS => ?_)
    refine lv_bipush (v := 10) hx hb dX12_cutAll_71 (by decide) ?_
    refine lv_icmp_eq (tgt := 15) hx hb dX12_cutAll_73 (by decide) (fun c_4 => ?_) (fun c_4 => ?_)
    · have h := ip (c_4) h
      exact hR_15 _ _ _ _ h _ _ _ hS (lv_sub hl [0, 1, 2, 3] rfl)
    · have h := im (c_4) h
      refine lv_iinc (v := l1 + 1) (lv' := [(1, .int (l1 + 1)), (0, .ref (Z 200)), (2, .int l2), (3, .int l3)]) hx hb dX12_cutAll_76 hl (k := 1) rfl rfl (by decide) rfl (fun ls hl => ?_)
      refine lv_goto (tgt := 58) hx hb dX12_cutAll_79 (by decide) ?_
      exact hR_58 _ _ _ _ h _ _ _ hS (lv_sub hl [1, 0, 2, 3] rfl)
def LP_cutAll_58 (N : Nat) (R_9 : Int32 × Int32 × RSt → Option (Int32 × RSt)) (R_15 : Int32 × Int32 × Int32 × RSt → Option (Int32 × RSt)) : Nat → Int32 × Int32 × Int32 × RSt → Option (Int32 × RSt) := lp (fun R a => B_cutAll_58 N R_9 R_15 R a.1 a.2.1 a.2.2.1 a.2.2.2)
theorem bl_cutAll_58 {r : Int32} (X : RC p s m args c cX12_cutAll 4 (Cond.code yX12_cutAll cX12_cutAll 4 none) D kA V A) (hE : REv p l e R s m args below meth c cX12_cutAll D kA Z A Q w) (hF : 7 ≤ R.frames) (hL : 162 ≤ R.locals) {R_9 : Int32 × Int32 × RSt → Option (Int32 × RSt)} {R_15 : Int32 × Int32 × Int32 × RSt → Option (Int32 × RSt)} (hR_9 : ∀ (l1 : Int32) (l2 : Int32) (u : RSt), R_9 (l1, l2, u) = some (r, w) → ∀ (H : Heap) (locs : List Loc) (ls : Array Slot), RS D kA Z A s u H locs → lv_has ls 4 [(0, .ref (Z 200)), (1, .int l1), (2, .int l2)] → W p l e R s m args below meth c H locs 0 0 Q (F0 m 9 ls [])) (hR_15 : ∀ (l1 : Int32) (l2 : Int32) (l3 : Int32) (u : RSt), R_15 (l1, l2, l3, u) = some (r, w) → ∀ (H : Heap) (locs : List Loc) (ls : Array Slot), RS D kA Z A s u H locs → lv_has ls 4 [(0, .ref (Z 200)), (1, .int l1), (2, .int l2), (3, .int l3)] → W p l e R s m args below meth c H locs 0 0 Q (F0 m 15 ls [])) : ∀ (n : Nat) (l1 : Int32) (l2 : Int32) (l3 : Int32) (u : RSt), LP_cutAll_58 N R_9 R_15 n (l1, l2, l3, u) = some (r, w) → ∀ (H : Heap) (locs : List Loc) (ls : Array Slot), RS D kA Z A s u H locs → lv_has ls 4 [(0, .ref (Z 200)), (1, .int l1), (2, .int l2), (3, .int l3)] → W p l e R s m args below meth c H locs 0 0 Q (F0 m 58 ls []) := by
  intro n
  induction n with
  | zero => intro l1 l2 l3 u h; exact nomatch h
  | succ n ih => intro l1 l2 l3 u h H locs ls hS hl; exact b_cutAll_58 (N := N) (R_58 := LP_cutAll_58 N R_9 R_15 n) X hE hF hL hR_9 hR_15 ih h hS hl
def B_cutAll_82 (N : Nat) (R_9 : Int32 × Int32 × RSt → Option (Int32 × RSt)) (R_15 : Int32 × Int32 × Int32 × RSt → Option (Int32 × RSt)) (l1 : Int32) (l2 : Int32) (u : RSt) : Option (Int32 × RSt) := R_15 (l1, l2, 0, u)
set_option maxHeartbeats 4000000 in
theorem b_cutAll_82 {r : Int32} (X : RC p s m args c cX12_cutAll 4 (Cond.code yX12_cutAll cX12_cutAll 4 none) D kA V A) (hE : REv p l e R s m args below meth c cX12_cutAll D kA Z A Q w) (hF : 7 ≤ R.frames) (hL : 162 ≤ R.locals) {R_9 : Int32 × Int32 × RSt → Option (Int32 × RSt)} {R_15 : Int32 × Int32 × Int32 × RSt → Option (Int32 × RSt)} {l1 : Int32} {l2 : Int32} (hR_9 : ∀ (l1 : Int32) (l2 : Int32) (u : RSt), R_9 (l1, l2, u) = some (r, w) → ∀ (H : Heap) (locs : List Loc) (ls : Array Slot), RS D kA Z A s u H locs → lv_has ls 4 [(0, .ref (Z 200)), (1, .int l1), (2, .int l2)] → W p l e R s m args below meth c H locs 0 0 Q (F0 m 9 ls [])) (hR_15 : ∀ (l1 : Int32) (l2 : Int32) (l3 : Int32) (u : RSt), R_15 (l1, l2, l3, u) = some (r, w) → ∀ (H : Heap) (locs : List Loc) (ls : Array Slot), RS D kA Z A s u H locs → lv_has ls 4 [(0, .ref (Z 200)), (1, .int l1), (2, .int l2), (3, .int l3)] → W p l e R s m args below meth c H locs 0 0 Q (F0 m 15 ls [])) {u : RSt} (h : B_cutAll_82 N R_9 R_15 l1 l2 u = some (r, w)) (hS : RS D kA Z A s u H locs) (hl : lv_has ls 4 [(0, .ref (Z 200)), (1, .int l1), (2, .int l2)]) : W p l e R s m args below meth c H locs 0 0 Q (F0 m 82 ls []) := by
  obtain ⟨⟨hx, hb, hml, hown, hts⟩, hK, hEV, hA⟩ := id X
  have hG : ∀ w ∈ GW, w.before args s = true := fun w h => hts w (List.mem_cons_of_mem _ h)
  unfold B_cutAll_82 at h
  refine lv_iconst (v := 0) hx hb dX12_cutAll_82 (by decide) ?_
  refine lv_istore_n (lv' := [(3, .int 0), (0, .ref (Z 200)), (1, .int l1), (2, .int l2)]) hx hb dX12_cutAll_83 rfl hl (by decide) rfl (fun ls hl => ?_)
  refine lv_goto (tgt := 15) hx hb dX12_cutAll_84 (by decide) ?_
  exact hR_15 _ _ _ _ h _ _ _ hS (lv_sub hl [1, 2, 3, 0] rfl)
def B_cutAll_179 (N : Nat) (R_9 : Int32 × Int32 × RSt → Option (Int32 × RSt)) (l1 : Int32) (l2 : Int32) (u : RSt) : Option (Int32 × RSt) := R_9 (l1, l2, u)
set_option maxHeartbeats 4000000 in
theorem b_cutAll_179 {r : Int32} (X : RC p s m args c cX12_cutAll 4 (Cond.code yX12_cutAll cX12_cutAll 4 none) D kA V A) (hE : REv p l e R s m args below meth c cX12_cutAll D kA Z A Q w) (hF : 7 ≤ R.frames) (hL : 162 ≤ R.locals) {R_9 : Int32 × Int32 × RSt → Option (Int32 × RSt)} {l1 : Int32} {l2 : Int32} (hR_9 : ∀ (l1 : Int32) (l2 : Int32) (u : RSt), R_9 (l1, l2, u) = some (r, w) → ∀ (H : Heap) (locs : List Loc) (ls : Array Slot), RS D kA Z A s u H locs → lv_has ls 4 [(0, .ref (Z 200)), (1, .int l1), (2, .int l2)] → W p l e R s m args below meth c H locs 0 0 Q (F0 m 9 ls [])) {u : RSt} (h : B_cutAll_179 N R_9 l1 l2 u = some (r, w)) (hS : RS D kA Z A s u H locs) (hl : lv_has ls 4 [(0, .ref (Z 200)), (1, .int l1), (2, .int l2)]) : W p l e R s m args below meth c H locs 0 0 Q (F0 m 179 ls []) := by
  obtain ⟨⟨hx, hb, hml, hown, hts⟩, hK, hEV, hA⟩ := id X
  have hG : ∀ w ∈ GW, w.before args s = true := fun w h => hts w (List.mem_cons_of_mem _ h)
  unfold B_cutAll_179 at h
  refine lv_goto (tgt := 9) hx hb dX12_cutAll_179 (by decide) ?_
  exact hR_9 _ _ _ h _ _ _ hS (lv_sub hl [0, 1, 2] rfl)
def B_cutAll_169 (N : Nat) (R_9 : Int32 × Int32 × RSt → Option (Int32 × RSt)) (l1 : Int32) (l2 : Int32) (u : RSt) : Option (Int32 × RSt) := pu (sI u 8 ((u.1 8) + 1)) fun u_5 => B_cutAll_179 N R_9 l1 l2 u_5
set_option maxHeartbeats 4000000 in
theorem b_cutAll_169 {r : Int32} (X : RC p s m args c cX12_cutAll 4 (Cond.code yX12_cutAll cX12_cutAll 4 none) D kA V A) (hE : REv p l e R s m args below meth c cX12_cutAll D kA Z A Q w) (hF : 7 ≤ R.frames) (hL : 162 ≤ R.locals) {R_9 : Int32 × Int32 × RSt → Option (Int32 × RSt)} {l1 : Int32} {l2 : Int32} (hR_9 : ∀ (l1 : Int32) (l2 : Int32) (u : RSt), R_9 (l1, l2, u) = some (r, w) → ∀ (H : Heap) (locs : List Loc) (ls : Array Slot), RS D kA Z A s u H locs → lv_has ls 4 [(0, .ref (Z 200)), (1, .int l1), (2, .int l2)] → W p l e R s m args below meth c H locs 0 0 Q (F0 m 9 ls [])) {u : RSt} (h : B_cutAll_169 N R_9 l1 l2 u = some (r, w)) (hS : RS D kA Z A s u H locs) (hl : lv_has ls 4 [(0, .ref (Z 200)), (1, .int l1), (2, .int l2)]) : W p l e R s m args below meth c H locs 0 0 Q (F0 m 169 ls []) := by
  obtain ⟨⟨hx, hb, hml, hown, hts⟩, hK, hEV, hA⟩ := id X
  have hG : ∀ w ∈ GW, w.before args s = true := fun w h => hts w (List.mem_cons_of_mem _ h)
  unfold B_cutAll_169 at h
  refine lv_aload_n hx hb dX12_cutAll_169 rfl (lv_at hl 0 rfl) ?_
  refine lv_dup hx hb dX12_cutAll_170 rfl ?_
  refine rg_8 X hS dX12_cutAll_171 ?_
  refine lv_iconst (v := 1) hx hb dX12_cutAll_174 (by decide) ?_
  refine lv_iadd hx hb dX12_cutAll_175 ?_
  obtain ⟨u_5, e_u_5, h⟩ := pu_of h
  refine rp_8 X hS e_u_5 dX12_cutAll_176 (fun H locs hS => ?_)
  exact b_cutAll_179 X hE hF hL hR_9 h hS (lv_sub hl [0, 1, 2] rfl)
def B_cutAll_15 (N : Nat) (R_9 : Int32 × Int32 × RSt → Option (Int32 × RSt)) (R_15 : Int32 × Int32 × Int32 × RSt → Option (Int32 × RSt)) (l1 : Int32) (l2 : Int32) (l3 : Int32) (u : RSt) : Option (Int32 × RSt) := if l3 = (0 : Int32) then (if l1 < (u.1 1) then (bn (F_token N l1 u) fun r_9 u_8 => rd (u_8.2.2.1 2) 1502 (u_8.1 8) fun v_10 => if v_10 = (0 : Int32) then (B_cutAll_169 N R_9 r_9 0 u_8) else (if (u_8.1 8) = (1500 : Int32) then (wr 1502 (u_8.1 8) (sA u_8 2 (u_8.1 8).toNatClampNeg 6) fun u_14 => B_cutAll_169 N R_9 r_9 0 u_14) else (B_cutAll_169 N R_9 r_9 l2 u_8))) else (wr 1502 (u.1 8) (sA u 2 (u.1 8).toNatClampNeg 5) fun u_16 => wr 1502 (u_16.1 8) (sA u_16 3 (u_16.1 8).toNatClampNeg (u_16.1 1)) fun u_18 => B_cutAll_179 N R_9 l1 0 u_18)) else (bn (F_see N l1 u) fun r_21 u_20 => if (r_blank r_21) = (0 : Int32) then (bn (F_see N l1 u_20) fun r_26 u_25 => if r_26 = (47 : Int32) then (bn (F_see N (l1 + 1) u_25) fun r_29 u_28 => if r_29 = (47 : Int32) then (LP_cutAll_58 N R_9 R_15 N (l1, l2, l3, u_28)) else (B_cutAll_82 N R_9 R_15 l1 l2 u_28)) else (B_cutAll_82 N R_9 R_15 l1 l2 u_25)) else (R_15 ((l1 + 1), l2, l3, u_20)))
set_option maxHeartbeats 4000000 in
theorem b_cutAll_15 {r : Int32} (X : RC p s m args c cX12_cutAll 4 (Cond.code yX12_cutAll cX12_cutAll 4 none) D kA V A) (hE : REv p l e R s m args below meth c cX12_cutAll D kA Z A Q w) (hF : 7 ≤ R.frames) (hL : 162 ≤ R.locals) {R_9 : Int32 × Int32 × RSt → Option (Int32 × RSt)} {R_15 : Int32 × Int32 × Int32 × RSt → Option (Int32 × RSt)} {l1 : Int32} {l2 : Int32} {l3 : Int32} (hR_9 : ∀ (l1 : Int32) (l2 : Int32) (u : RSt), R_9 (l1, l2, u) = some (r, w) → ∀ (H : Heap) (locs : List Loc) (ls : Array Slot), RS D kA Z A s u H locs → lv_has ls 4 [(0, .ref (Z 200)), (1, .int l1), (2, .int l2)] → W p l e R s m args below meth c H locs 0 0 Q (F0 m 9 ls [])) (hR_15 : ∀ (l1 : Int32) (l2 : Int32) (l3 : Int32) (u : RSt), R_15 (l1, l2, l3, u) = some (r, w) → ∀ (H : Heap) (locs : List Loc) (ls : Array Slot), RS D kA Z A s u H locs → lv_has ls 4 [(0, .ref (Z 200)), (1, .int l1), (2, .int l2), (3, .int l3)] → W p l e R s m args below meth c H locs 0 0 Q (F0 m 15 ls [])) {u : RSt} (h : B_cutAll_15 N R_9 R_15 l1 l2 l3 u = some (r, w)) (hS : RS D kA Z A s u H locs) (hl : lv_has ls 4 [(0, .ref (Z 200)), (1, .int l1), (2, .int l2), (3, .int l3)]) : W p l e R s m args below meth c H locs 0 0 Q (F0 m 15 ls []) := by
  obtain ⟨⟨hx, hb, hml, hown, hts⟩, hK, hEV, hA⟩ := id X
  have hG : ∀ w ∈ GW, w.before args s = true := fun w h => hts w (List.mem_cons_of_mem _ h)
  unfold B_cutAll_15 at h
  refine lv_iload_n hx hb dX12_cutAll_15 rfl (lv_at hl 3 rfl) ?_
  refine lv_if_eq (tgt := 87) hx hb dX12_cutAll_16 (by decide) (fun c_6 => ?_) (fun c_6 => ?_)
  · have h := ip (c_6) h
    refine lv_iload_n hx hb dX12_cutAll_87 rfl (lv_at hl 1 rfl) ?_
    refine lv_aload_n hx hb dX12_cutAll_88 rfl (lv_at hl 0 rfl) ?_
    refine rg_1 X hS dX12_cutAll_89 ?_
    refine lv_icmp_lt (tgt := 123) hx hb dX12_cutAll_92 (by decide) (fun c_7 => ?_) (fun c_7 => ?_)
    · have h := ip (c_7) h
      refine lv_aload_n hx hb dX12_cutAll_123 rfl (lv_at hl 0 rfl) ?_
      refine lv_iload_n hx hb dX12_cutAll_124 rfl (lv_at hl 1 rfl) ?_
      obtain ⟨r_9, u_8, h_u_8, h⟩ := bn_of h
      refine kc_token X hS h_u_8 (Nat.le_trans (Nat.le_of_ble_eq_true rfl) hF) (Nat.le_trans (Nat.le_of_ble_eq_true rfl) hL) hl.1 (Nat.le_of_ble_eq_true rfl) dX12_cutAll_125 (fun H locs hS => ?_)
      refine lv_istore_n (lv' := [(1, .int r_9), (0, .ref (Z 200)), (2, .int l2), (3, .int l3)]) hx hb dX12_cutAll_128 rfl hl (by decide) rfl (fun ls hl => ?_)
      refine lv_aload_n hx hb dX12_cutAll_129 rfl (lv_at hl 1 rfl) ?_
      refine rg_2 X hS dX12_cutAll_130 ?_
      refine lv_aload_n hx hb dX12_cutAll_133 rfl (lv_at hl 1 rfl) ?_
      refine rg_8 X hS dX12_cutAll_134 ?_
      obtain ⟨v_10, e_v_10, i_11, h⟩ := rd_of h
      refine ra_2 X hS i_11 e_v_10 dX12_cutAll_137 ?_
      refine lv_if_ne (tgt := 146) hx hb dX12_cutAll_138 (by decide) (fun c_12 => ?_) (fun c_12 => ?_)
      · have h := im (c_12) h
        refine lv_aload_n hx hb dX12_cutAll_146 rfl (lv_at hl 1 rfl) ?_
        refine rg_8 X hS dX12_cutAll_147 ?_
        refine lv_sipush (v := 1500) hx hb dX12_cutAll_150 (by decide) ?_
        refine lv_icmp_ne (tgt := 169) hx hb dX12_cutAll_153 (by decide) (fun c_13 => ?_) (fun c_13 => ?_)
        · have h := im (c_13) h
          exact b_cutAll_169 X hE hF hL hR_9 h hS (lv_sub hl [1, 0, 2] rfl)
        · have h := ip (c_13) h
          refine lv_aload_n hx hb dX12_cutAll_156 rfl (lv_at hl 1 rfl) ?_
          refine rg_2 X hS dX12_cutAll_157 ?_
          refine lv_aload_n hx hb dX12_cutAll_160 rfl (lv_at hl 1 rfl) ?_
          refine rg_8 X hS dX12_cutAll_161 ?_
          refine lv_bipush (v := 6) hx hb dX12_cutAll_164 (by decide) ?_
          obtain ⟨u_14, e_u_14, i_15, h⟩ := wr_of h
          refine rs_2 X hS i_15 e_u_14 dX12_cutAll_166 (fun H locs hS => ?_)
          refine lv_iconst (v := 0) hx hb dX12_cutAll_167 (by decide) ?_
          refine lv_istore_n (lv' := [(2, .int 0), (1, .int r_9), (0, .ref (Z 200)), (3, .int l3)]) hx hb dX12_cutAll_168 rfl hl (by decide) rfl (fun ls hl => ?_)
          exact b_cutAll_169 X hE hF hL hR_9 h hS (lv_sub hl [2, 1, 0] rfl)
      · have h := ip (c_12) h
        refine lv_iconst (v := 0) hx hb dX12_cutAll_141 (by decide) ?_
        refine lv_istore_n (lv' := [(2, .int 0), (1, .int r_9), (0, .ref (Z 200)), (3, .int l3)]) hx hb dX12_cutAll_142 rfl hl (by decide) rfl (fun ls hl => ?_)
        refine lv_goto (tgt := 169) hx hb dX12_cutAll_143 (by decide) ?_
        exact b_cutAll_169 X hE hF hL hR_9 h hS (lv_sub hl [2, 1, 0] rfl)
    · have h := im (c_7) h
      refine lv_aload_n hx hb dX12_cutAll_95 rfl (lv_at hl 0 rfl) ?_
      refine rg_2 X hS dX12_cutAll_96 ?_
      refine lv_aload_n hx hb dX12_cutAll_99 rfl (lv_at hl 0 rfl) ?_
      refine rg_8 X hS dX12_cutAll_100 ?_
      refine lv_iconst (v := 5) hx hb dX12_cutAll_103 (by decide) ?_
      obtain ⟨u_16, e_u_16, i_17, h⟩ := wr_of h
      refine rs_2 X hS i_17 e_u_16 dX12_cutAll_104 (fun H locs hS => ?_)
      refine lv_aload_n hx hb dX12_cutAll_105 rfl (lv_at hl 0 rfl) ?_
      refine rg_3 X hS dX12_cutAll_106 ?_
      refine lv_aload_n hx hb dX12_cutAll_109 rfl (lv_at hl 0 rfl) ?_
      refine rg_8 X hS dX12_cutAll_110 ?_
      refine lv_aload_n hx hb dX12_cutAll_113 rfl (lv_at hl 0 rfl) ?_
      refine rg_1 X hS dX12_cutAll_114 ?_
      obtain ⟨u_18, e_u_18, i_19, h⟩ := wr_of h
      refine rs_3 X hS i_19 e_u_18 dX12_cutAll_117 (fun H locs hS => ?_)
      refine lv_iconst (v := 0) hx hb dX12_cutAll_118 (by decide) ?_
      refine lv_istore_n (lv' := [(2, .int 0), (0, .ref (Z 200)), (1, .int l1), (3, .int l3)]) hx hb dX12_cutAll_119 rfl hl (by decide) rfl (fun ls hl => ?_)
      refine lv_goto (tgt := 179) hx hb dX12_cutAll_120 (by decide) ?_
      exact b_cutAll_179 X hE hF hL hR_9 h hS (lv_sub hl [1, 2, 0] rfl)
  · have h := im (c_6) h
    refine lv_aload_n hx hb dX12_cutAll_19 rfl (lv_at hl 0 rfl) ?_
    refine lv_iload_n hx hb dX12_cutAll_20 rfl (lv_at hl 1 rfl) ?_
    obtain ⟨r_21, u_20, h_u_20, h⟩ := bn_of h
    refine kc_see X hS h_u_20 (Nat.le_trans (Nat.le_of_ble_eq_true rfl) hF) (Nat.le_trans (Nat.le_of_ble_eq_true rfl) hL) hl.1 (Nat.le_of_ble_eq_true rfl) dX12_cutAll_21 (fun H locs hS => ?_)
    refine vp_callSi (W.runS (As := [.int r_21]) (rest := []) X.1 (c_X12_isBlank l r_21) (va_cwS 1 hts (gw_P gw_2270 gw_2271 gw_16 gwp_X12_isBlank) rfl rfl rfl (by decide +kernel) ⟨Nat.le_trans (Nat.le_of_ble_eq_true rfl) hF, Nat.le_trans (Nat.le_of_ble_eq_true rfl) hL⟩) ⟨fun _ _ _ _ q => q, fun _ _ _ => ⟨rfl, trivial⟩⟩ rfl rfl hl.1 rfl (lv_room (Nat.le_of_ble_eq_true rfl)) dX12_cutAll_24 ⟨Nat.zero_le _, Nat.zero_le _⟩) (fun r_22 q_23 => ?_)
    subst q_23
    refine lv_if_eq (tgt := 36) hx hb dX12_cutAll_27 (by decide) (fun c_24 => ?_) (fun c_24 => ?_)
    · have h := ip (c_24) h
      refine lv_aload_n hx hb dX12_cutAll_36 rfl (lv_at hl 0 rfl) ?_
      refine lv_iload_n hx hb dX12_cutAll_37 rfl (lv_at hl 1 rfl) ?_
      obtain ⟨r_26, u_25, h_u_25, h⟩ := bn_of h
      refine kc_see X hS h_u_25 (Nat.le_trans (Nat.le_of_ble_eq_true rfl) hF) (Nat.le_trans (Nat.le_of_ble_eq_true rfl) hL) hl.1 (Nat.le_of_ble_eq_true rfl) dX12_cutAll_38 (fun H locs hS => ?_)
      refine lv_bipush (v := 47) hx hb dX12_cutAll_41 (by decide) ?_
      refine lv_icmp_ne (tgt := 82) hx hb dX12_cutAll_43 (by decide) (fun c_27 => ?_) (fun c_27 => ?_)
      · have h := im (c_27) h
        exact b_cutAll_82 X hE hF hL hR_9 hR_15 h hS (lv_sub hl [0, 1, 2] rfl)
      · have h := ip (c_27) h
        refine lv_aload_n hx hb dX12_cutAll_46 rfl (lv_at hl 0 rfl) ?_
        refine lv_iload_n hx hb dX12_cutAll_47 rfl (lv_at hl 1 rfl) ?_
        refine lv_iconst (v := 1) hx hb dX12_cutAll_48 (by decide) ?_
        refine lv_iadd hx hb dX12_cutAll_49 ?_
        obtain ⟨r_29, u_28, h_u_28, h⟩ := bn_of h
        refine kc_see X hS h_u_28 (Nat.le_trans (Nat.le_of_ble_eq_true rfl) hF) (Nat.le_trans (Nat.le_of_ble_eq_true rfl) hL) hl.1 (Nat.le_of_ble_eq_true rfl) dX12_cutAll_50 (fun H locs hS => ?_)
        refine lv_bipush (v := 47) hx hb dX12_cutAll_53 (by decide) ?_
        refine lv_icmp_ne (tgt := 82) hx hb dX12_cutAll_55 (by decide) (fun c_30 => ?_) (fun c_30 => ?_)
        · have h := im (c_30) h
          exact b_cutAll_82 X hE hF hL hR_9 hR_15 h hS (lv_sub hl [0, 1, 2] rfl)
        · have h := ip (c_30) h
          exact bl_cutAll_58 X hE hF hL hR_9 hR_15 _ _ _ _ _ h _ _ _ hS (lv_sub hl [0, 1, 2, 3] rfl)
    · have h := im (c_24) h
      refine lv_iinc (v := l1 + 1) (lv' := [(1, .int (l1 + 1)), (0, .ref (Z 200)), (2, .int l2), (3, .int l3)]) hx hb dX12_cutAll_30 hl (k := 1) rfl rfl (by decide) rfl (fun ls hl => ?_)
      refine lv_goto (tgt := 15) hx hb dX12_cutAll_33 (by decide) ?_
      exact hR_15 _ _ _ _ h _ _ _ hS (lv_sub hl [1, 0, 2, 3] rfl)
def LP_cutAll_15 (N : Nat) (R_9 : Int32 × Int32 × RSt → Option (Int32 × RSt)) : Nat → Int32 × Int32 × Int32 × RSt → Option (Int32 × RSt) := lp (fun R a => B_cutAll_15 N R_9 R a.1 a.2.1 a.2.2.1 a.2.2.2)
theorem bl_cutAll_15 {r : Int32} (X : RC p s m args c cX12_cutAll 4 (Cond.code yX12_cutAll cX12_cutAll 4 none) D kA V A) (hE : REv p l e R s m args below meth c cX12_cutAll D kA Z A Q w) (hF : 7 ≤ R.frames) (hL : 162 ≤ R.locals) {R_9 : Int32 × Int32 × RSt → Option (Int32 × RSt)} (hR_9 : ∀ (l1 : Int32) (l2 : Int32) (u : RSt), R_9 (l1, l2, u) = some (r, w) → ∀ (H : Heap) (locs : List Loc) (ls : Array Slot), RS D kA Z A s u H locs → lv_has ls 4 [(0, .ref (Z 200)), (1, .int l1), (2, .int l2)] → W p l e R s m args below meth c H locs 0 0 Q (F0 m 9 ls [])) : ∀ (n : Nat) (l1 : Int32) (l2 : Int32) (l3 : Int32) (u : RSt), LP_cutAll_15 N R_9 n (l1, l2, l3, u) = some (r, w) → ∀ (H : Heap) (locs : List Loc) (ls : Array Slot), RS D kA Z A s u H locs → lv_has ls 4 [(0, .ref (Z 200)), (1, .int l1), (2, .int l2), (3, .int l3)] → W p l e R s m args below meth c H locs 0 0 Q (F0 m 15 ls []) := by
  intro n
  induction n with
  | zero => intro l1 l2 l3 u h; exact nomatch h
  | succ n ih => intro l1 l2 l3 u h H locs ls hS hl; exact b_cutAll_15 (N := N) (R_15 := LP_cutAll_15 N R_9 n) X hE hF hL hR_9 ih h hS hl
def B_cutAll_9 (N : Nat) (R_9 : Int32 × Int32 × RSt → Option (Int32 × RSt)) (l1 : Int32) (l2 : Int32) (u : RSt) : Option (Int32 × RSt) := if l2 = (0 : Int32) then (some (0, u)) else (LP_cutAll_15 N R_9 N (l1, l2, 1, u))
set_option maxHeartbeats 4000000 in
theorem b_cutAll_9 {r : Int32} (X : RC p s m args c cX12_cutAll 4 (Cond.code yX12_cutAll cX12_cutAll 4 none) D kA V A) (hE : REv p l e R s m args below meth c cX12_cutAll D kA Z A Q w) (hF : 7 ≤ R.frames) (hL : 162 ≤ R.locals) {R_9 : Int32 × Int32 × RSt → Option (Int32 × RSt)} {l1 : Int32} {l2 : Int32} (hR_9 : ∀ (l1 : Int32) (l2 : Int32) (u : RSt), R_9 (l1, l2, u) = some (r, w) → ∀ (H : Heap) (locs : List Loc) (ls : Array Slot), RS D kA Z A s u H locs → lv_has ls 4 [(0, .ref (Z 200)), (1, .int l1), (2, .int l2)] → W p l e R s m args below meth c H locs 0 0 Q (F0 m 9 ls [])) {u : RSt} (h : B_cutAll_9 N R_9 l1 l2 u = some (r, w)) (hS : RS D kA Z A s u H locs) (hl : lv_has ls 4 [(0, .ref (Z 200)), (1, .int l1), (2, .int l2)]) : W p l e R s m args below meth c H locs 0 0 Q (F0 m 9 ls []) := by
  obtain ⟨⟨hx, hb, hml, hown, hts⟩, hK, hEV, hA⟩ := id X
  have hG : ∀ w ∈ GW, w.before args s = true := fun w h => hts w (List.mem_cons_of_mem _ h)
  unfold B_cutAll_9 at h
  refine lv_iload_n hx hb dX12_cutAll_9 rfl (lv_at hl 2 rfl) ?_
  refine lv_if_eq (tgt := 182) hx hb dX12_cutAll_10 (by decide) (fun c_31 => ?_) (fun c_31 => ?_)
  · have h := ip (c_31) h
    obtain ⟨-, rfl⟩ := so h
    exact hE _ _ _ _ hS dX12_cutAll_182
  · have h := im (c_31) h
    refine lv_iconst (v := 1) hx hb dX12_cutAll_13 (by decide) ?_
    refine lv_istore_n (lv' := [(3, .int 1), (0, .ref (Z 200)), (1, .int l1), (2, .int l2)]) hx hb dX12_cutAll_14 rfl hl (by decide) rfl (fun ls hl => ?_)
    exact bl_cutAll_15 X hE hF hL hR_9 _ _ _ _ _ h _ _ _ hS (lv_sub hl [1, 2, 3, 0] rfl)
def LP_cutAll_9 (N : Nat) : Nat → Int32 × Int32 × RSt → Option (Int32 × RSt) := lp (fun R a => B_cutAll_9 N R a.1 a.2.1 a.2.2)
theorem bl_cutAll_9 {r : Int32} (X : RC p s m args c cX12_cutAll 4 (Cond.code yX12_cutAll cX12_cutAll 4 none) D kA V A) (hE : REv p l e R s m args below meth c cX12_cutAll D kA Z A Q w) (hF : 7 ≤ R.frames) (hL : 162 ≤ R.locals)  : ∀ (n : Nat) (l1 : Int32) (l2 : Int32) (u : RSt), LP_cutAll_9 N n (l1, l2, u) = some (r, w) → ∀ (H : Heap) (locs : List Loc) (ls : Array Slot), RS D kA Z A s u H locs → lv_has ls 4 [(0, .ref (Z 200)), (1, .int l1), (2, .int l2)] → W p l e R s m args below meth c H locs 0 0 Q (F0 m 9 ls []) := by
  intro n
  induction n with
  | zero => intro l1 l2 u h; exact nomatch h
  | succ n ih => intro l1 l2 u h H locs ls hS hl; exact b_cutAll_9 (N := N) (R_9 := LP_cutAll_9 N n) X hE hF hL  ih h hS hl
def B_cutAll_0 (N : Nat) (u : RSt) : Option (Int32 × RSt) := pu (sI u 8 0) fun u_32 => LP_cutAll_9 N N (0, 1, u_32)
set_option maxHeartbeats 4000000 in
theorem b_cutAll_0 {r : Int32} (X : RC p s m args c cX12_cutAll 4 (Cond.code yX12_cutAll cX12_cutAll 4 none) D kA V A) (hE : REv p l e R s m args below meth c cX12_cutAll D kA Z A Q w) (hF : 7 ≤ R.frames) (hL : 162 ≤ R.locals)  {u : RSt} (h : B_cutAll_0 N u = some (r, w)) (hS : RS D kA Z A s u H locs) (hl : lv_has ls 4 [(0, .ref (Z 200))]) : W p l e R s m args below meth c H locs 0 0 Q (F0 m 0 ls []) := by
  obtain ⟨⟨hx, hb, hml, hown, hts⟩, hK, hEV, hA⟩ := id X
  have hG : ∀ w ∈ GW, w.before args s = true := fun w h => hts w (List.mem_cons_of_mem _ h)
  unfold B_cutAll_0 at h
  refine lv_aload_n hx hb dX12_cutAll_0 rfl (lv_at hl 0 rfl) ?_
  refine lv_iconst (v := 0) hx hb dX12_cutAll_1 (by decide) ?_
  obtain ⟨u_32, e_u_32, h⟩ := pu_of h
  refine rp_8 X hS e_u_32 dX12_cutAll_2 (fun H locs hS => ?_)
  refine lv_iconst (v := 0) hx hb dX12_cutAll_5 (by decide) ?_
  refine lv_istore_n (lv' := [(1, .int 0), (0, .ref (Z 200))]) hx hb dX12_cutAll_6 rfl hl (by decide) rfl (fun ls hl => ?_)
  refine lv_iconst (v := 1) hx hb dX12_cutAll_7 (by decide) ?_
  refine lv_istore_n (lv' := [(2, .int 1), (1, .int 0), (0, .ref (Z 200))]) hx hb dX12_cutAll_8 rfl hl (by decide) rfl (fun ls hl => ?_)
  exact bl_cutAll_9 X hE hF hL  _ _ _ _ h _ _ _ hS (lv_sub hl [2, 1, 0] rfl)
def F_cutAll (N : Nat) (u : RSt) : Option (Int32 × RSt) := B_cutAll_0 N u
set_option maxHeartbeats 4000000 in
theorem k_cutAll (l : Launch) (D : va_G) (kA : Nat → ClassId) (V Z : Nat → Nat) (N : Nat) (u : RSt) (sz : Nat) {r : Int32} {w : RSt} (h : F_cutAll N u = some (r, w)) : Met l yX12_cutAll (Cond.code yX12_cutAll cX12_cutAll 4 none :: GW) { frames := 7, cells := 0, slots := 0, locals := 162 } (rPc D kA V Z [] u sz) (rQv D kA Z u sz w) 0 0 (va_A (RW kA Z u) sz) := by
  refine Met.ofW (cc := cX12_cutAll) (maxL := 4) (ret := none) (by decide) rfl ?_
  intro p e s m args below meth c s₁ Bd hml hv
  obtain ⟨rfl, hsz, hP, hK, hD0, hE⟩ := hv
  have hts := atoms_spec (ws := Cond.code yX12_cutAll cX12_cutAll 4 none :: GW) Bd.pre
  have hl := lv_entry (.ref (Z 200) :: []) (n := 4) (Nat.le_of_ble_eq_true rfl)
  rw [lg_entry_eq]
  generalize (lg_sl (.ref (Z 200) :: []) ++ List.replicate (4 - (lg_sl (.ref (Z 200) :: [])).length) Slot.unset).toArray = ls at hl ⊢
  have hl : lv_has ls 4 [(0, .ref (Z 200))] := hl
  subst hsz
  have X : RC p s m (.ref (Z 200) :: []).toArray c cX12_cutAll 4 (Cond.code yX12_cutAll cX12_cutAll 4 none) D kA V (va_A (RW kA Z u) s.heap.size) := ⟨⟨Bd.exec, Bd.bytes, hml, findClass_of_methodNamed Bd.named, hts⟩, hK, hE, fun q h => Or.inr h⟩
  exact b_cutAll_0 X (rend_v (cy := cX12_cutAll) X Bd.returns Bd.notSynchronized) (Nat.le_refl _) (Nat.le_refl _) h ⟨hP, hD0.self, va_S.rf⟩ (lv_sub hl [0] rfl)
theorem kc_cutAll {r : Int32} {cc : ByteArray} {pc nL : Nat} {c0 : Cond} {rest : List Value} {u : RSt} (X : RC p s m args c cc nL c0 D kA V A) (hS : RS D kA Z A s u H locs) (h : F_cutAll N u = some (r, w)) (hF : 7 + 1 ≤ R.frames) (hL : 8 + (4 + 11) + 162 ≤ R.locals) (hl : ls.size = nL) (hc : (rest.map fun v => v.category).sum ≤ 8) (hdg : decode cc pc = .ok (.invokevirtual 712, 3)) (kk : ∀ H locs, RS D kA Z A s w H locs → W p l e R s m args below meth c H locs 0 0 Q (F0 m (pc + 3) ls (rest))) : W p l e R s m args below meth c H locs 0 0 Q (F0 m pc ls (.ref (Z 200) :: rest)) :=
  rcall_v (n := 0) X hS (k_cutAll l D kA V Z N  u H.size h) (gw_V gw_2262 gw_2264 gs_7_7 gw_16 gw_2265) (by decide +kernel) hF hL rfl hl hc rfl hdg kk
def B_eight_101 (N : Nat) (R_9 : Int64 × Int32 × RSt → Option (Int32 × RSt)) (l1 : Int64) (l3 : Int32) (u : RSt) : Option (Int32 × RSt) := R_9 (l1, (l3 + 1), u)
set_option maxHeartbeats 4000000 in
theorem b_eight_101 {r : Int32} (X : RC p s m args c cX12_eight 4 (Cond.code yX12_eight cX12_eight 4 none) D kA V A) (hE : REv p l e R s m args below meth c cX12_eight D kA Z A Q w) (hF : 4 ≤ R.frames) (hL : 85 ≤ R.locals) {R_9 : Int64 × Int32 × RSt → Option (Int32 × RSt)} {l1 : Int64} {l3 : Int32} (hR_9 : ∀ (l1 : Int64) (l3 : Int32) (u : RSt), R_9 (l1, l3, u) = some (r, w) → ∀ (H : Heap) (locs : List Loc) (ls : Array Slot), RS D kA Z A s u H locs → lv_has ls 4 [(0, .ref (Z 200)), (1, .long l1), (3, .int l3)] → W p l e R s m args below meth c H locs 0 0 Q (F0 m 9 ls [])) {u : RSt} (h : B_eight_101 N R_9 l1 l3 u = some (r, w)) (hS : RS D kA Z A s u H locs) (hl : lv_has ls 4 [(0, .ref (Z 200)), (1, .long l1), (3, .int l3)]) : W p l e R s m args below meth c H locs 0 0 Q (F0 m 101 ls []) := by
  obtain ⟨⟨hx, hb, hml, hown, hts⟩, hK, hEV, hA⟩ := id X
  have hG : ∀ w ∈ GW, w.before args s = true := fun w h => hts w (List.mem_cons_of_mem _ h)
  unfold B_eight_101 at h
  refine lv_iinc (v := l3 + 1) (lv' := [(3, .int (l3 + 1)), (0, .ref (Z 200)), (1, .long l1)]) hx hb dX12_eight_101 hl (k := 2) rfl rfl (by decide) rfl (fun ls hl => ?_)
  refine lv_goto (tgt := 9) hx hb dX12_eight_104 (by decide) ?_
  exact hR_9 _ _ _ h _ _ _ hS (lv_sub hl [1, 2, 0] rfl)
def B_eight_9 (N : Nat) (R_9 : Int64 × Int32 × RSt → Option (Int32 × RSt)) (l1 : Int64) (l3 : Int32) (u : RSt) : Option (Int32 × RSt) := if (34 : Int32) ≤ l3 then (some (0, u)) else (rd ch_2 34 l3 fun v_2 => if v_2 = (32 : Int32) then (wr 180 (u.1 61) (sB u 57 (u.1 61).toNatClampNeg l1) fun u_5 => wr 180 (u_5.1 61) (sB u_5 58 (u_5.1 61).toNatClampNeg 0) fun u_7 => wr 180 (u_7.1 61) (sA u_7 59 (u_7.1 61).toNatClampNeg 5) fun u_9 => wr 180 (u_9.1 61) (sA u_9 60 (u_9.1 61).toNatClampNeg (u_9.1 61)) fun u_11 => pu (sI u_11 61 ((u_11.1 61) + 1)) fun u_13 => B_eight_101 N R_9 0 l3 u_13) else (rd ch_2 34 l3 fun v_14 => B_eight_101 N R_9 (r_half l1 v_14) l3 u))
set_option maxHeartbeats 4000000 in
theorem b_eight_9 {r : Int32} (X : RC p s m args c cX12_eight 4 (Cond.code yX12_eight cX12_eight 4 none) D kA V A) (hE : REv p l e R s m args below meth c cX12_eight D kA Z A Q w) (hF : 4 ≤ R.frames) (hL : 85 ≤ R.locals) {R_9 : Int64 × Int32 × RSt → Option (Int32 × RSt)} {l1 : Int64} {l3 : Int32} (hR_9 : ∀ (l1 : Int64) (l3 : Int32) (u : RSt), R_9 (l1, l3, u) = some (r, w) → ∀ (H : Heap) (locs : List Loc) (ls : Array Slot), RS D kA Z A s u H locs → lv_has ls 4 [(0, .ref (Z 200)), (1, .long l1), (3, .int l3)] → W p l e R s m args below meth c H locs 0 0 Q (F0 m 9 ls [])) {u : RSt} (h : B_eight_9 N R_9 l1 l3 u = some (r, w)) (hS : RS D kA Z A s u H locs) (hl : lv_has ls 4 [(0, .ref (Z 200)), (1, .long l1), (3, .int l3)]) : W p l e R s m args below meth c H locs 0 0 Q (F0 m 9 ls []) := by
  obtain ⟨⟨hx, hb, hml, hown, hts⟩, hK, hEV, hA⟩ := id X
  have hG : ∀ w ∈ GW, w.before args s = true := fun w h => hts w (List.mem_cons_of_mem _ h)
  unfold B_eight_9 at h
  refine lv_iload_n hx hb dX12_eight_9 rfl (lv_at hl 2 rfl) ?_
  refine ax_ldcW hx hb hown (hEV.2.2.2.2.1).1 dX12_eight_10 ?_
  refine kc_length_2 X hS (Nat.le_trans (Nat.le_of_ble_eq_true rfl) hF) (Nat.le_trans (Nat.le_of_ble_eq_true rfl) hL) hl.1 (Nat.le_of_ble_eq_true rfl) dX12_eight_13 (fun H locs hS => ?_)
  refine lv_icmp_ge (tgt := 107) hx hb dX12_eight_16 (by decide) (fun c_1 => ?_) (fun c_1 => ?_)
  · have h := ip (c_1) h
    obtain ⟨-, rfl⟩ := so h
    exact hE _ _ _ _ hS dX12_eight_107
  · have h := im (c_1) h
    refine ax_ldcW hx hb hown (hEV.2.2.2.2.1).1 dX12_eight_19 ?_
    refine lv_iload_n hx hb dX12_eight_22 rfl (lv_at hl 2 rfl) ?_
    obtain ⟨v_2, e_v_2, i_3, h⟩ := rd_of h
    refine kc_charAt_2 X hS i_3 e_v_2 (Nat.le_trans (Nat.le_of_ble_eq_true rfl) hF) (Nat.le_trans (Nat.le_of_ble_eq_true rfl) hL) hl.1 (Nat.le_of_ble_eq_true rfl) dX12_eight_23 (fun H locs hS => ?_)
    refine lv_bipush (v := 32) hx hb dX12_eight_26 (by decide) ?_
    refine lv_icmp_eq (tgt := 46) hx hb dX12_eight_28 (by decide) (fun c_4 => ?_) (fun c_4 => ?_)
    · have h := ip (c_4) h
      refine lv_aload_n hx hb dX12_eight_46 rfl (lv_at hl 0 rfl) ?_
      refine rg_57 X hS dX12_eight_47 ?_
      refine lv_aload_n hx hb dX12_eight_50 rfl (lv_at hl 0 rfl) ?_
      refine rg_61 X hS dX12_eight_51 ?_
      refine lv_lload_n hx hb dX12_eight_54 rfl (lv_at hl 1 rfl) ?_
      obtain ⟨u_5, e_u_5, i_6, h⟩ := wr_of h
      refine rs_57 X hS i_6 e_u_5 dX12_eight_55 (fun H locs hS => ?_)
      refine lv_aload_n hx hb dX12_eight_56 rfl (lv_at hl 0 rfl) ?_
      refine rg_58 X hS dX12_eight_57 ?_
      refine lv_aload_n hx hb dX12_eight_60 rfl (lv_at hl 0 rfl) ?_
      refine rg_61 X hS dX12_eight_61 ?_
      refine lv_lconst (v := 0) hx hb dX12_eight_64 (by decide) ?_
      obtain ⟨u_7, e_u_7, i_8, h⟩ := wr_of h
      refine rs_58 X hS i_8 e_u_7 dX12_eight_65 (fun H locs hS => ?_)
      refine lv_aload_n hx hb dX12_eight_66 rfl (lv_at hl 0 rfl) ?_
      refine rg_59 X hS dX12_eight_67 ?_
      refine lv_aload_n hx hb dX12_eight_70 rfl (lv_at hl 0 rfl) ?_
      refine rg_61 X hS dX12_eight_71 ?_
      refine lv_iconst (v := 5) hx hb dX12_eight_74 (by decide) ?_
      obtain ⟨u_9, e_u_9, i_10, h⟩ := wr_of h
      refine rs_59 X hS i_10 e_u_9 dX12_eight_75 (fun H locs hS => ?_)
      refine lv_aload_n hx hb dX12_eight_76 rfl (lv_at hl 0 rfl) ?_
      refine rg_60 X hS dX12_eight_77 ?_
      refine lv_aload_n hx hb dX12_eight_80 rfl (lv_at hl 0 rfl) ?_
      refine rg_61 X hS dX12_eight_81 ?_
      refine lv_aload_n hx hb dX12_eight_84 rfl (lv_at hl 0 rfl) ?_
      refine rg_61 X hS dX12_eight_85 ?_
      obtain ⟨u_11, e_u_11, i_12, h⟩ := wr_of h
      refine rs_60 X hS i_12 e_u_11 dX12_eight_88 (fun H locs hS => ?_)
      refine lv_aload_n hx hb dX12_eight_89 rfl (lv_at hl 0 rfl) ?_
      refine lv_dup hx hb dX12_eight_90 rfl ?_
      refine rg_61 X hS dX12_eight_91 ?_
      refine lv_iconst (v := 1) hx hb dX12_eight_94 (by decide) ?_
      refine lv_iadd hx hb dX12_eight_95 ?_
      obtain ⟨u_13, e_u_13, h⟩ := pu_of h
      refine rp_61 X hS e_u_13 dX12_eight_96 (fun H locs hS => ?_)
      refine lv_lconst (v := 0) hx hb dX12_eight_99 (by decide) ?_
      refine lv_lstore_n (lv' := [(1, .long 0), (0, .ref (Z 200)), (3, .int l3)]) hx hb dX12_eight_100 rfl hl (by decide) rfl (fun ls hl => ?_)
      exact b_eight_101 X hE hF hL hR_9 h hS (lv_sub hl [1, 0, 2] rfl)
    · have h := im (c_4) h
      refine lv_lload_n hx hb dX12_eight_31 rfl (lv_at hl 1 rfl) ?_
      refine ax_ldcW hx hb hown (hEV.2.2.2.2.1).1 dX12_eight_32 ?_
      refine lv_iload_n hx hb dX12_eight_35 rfl (lv_at hl 2 rfl) ?_
      obtain ⟨v_14, e_v_14, i_15, h⟩ := rd_of h
      refine kc_charAt_2 X hS i_15 e_v_14 (Nat.le_trans (Nat.le_of_ble_eq_true rfl) hF) (Nat.le_trans (Nat.le_of_ble_eq_true rfl) hL) hl.1 (Nat.le_of_ble_eq_true rfl) dX12_eight_36 (fun H locs hS => ?_)
      refine vp_callSl (W.runS (As := [.long l1, .int v_14]) (rest := []) X.1 (c_X12_half l l1 v_14) (va_cwS 2 hts (gw_P gw_2298 gw_2299 gw_16 gwp_X12_half) rfl rfl rfl (by decide +kernel) ⟨Nat.le_trans (Nat.le_of_ble_eq_true rfl) hF, Nat.le_trans (Nat.le_of_ble_eq_true rfl) hL⟩) ⟨fun _ _ _ _ q => q, fun _ _ _ => ⟨rfl, trivial⟩⟩ rfl rfl hl.1 rfl (lv_room (Nat.le_of_ble_eq_true rfl)) dX12_eight_39 ⟨Nat.zero_le _, Nat.zero_le _⟩) (fun r_16 q_17 => ?_)
      subst q_17
      refine lv_lstore_n (lv' := [(1, .long (r_half l1 v_14)), (0, .ref (Z 200)), (3, .int l3)]) hx hb dX12_eight_42 rfl hl (by decide) rfl (fun ls hl => ?_)
      refine lv_goto (tgt := 101) hx hb dX12_eight_43 (by decide) ?_
      exact b_eight_101 X hE hF hL hR_9 h hS (lv_sub hl [1, 0, 2] rfl)
def LP_eight_9 (N : Nat) : Nat → Int64 × Int32 × RSt → Option (Int32 × RSt) := lp (fun R a => B_eight_9 N R a.1 a.2.1 a.2.2)
theorem bl_eight_9 {r : Int32} (X : RC p s m args c cX12_eight 4 (Cond.code yX12_eight cX12_eight 4 none) D kA V A) (hE : REv p l e R s m args below meth c cX12_eight D kA Z A Q w) (hF : 4 ≤ R.frames) (hL : 85 ≤ R.locals)  : ∀ (n : Nat) (l1 : Int64) (l3 : Int32) (u : RSt), LP_eight_9 N n (l1, l3, u) = some (r, w) → ∀ (H : Heap) (locs : List Loc) (ls : Array Slot), RS D kA Z A s u H locs → lv_has ls 4 [(0, .ref (Z 200)), (1, .long l1), (3, .int l3)] → W p l e R s m args below meth c H locs 0 0 Q (F0 m 9 ls []) := by
  intro n
  induction n with
  | zero => intro l1 l3 u h; exact nomatch h
  | succ n ih => intro l1 l3 u h H locs ls hS hl; exact b_eight_9 (N := N) (R_9 := LP_eight_9 N n) X hE hF hL  ih h hS hl
def B_eight_0 (N : Nat) (u : RSt) : Option (Int32 × RSt) := pu (sI u 61 0) fun u_18 => LP_eight_9 N N (0, 0, u_18)
set_option maxHeartbeats 4000000 in
theorem b_eight_0 {r : Int32} (X : RC p s m args c cX12_eight 4 (Cond.code yX12_eight cX12_eight 4 none) D kA V A) (hE : REv p l e R s m args below meth c cX12_eight D kA Z A Q w) (hF : 4 ≤ R.frames) (hL : 85 ≤ R.locals)  {u : RSt} (h : B_eight_0 N u = some (r, w)) (hS : RS D kA Z A s u H locs) (hl : lv_has ls 4 [(0, .ref (Z 200))]) : W p l e R s m args below meth c H locs 0 0 Q (F0 m 0 ls []) := by
  obtain ⟨⟨hx, hb, hml, hown, hts⟩, hK, hEV, hA⟩ := id X
  have hG : ∀ w ∈ GW, w.before args s = true := fun w h => hts w (List.mem_cons_of_mem _ h)
  unfold B_eight_0 at h
  refine lv_aload_n hx hb dX12_eight_0 rfl (lv_at hl 0 rfl) ?_
  refine lv_iconst (v := 0) hx hb dX12_eight_1 (by decide) ?_
  obtain ⟨u_18, e_u_18, h⟩ := pu_of h
  refine rp_61 X hS e_u_18 dX12_eight_2 (fun H locs hS => ?_)
  refine lv_lconst (v := 0) hx hb dX12_eight_5 (by decide) ?_
  refine lv_lstore_n (lv' := [(1, .long 0), (0, .ref (Z 200))]) hx hb dX12_eight_6 rfl hl (by decide) rfl (fun ls hl => ?_)
  refine lv_iconst (v := 0) hx hb dX12_eight_7 (by decide) ?_
  refine lv_istore_n (lv' := [(3, .int 0), (1, .long 0), (0, .ref (Z 200))]) hx hb dX12_eight_8 rfl hl (by decide) rfl (fun ls hl => ?_)
  exact bl_eight_9 X hE hF hL  _ _ _ _ h _ _ _ hS (lv_sub hl [2, 1, 0] rfl)
def F_eight (N : Nat) (u : RSt) : Option (Int32 × RSt) := B_eight_0 N u
set_option maxHeartbeats 4000000 in
theorem k_eight (l : Launch) (D : va_G) (kA : Nat → ClassId) (V Z : Nat → Nat) (N : Nat) (u : RSt) (sz : Nat) {r : Int32} {w : RSt} (h : F_eight N u = some (r, w)) : Met l yX12_eight (Cond.code yX12_eight cX12_eight 4 none :: GW) { frames := 4, cells := 0, slots := 0, locals := 85 } (rPc D kA V Z [] u sz) (rQv D kA Z u sz w) 0 0 (va_A (RW kA Z u) sz) := by
  refine Met.ofW (cc := cX12_eight) (maxL := 4) (ret := none) (by decide) rfl ?_
  intro p e s m args below meth c s₁ Bd hml hv
  obtain ⟨rfl, hsz, hP, hK, hD0, hE⟩ := hv
  have hts := atoms_spec (ws := Cond.code yX12_eight cX12_eight 4 none :: GW) Bd.pre
  have hl := lv_entry (.ref (Z 200) :: []) (n := 4) (Nat.le_of_ble_eq_true rfl)
  rw [lg_entry_eq]
  generalize (lg_sl (.ref (Z 200) :: []) ++ List.replicate (4 - (lg_sl (.ref (Z 200) :: [])).length) Slot.unset).toArray = ls at hl ⊢
  have hl : lv_has ls 4 [(0, .ref (Z 200))] := hl
  subst hsz
  have X : RC p s m (.ref (Z 200) :: []).toArray c cX12_eight 4 (Cond.code yX12_eight cX12_eight 4 none) D kA V (va_A (RW kA Z u) s.heap.size) := ⟨⟨Bd.exec, Bd.bytes, hml, findClass_of_methodNamed Bd.named, hts⟩, hK, hE, fun q h => Or.inr h⟩
  exact b_eight_0 X (rend_v (cy := cX12_eight) X Bd.returns Bd.notSynchronized) (Nat.le_refl _) (Nat.le_refl _) h ⟨hP, hD0.self, va_S.rf⟩ (lv_sub hl [0] rfl)
theorem kc_eight {r : Int32} {cc : ByteArray} {pc nL : Nat} {c0 : Cond} {rest : List Value} {u : RSt} (X : RC p s m args c cc nL c0 D kA V A) (hS : RS D kA Z A s u H locs) (h : F_eight N u = some (r, w)) (hF : 4 + 1 ≤ R.frames) (hL : 8 + (4 + 11) + 85 ≤ R.locals) (hl : ls.size = nL) (hc : (rest.map fun v => v.category).sum ≤ 8) (hdg : decode cc pc = .ok (.invokevirtual 718, 3)) (kk : ∀ H locs, RS D kA Z A s w H locs → W p l e R s m args below meth c H locs 0 0 Q (F0 m (pc + 3) ls (rest))) : W p l e R s m args below meth c H locs 0 0 Q (F0 m pc ls (.ref (Z 200) :: rest)) :=
  rcall_v (n := 0) X hS (k_eight l D kA V Z N  u H.size h) (gw_V gw_2580 gw_2582 gs_11_12 gw_16 gw_2583) (by decide +kernel) hF hL rfl hl hc rfl hdg kk
def B_load_171 (N : Nat) (l1 : Int32) (s1 : Int32) (u : RSt) : Option (Int32 × RSt) := pu (sI u 106 s1) fun u_1 => if (u_1.1 67) = (0 : Int32) then (bn (F_accept N l1 u_1) fun _ u_3 => some (u_3.1 67, u_3)) else (some (u_1.1 67, u_1))
set_option maxHeartbeats 4000000 in
theorem b_load_171 {r : Int32} (X : RC p s m args c cX12_load 3 (Cond.code yX12_load cX12_load 3 (some .int)) D kA V A) (hE : REi p l e R s m args below meth c cX12_load D kA Z A Q r w) (hF : 534 ≤ R.frames) (hL : 32089 ≤ R.locals) {l1 : Int32} {s1 : Int32}  {u : RSt} (h : B_load_171 N l1 s1 u = some (r, w)) (hS : RS D kA Z A s u H locs) (hl : lv_has ls 3 [(0, .ref (Z 200)), (1, .int l1)]) : W p l e R s m args below meth c H locs 0 0 Q (F0 m 171 ls [.int s1, .ref (Z 200)]) := by
  obtain ⟨⟨hx, hb, hml, hown, hts⟩, hK, hEV, hA⟩ := id X
  have hG : ∀ w ∈ GW, w.before args s = true := fun w h => hts w (List.mem_cons_of_mem _ h)
  unfold B_load_171 at h
  obtain ⟨u_1, e_u_1, h⟩ := pu_of h
  refine rp_106 X hS e_u_1 dX12_load_171 (fun H locs hS => ?_)
  refine lv_aload_n hx hb dX12_load_174 rfl (lv_at hl 0 rfl) ?_
  refine rg_67 X hS dX12_load_175 ?_
  refine lv_if_ne (tgt := 186) hx hb dX12_load_178 (by decide) (fun c_2 => ?_) (fun c_2 => ?_)
  · have h := im (c_2) h
    refine lv_aload_n hx hb dX12_load_186 rfl (lv_at hl 0 rfl) ?_
    refine rg_67 X hS dX12_load_187 ?_
    obtain ⟨rfl, rfl⟩ := so h
    exact hE _ _ _ _ hS dX12_load_190
  · have h := ip (c_2) h
    refine lv_aload_n hx hb dX12_load_181 rfl (lv_at hl 0 rfl) ?_
    refine lv_iload_n hx hb dX12_load_182 rfl (lv_at hl 1 rfl) ?_
    obtain ⟨r_u_3, u_3, h_u_3, h⟩ := bn_of h
    refine kc_accept X hS h_u_3 (Nat.le_trans (Nat.le_of_ble_eq_true rfl) hF) (Nat.le_trans (Nat.le_of_ble_eq_true rfl) hL) hl.1 (Nat.le_of_ble_eq_true rfl) dX12_load_183 (fun H locs hS => ?_)
    refine lv_aload_n hx hb dX12_load_186 rfl (lv_at hl 0 rfl) ?_
    refine rg_67 X hS dX12_load_187 ?_
    obtain ⟨rfl, rfl⟩ := so h
    exact hE _ _ _ _ hS dX12_load_190
def B_load_150 (N : Nat) (l1 : Int32) (u : RSt) : Option (Int32 × RSt) := pu (sI u 1 0) fun u_4 => if (u_4.1 67) = (0 : Int32) then (B_load_171 N l1 (-1) u_4) else (B_load_171 N l1 (u_4.1 68) u_4)
set_option maxHeartbeats 4000000 in
theorem b_load_150 {r : Int32} (X : RC p s m args c cX12_load 3 (Cond.code yX12_load cX12_load 3 (some .int)) D kA V A) (hE : REi p l e R s m args below meth c cX12_load D kA Z A Q r w) (hF : 534 ≤ R.frames) (hL : 32089 ≤ R.locals) {l1 : Int32}  {u : RSt} (h : B_load_150 N l1 u = some (r, w)) (hS : RS D kA Z A s u H locs) (hl : lv_has ls 3 [(0, .ref (Z 200)), (1, .int l1)]) : W p l e R s m args below meth c H locs 0 0 Q (F0 m 150 ls []) := by
  obtain ⟨⟨hx, hb, hml, hown, hts⟩, hK, hEV, hA⟩ := id X
  have hG : ∀ w ∈ GW, w.before args s = true := fun w h => hts w (List.mem_cons_of_mem _ h)
  unfold B_load_150 at h
  refine lv_aload_n hx hb dX12_load_150 rfl (lv_at hl 0 rfl) ?_
  refine lv_iconst (v := 0) hx hb dX12_load_151 (by decide) ?_
  obtain ⟨u_4, e_u_4, h⟩ := pu_of h
  refine rp_1 X hS e_u_4 dX12_load_152 (fun H locs hS => ?_)
  refine lv_aload_n hx hb dX12_load_155 rfl (lv_at hl 0 rfl) ?_
  refine lv_aload_n hx hb dX12_load_156 rfl (lv_at hl 0 rfl) ?_
  refine rg_67 X hS dX12_load_157 ?_
  refine lv_if_ne (tgt := 167) hx hb dX12_load_160 (by decide) (fun c_5 => ?_) (fun c_5 => ?_)
  · have h := im (c_5) h
    refine lv_aload_n hx hb dX12_load_167 rfl (lv_at hl 0 rfl) ?_
    refine rg_68 X hS dX12_load_168 ?_
    exact b_load_171 X hE hF hL  h hS (lv_sub hl [0, 1] rfl)
  · have h := ip (c_5) h
    refine lv_iconst (v := (-1)) hx hb dX12_load_163 (by decide) ?_
    refine lv_goto (tgt := 171) hx hb dX12_load_164 (by decide) ?_
    exact b_load_171 X hE hF hL  h hS (lv_sub hl [0, 1] rfl)
def B_load_123 (N : Nat) (R_123 : Int32 × Int32 × RSt → Option (Int32 × RSt)) (l1 : Int32) (l2 : Int32) (u : RSt) : Option (Int32 × RSt) := if (5 : Int32) ≤ l2 then (bn (F_eight N u) fun _ u_7 => bn (F_goThrough N 1 u_7) fun _ u_8 => B_load_150 N l1 u_8) else (wr 5 l2 (sA u 64 l2.toNatClampNeg 0) fun u_9 => R_123 (l1, (l2 + 1), u_9))
set_option maxHeartbeats 4000000 in
theorem b_load_123 {r : Int32} (X : RC p s m args c cX12_load 3 (Cond.code yX12_load cX12_load 3 (some .int)) D kA V A) (hE : REi p l e R s m args below meth c cX12_load D kA Z A Q r w) (hF : 534 ≤ R.frames) (hL : 32089 ≤ R.locals) {R_123 : Int32 × Int32 × RSt → Option (Int32 × RSt)} {l1 : Int32} {l2 : Int32} (hR_123 : ∀ (l1 : Int32) (l2 : Int32) (u : RSt), R_123 (l1, l2, u) = some (r, w) → ∀ (H : Heap) (locs : List Loc) (ls : Array Slot), RS D kA Z A s u H locs → lv_has ls 3 [(0, .ref (Z 200)), (1, .int l1), (2, .int l2)] → W p l e R s m args below meth c H locs 0 0 Q (F0 m 123 ls [])) {u : RSt} (h : B_load_123 N R_123 l1 l2 u = some (r, w)) (hS : RS D kA Z A s u H locs) (hl : lv_has ls 3 [(0, .ref (Z 200)), (1, .int l1), (2, .int l2)]) : W p l e R s m args below meth c H locs 0 0 Q (F0 m 123 ls []) := by
  obtain ⟨⟨hx, hb, hml, hown, hts⟩, hK, hEV, hA⟩ := id X
  have hG : ∀ w ∈ GW, w.before args s = true := fun w h => hts w (List.mem_cons_of_mem _ h)
  unfold B_load_123 at h
  refine lv_iload_n hx hb dX12_load_123 rfl (lv_at hl 2 rfl) ?_
  refine lv_iconst (v := 5) hx hb dX12_load_124 (by decide) ?_
  refine lv_icmp_ge (tgt := 141) hx hb dX12_load_125 (by decide) (fun c_6 => ?_) (fun c_6 => ?_)
  · have h := ip (c_6) h
    refine lv_aload_n hx hb dX12_load_141 rfl (lv_at hl 0 rfl) ?_
    obtain ⟨r_u_7, u_7, h_u_7, h⟩ := bn_of h
    refine kc_eight X hS h_u_7 (Nat.le_trans (Nat.le_of_ble_eq_true rfl) hF) (Nat.le_trans (Nat.le_of_ble_eq_true rfl) hL) hl.1 (Nat.le_of_ble_eq_true rfl) dX12_load_142 (fun H locs hS => ?_)
    refine lv_aload_n hx hb dX12_load_145 rfl (lv_at hl 0 rfl) ?_
    refine lv_iconst (v := 1) hx hb dX12_load_146 (by decide) ?_
    obtain ⟨r_u_8, u_8, h_u_8, h⟩ := bn_of h
    refine kc_goThrough X hS h_u_8 (Nat.le_trans (Nat.le_of_ble_eq_true rfl) hF) (Nat.le_trans (Nat.le_of_ble_eq_true rfl) hL) hl.1 (Nat.le_of_ble_eq_true rfl) dX12_load_147 (fun H locs hS => ?_)
    exact b_load_150 X hE hF hL  h hS (lv_sub hl [0, 1] rfl)
  · have h := im (c_6) h
    refine lv_aload_n hx hb dX12_load_128 rfl (lv_at hl 0 rfl) ?_
    refine rg_64 X hS dX12_load_129 ?_
    refine lv_iload_n hx hb dX12_load_132 rfl (lv_at hl 2 rfl) ?_
    refine lv_iconst (v := 0) hx hb dX12_load_133 (by decide) ?_
    obtain ⟨u_9, e_u_9, i_10, h⟩ := wr_of h
    refine rs_64 X hS i_10 e_u_9 dX12_load_134 (fun H locs hS => ?_)
    refine lv_iinc (v := l2 + 1) (lv' := [(2, .int (l2 + 1)), (0, .ref (Z 200)), (1, .int l1)]) hx hb dX12_load_135 hl (k := 2) rfl rfl (by decide) rfl (fun ls hl => ?_)
    refine lv_goto (tgt := 123) hx hb dX12_load_138 (by decide) ?_
    exact hR_123 _ _ _ h _ _ _ hS (lv_sub hl [1, 2, 0] rfl)
def LP_load_123 (N : Nat) : Nat → Int32 × Int32 × RSt → Option (Int32 × RSt) := lp (fun R a => B_load_123 N R a.1 a.2.1 a.2.2)
theorem bl_load_123 {r : Int32} (X : RC p s m args c cX12_load 3 (Cond.code yX12_load cX12_load 3 (some .int)) D kA V A) (hE : REi p l e R s m args below meth c cX12_load D kA Z A Q r w) (hF : 534 ≤ R.frames) (hL : 32089 ≤ R.locals)  : ∀ (n : Nat) (l1 : Int32) (l2 : Int32) (u : RSt), LP_load_123 N n (l1, l2, u) = some (r, w) → ∀ (H : Heap) (locs : List Loc) (ls : Array Slot), RS D kA Z A s u H locs → lv_has ls 3 [(0, .ref (Z 200)), (1, .int l1), (2, .int l2)] → W p l e R s m args below meth c H locs 0 0 Q (F0 m 123 ls []) := by
  intro n
  induction n with
  | zero => intro l1 l2 u h; exact nomatch h
  | succ n ih => intro l1 l2 u h H locs ls hS hl; exact b_load_123 (N := N) (R_123 := LP_load_123 N n) X hE hF hL  ih h hS hl
def B_load_0 (N : Nat) (l1 : Int32) (u : RSt) : Option (Int32 × RSt) := pu (sI u 9 0) fun u_11 => bn (F_cutAll N u_11) fun _ u_12 => pu (sI u_12 56 (1 - (u_12.1 55))) fun u_13 => pu (sI u_13 67 0) fun u_14 => pu (sI u_14 68 (-1)) fun u_15 => bn (F_goThrough N 0 u_15) fun _ u_16 => if (u_16.1 67) = (0 : Int32) then (wr 2 (u_16.1 56) (sA u_16 19 (u_16.1 56).toNatClampNeg 0) fun u_18 => wr 2 (u_18.1 56) (sA u_18 27 (u_18.1 56).toNatClampNeg 0) fun u_20 => wr 2 (u_20.1 56) (sA u_20 36 (u_20.1 56).toNatClampNeg 0) fun u_22 => wr 2 (u_22.1 56) (sA u_22 37 (u_22.1 56).toNatClampNeg 0) fun u_24 => wr 2 (u_24.1 56) (sA u_24 42 (u_24.1 56).toNatClampNeg 0) fun u_26 => wr 2 (u_26.1 56) (sA u_26 48 (u_26.1 56).toNatClampNeg 0) fun u_28 => wr 2 (u_28.1 56) (sA u_28 54 (u_28.1 56).toNatClampNeg 0) fun u_30 => pu (sI u_30 62 0) fun u_32 => pu (sI u_32 63 0) fun u_33 => LP_load_123 N N (l1, 0, u_33)) else (B_load_150 N l1 u_16)
set_option maxHeartbeats 4000000 in
theorem b_load_0 {r : Int32} (X : RC p s m args c cX12_load 3 (Cond.code yX12_load cX12_load 3 (some .int)) D kA V A) (hE : REi p l e R s m args below meth c cX12_load D kA Z A Q r w) (hF : 534 ≤ R.frames) (hL : 32089 ≤ R.locals) {l1 : Int32}  {u : RSt} (h : B_load_0 N l1 u = some (r, w)) (hS : RS D kA Z A s u H locs) (hl : lv_has ls 3 [(0, .ref (Z 200)), (1, .int l1)]) : W p l e R s m args below meth c H locs 0 0 Q (F0 m 0 ls []) := by
  obtain ⟨⟨hx, hb, hml, hown, hts⟩, hK, hEV, hA⟩ := id X
  have hG : ∀ w ∈ GW, w.before args s = true := fun w h => hts w (List.mem_cons_of_mem _ h)
  unfold B_load_0 at h
  refine lv_aload_n hx hb dX12_load_0 rfl (lv_at hl 0 rfl) ?_
  refine lv_iconst (v := 0) hx hb dX12_load_1 (by decide) ?_
  obtain ⟨u_11, e_u_11, h⟩ := pu_of h
  refine rp_9 X hS e_u_11 dX12_load_2 (fun H locs hS => ?_)
  refine lv_aload_n hx hb dX12_load_5 rfl (lv_at hl 0 rfl) ?_
  obtain ⟨r_u_12, u_12, h_u_12, h⟩ := bn_of h
  refine kc_cutAll X hS h_u_12 (Nat.le_trans (Nat.le_of_ble_eq_true rfl) hF) (Nat.le_trans (Nat.le_of_ble_eq_true rfl) hL) hl.1 (Nat.le_of_ble_eq_true rfl) dX12_load_6 (fun H locs hS => ?_)
  refine lv_aload_n hx hb dX12_load_9 rfl (lv_at hl 0 rfl) ?_
  refine lv_iconst (v := 1) hx hb dX12_load_10 (by decide) ?_
  refine lv_aload_n hx hb dX12_load_11 rfl (lv_at hl 0 rfl) ?_
  refine rg_55 X hS dX12_load_12 ?_
  refine lv_isub hx hb dX12_load_15 ?_
  obtain ⟨u_13, e_u_13, h⟩ := pu_of h
  refine rp_56 X hS e_u_13 dX12_load_16 (fun H locs hS => ?_)
  refine lv_aload_n hx hb dX12_load_19 rfl (lv_at hl 0 rfl) ?_
  refine lv_iconst (v := 0) hx hb dX12_load_20 (by decide) ?_
  obtain ⟨u_14, e_u_14, h⟩ := pu_of h
  refine rp_67 X hS e_u_14 dX12_load_21 (fun H locs hS => ?_)
  refine lv_aload_n hx hb dX12_load_24 rfl (lv_at hl 0 rfl) ?_
  refine lv_iconst (v := (-1)) hx hb dX12_load_25 (by decide) ?_
  obtain ⟨u_15, e_u_15, h⟩ := pu_of h
  refine rp_68 X hS e_u_15 dX12_load_26 (fun H locs hS => ?_)
  refine lv_aload_n hx hb dX12_load_29 rfl (lv_at hl 0 rfl) ?_
  refine lv_iconst (v := 0) hx hb dX12_load_30 (by decide) ?_
  obtain ⟨r_u_16, u_16, h_u_16, h⟩ := bn_of h
  refine kc_goThrough X hS h_u_16 (Nat.le_trans (Nat.le_of_ble_eq_true rfl) hF) (Nat.le_trans (Nat.le_of_ble_eq_true rfl) hL) hl.1 (Nat.le_of_ble_eq_true rfl) dX12_load_31 (fun H locs hS => ?_)
  refine lv_aload_n hx hb dX12_load_34 rfl (lv_at hl 0 rfl) ?_
  refine rg_67 X hS dX12_load_35 ?_
  refine lv_if_ne (tgt := 150) hx hb dX12_load_38 (by decide) (fun c_17 => ?_) (fun c_17 => ?_)
  · have h := im (c_17) h
    exact b_load_150 X hE hF hL  h hS (lv_sub hl [0, 1] rfl)
  · have h := ip (c_17) h
    refine lv_aload_n hx hb dX12_load_41 rfl (lv_at hl 0 rfl) ?_
    refine rg_19 X hS dX12_load_42 ?_
    refine lv_aload_n hx hb dX12_load_45 rfl (lv_at hl 0 rfl) ?_
    refine rg_56 X hS dX12_load_46 ?_
    refine lv_iconst (v := 0) hx hb dX12_load_49 (by decide) ?_
    obtain ⟨u_18, e_u_18, i_19, h⟩ := wr_of h
    refine rs_19 X hS i_19 e_u_18 dX12_load_50 (fun H locs hS => ?_)
    refine lv_aload_n hx hb dX12_load_51 rfl (lv_at hl 0 rfl) ?_
    refine rg_27 X hS dX12_load_52 ?_
    refine lv_aload_n hx hb dX12_load_55 rfl (lv_at hl 0 rfl) ?_
    refine rg_56 X hS dX12_load_56 ?_
    refine lv_iconst (v := 0) hx hb dX12_load_59 (by decide) ?_
    obtain ⟨u_20, e_u_20, i_21, h⟩ := wr_of h
    refine rs_27 X hS i_21 e_u_20 dX12_load_60 (fun H locs hS => ?_)
    refine lv_aload_n hx hb dX12_load_61 rfl (lv_at hl 0 rfl) ?_
    refine rg_36 X hS dX12_load_62 ?_
    refine lv_aload_n hx hb dX12_load_65 rfl (lv_at hl 0 rfl) ?_
    refine rg_56 X hS dX12_load_66 ?_
    refine lv_iconst (v := 0) hx hb dX12_load_69 (by decide) ?_
    obtain ⟨u_22, e_u_22, i_23, h⟩ := wr_of h
    refine rs_36 X hS i_23 e_u_22 dX12_load_70 (fun H locs hS => ?_)
    refine lv_aload_n hx hb dX12_load_71 rfl (lv_at hl 0 rfl) ?_
    refine rg_37 X hS dX12_load_72 ?_
    refine lv_aload_n hx hb dX12_load_75 rfl (lv_at hl 0 rfl) ?_
    refine rg_56 X hS dX12_load_76 ?_
    refine lv_iconst (v := 0) hx hb dX12_load_79 (by decide) ?_
    obtain ⟨u_24, e_u_24, i_25, h⟩ := wr_of h
    refine rs_37 X hS i_25 e_u_24 dX12_load_80 (fun H locs hS => ?_)
    refine lv_aload_n hx hb dX12_load_81 rfl (lv_at hl 0 rfl) ?_
    refine rg_42 X hS dX12_load_82 ?_
    refine lv_aload_n hx hb dX12_load_85 rfl (lv_at hl 0 rfl) ?_
    refine rg_56 X hS dX12_load_86 ?_
    refine lv_iconst (v := 0) hx hb dX12_load_89 (by decide) ?_
    obtain ⟨u_26, e_u_26, i_27, h⟩ := wr_of h
    refine rs_42 X hS i_27 e_u_26 dX12_load_90 (fun H locs hS => ?_)
    refine lv_aload_n hx hb dX12_load_91 rfl (lv_at hl 0 rfl) ?_
    refine rg_48 X hS dX12_load_92 ?_
    refine lv_aload_n hx hb dX12_load_95 rfl (lv_at hl 0 rfl) ?_
    refine rg_56 X hS dX12_load_96 ?_
    refine lv_iconst (v := 0) hx hb dX12_load_99 (by decide) ?_
    obtain ⟨u_28, e_u_28, i_29, h⟩ := wr_of h
    refine rs_48 X hS i_29 e_u_28 dX12_load_100 (fun H locs hS => ?_)
    refine lv_aload_n hx hb dX12_load_101 rfl (lv_at hl 0 rfl) ?_
    refine rg_54 X hS dX12_load_102 ?_
    refine lv_aload_n hx hb dX12_load_105 rfl (lv_at hl 0 rfl) ?_
    refine rg_56 X hS dX12_load_106 ?_
    refine lv_iconst (v := 0) hx hb dX12_load_109 (by decide) ?_
    obtain ⟨u_30, e_u_30, i_31, h⟩ := wr_of h
    refine rs_54 X hS i_31 e_u_30 dX12_load_110 (fun H locs hS => ?_)
    refine lv_aload_n hx hb dX12_load_111 rfl (lv_at hl 0 rfl) ?_
    refine lv_iconst (v := 0) hx hb dX12_load_112 (by decide) ?_
    obtain ⟨u_32, e_u_32, h⟩ := pu_of h
    refine rp_62 X hS e_u_32 dX12_load_113 (fun H locs hS => ?_)
    refine lv_aload_n hx hb dX12_load_116 rfl (lv_at hl 0 rfl) ?_
    refine lv_iconst (v := 0) hx hb dX12_load_117 (by decide) ?_
    obtain ⟨u_33, e_u_33, h⟩ := pu_of h
    refine rp_63 X hS e_u_33 dX12_load_118 (fun H locs hS => ?_)
    refine lv_iconst (v := 0) hx hb dX12_load_121 (by decide) ?_
    refine lv_istore_n (lv' := [(2, .int 0), (0, .ref (Z 200)), (1, .int l1)]) hx hb dX12_load_122 rfl hl (by decide) rfl (fun ls hl => ?_)
    exact bl_load_123 X hE hF hL  _ _ _ _ h _ _ _ hS (lv_sub hl [1, 2, 0] rfl)
def F_load (N : Nat) (l1 : Int32) (u : RSt) : Option (Int32 × RSt) := B_load_0 N l1 u
set_option maxHeartbeats 4000000 in
theorem k_load (l : Launch) (D : va_G) (kA : Nat → ClassId) (V Z : Nat → Nat) (N : Nat) (l1 : Int32) (u : RSt) (sz : Nat) {r : Int32} {w : RSt} (h : F_load N l1 u = some (r, w)) : Met l yX12_load (Cond.code yX12_load cX12_load 3 (some .int) :: GW) { frames := 534, cells := 0, slots := 0, locals := 32089 } (rPc D kA V Z [.int l1] u sz) (rQi D kA Z u sz r w) 0 0 (va_A (RW kA Z u) sz) := by
  refine Met.ofW (cc := cX12_load) (maxL := 3) (ret := (some .int)) (by decide) rfl ?_
  intro p e s m args below meth c s₁ Bd hml hv
  obtain ⟨rfl, hsz, hP, hK, hD0, hE⟩ := hv
  have hts := atoms_spec (ws := Cond.code yX12_load cX12_load 3 (some .int) :: GW) Bd.pre
  have hl := lv_entry (.ref (Z 200) :: [.int l1]) (n := 3) (Nat.le_of_ble_eq_true rfl)
  rw [lg_entry_eq]
  generalize (lg_sl (.ref (Z 200) :: [.int l1]) ++ List.replicate (3 - (lg_sl (.ref (Z 200) :: [.int l1])).length) Slot.unset).toArray = ls at hl ⊢
  have hl : lv_has ls 3 [(0, .ref (Z 200)), (1, .int l1)] := hl
  subst hsz
  have X : RC p s m (.ref (Z 200) :: [.int l1]).toArray c cX12_load 3 (Cond.code yX12_load cX12_load 3 (some .int)) D kA V (va_A (RW kA Z u) s.heap.size) := ⟨⟨Bd.exec, Bd.bytes, hml, findClass_of_methodNamed Bd.named, hts⟩, hK, hE, fun q h => Or.inr h⟩
  exact b_load_0 X (rend_i (cy := cX12_load) X Bd.returns Bd.notSynchronized) (Nat.le_refl _) (Nat.le_refl _) h ⟨hP, hD0.self, va_S.rf⟩ (lv_sub hl [0, 1] rfl)
end ReadRows
