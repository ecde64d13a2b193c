abbrev cX12_body : ByteArray := prog_14_method_66_code
def yX12_body : MethodName := ⟨RX12, "body", "()V"⟩
def yX12_stat : MethodName := ⟨RX12, "stat", "()V"⟩
def yX12_again : MethodName := ⟨RX12, "again", "(I)V"⟩
abbrev cX12_again : ByteArray := prog_14_method_73_code
def yX12_cases : MethodName := ⟨RX12, "cases", "()V"⟩
abbrev cX12_cases : ByteArray := prog_14_method_75_code
def yX12_choice : MethodName := ⟨RX12, "choice", "()V"⟩
abbrev cX12_choice : ByteArray := prog_14_method_70_code
def yX12_counts : MethodName := ⟨RX12, "counts", "(I)V"⟩
abbrev cX12_counts : ByteArray := prog_14_method_74_code
abbrev cX12_stat : ByteArray := prog_14_method_67_code
theorem dX12_body_0 : decode cX12_body 0 = .ok (.aload_n 0, 1) := by decide +kernel
theorem dX12_body_1 : decode cX12_body 1 = .ok (.sipush 225, 3) := by decide +kernel
theorem dX12_body_4 : decode cX12_body 4 = .ok (.invokevirtual 307, 3) := by decide +kernel
theorem dX12_body_7 : decode cX12_body 7 = .ok (.aload_n 0, 1) := by decide +kernel
theorem dX12_body_8 : decode cX12_body 8 = .ok (.getfield 95, 3) := by decide +kernel
theorem dX12_body_11 : decode cX12_body 11 = .ok (.ifCond .ne 20, 3) := by decide +kernel
theorem dX12_body_14 : decode cX12_body 14 = .ok (.aload_n 0, 1) := by decide +kernel
theorem dX12_body_15 : decode cX12_body 15 = .ok (.sipush 226, 3) := by decide +kernel
theorem dX12_body_18 : decode cX12_body 18 = .ok (.invokevirtual 112, 3) := by decide +kernel
theorem dX12_body_21 : decode cX12_body 21 = .ok (.ifCond .ne 10, 3) := by decide +kernel
theorem dX12_body_24 : decode cX12_body 24 = .ok (.aload_n 0, 1) := by decide +kernel
theorem dX12_body_25 : decode cX12_body 25 = .ok (.invokevirtual 371, 3) := by decide +kernel
theorem dX12_body_28 : decode cX12_body 28 = .ok (.goto (-21), 3) := by decide +kernel
theorem dX12_body_31 : decode cX12_body 31 = .ok (.aload_n 0, 1) := by decide +kernel
theorem dX12_body_32 : decode cX12_body 32 = .ok (.sipush 226, 3) := by decide +kernel
theorem dX12_body_35 : decode cX12_body 35 = .ok (.invokevirtual 314, 3) := by decide +kernel
theorem dX12_body_38 : decode cX12_body 38 = .ok (.return_, 1) := by decide +kernel
theorem dX12_stat_0 : decode cX12_stat 0 = .ok (.aload_n 0, 1) := by decide +kernel
theorem dX12_stat_1 : decode cX12_stat 1 = .ok (.getfield 35, 3) := by decide +kernel
theorem dX12_stat_4 : decode cX12_stat 4 = .ok (.aload_n 0, 1) := by decide +kernel
theorem dX12_stat_5 : decode cX12_stat 5 = .ok (.getfield 109, 3) := by decide +kernel
theorem dX12_stat_8 : decode cX12_stat 8 = .ok (.iaload, 1) := by decide +kernel
theorem dX12_stat_9 : decode cX12_stat 9 = .ok (.istore_n 1, 1) := by decide +kernel
theorem dX12_stat_10 : decode cX12_stat 10 = .ok (.aload_n 0, 1) := by decide +kernel
theorem dX12_stat_11 : decode cX12_stat 11 = .ok (.getfield 38, 3) := by decide +kernel
theorem dX12_stat_14 : decode cX12_stat 14 = .ok (.aload_n 0, 1) := by decide +kernel
theorem dX12_stat_15 : decode cX12_stat 15 = .ok (.getfield 109, 3) := by decide +kernel
theorem dX12_stat_18 : decode cX12_stat 18 = .ok (.iaload, 1) := by decide +kernel
theorem dX12_stat_19 : decode cX12_stat 19 = .ok (.istore_n 2, 1) := by decide +kernel
theorem dX12_stat_20 : decode cX12_stat 20 = .ok (.iload_n 2, 1) := by decide +kernel
theorem dX12_stat_21 : decode cX12_stat 21 = .ok (.iconst 1, 1) := by decide +kernel
theorem dX12_stat_22 : decode cX12_stat 22 = .ok (.if_icmp .eq 39, 3) := by decide +kernel
theorem dX12_stat_25 : decode cX12_stat 25 = .ok (.iload_n 2, 1) := by decide +kernel
theorem dX12_stat_26 : decode cX12_stat 26 = .ok (.bipush 116, 2) := by decide +kernel
theorem dX12_stat_28 : decode cX12_stat 28 = .ok (.if_icmp .lt 37, 3) := by decide +kernel
theorem dX12_stat_31 : decode cX12_stat 31 = .ok (.iload_n 2, 1) := by decide +kernel
theorem dX12_stat_32 : decode cX12_stat 32 = .ok (.bipush 127, 2) := by decide +kernel
theorem dX12_stat_34 : decode cX12_stat 34 = .ok (.if_icmp .gt 31, 3) := by decide +kernel
theorem dX12_stat_37 : decode cX12_stat 37 = .ok (.iload_n 2, 1) := by decide +kernel
theorem dX12_stat_38 : decode cX12_stat 38 = .ok (.bipush 117, 2) := by decide +kernel
theorem dX12_stat_40 : decode cX12_stat 40 = .ok (.if_icmp .eq 25, 3) := by decide +kernel
theorem dX12_stat_43 : decode cX12_stat 43 = .ok (.iload_n 2, 1) := by decide +kernel
theorem dX12_stat_44 : decode cX12_stat 44 = .ok (.bipush 118, 2) := by decide +kernel
theorem dX12_stat_46 : decode cX12_stat 46 = .ok (.if_icmp .eq 19, 3) := by decide +kernel
theorem dX12_stat_49 : decode cX12_stat 49 = .ok (.iload_n 2, 1) := by decide +kernel
theorem dX12_stat_50 : decode cX12_stat 50 = .ok (.bipush 122, 2) := by decide +kernel
theorem dX12_stat_52 : decode cX12_stat 52 = .ok (.if_icmp .eq 13, 3) := by decide +kernel
theorem dX12_stat_55 : decode cX12_stat 55 = .ok (.iload_n 2, 1) := by decide +kernel
theorem dX12_stat_56 : decode cX12_stat 56 = .ok (.bipush 123, 2) := by decide +kernel
theorem dX12_stat_58 : decode cX12_stat 58 = .ok (.if_icmp .eq 7, 3) := by decide +kernel
theorem dX12_stat_61 : decode cX12_stat 61 = .ok (.iconst 1, 1) := by decide +kernel
theorem dX12_stat_62 : decode cX12_stat 62 = .ok (.goto 4, 3) := by decide +kernel
theorem dX12_stat_65 : decode cX12_stat 65 = .ok (.iconst 0, 1) := by decide +kernel
theorem dX12_stat_66 : decode cX12_stat 66 = .ok (.istore_n 3, 1) := by decide +kernel
theorem dX12_stat_67 : decode cX12_stat 67 = .ok (.iload_n 3, 1) := by decide +kernel
theorem dX12_stat_68 : decode cX12_stat 68 = .ok (.ifCond .ne 8, 3) := by decide +kernel
theorem dX12_stat_71 : decode cX12_stat 71 = .ok (.aload_n 0, 1) := by decide +kernel
theorem dX12_stat_72 : decode cX12_stat 72 = .ok (.invokevirtual 115, 3) := by decide +kernel
theorem dX12_stat_75 : decode cX12_stat 75 = .ok (.return_, 1) := by decide +kernel
theorem dX12_stat_76 : decode cX12_stat 76 = .ok (.aload_n 0, 1) := by decide +kernel
theorem dX12_stat_77 : decode cX12_stat 77 = .ok (.iload_n 1, 1) := by decide +kernel
theorem dX12_stat_78 : decode cX12_stat 78 = .ok (.invokevirtual 441, 3) := by decide +kernel
theorem dX12_stat_81 : decode cX12_stat 81 = .ok (.iload_n 2, 1) := by decide +kernel
theorem dX12_stat_82 : decode cX12_stat 82 = .ok (.iconst 1, 1) := by decide +kernel
theorem dX12_stat_83 : decode cX12_stat 83 = .ok (.if_icmp .ne 25, 3) := by decide +kernel
theorem dX12_stat_86 : decode cX12_stat 86 = .ok (.aload_n 0, 1) := by decide +kernel
theorem dX12_stat_87 : decode cX12_stat 87 = .ok (.sipush 223, 3) := by decide +kernel
theorem dX12_stat_90 : decode cX12_stat 90 = .ok (.invokevirtual 469, 3) := by decide +kernel
theorem dX12_stat_93 : decode cX12_stat 93 = .ok (.ifCond .eq 10, 3) := by decide +kernel
theorem dX12_stat_96 : decode cX12_stat 96 = .ok (.aload_n 0, 1) := by decide +kernel
theorem dX12_stat_97 : decode cX12_stat 97 = .ok (.invokevirtual 494, 3) := by decide +kernel
theorem dX12_stat_100 : decode cX12_stat 100 = .ok (.goto 7, 3) := by decide +kernel
theorem dX12_stat_103 : decode cX12_stat 103 = .ok (.aload_n 0, 1) := by decide +kernel
theorem dX12_stat_104 : decode cX12_stat 104 = .ok (.invokevirtual 497, 3) := by decide +kernel
theorem dX12_stat_107 : decode cX12_stat 107 = .ok (.return_, 1) := by decide +kernel
theorem dX12_stat_108 : decode cX12_stat 108 = .ok (.aload_n 0, 1) := by decide +kernel
theorem dX12_stat_109 : decode cX12_stat 109 = .ok (.dup, 1) := by decide +kernel
theorem dX12_stat_110 : decode cX12_stat 110 = .ok (.getfield 109, 3) := by decide +kernel
theorem dX12_stat_113 : decode cX12_stat 113 = .ok (.iconst 1, 1) := by decide +kernel
theorem dX12_stat_114 : decode cX12_stat 114 = .ok (.iadd, 1) := by decide +kernel
theorem dX12_stat_115 : decode cX12_stat 115 = .ok (.putfield 109, 3) := by decide +kernel
theorem dX12_stat_118 : decode cX12_stat 118 = .ok (.iload_n 2, 1) := by decide +kernel
theorem dX12_stat_119 : decode cX12_stat 119 = .ok (.tableswitch 104 116 126 #[57, 104, 104, 64, 72, 80, 104, 104, 87, 87, 96], 57) := by decide +kernel
theorem dX12_stat_176 : decode cX12_stat 176 = .ok (.aload_n 0, 1) := by decide +kernel
theorem dX12_stat_177 : decode cX12_stat 177 = .ok (.invokevirtual 500, 3) := by decide +kernel
theorem dX12_stat_180 : decode cX12_stat 180 = .ok (.goto 66, 3) := by decide +kernel
theorem dX12_stat_183 : decode cX12_stat 183 = .ok (.aload_n 0, 1) := by decide +kernel
theorem dX12_stat_184 : decode cX12_stat 184 = .ok (.iload_n 1, 1) := by decide +kernel
theorem dX12_stat_185 : decode cX12_stat 185 = .ok (.invokevirtual 503, 3) := by decide +kernel
theorem dX12_stat_188 : decode cX12_stat 188 = .ok (.goto 58, 3) := by decide +kernel
theorem dX12_stat_191 : decode cX12_stat 191 = .ok (.aload_n 0, 1) := by decide +kernel
theorem dX12_stat_192 : decode cX12_stat 192 = .ok (.iload_n 1, 1) := by decide +kernel
theorem dX12_stat_193 : decode cX12_stat 193 = .ok (.invokevirtual 506, 3) := by decide +kernel
theorem dX12_stat_196 : decode cX12_stat 196 = .ok (.goto 50, 3) := by decide +kernel
theorem dX12_stat_199 : decode cX12_stat 199 = .ok (.aload_n 0, 1) := by decide +kernel
theorem dX12_stat_200 : decode cX12_stat 200 = .ok (.invokevirtual 509, 3) := by decide +kernel
theorem dX12_stat_203 : decode cX12_stat 203 = .ok (.goto 43, 3) := by decide +kernel
theorem dX12_stat_206 : decode cX12_stat 206 = .ok (.aload_n 0, 1) := by decide +kernel
theorem dX12_stat_207 : decode cX12_stat 207 = .ok (.iload_n 2, 1) := by decide +kernel
theorem dX12_stat_208 : decode cX12_stat 208 = .ok (.iload_n 1, 1) := by decide +kernel
theorem dX12_stat_209 : decode cX12_stat 209 = .ok (.invokevirtual 512, 3) := by decide +kernel
theorem dX12_stat_212 : decode cX12_stat 212 = .ok (.goto 34, 3) := by decide +kernel
theorem dX12_stat_215 : decode cX12_stat 215 = .ok (.aload_n 0, 1) := by decide +kernel
theorem dX12_stat_216 : decode cX12_stat 216 = .ok (.iload_n 1, 1) := by decide +kernel
theorem dX12_stat_217 : decode cX12_stat 217 = .ok (.invokevirtual 515, 3) := by decide +kernel
theorem dX12_stat_220 : decode cX12_stat 220 = .ok (.goto 26, 3) := by decide +kernel
theorem dX12_stat_223 : decode cX12_stat 223 = .ok (.aload_n 0, 1) := by decide +kernel
theorem dX12_stat_224 : decode cX12_stat 224 = .ok (.invokevirtual 444, 3) := by decide +kernel
theorem dX12_stat_227 : decode cX12_stat 227 = .ok (.istore 4, 2) := by decide +kernel
theorem dX12_stat_229 : decode cX12_stat 229 = .ok (.aload_n 0, 1) := by decide +kernel
theorem dX12_stat_230 : decode cX12_stat 230 = .ok (.bipush 35, 2) := by decide +kernel
theorem dX12_stat_232 : decode cX12_stat 232 = .ok (.iload_n 1, 1) := by decide +kernel
theorem dX12_stat_233 : decode cX12_stat 233 = .ok (.iconst 0, 1) := by decide +kernel
theorem dX12_stat_234 : decode cX12_stat 234 = .ok (.invokevirtual 144, 3) := by decide +kernel
theorem dX12_stat_237 : decode cX12_stat 237 = .ok (.istore 4, 2) := by decide +kernel
theorem dX12_stat_239 : decode cX12_stat 239 = .ok (.aload_n 0, 1) := by decide +kernel
theorem dX12_stat_240 : decode cX12_stat 240 = .ok (.sipush 229, 3) := by decide +kernel
theorem dX12_stat_243 : decode cX12_stat 243 = .ok (.invokevirtual 125, 3) := by decide +kernel
theorem dX12_stat_246 : decode cX12_stat 246 = .ok (.return_, 1) := by decide +kernel
theorem dX12_choice_0 : decode cX12_choice 0 = .ok (.aload_n 0, 1) := by decide +kernel
theorem dX12_choice_1 : decode cX12_choice 1 = .ok (.invokevirtual 444, 3) := by decide +kernel
theorem dX12_choice_4 : decode cX12_choice 4 = .ok (.istore_n 1, 1) := by decide +kernel
theorem dX12_choice_5 : decode cX12_choice 5 = .ok (.aload_n 0, 1) := by decide +kernel
theorem dX12_choice_6 : decode cX12_choice 6 = .ok (.bipush 26, 2) := by decide +kernel
theorem dX12_choice_8 : decode cX12_choice 8 = .ok (.iconst 0, 1) := by decide +kernel
theorem dX12_choice_9 : decode cX12_choice 9 = .ok (.iconst 0, 1) := by decide +kernel
theorem dX12_choice_10 : decode cX12_choice 10 = .ok (.invokevirtual 144, 3) := by decide +kernel
theorem dX12_choice_13 : decode cX12_choice 13 = .ok (.istore_n 2, 1) := by decide +kernel
theorem dX12_choice_14 : decode cX12_choice 14 = .ok (.aload_n 0, 1) := by decide +kernel
theorem dX12_choice_15 : decode cX12_choice 15 = .ok (.invokevirtual 417, 3) := by decide +kernel
theorem dX12_choice_18 : decode cX12_choice 18 = .ok (.iconst (-1), 1) := by decide +kernel
theorem dX12_choice_19 : decode cX12_choice 19 = .ok (.istore_n 3, 1) := by decide +kernel
theorem dX12_choice_20 : decode cX12_choice 20 = .ok (.aload_n 0, 1) := by decide +kernel
theorem dX12_choice_21 : decode cX12_choice 21 = .ok (.bipush 117, 2) := by decide +kernel
theorem dX12_choice_23 : decode cX12_choice 23 = .ok (.invokevirtual 112, 3) := by decide +kernel
theorem dX12_choice_26 : decode cX12_choice 26 = .ok (.ifCond .ne 12, 3) := by decide +kernel
theorem dX12_choice_29 : decode cX12_choice 29 = .ok (.aload_n 0, 1) := by decide +kernel
theorem dX12_choice_30 : decode cX12_choice 30 = .ok (.bipush 118, 2) := by decide +kernel
theorem dX12_choice_32 : decode cX12_choice 32 = .ok (.invokevirtual 112, 3) := by decide +kernel
theorem dX12_choice_35 : decode cX12_choice 35 = .ok (.ifCond .eq 75, 3) := by decide +kernel
theorem dX12_choice_38 : decode cX12_choice 38 = .ok (.aload_n 0, 1) := by decide +kernel
theorem dX12_choice_39 : decode cX12_choice 39 = .ok (.bipush 118, 2) := by decide +kernel
theorem dX12_choice_41 : decode cX12_choice 41 = .ok (.invokevirtual 112, 3) := by decide +kernel
theorem dX12_choice_44 : decode cX12_choice 44 = .ok (.istore 4, 2) := by decide +kernel
theorem dX12_choice_46 : decode cX12_choice 46 = .ok (.aload_n 0, 1) := by decide +kernel
theorem dX12_choice_47 : decode cX12_choice 47 = .ok (.bipush 28, 2) := by decide +kernel
theorem dX12_choice_49 : decode cX12_choice 49 = .ok (.iload_n 3, 1) := by decide +kernel
theorem dX12_choice_50 : decode cX12_choice 50 = .ok (.iconst 0, 1) := by decide +kernel
theorem dX12_choice_51 : decode cX12_choice 51 = .ok (.invokevirtual 144, 3) := by decide +kernel
theorem dX12_choice_54 : decode cX12_choice 54 = .ok (.istore 5, 2) := by decide +kernel
theorem dX12_choice_56 : decode cX12_choice 56 = .ok (.iload 5, 2) := by decide +kernel
theorem dX12_choice_58 : decode cX12_choice 58 = .ok (.istore_n 3, 1) := by decide +kernel
theorem dX12_choice_59 : decode cX12_choice 59 = .ok (.aload_n 0, 1) := by decide +kernel
theorem dX12_choice_60 : decode cX12_choice 60 = .ok (.iload_n 2, 1) := by decide +kernel
theorem dX12_choice_61 : decode cX12_choice 61 = .ok (.invokevirtual 447, 3) := by decide +kernel
theorem dX12_choice_64 : decode cX12_choice 64 = .ok (.iconst (-1), 1) := by decide +kernel
theorem dX12_choice_65 : decode cX12_choice 65 = .ok (.istore_n 2, 1) := by decide +kernel
theorem dX12_choice_66 : decode cX12_choice 66 = .ok (.aload_n 0, 1) := by decide +kernel
theorem dX12_choice_67 : decode cX12_choice 67 = .ok (.dup, 1) := by decide +kernel
theorem dX12_choice_68 : decode cX12_choice 68 = .ok (.getfield 109, 3) := by decide +kernel
theorem dX12_choice_71 : decode cX12_choice 71 = .ok (.iconst 1, 1) := by decide +kernel
theorem dX12_choice_72 : decode cX12_choice 72 = .ok (.iadd, 1) := by decide +kernel
theorem dX12_choice_73 : decode cX12_choice 73 = .ok (.putfield 109, 3) := by decide +kernel
theorem dX12_choice_76 : decode cX12_choice 76 = .ok (.iload 4, 2) := by decide +kernel
theorem dX12_choice_78 : decode cX12_choice 78 = .ok (.ifCond .ne 17, 3) := by decide +kernel
theorem dX12_choice_81 : decode cX12_choice 81 = .ok (.aload_n 0, 1) := by decide +kernel
theorem dX12_choice_82 : decode cX12_choice 82 = .ok (.invokevirtual 444, 3) := by decide +kernel
theorem dX12_choice_85 : decode cX12_choice 85 = .ok (.istore_n 1, 1) := by decide +kernel
theorem dX12_choice_86 : decode cX12_choice 86 = .ok (.aload_n 0, 1) := by decide +kernel
theorem dX12_choice_87 : decode cX12_choice 87 = .ok (.bipush 26, 2) := by decide +kernel
theorem dX12_choice_89 : decode cX12_choice 89 = .ok (.iconst 0, 1) := by decide +kernel
theorem dX12_choice_90 : decode cX12_choice 90 = .ok (.iconst 0, 1) := by decide +kernel
theorem dX12_choice_91 : decode cX12_choice 91 = .ok (.invokevirtual 144, 3) := by decide +kernel
theorem dX12_choice_94 : decode cX12_choice 94 = .ok (.istore_n 2, 1) := by decide +kernel
theorem dX12_choice_95 : decode cX12_choice 95 = .ok (.aload_n 0, 1) := by decide +kernel
theorem dX12_choice_96 : decode cX12_choice 96 = .ok (.invokevirtual 417, 3) := by decide +kernel
theorem dX12_choice_99 : decode cX12_choice 99 = .ok (.iload 4, 2) := by decide +kernel
theorem dX12_choice_101 : decode cX12_choice 101 = .ok (.ifCond .eq 6, 3) := by decide +kernel
theorem dX12_choice_104 : decode cX12_choice 104 = .ok (.goto 6, 3) := by decide +kernel
theorem dX12_choice_107 : decode cX12_choice 107 = .ok (.goto (-87), 3) := by decide +kernel
theorem dX12_choice_110 : decode cX12_choice 110 = .ok (.iload_n 2, 1) := by decide +kernel
theorem dX12_choice_111 : decode cX12_choice 111 = .ok (.iconst (-1), 1) := by decide +kernel
theorem dX12_choice_112 : decode cX12_choice 112 = .ok (.if_icmp .eq 8, 3) := by decide +kernel
theorem dX12_choice_115 : decode cX12_choice 115 = .ok (.aload_n 0, 1) := by decide +kernel
theorem dX12_choice_116 : decode cX12_choice 116 = .ok (.iload_n 2, 1) := by decide +kernel
theorem dX12_choice_117 : decode cX12_choice 117 = .ok (.invokevirtual 447, 3) := by decide +kernel
theorem dX12_choice_120 : decode cX12_choice 120 = .ok (.aload_n 0, 1) := by decide +kernel
theorem dX12_choice_121 : decode cX12_choice 121 = .ok (.iload_n 3, 1) := by decide +kernel
theorem dX12_choice_122 : decode cX12_choice 122 = .ok (.invokevirtual 518, 3) := by decide +kernel
theorem dX12_choice_125 : decode cX12_choice 125 = .ok (.return_, 1) := by decide +kernel
theorem dX12_again_0 : decode cX12_again 0 = .ok (.aload_n 0, 1) := by decide +kernel
theorem dX12_again_1 : decode cX12_again 1 = .ok (.invokevirtual 151, 3) := by decide +kernel
theorem dX12_again_4 : decode cX12_again 4 = .ok (.istore_n 2, 1) := by decide +kernel
theorem dX12_again_5 : decode cX12_again 5 = .ok (.aload_n 0, 1) := by decide +kernel
theorem dX12_again_6 : decode cX12_again 6 = .ok (.invokevirtual 444, 3) := by decide +kernel
theorem dX12_again_9 : decode cX12_again 9 = .ok (.istore_n 3, 1) := by decide +kernel
theorem dX12_again_10 : decode cX12_again 10 = .ok (.aload_n 0, 1) := by decide +kernel
theorem dX12_again_11 : decode cX12_again 11 = .ok (.bipush 26, 2) := by decide +kernel
theorem dX12_again_13 : decode cX12_again 13 = .ok (.iconst 0, 1) := by decide +kernel
theorem dX12_again_14 : decode cX12_again 14 = .ok (.iconst 0, 1) := by decide +kernel
theorem dX12_again_15 : decode cX12_again 15 = .ok (.invokevirtual 144, 3) := by decide +kernel
theorem dX12_again_18 : decode cX12_again 18 = .ok (.istore 4, 2) := by decide +kernel
theorem dX12_again_20 : decode cX12_again 20 = .ok (.aload_n 0, 1) := by decide +kernel
theorem dX12_again_21 : decode cX12_again 21 = .ok (.iload_n 1, 1) := by decide +kernel
theorem dX12_again_22 : decode cX12_again 22 = .ok (.invokevirtual 441, 3) := by decide +kernel
theorem dX12_again_25 : decode cX12_again 25 = .ok (.aload_n 0, 1) := by decide +kernel
theorem dX12_again_26 : decode cX12_again 26 = .ok (.invokevirtual 527, 3) := by decide +kernel
theorem dX12_again_29 : decode cX12_again 29 = .ok (.aload_n 0, 1) := by decide +kernel
theorem dX12_again_30 : decode cX12_again 30 = .ok (.invokevirtual 417, 3) := by decide +kernel
theorem dX12_again_33 : decode cX12_again 33 = .ok (.aload_n 0, 1) := by decide +kernel
theorem dX12_again_34 : decode cX12_again 34 = .ok (.dup, 1) := by decide +kernel
theorem dX12_again_35 : decode cX12_again 35 = .ok (.getfield 346, 3) := by decide +kernel
theorem dX12_again_38 : decode cX12_again 38 = .ok (.iconst 1, 1) := by decide +kernel
theorem dX12_again_39 : decode cX12_again 39 = .ok (.isub, 1) := by decide +kernel
theorem dX12_again_40 : decode cX12_again 40 = .ok (.putfield 346, 3) := by decide +kernel
theorem dX12_again_43 : decode cX12_again 43 = .ok (.aload_n 0, 1) := by decide +kernel
theorem dX12_again_44 : decode cX12_again 44 = .ok (.aload_n 0, 1) := by decide +kernel
theorem dX12_again_45 : decode cX12_again 45 = .ok (.getfield 524, 3) := by decide +kernel
theorem dX12_again_48 : decode cX12_again 48 = .ok (.aload_n 0, 1) := by decide +kernel
theorem dX12_again_49 : decode cX12_again 49 = .ok (.getfield 346, 3) := by decide +kernel
theorem dX12_again_52 : decode cX12_again 52 = .ok (.iaload, 1) := by decide +kernel
theorem dX12_again_53 : decode cX12_again 53 = .ok (.invokevirtual 518, 3) := by decide +kernel
theorem dX12_again_56 : decode cX12_again 56 = .ok (.aload_n 0, 1) := by decide +kernel
theorem dX12_again_57 : decode cX12_again 57 = .ok (.bipush 28, 2) := by decide +kernel
theorem dX12_again_59 : decode cX12_again 59 = .ok (.iload_n 2, 1) := by decide +kernel
theorem dX12_again_60 : decode cX12_again 60 = .ok (.iconst 0, 1) := by decide +kernel
theorem dX12_again_61 : decode cX12_again 61 = .ok (.invokevirtual 144, 3) := by decide +kernel
theorem dX12_again_64 : decode cX12_again 64 = .ok (.istore_n 3, 1) := by decide +kernel
theorem dX12_again_65 : decode cX12_again 65 = .ok (.aload_n 0, 1) := by decide +kernel
theorem dX12_again_66 : decode cX12_again 66 = .ok (.iload 4, 2) := by decide +kernel
theorem dX12_again_68 : decode cX12_again 68 = .ok (.invokevirtual 447, 3) := by decide +kernel
theorem dX12_again_71 : decode cX12_again 71 = .ok (.aload_n 0, 1) := by decide +kernel
theorem dX12_again_72 : decode cX12_again 72 = .ok (.aload_n 0, 1) := by decide +kernel
theorem dX12_again_73 : decode cX12_again 73 = .ok (.getfield 521, 3) := by decide +kernel
theorem dX12_again_76 : decode cX12_again 76 = .ok (.aload_n 0, 1) := by decide +kernel
theorem dX12_again_77 : decode cX12_again 77 = .ok (.getfield 346, 3) := by decide +kernel
theorem dX12_again_80 : decode cX12_again 80 = .ok (.iaload, 1) := by decide +kernel
theorem dX12_again_81 : decode cX12_again 81 = .ok (.invokevirtual 518, 3) := by decide +kernel
theorem dX12_again_84 : decode cX12_again 84 = .ok (.return_, 1) := by decide +kernel
theorem dX12_counts_0 : decode cX12_counts 0 = .ok (.aload_n 0, 1) := by decide +kernel
theorem dX12_counts_1 : decode cX12_counts 1 = .ok (.iconst 1, 1) := by decide +kernel
theorem dX12_counts_2 : decode cX12_counts 2 = .ok (.invokevirtual 112, 3) := by decide +kernel
theorem dX12_counts_5 : decode cX12_counts 5 = .ok (.ifCond .ne 8, 3) := by decide +kernel
theorem dX12_counts_8 : decode cX12_counts 8 = .ok (.aload_n 0, 1) := by decide +kernel
theorem dX12_counts_9 : decode cX12_counts 9 = .ok (.invokevirtual 115, 3) := by decide +kernel
theorem dX12_counts_12 : decode cX12_counts 12 = .ok (.return_, 1) := by decide +kernel
theorem dX12_counts_13 : decode cX12_counts 13 = .ok (.aload_n 0, 1) := by decide +kernel
theorem dX12_counts_14 : decode cX12_counts 14 = .ok (.getfield 35, 3) := by decide +kernel
theorem dX12_counts_17 : decode cX12_counts 17 = .ok (.aload_n 0, 1) := by decide +kernel
theorem dX12_counts_18 : decode cX12_counts 18 = .ok (.getfield 109, 3) := by decide +kernel
theorem dX12_counts_21 : decode cX12_counts 21 = .ok (.iaload, 1) := by decide +kernel
theorem dX12_counts_22 : decode cX12_counts 22 = .ok (.istore_n 2, 1) := by decide +kernel
theorem dX12_counts_23 : decode cX12_counts 23 = .ok (.aload_n 0, 1) := by decide +kernel
theorem dX12_counts_24 : decode cX12_counts 24 = .ok (.getfield 101, 3) := by decide +kernel
theorem dX12_counts_27 : decode cX12_counts 27 = .ok (.ifCond .eq 28, 3) := by decide +kernel
theorem dX12_counts_30 : decode cX12_counts 30 = .ok (.aload_n 0, 1) := by decide +kernel
theorem dX12_counts_31 : decode cX12_counts 31 = .ok (.aload_n 0, 1) := by decide +kernel
theorem dX12_counts_32 : decode cX12_counts 32 = .ok (.getfield 66, 3) := by decide +kernel
theorem dX12_counts_35 : decode cX12_counts 35 = .ok (.aload_n 0, 1) := by decide +kernel
theorem dX12_counts_36 : decode cX12_counts 36 = .ok (.getfield 109, 3) := by decide +kernel
theorem dX12_counts_39 : decode cX12_counts 39 = .ok (.laload, 1) := by decide +kernel
theorem dX12_counts_40 : decode cX12_counts 40 = .ok (.aload_n 0, 1) := by decide +kernel
theorem dX12_counts_41 : decode cX12_counts 41 = .ok (.getfield 73, 3) := by decide +kernel
theorem dX12_counts_44 : decode cX12_counts 44 = .ok (.aload_n 0, 1) := by decide +kernel
theorem dX12_counts_45 : decode cX12_counts 45 = .ok (.getfield 109, 3) := by decide +kernel
theorem dX12_counts_48 : decode cX12_counts 48 = .ok (.laload, 1) := by decide +kernel
theorem dX12_counts_49 : decode cX12_counts 49 = .ok (.invokevirtual 215, 3) := by decide +kernel
theorem dX12_counts_52 : decode cX12_counts 52 = .ok (.goto 4, 3) := by decide +kernel
theorem dX12_counts_55 : decode cX12_counts 55 = .ok (.iconst (-1), 1) := by decide +kernel
theorem dX12_counts_56 : decode cX12_counts 56 = .ok (.istore_n 3, 1) := by decide +kernel
theorem dX12_counts_57 : decode cX12_counts 57 = .ok (.iload_n 3, 1) := by decide +kernel
theorem dX12_counts_58 : decode cX12_counts 58 = .ok (.iconst (-1), 1) := by decide +kernel
theorem dX12_counts_59 : decode cX12_counts 59 = .ok (.if_icmp .ne 18, 3) := by decide +kernel
theorem dX12_counts_62 : decode cX12_counts 62 = .ok (.aload_n 0, 1) := by decide +kernel
theorem dX12_counts_63 : decode cX12_counts 63 = .ok (.getfield 101, 3) := by decide +kernel
theorem dX12_counts_66 : decode cX12_counts 66 = .ok (.ifCond .eq 11, 3) := by decide +kernel
theorem dX12_counts_69 : decode cX12_counts 69 = .ok (.aload_n 0, 1) := by decide +kernel
theorem dX12_counts_70 : decode cX12_counts 70 = .ok (.iconst 0, 1) := by decide +kernel
theorem dX12_counts_71 : decode cX12_counts 71 = .ok (.invokevirtual 378, 3) := by decide +kernel
theorem dX12_counts_74 : decode cX12_counts 74 = .ok (.goto 4, 3) := by decide +kernel
theorem dX12_counts_77 : decode cX12_counts 77 = .ok (.iconst (-1), 1) := by decide +kernel
theorem dX12_counts_78 : decode cX12_counts 78 = .ok (.istore 4, 2) := by decide +kernel
theorem dX12_counts_80 : decode cX12_counts 80 = .ok (.aload_n 0, 1) := by decide +kernel
theorem dX12_counts_81 : decode cX12_counts 81 = .ok (.iload_n 3, 1) := by decide +kernel
theorem dX12_counts_82 : decode cX12_counts 82 = .ok (.iconst (-1), 1) := by decide +kernel
theorem dX12_counts_83 : decode cX12_counts 83 = .ok (.if_icmp .ne 13, 3) := by decide +kernel
theorem dX12_counts_86 : decode cX12_counts 86 = .ok (.iload 4, 2) := by decide +kernel
theorem dX12_counts_88 : decode cX12_counts 88 = .ok (.iconst (-1), 1) := by decide +kernel
theorem dX12_counts_89 : decode cX12_counts 89 = .ok (.if_icmp .ne 7, 3) := by decide +kernel
theorem dX12_counts_92 : decode cX12_counts 92 = .ok (.iconst 1, 1) := by decide +kernel
theorem dX12_counts_93 : decode cX12_counts 93 = .ok (.goto 4, 3) := by decide +kernel
theorem dX12_counts_96 : decode cX12_counts 96 = .ok (.iconst 0, 1) := by decide +kernel
theorem dX12_counts_97 : decode cX12_counts 97 = .ok (.iconst 3, 1) := by decide +kernel
theorem dX12_counts_98 : decode cX12_counts 98 = .ok (.iload_n 2, 1) := by decide +kernel
theorem dX12_counts_99 : decode cX12_counts 99 = .ok (.invokevirtual 202, 3) := by decide +kernel
theorem dX12_counts_102 : decode cX12_counts 102 = .ok (.aload_n 0, 1) := by decide +kernel
theorem dX12_counts_103 : decode cX12_counts 103 = .ok (.getfield 101, 3) := by decide +kernel
theorem dX12_counts_106 : decode cX12_counts 106 = .ok (.ifCond .eq 14, 3) := by decide +kernel
theorem dX12_counts_109 : decode cX12_counts 109 = .ok (.aload_n 0, 1) := by decide +kernel
theorem dX12_counts_110 : decode cX12_counts 110 = .ok (.getfield 95, 3) := by decide +kernel
theorem dX12_counts_113 : decode cX12_counts 113 = .ok (.ifCond .ne 7, 3) := by decide +kernel
theorem dX12_counts_116 : decode cX12_counts 116 = .ok (.iconst 1, 1) := by decide +kernel
theorem dX12_counts_117 : decode cX12_counts 117 = .ok (.goto 4, 3) := by decide +kernel
theorem dX12_counts_120 : decode cX12_counts 120 = .ok (.iconst 0, 1) := by decide +kernel
theorem dX12_counts_121 : decode cX12_counts 121 = .ok (.istore 5, 2) := by decide +kernel
theorem dX12_counts_123 : decode cX12_counts 123 = .ok (.sipush 160, 3) := by decide +kernel
theorem dX12_counts_126 : decode cX12_counts 126 = .ok (.aload_n 0, 1) := by decide +kernel
theorem dX12_counts_127 : decode cX12_counts 127 = .ok (.getfield 129, 3) := by decide +kernel
theorem dX12_counts_130 : decode cX12_counts 130 = .ok (.imul, 1) := by decide +kernel
theorem dX12_counts_131 : decode cX12_counts 131 = .ok (.iload 4, 2) := by decide +kernel
theorem dX12_counts_133 : decode cX12_counts 133 = .ok (.iadd, 1) := by decide +kernel
theorem dX12_counts_134 : decode cX12_counts 134 = .ok (.istore 6, 2) := by decide +kernel
theorem dX12_counts_136 : decode cX12_counts 136 = .ok (.aload_n 0, 1) := by decide +kernel
theorem dX12_counts_137 : decode cX12_counts 137 = .ok (.iload 5, 2) := by decide +kernel
theorem dX12_counts_139 : decode cX12_counts 139 = .ok (.ifCond .eq 45, 3) := by decide +kernel
theorem dX12_counts_142 : decode cX12_counts 142 = .ok (.iload_n 3, 1) := by decide +kernel
theorem dX12_counts_143 : decode cX12_counts 143 = .ok (.iconst (-1), 1) := by decide +kernel
theorem dX12_counts_144 : decode cX12_counts 144 = .ok (.if_icmp .eq 15, 3) := by decide +kernel
theorem dX12_counts_147 : decode cX12_counts 147 = .ok (.aload_n 0, 1) := by decide +kernel
theorem dX12_counts_148 : decode cX12_counts 148 = .ok (.getfield 248, 3) := by decide +kernel
theorem dX12_counts_151 : decode cX12_counts 151 = .ok (.iload_n 3, 1) := by decide +kernel
theorem dX12_counts_152 : decode cX12_counts 152 = .ok (.baload, 1) := by decide +kernel
theorem dX12_counts_153 : decode cX12_counts 153 = .ok (.ifCond .eq 31, 3) := by decide +kernel
theorem dX12_counts_156 : decode cX12_counts 156 = .ok (.goto 24, 3) := by decide +kernel
theorem dX12_counts_159 : decode cX12_counts 159 = .ok (.aload_n 0, 1) := by decide +kernel
theorem dX12_counts_160 : decode cX12_counts 160 = .ok (.getfield 278, 3) := by decide +kernel
theorem dX12_counts_163 : decode cX12_counts 163 = .ok (.iload 6, 2) := by decide +kernel
theorem dX12_counts_165 : decode cX12_counts 165 = .ok (.baload, 1) := by decide +kernel
theorem dX12_counts_166 : decode cX12_counts 166 = .ok (.ifCond .ne 14, 3) := by decide +kernel
theorem dX12_counts_169 : decode cX12_counts 169 = .ok (.aload_n 0, 1) := by decide +kernel
theorem dX12_counts_170 : decode cX12_counts 170 = .ok (.getfield 272, 3) := by decide +kernel
theorem dX12_counts_173 : decode cX12_counts 173 = .ok (.iload 6, 2) := by decide +kernel
theorem dX12_counts_175 : decode cX12_counts 175 = .ok (.iaload, 1) := by decide +kernel
theorem dX12_counts_176 : decode cX12_counts 176 = .ok (.iconst 2, 1) := by decide +kernel
theorem dX12_counts_177 : decode cX12_counts 177 = .ok (.if_icmp .ne 7, 3) := by decide +kernel
theorem dX12_counts_180 : decode cX12_counts 180 = .ok (.iconst 1, 1) := by decide +kernel
theorem dX12_counts_181 : decode cX12_counts 181 = .ok (.goto 4, 3) := by decide +kernel
theorem dX12_counts_184 : decode cX12_counts 184 = .ok (.iconst 0, 1) := by decide +kernel
theorem dX12_counts_185 : decode cX12_counts 185 = .ok (.iconst 4, 1) := by decide +kernel
theorem dX12_counts_186 : decode cX12_counts 186 = .ok (.iload_n 2, 1) := by decide +kernel
theorem dX12_counts_187 : decode cX12_counts 187 = .ok (.invokevirtual 202, 3) := by decide +kernel
theorem dX12_counts_190 : decode cX12_counts 190 = .ok (.iload 5, 2) := by decide +kernel
theorem dX12_counts_192 : decode cX12_counts 192 = .ok (.ifCond .ne 7, 3) := by decide +kernel
theorem dX12_counts_195 : decode cX12_counts 195 = .ok (.iconst 3, 1) := by decide +kernel
theorem dX12_counts_196 : decode cX12_counts 196 = .ok (.goto 24, 3) := by decide +kernel
theorem dX12_counts_199 : decode cX12_counts 199 = .ok (.iload_n 3, 1) := by decide +kernel
theorem dX12_counts_200 : decode cX12_counts 200 = .ok (.iconst (-1), 1) := by decide +kernel
theorem dX12_counts_201 : decode cX12_counts 201 = .ok (.if_icmp .eq 12, 3) := by decide +kernel
theorem dX12_counts_204 : decode cX12_counts 204 = .ok (.aload_n 0, 1) := by decide +kernel
theorem dX12_counts_205 : decode cX12_counts 205 = .ok (.getfield 242, 3) := by decide +kernel
theorem dX12_counts_208 : decode cX12_counts 208 = .ok (.iload_n 3, 1) := by decide +kernel
theorem dX12_counts_209 : decode cX12_counts 209 = .ok (.iaload, 1) := by decide +kernel
theorem dX12_counts_210 : decode cX12_counts 210 = .ok (.goto 10, 3) := by decide +kernel
theorem dX12_counts_213 : decode cX12_counts 213 = .ok (.aload_n 0, 1) := by decide +kernel
theorem dX12_counts_214 : decode cX12_counts 214 = .ok (.getfield 269, 3) := by decide +kernel
theorem dX12_counts_217 : decode cX12_counts 217 = .ok (.iload 6, 2) := by decide +kernel
theorem dX12_counts_219 : decode cX12_counts 219 = .ok (.iaload, 1) := by decide +kernel
theorem dX12_counts_220 : decode cX12_counts 220 = .ok (.istore 7, 2) := by decide +kernel
theorem dX12_counts_222 : decode cX12_counts 222 = .ok (.iload_n 3, 1) := by decide +kernel
theorem dX12_counts_223 : decode cX12_counts 223 = .ok (.iconst (-1), 1) := by decide +kernel
theorem dX12_counts_224 : decode cX12_counts 224 = .ok (.if_icmp .ne 8, 3) := by decide +kernel
theorem dX12_counts_227 : decode cX12_counts 227 = .ok (.bipush 10, 2) := by decide +kernel
theorem dX12_counts_229 : decode cX12_counts 229 = .ok (.goto 18, 3) := by decide +kernel
theorem dX12_counts_232 : decode cX12_counts 232 = .ok (.aload_n 0, 1) := by decide +kernel
theorem dX12_counts_233 : decode cX12_counts 233 = .ok (.getfield 186, 3) := by decide +kernel
theorem dX12_counts_236 : decode cX12_counts 236 = .ok (.iconst 2, 1) := by decide +kernel
theorem dX12_counts_237 : decode cX12_counts 237 = .ok (.if_icmp .ne 8, 3) := by decide +kernel
theorem dX12_counts_240 : decode cX12_counts 240 = .ok (.bipush 11, 2) := by decide +kernel
theorem dX12_counts_242 : decode cX12_counts 242 = .ok (.goto 5, 3) := by decide +kernel
theorem dX12_counts_245 : decode cX12_counts 245 = .ok (.bipush 12, 2) := by decide +kernel
theorem dX12_counts_247 : decode cX12_counts 247 = .ok (.istore 8, 2) := by decide +kernel
theorem dX12_counts_249 : decode cX12_counts 249 = .ok (.iload 5, 2) := by decide +kernel
theorem dX12_counts_251 : decode cX12_counts 251 = .ok (.ifCond .ne 7, 3) := by decide +kernel
theorem dX12_counts_254 : decode cX12_counts 254 = .ok (.iconst 0, 1) := by decide +kernel
theorem dX12_counts_255 : decode cX12_counts 255 = .ok (.goto 24, 3) := by decide +kernel
theorem dX12_counts_258 : decode cX12_counts 258 = .ok (.iload_n 3, 1) := by decide +kernel
theorem dX12_counts_259 : decode cX12_counts 259 = .ok (.iconst (-1), 1) := by decide +kernel
theorem dX12_counts_260 : decode cX12_counts 260 = .ok (.if_icmp .eq 12, 3) := by decide +kernel
theorem dX12_counts_263 : decode cX12_counts 263 = .ok (.aload_n 0, 1) := by decide +kernel
theorem dX12_counts_264 : decode cX12_counts 264 = .ok (.getfield 251, 3) := by decide +kernel
theorem dX12_counts_267 : decode cX12_counts 267 = .ok (.iload_n 3, 1) := by decide +kernel
theorem dX12_counts_268 : decode cX12_counts 268 = .ok (.iaload, 1) := by decide +kernel
theorem dX12_counts_269 : decode cX12_counts 269 = .ok (.goto 10, 3) := by decide +kernel
theorem dX12_counts_272 : decode cX12_counts 272 = .ok (.aload_n 0, 1) := by decide +kernel
theorem dX12_counts_273 : decode cX12_counts 273 = .ok (.getfield 293, 3) := by decide +kernel
theorem dX12_counts_276 : decode cX12_counts 276 = .ok (.iload 6, 2) := by decide +kernel
theorem dX12_counts_278 : decode cX12_counts 278 = .ok (.iaload, 1) := by decide +kernel
theorem dX12_counts_279 : decode cX12_counts 279 = .ok (.istore 9, 2) := by decide +kernel
theorem dX12_counts_281 : decode cX12_counts 281 = .ok (.aload_n 0, 1) := by decide +kernel
theorem dX12_counts_282 : decode cX12_counts 282 = .ok (.dup, 1) := by decide +kernel
theorem dX12_counts_283 : decode cX12_counts 283 = .ok (.getfield 109, 3) := by decide +kernel
theorem dX12_counts_286 : decode cX12_counts 286 = .ok (.iconst 1, 1) := by decide +kernel
theorem dX12_counts_287 : decode cX12_counts 287 = .ok (.iadd, 1) := by decide +kernel
theorem dX12_counts_288 : decode cX12_counts 288 = .ok (.putfield 109, 3) := by decide +kernel
theorem dX12_counts_291 : decode cX12_counts 291 = .ok (.aload_n 0, 1) := by decide +kernel
theorem dX12_counts_292 : decode cX12_counts 292 = .ok (.getfield 35, 3) := by decide +kernel
theorem dX12_counts_295 : decode cX12_counts 295 = .ok (.aload_n 0, 1) := by decide +kernel
theorem dX12_counts_296 : decode cX12_counts 296 = .ok (.getfield 109, 3) := by decide +kernel
theorem dX12_counts_299 : decode cX12_counts 299 = .ok (.iaload, 1) := by decide +kernel
theorem dX12_counts_300 : decode cX12_counts 300 = .ok (.istore 10, 2) := by decide +kernel
theorem dX12_counts_302 : decode cX12_counts 302 = .ok (.aload_n 0, 1) := by decide +kernel
theorem dX12_counts_303 : decode cX12_counts 303 = .ok (.sipush 234, 3) := by decide +kernel
theorem dX12_counts_306 : decode cX12_counts 306 = .ok (.invokevirtual 125, 3) := by decide +kernel
theorem dX12_counts_309 : decode cX12_counts 309 = .ok (.aload_n 0, 1) := by decide +kernel
theorem dX12_counts_310 : decode cX12_counts 310 = .ok (.iload 8, 2) := by decide +kernel
theorem dX12_counts_312 : decode cX12_counts 312 = .ok (.iload 9, 2) := by decide +kernel
theorem dX12_counts_314 : decode cX12_counts 314 = .ok (.iconst 0, 1) := by decide +kernel
theorem dX12_counts_315 : decode cX12_counts 315 = .ok (.invokevirtual 144, 3) := by decide +kernel
theorem dX12_counts_318 : decode cX12_counts 318 = .ok (.istore 11, 2) := by decide +kernel
theorem dX12_counts_320 : decode cX12_counts 320 = .ok (.aload_n 0, 1) := by decide +kernel
theorem dX12_counts_321 : decode cX12_counts 321 = .ok (.invokevirtual 444, 3) := by decide +kernel
theorem dX12_counts_324 : decode cX12_counts 324 = .ok (.istore 12, 2) := by decide +kernel
theorem dX12_counts_326 : decode cX12_counts 326 = .ok (.aload_n 0, 1) := by decide +kernel
theorem dX12_counts_327 : decode cX12_counts 327 = .ok (.aload_n 0, 1) := by decide +kernel
theorem dX12_counts_328 : decode cX12_counts 328 = .ok (.iload 12, 2) := by decide +kernel
theorem dX12_counts_330 : decode cX12_counts 330 = .ok (.iload 7, 2) := by decide +kernel
theorem dX12_counts_332 : decode cX12_counts 332 = .ok (.invokevirtual 487, 3) := by decide +kernel
theorem dX12_counts_335 : decode cX12_counts 335 = .ok (.iconst 4, 1) := by decide +kernel
theorem dX12_counts_336 : decode cX12_counts 336 = .ok (.iload 10, 2) := by decide +kernel
theorem dX12_counts_338 : decode cX12_counts 338 = .ok (.invokevirtual 202, 3) := by decide +kernel
theorem dX12_counts_341 : decode cX12_counts 341 = .ok (.aload_n 0, 1) := by decide +kernel
theorem dX12_counts_342 : decode cX12_counts 342 = .ok (.bipush 18, 2) := by decide +kernel
theorem dX12_counts_344 : decode cX12_counts 344 = .ok (.iload 7, 2) := by decide +kernel
theorem dX12_counts_346 : decode cX12_counts 346 = .ok (.iconst 0, 1) := by decide +kernel
theorem dX12_counts_347 : decode cX12_counts 347 = .ok (.invokevirtual 144, 3) := by decide +kernel
theorem dX12_counts_350 : decode cX12_counts 350 = .ok (.istore 11, 2) := by decide +kernel
theorem dX12_counts_352 : decode cX12_counts 352 = .ok (.aload_n 0, 1) := by decide +kernel
theorem dX12_counts_353 : decode cX12_counts 353 = .ok (.sipush 204, 3) := by decide +kernel
theorem dX12_counts_356 : decode cX12_counts 356 = .ok (.invokevirtual 125, 3) := by decide +kernel
theorem dX12_counts_359 : decode cX12_counts 359 = .ok (.aload_n 0, 1) := by decide +kernel
theorem dX12_counts_360 : decode cX12_counts 360 = .ok (.invokevirtual 444, 3) := by decide +kernel
theorem dX12_counts_363 : decode cX12_counts 363 = .ok (.istore 12, 2) := by decide +kernel
theorem dX12_counts_365 : decode cX12_counts 365 = .ok (.aload_n 0, 1) := by decide +kernel
theorem dX12_counts_366 : decode cX12_counts 366 = .ok (.invokevirtual 151, 3) := by decide +kernel
theorem dX12_counts_369 : decode cX12_counts 369 = .ok (.istore 13, 2) := by decide +kernel
theorem dX12_counts_371 : decode cX12_counts 371 = .ok (.aload_n 0, 1) := by decide +kernel
theorem dX12_counts_372 : decode cX12_counts 372 = .ok (.iload 8, 2) := by decide +kernel
theorem dX12_counts_374 : decode cX12_counts 374 = .ok (.iload 9, 2) := by decide +kernel
theorem dX12_counts_376 : decode cX12_counts 376 = .ok (.iconst 0, 1) := by decide +kernel
theorem dX12_counts_377 : decode cX12_counts 377 = .ok (.invokevirtual 144, 3) := by decide +kernel
theorem dX12_counts_380 : decode cX12_counts 380 = .ok (.istore 11, 2) := by decide +kernel
theorem dX12_counts_382 : decode cX12_counts 382 = .ok (.aload_n 0, 1) := by decide +kernel
theorem dX12_counts_383 : decode cX12_counts 383 = .ok (.bipush 16, 2) := by decide +kernel
theorem dX12_counts_385 : decode cX12_counts 385 = .ok (.iload 7, 2) := by decide +kernel
theorem dX12_counts_387 : decode cX12_counts 387 = .ok (.iconst 0, 1) := by decide +kernel
theorem dX12_counts_388 : decode cX12_counts 388 = .ok (.invokevirtual 144, 3) := by decide +kernel
theorem dX12_counts_391 : decode cX12_counts 391 = .ok (.istore 11, 2) := by decide +kernel
theorem dX12_counts_393 : decode cX12_counts 393 = .ok (.aload_n 0, 1) := by decide +kernel
theorem dX12_counts_394 : decode cX12_counts 394 = .ok (.bipush 38, 2) := by decide +kernel
theorem dX12_counts_396 : decode cX12_counts 396 = .ok (.iconst 0, 1) := by decide +kernel
theorem dX12_counts_397 : decode cX12_counts 397 = .ok (.iconst 0, 1) := by decide +kernel
theorem dX12_counts_398 : decode cX12_counts 398 = .ok (.invokevirtual 144, 3) := by decide +kernel
theorem dX12_counts_401 : decode cX12_counts 401 = .ok (.istore 14, 2) := by decide +kernel
theorem dX12_counts_403 : decode cX12_counts 403 = .ok (.aload_n 0, 1) := by decide +kernel
theorem dX12_counts_404 : decode cX12_counts 404 = .ok (.iload_n 1, 1) := by decide +kernel
theorem dX12_counts_405 : decode cX12_counts 405 = .ok (.invokevirtual 441, 3) := by decide +kernel
theorem dX12_counts_408 : decode cX12_counts 408 = .ok (.aload_n 0, 1) := by decide +kernel
theorem dX12_counts_409 : decode cX12_counts 409 = .ok (.invokevirtual 527, 3) := by decide +kernel
theorem dX12_counts_412 : decode cX12_counts 412 = .ok (.aload_n 0, 1) := by decide +kernel
theorem dX12_counts_413 : decode cX12_counts 413 = .ok (.invokevirtual 417, 3) := by decide +kernel
theorem dX12_counts_416 : decode cX12_counts 416 = .ok (.aload_n 0, 1) := by decide +kernel
theorem dX12_counts_417 : decode cX12_counts 417 = .ok (.dup, 1) := by decide +kernel
theorem dX12_counts_418 : decode cX12_counts 418 = .ok (.getfield 346, 3) := by decide +kernel
theorem dX12_counts_421 : decode cX12_counts 421 = .ok (.iconst 1, 1) := by decide +kernel
theorem dX12_counts_422 : decode cX12_counts 422 = .ok (.isub, 1) := by decide +kernel
theorem dX12_counts_423 : decode cX12_counts 423 = .ok (.putfield 346, 3) := by decide +kernel
theorem dX12_counts_426 : decode cX12_counts 426 = .ok (.aload_n 0, 1) := by decide +kernel
theorem dX12_counts_427 : decode cX12_counts 427 = .ok (.aload_n 0, 1) := by decide +kernel
theorem dX12_counts_428 : decode cX12_counts 428 = .ok (.getfield 524, 3) := by decide +kernel
theorem dX12_counts_431 : decode cX12_counts 431 = .ok (.aload_n 0, 1) := by decide +kernel
theorem dX12_counts_432 : decode cX12_counts 432 = .ok (.getfield 346, 3) := by decide +kernel
theorem dX12_counts_435 : decode cX12_counts 435 = .ok (.iaload, 1) := by decide +kernel
theorem dX12_counts_436 : decode cX12_counts 436 = .ok (.invokevirtual 518, 3) := by decide +kernel
theorem dX12_counts_439 : decode cX12_counts 439 = .ok (.aload_n 0, 1) := by decide +kernel
theorem dX12_counts_440 : decode cX12_counts 440 = .ok (.iload 8, 2) := by decide +kernel
theorem dX12_counts_442 : decode cX12_counts 442 = .ok (.iload 9, 2) := by decide +kernel
theorem dX12_counts_444 : decode cX12_counts 444 = .ok (.iconst 0, 1) := by decide +kernel
theorem dX12_counts_445 : decode cX12_counts 445 = .ok (.invokevirtual 144, 3) := by decide +kernel
theorem dX12_counts_448 : decode cX12_counts 448 = .ok (.istore 11, 2) := by decide +kernel
theorem dX12_counts_450 : decode cX12_counts 450 = .ok (.aload_n 0, 1) := by decide +kernel
theorem dX12_counts_451 : decode cX12_counts 451 = .ok (.bipush 16, 2) := by decide +kernel
theorem dX12_counts_453 : decode cX12_counts 453 = .ok (.iload 7, 2) := by decide +kernel
theorem dX12_counts_455 : decode cX12_counts 455 = .ok (.iconst 0, 1) := by decide +kernel
theorem dX12_counts_456 : decode cX12_counts 456 = .ok (.invokevirtual 144, 3) := by decide +kernel
theorem dX12_counts_459 : decode cX12_counts 459 = .ok (.istore 11, 2) := by decide +kernel
theorem dX12_counts_461 : decode cX12_counts 461 = .ok (.aload_n 0, 1) := by decide +kernel
theorem dX12_counts_462 : decode cX12_counts 462 = .ok (.bipush 39, 2) := by decide +kernel
theorem dX12_counts_464 : decode cX12_counts 464 = .ok (.iconst 0, 1) := by decide +kernel
theorem dX12_counts_465 : decode cX12_counts 465 = .ok (.iconst 0, 1) := by decide +kernel
theorem dX12_counts_466 : decode cX12_counts 466 = .ok (.invokevirtual 144, 3) := by decide +kernel
theorem dX12_counts_469 : decode cX12_counts 469 = .ok (.istore 15, 2) := by decide +kernel
theorem dX12_counts_471 : decode cX12_counts 471 = .ok (.aload_n 0, 1) := by decide +kernel
theorem dX12_counts_472 : decode cX12_counts 472 = .ok (.iload 8, 2) := by decide +kernel
theorem dX12_counts_474 : decode cX12_counts 474 = .ok (.iload 9, 2) := by decide +kernel
theorem dX12_counts_476 : decode cX12_counts 476 = .ok (.iconst 0, 1) := by decide +kernel
theorem dX12_counts_477 : decode cX12_counts 477 = .ok (.invokevirtual 144, 3) := by decide +kernel
theorem dX12_counts_480 : decode cX12_counts 480 = .ok (.istore 11, 2) := by decide +kernel
theorem dX12_counts_482 : decode cX12_counts 482 = .ok (.aload_n 0, 1) := by decide +kernel
theorem dX12_counts_483 : decode cX12_counts 483 = .ok (.bipush 17, 2) := by decide +kernel
theorem dX12_counts_485 : decode cX12_counts 485 = .ok (.iload 7, 2) := by decide +kernel
theorem dX12_counts_487 : decode cX12_counts 487 = .ok (.iconst 0, 1) := by decide +kernel
theorem dX12_counts_488 : decode cX12_counts 488 = .ok (.invokevirtual 144, 3) := by decide +kernel
theorem dX12_counts_491 : decode cX12_counts 491 = .ok (.istore 11, 2) := by decide +kernel
theorem dX12_counts_493 : decode cX12_counts 493 = .ok (.aload_n 0, 1) := by decide +kernel
theorem dX12_counts_494 : decode cX12_counts 494 = .ok (.lconst 1, 1) := by decide +kernel
theorem dX12_counts_495 : decode cX12_counts 495 = .ok (.invokevirtual 374, 3) := by decide +kernel
theorem dX12_counts_498 : decode cX12_counts 498 = .ok (.aload_n 0, 1) := by decide +kernel
theorem dX12_counts_499 : decode cX12_counts 499 = .ok (.sipush 240, 3) := by decide +kernel
theorem dX12_counts_502 : decode cX12_counts 502 = .ok (.iload_n 1, 1) := by decide +kernel
theorem dX12_counts_503 : decode cX12_counts 503 = .ok (.iload 7, 2) := by decide +kernel
theorem dX12_counts_505 : decode cX12_counts 505 = .ok (.iconst 3, 1) := by decide +kernel
theorem dX12_counts_506 : decode cX12_counts 506 = .ok (.invokevirtual 456, 3) := by decide +kernel
theorem dX12_counts_509 : decode cX12_counts 509 = .ok (.istore 12, 2) := by decide +kernel
theorem dX12_counts_511 : decode cX12_counts 511 = .ok (.aload_n 0, 1) := by decide +kernel
theorem dX12_counts_512 : decode cX12_counts 512 = .ok (.bipush 18, 2) := by decide +kernel
theorem dX12_counts_514 : decode cX12_counts 514 = .ok (.iload 7, 2) := by decide +kernel
theorem dX12_counts_516 : decode cX12_counts 516 = .ok (.iconst 0, 1) := by decide +kernel
theorem dX12_counts_517 : decode cX12_counts 517 = .ok (.invokevirtual 144, 3) := by decide +kernel
theorem dX12_counts_520 : decode cX12_counts 520 = .ok (.istore 11, 2) := by decide +kernel
theorem dX12_counts_522 : decode cX12_counts 522 = .ok (.aload_n 0, 1) := by decide +kernel
theorem dX12_counts_523 : decode cX12_counts 523 = .ok (.bipush 28, 2) := by decide +kernel
theorem dX12_counts_525 : decode cX12_counts 525 = .ok (.iload 13, 2) := by decide +kernel
theorem dX12_counts_527 : decode cX12_counts 527 = .ok (.iconst 0, 1) := by decide +kernel
theorem dX12_counts_528 : decode cX12_counts 528 = .ok (.invokevirtual 144, 3) := by decide +kernel
theorem dX12_counts_531 : decode cX12_counts 531 = .ok (.istore 11, 2) := by decide +kernel
theorem dX12_counts_533 : decode cX12_counts 533 = .ok (.aload_n 0, 1) := by decide +kernel
theorem dX12_counts_534 : decode cX12_counts 534 = .ok (.iload 14, 2) := by decide +kernel
theorem dX12_counts_536 : decode cX12_counts 536 = .ok (.invokevirtual 447, 3) := by decide +kernel
theorem dX12_counts_539 : decode cX12_counts 539 = .ok (.aload_n 0, 1) := by decide +kernel
theorem dX12_counts_540 : decode cX12_counts 540 = .ok (.iload 15, 2) := by decide +kernel
theorem dX12_counts_542 : decode cX12_counts 542 = .ok (.invokevirtual 447, 3) := by decide +kernel
theorem dX12_counts_545 : decode cX12_counts 545 = .ok (.aload_n 0, 1) := by decide +kernel
theorem dX12_counts_546 : decode cX12_counts 546 = .ok (.aload_n 0, 1) := by decide +kernel
theorem dX12_counts_547 : decode cX12_counts 547 = .ok (.getfield 521, 3) := by decide +kernel
theorem dX12_counts_550 : decode cX12_counts 550 = .ok (.aload_n 0, 1) := by decide +kernel
theorem dX12_counts_551 : decode cX12_counts 551 = .ok (.getfield 346, 3) := by decide +kernel
theorem dX12_counts_554 : decode cX12_counts 554 = .ok (.iaload, 1) := by decide +kernel
theorem dX12_counts_555 : decode cX12_counts 555 = .ok (.invokevirtual 518, 3) := by decide +kernel
theorem dX12_counts_558 : decode cX12_counts 558 = .ok (.aload_n 0, 1) := by decide +kernel
theorem dX12_counts_559 : decode cX12_counts 559 = .ok (.bipush 37, 2) := by decide +kernel
theorem dX12_counts_561 : decode cX12_counts 561 = .ok (.iconst 0, 1) := by decide +kernel
theorem dX12_counts_562 : decode cX12_counts 562 = .ok (.iconst 0, 1) := by decide +kernel
theorem dX12_counts_563 : decode cX12_counts 563 = .ok (.invokevirtual 144, 3) := by decide +kernel
theorem dX12_counts_566 : decode cX12_counts 566 = .ok (.istore 11, 2) := by decide +kernel
theorem dX12_counts_568 : decode cX12_counts 568 = .ok (.return_, 1) := by decide +kernel
theorem dX12_cases_0 : decode cX12_cases 0 = .ok (.aload_n 0, 1) := by decide +kernel
theorem dX12_cases_1 : decode cX12_cases 1 = .ok (.invokevirtual 444, 3) := by decide +kernel
theorem dX12_cases_4 : decode cX12_cases 4 = .ok (.istore_n 1, 1) := by decide +kernel
theorem dX12_cases_5 : decode cX12_cases 5 = .ok (.aload_n 0, 1) := by decide +kernel
theorem dX12_cases_6 : decode cX12_cases 6 = .ok (.sipush 225, 3) := by decide +kernel
theorem dX12_cases_9 : decode cX12_cases 9 = .ok (.invokevirtual 307, 3) := by decide +kernel
theorem dX12_cases_12 : decode cX12_cases 12 = .ok (.iconst (-1), 1) := by decide +kernel
theorem dX12_cases_13 : decode cX12_cases 13 = .ok (.istore_n 2, 1) := by decide +kernel
theorem dX12_cases_14 : decode cX12_cases 14 = .ok (.aload_n 0, 1) := by decide +kernel
theorem dX12_cases_15 : decode cX12_cases 15 = .ok (.bipush 122, 2) := by decide +kernel
theorem dX12_cases_17 : decode cX12_cases 17 = .ok (.invokevirtual 112, 3) := by decide +kernel
theorem dX12_cases_20 : decode cX12_cases 20 = .ok (.ifCond .eq 109, 3) := by decide +kernel
theorem dX12_cases_23 : decode cX12_cases 23 = .ok (.aload_n 0, 1) := by decide +kernel
theorem dX12_cases_24 : decode cX12_cases 24 = .ok (.invokevirtual 151, 3) := by decide +kernel
theorem dX12_cases_27 : decode cX12_cases 27 = .ok (.istore_n 3, 1) := by decide +kernel
theorem dX12_cases_28 : decode cX12_cases 28 = .ok (.aload_n 0, 1) := by decide +kernel
theorem dX12_cases_29 : decode cX12_cases 29 = .ok (.dup, 1) := by decide +kernel
theorem dX12_cases_30 : decode cX12_cases 30 = .ok (.getfield 109, 3) := by decide +kernel
theorem dX12_cases_33 : decode cX12_cases 33 = .ok (.iconst 1, 1) := by decide +kernel
theorem dX12_cases_34 : decode cX12_cases 34 = .ok (.iadd, 1) := by decide +kernel
theorem dX12_cases_35 : decode cX12_cases 35 = .ok (.putfield 109, 3) := by decide +kernel
theorem dX12_cases_38 : decode cX12_cases 38 = .ok (.aload_n 0, 1) := by decide +kernel
theorem dX12_cases_39 : decode cX12_cases 39 = .ok (.invokevirtual 530, 3) := by decide +kernel
theorem dX12_cases_42 : decode cX12_cases 42 = .ok (.aload_n 0, 1) := by decide +kernel
theorem dX12_cases_43 : decode cX12_cases 43 = .ok (.sipush 230, 3) := by decide +kernel
theorem dX12_cases_46 : decode cX12_cases 46 = .ok (.invokevirtual 112, 3) := by decide +kernel
theorem dX12_cases_49 : decode cX12_cases 49 = .ok (.ifCond .ne (-21), 3) := by decide +kernel
theorem dX12_cases_52 : decode cX12_cases 52 = .ok (.aload_n 0, 1) := by decide +kernel
theorem dX12_cases_53 : decode cX12_cases 53 = .ok (.bipush 28, 2) := by decide +kernel
theorem dX12_cases_55 : decode cX12_cases 55 = .ok (.iconst 0, 1) := by decide +kernel
theorem dX12_cases_56 : decode cX12_cases 56 = .ok (.iconst 0, 1) := by decide +kernel
theorem dX12_cases_57 : decode cX12_cases 57 = .ok (.invokevirtual 144, 3) := by decide +kernel
theorem dX12_cases_60 : decode cX12_cases 60 = .ok (.istore 4, 2) := by decide +kernel
theorem dX12_cases_62 : decode cX12_cases 62 = .ok (.iload_n 3, 1) := by decide +kernel
theorem dX12_cases_63 : decode cX12_cases 63 = .ok (.istore 5, 2) := by decide +kernel
theorem dX12_cases_65 : decode cX12_cases 65 = .ok (.aload_n 0, 1) := by decide +kernel
theorem dX12_cases_66 : decode cX12_cases 66 = .ok (.getfield 101, 3) := by decide +kernel
theorem dX12_cases_69 : decode cX12_cases 69 = .ok (.ifCond .eq 34, 3) := by decide +kernel
theorem dX12_cases_72 : decode cX12_cases 72 = .ok (.aload_n 0, 1) := by decide +kernel
theorem dX12_cases_73 : decode cX12_cases 73 = .ok (.getfield 95, 3) := by decide +kernel
theorem dX12_cases_76 : decode cX12_cases 76 = .ok (.ifCond .ne 27, 3) := by decide +kernel
theorem dX12_cases_79 : decode cX12_cases 79 = .ok (.iload 5, 2) := by decide +kernel
theorem dX12_cases_81 : decode cX12_cases 81 = .ok (.iload 4, 2) := by decide +kernel
theorem dX12_cases_83 : decode cX12_cases 83 = .ok (.if_icmp .ge 20, 3) := by decide +kernel
theorem dX12_cases_86 : decode cX12_cases 86 = .ok (.aload_n 0, 1) := by decide +kernel
theorem dX12_cases_87 : decode cX12_cases 87 = .ok (.getfield 138, 3) := by decide +kernel
theorem dX12_cases_90 : decode cX12_cases 90 = .ok (.iload 5, 2) := by decide +kernel
theorem dX12_cases_92 : decode cX12_cases 92 = .ok (.aload_n 0, 1) := by decide +kernel
theorem dX12_cases_93 : decode cX12_cases 93 = .ok (.invokevirtual 151, 3) := by decide +kernel
theorem dX12_cases_96 : decode cX12_cases 96 = .ok (.iastore, 1) := by decide +kernel
theorem dX12_cases_97 : decode cX12_cases 97 = .ok (.iinc 5 1, 3) := by decide +kernel
theorem dX12_cases_100 : decode cX12_cases 100 = .ok (.goto (-35), 3) := by decide +kernel
theorem dX12_cases_103 : decode cX12_cases 103 = .ok (.aload_n 0, 1) := by decide +kernel
theorem dX12_cases_104 : decode cX12_cases 104 = .ok (.invokevirtual 417, 3) := by decide +kernel
theorem dX12_cases_107 : decode cX12_cases 107 = .ok (.aload_n 0, 1) := by decide +kernel
theorem dX12_cases_108 : decode cX12_cases 108 = .ok (.bipush 28, 2) := by decide +kernel
theorem dX12_cases_110 : decode cX12_cases 110 = .ok (.iload_n 2, 1) := by decide +kernel
theorem dX12_cases_111 : decode cX12_cases 111 = .ok (.iconst 0, 1) := by decide +kernel
theorem dX12_cases_112 : decode cX12_cases 112 = .ok (.invokevirtual 144, 3) := by decide +kernel
theorem dX12_cases_115 : decode cX12_cases 115 = .ok (.istore 5, 2) := by decide +kernel
theorem dX12_cases_117 : decode cX12_cases 117 = .ok (.iload 5, 2) := by decide +kernel
theorem dX12_cases_119 : decode cX12_cases 119 = .ok (.istore_n 2, 1) := by decide +kernel
theorem dX12_cases_120 : decode cX12_cases 120 = .ok (.aload_n 0, 1) := by decide +kernel
theorem dX12_cases_121 : decode cX12_cases 121 = .ok (.iload 4, 2) := by decide +kernel
theorem dX12_cases_123 : decode cX12_cases 123 = .ok (.invokevirtual 447, 3) := by decide +kernel
theorem dX12_cases_126 : decode cX12_cases 126 = .ok (.goto (-112), 3) := by decide +kernel
theorem dX12_cases_129 : decode cX12_cases 129 = .ok (.aload_n 0, 1) := by decide +kernel
theorem dX12_cases_130 : decode cX12_cases 130 = .ok (.bipush 37, 2) := by decide +kernel
theorem dX12_cases_132 : decode cX12_cases 132 = .ok (.iconst 0, 1) := by decide +kernel
theorem dX12_cases_133 : decode cX12_cases 133 = .ok (.iconst 0, 1) := by decide +kernel
theorem dX12_cases_134 : decode cX12_cases 134 = .ok (.invokevirtual 144, 3) := by decide +kernel
theorem dX12_cases_137 : decode cX12_cases 137 = .ok (.istore_n 1, 1) := by decide +kernel
theorem dX12_cases_138 : decode cX12_cases 138 = .ok (.aload_n 0, 1) := by decide +kernel
theorem dX12_cases_139 : decode cX12_cases 139 = .ok (.bipush 123, 2) := by decide +kernel
theorem dX12_cases_141 : decode cX12_cases 141 = .ok (.invokevirtual 218, 3) := by decide +kernel
theorem dX12_cases_144 : decode cX12_cases 144 = .ok (.ifCond .eq 7, 3) := by decide +kernel
theorem dX12_cases_147 : decode cX12_cases 147 = .ok (.aload_n 0, 1) := by decide +kernel
theorem dX12_cases_148 : decode cX12_cases 148 = .ok (.invokevirtual 417, 3) := by decide +kernel
theorem dX12_cases_151 : decode cX12_cases 151 = .ok (.aload_n 0, 1) := by decide +kernel
theorem dX12_cases_152 : decode cX12_cases 152 = .ok (.sipush 226, 3) := by decide +kernel
theorem dX12_cases_155 : decode cX12_cases 155 = .ok (.invokevirtual 314, 3) := by decide +kernel
theorem dX12_cases_158 : decode cX12_cases 158 = .ok (.aload_n 0, 1) := by decide +kernel
theorem dX12_cases_159 : decode cX12_cases 159 = .ok (.iload_n 2, 1) := by decide +kernel
theorem dX12_cases_160 : decode cX12_cases 160 = .ok (.invokevirtual 518, 3) := by decide +kernel
theorem dX12_cases_163 : decode cX12_cases 163 = .ok (.return_, 1) := by decide +kernel
theorem gs_10_15 : Cond.selects "SoftControllerModel" ⟨"SoftControllerModel", "choice", "()V"⟩ ⟨"SoftControllerModel", "choice", "()V"⟩ ∈ GW := gw_s (List.mem_map.mpr ⟨_, pin_10 _ (List.mem_of_getElem? (i := 15) rfl), rfl⟩) rfl
theorem gs_11_0 : Cond.selects "SoftControllerModel" ⟨"SoftControllerModel", "body", "()V"⟩ ⟨"SoftControllerModel", "body", "()V"⟩ ∈ GW := gw_s (List.mem_map.mpr ⟨_, pin_11 _ (List.mem_of_getElem? (i := 0) rfl), rfl⟩) rfl
theorem gs_11_2 : Cond.selects "SoftControllerModel" ⟨"SoftControllerModel", "again", "(I)V"⟩ ⟨"SoftControllerModel", "again", "(I)V"⟩ ∈ GW := gw_s (List.mem_map.mpr ⟨_, pin_11 _ (List.mem_of_getElem? (i := 2) rfl), rfl⟩) rfl
theorem gs_11_4 : Cond.selects "SoftControllerModel" ⟨"SoftControllerModel", "counts", "(I)V"⟩ ⟨"SoftControllerModel", "counts", "(I)V"⟩ ∈ GW := gw_s (List.mem_map.mpr ⟨_, pin_11 _ (List.mem_of_getElem? (i := 4) rfl), rfl⟩) rfl
theorem gs_11_5 : Cond.selects "SoftControllerModel" ⟨"SoftControllerModel", "cases", "()V"⟩ ⟨"SoftControllerModel", "cases", "()V"⟩ ∈ GW := gw_s (List.mem_map.mpr ⟨_, pin_11 _ (List.mem_of_getElem? (i := 5) rfl), rfl⟩) rfl
theorem gs_9_9 : Cond.selects "SoftControllerModel" ⟨"SoftControllerModel", "stat", "()V"⟩ ⟨"SoftControllerModel", "stat", "()V"⟩ ∈ GW := gw_s (List.mem_map.mpr ⟨_, pin_9 _ (List.mem_of_getElem? (i := 9) rfl), rfl⟩) rfl
theorem gw_2440 : (Jvm.Cond.methodLink "SoftControllerModel" (371 : Nat) ({ cls := "SoftControllerModel", name := "stat", desc := "()V" } : Jvm.MethodName)) ∈ GW := gw_t (tin_11 _ (List.mem_of_getElem? (i := 40) rfl)) rfl
theorem gw_2442 : (Jvm.Cond.instanceMethod ({ cls := "SoftControllerModel", name := "stat", desc := "()V" } : Jvm.MethodName)) ∈ GW := gw_t (tin_11 _ (List.mem_of_getElem? (i := 42) rfl)) rfl
theorem gw_2443 : (Jvm.Cond.code ({ cls := "SoftControllerModel", name := "stat", desc := "()V" } : Jvm.MethodName) prog_14_method_67_code (5 : Nat) (Option.none : Option Jvm.ClassFile.FieldType)) ∈ GW := gw_t (tin_11 _ (List.mem_of_getElem? (i := 43) rfl)) rfl
theorem gw_2528 : (Jvm.Cond.methodLink "SoftControllerModel" (500 : Nat) ({ cls := "SoftControllerModel", name := "choice", desc := "()V" } : Jvm.MethodName)) ∈ GW := gw_t (tin_11 _ (List.mem_of_getElem? (i := 128) rfl)) rfl
theorem gw_2530 : (Jvm.Cond.instanceMethod ({ cls := "SoftControllerModel", name := "choice", desc := "()V" } : Jvm.MethodName)) ∈ GW := gw_t (tin_11 _ (List.mem_of_getElem? (i := 130) rfl)) rfl
theorem gw_2531 : (Jvm.Cond.code ({ cls := "SoftControllerModel", name := "choice", desc := "()V" } : Jvm.MethodName) prog_14_method_70_code (6 : Nat) (Option.none : Option Jvm.ClassFile.FieldType)) ∈ GW := gw_t (tin_11 _ (List.mem_of_getElem? (i := 131) rfl)) rfl
theorem gw_2532 : (Jvm.Cond.methodLink "SoftControllerModel" (417 : Nat) ({ cls := "SoftControllerModel", name := "body", desc := "()V" } : Jvm.MethodName)) ∈ GW := gw_t (tin_11 _ (List.mem_of_getElem? (i := 132) rfl)) rfl
theorem gw_2534 : (Jvm.Cond.instanceMethod ({ cls := "SoftControllerModel", name := "body", desc := "()V" } : Jvm.MethodName)) ∈ GW := gw_t (tin_11 _ (List.mem_of_getElem? (i := 134) rfl)) rfl
theorem gw_2535 : (Jvm.Cond.code ({ cls := "SoftControllerModel", name := "body", desc := "()V" } : Jvm.MethodName) prog_14_method_66_code (1 : Nat) (Option.none : Option Jvm.ClassFile.FieldType)) ∈ GW := gw_t (tin_11 _ (List.mem_of_getElem? (i := 135) rfl)) rfl
theorem gw_2540 : (Jvm.Cond.methodLink "SoftControllerModel" (503 : Nat) ({ cls := "SoftControllerModel", name := "again", desc := "(I)V" } : Jvm.MethodName)) ∈ GW := gw_t (tin_11 _ (List.mem_of_getElem? (i := 140) rfl)) rfl
theorem gw_2542 : (Jvm.Cond.instanceMethod ({ cls := "SoftControllerModel", name := "again", desc := "(I)V" } : Jvm.MethodName)) ∈ GW := gw_t (tin_11 _ (List.mem_of_getElem? (i := 142) rfl)) rfl
theorem gw_2543 : (Jvm.Cond.code ({ cls := "SoftControllerModel", name := "again", desc := "(I)V" } : Jvm.MethodName) prog_14_method_73_code (5 : Nat) (Option.none : Option Jvm.ClassFile.FieldType)) ∈ GW := gw_t (tin_11 _ (List.mem_of_getElem? (i := 143) rfl)) rfl
theorem gw_2548 : (Jvm.Cond.methodLink "SoftControllerModel" (506 : Nat) ({ cls := "SoftControllerModel", name := "counts", desc := "(I)V" } : Jvm.MethodName)) ∈ GW := gw_t (tin_11 _ (List.mem_of_getElem? (i := 148) rfl)) rfl
theorem gw_2550 : (Jvm.Cond.instanceMethod ({ cls := "SoftControllerModel", name := "counts", desc := "(I)V" } : Jvm.MethodName)) ∈ GW := gw_t (tin_11 _ (List.mem_of_getElem? (i := 150) rfl)) rfl
theorem gw_2551 : (Jvm.Cond.code ({ cls := "SoftControllerModel", name := "counts", desc := "(I)V" } : Jvm.MethodName) prog_14_method_74_code (16 : Nat) (Option.none : Option Jvm.ClassFile.FieldType)) ∈ GW := gw_t (tin_11 _ (List.mem_of_getElem? (i := 151) rfl)) rfl
theorem gw_2552 : (Jvm.Cond.methodLink "SoftControllerModel" (509 : Nat) ({ cls := "SoftControllerModel", name := "cases", desc := "()V" } : Jvm.MethodName)) ∈ GW := gw_t (tin_11 _ (List.mem_of_getElem? (i := 152) rfl)) rfl
theorem gw_2554 : (Jvm.Cond.instanceMethod ({ cls := "SoftControllerModel", name := "cases", desc := "()V" } : Jvm.MethodName)) ∈ GW := gw_t (tin_11 _ (List.mem_of_getElem? (i := 154) rfl)) rfl
theorem gw_2555 : (Jvm.Cond.code ({ cls := "SoftControllerModel", name := "cases", desc := "()V" } : Jvm.MethodName) prog_14_method_75_code (6 : Nat) (Option.none : Option Jvm.ClassFile.FieldType)) ∈ GW := gw_t (tin_11 _ (List.mem_of_getElem? (i := 155) rfl)) rfl
section StatRows
variable {p : Program} {l : Launch} {e : Env} {R : Room} {s : State} {m : MethodId} {args : Array Value} {below : List Frame} {meth : Method} {c : Code} {H : Heap} {locs : List Loc} {Q : State → Prop}
variable {ls : Array Slot} {D : va_G} {kA : Nat → ClassId} {V Z : Nat → Nat} {A : Nat → Prop} {N d : Nat} {w : RSt}
/-- the contracts of the group, at a depth -/
def RecOK_S (l : Launch) (D : va_G) (kA : Nat → ClassId) (V Z : Nat → Nat) (d : Nat) (ro : Nat → Int32 → Int32 → RSt → Option (Int32 × RSt)) : Prop := (∀ (u : RSt) (sz : Nat) (r : Int32) (w : RSt), ro 0 0 0 u = some (r, w) → Met l yX12_body (Cond.code yX12_body cX12_body 1 none :: GW) { frames := d + 430, cells := 0, slots := 0, locals := 60 * d + 26000 } (rPc D kA V Z [] u sz) (rQv D kA Z u sz w) 0 0 (va_A (RW kA Z u) sz)) ∧ (∀ (u : RSt) (sz : Nat) (r : Int32) (w : RSt), ro 1 0 0 u = some (r, w) → Met l yX12_stat (Cond.code yX12_stat cX12_stat 5 none :: GW) { frames := d + 430, cells := 0, slots := 0, locals := 60 * d + 26000 } (rPc D kA V Z [] u sz) (rQv D kA Z u sz w) 0 0 (va_A (RW kA Z u) sz)) ∧ (∀ (u : RSt) (sz : Nat) (r : Int32) (w : RSt), ro 2 0 0 u = some (r, w) → Met l yX12_choice (Cond.code yX12_choice cX12_choice 6 none :: GW) { frames := d + 430, cells := 0, slots := 0, locals := 60 * d + 26000 } (rPc D kA V Z [] u sz) (rQv D kA Z u sz w) 0 0 (va_A (RW kA Z u) sz)) ∧ (∀ (l1 : Int32) (u : RSt) (sz : Nat) (r : Int32) (w : RSt), ro 3 l1 0 u = some (r, w) → Met l yX12_again (Cond.code yX12_again cX12_again 5 none :: GW) { frames := d + 430, cells := 0, slots := 0, locals := 60 * d + 26000 } (rPc D kA V Z [.int l1] u sz) (rQv D kA Z u sz w) 0 0 (va_A (RW kA Z u) sz)) ∧ (∀ (l1 : Int32) (u : RSt) (sz : Nat) (r : Int32) (w : RSt), ro 4 l1 0 u = some (r, w) → Met l yX12_counts (Cond.code yX12_counts cX12_counts 16 none :: GW) { frames := d + 430, cells := 0, slots := 0, locals := 60 * d + 26000 } (rPc D kA V Z [.int l1] u sz) (rQv D kA Z u sz w) 0 0 (va_A (RW kA Z u) sz)) ∧ (∀ (u : RSt) (sz : Nat) (r : Int32) (w : RSt), ro 5 0 0 u = some (r, w) → Met l yX12_cases (Cond.code yX12_cases cX12_cases 6 none :: GW) { frames := d + 430, cells := 0, slots := 0, locals := 60 * d + 26000 } (rPc D kA V Z [] u sz) (rQv D kA Z u sz w) 0 0 (va_A (RW kA Z u) sz))
theorem kc_body {r : Int32} {cc : ByteArray} {pc nL : Nat} {c0 : Cond} {rest : List Value} {ro : Nat → Int32 → Int32 → RSt → Option (Int32 × RSt)} {u : RSt} (X : RC p s m args c cc nL c0 D kA V A) (hrec : RecOK_S l D kA V Z d ro) (hS : RS D kA Z A s u H locs) (h : ro 0 0 0 u = some (r, w)) (hF : d + 1 + 430 ≤ R.frames) (hL : 60 * (d + 1) + 26000 ≤ R.locals) (hl : ls.size = nL) (hc : (rest.map fun v => v.category).sum ≤ 8) (hdg : decode cc pc = .ok (.invokevirtual 417, 3)) (kk : ∀ H locs, RS D kA Z A s w H locs → W p l e R s m args below meth c H locs 0 0 Q (F0 m (pc + 3) ls (rest))) : W p l e R s m args below meth c H locs 0 0 Q (F0 m pc ls (.ref (Z 200) :: rest)) :=
  rcall_v (n := 0) X hS (hrec.1 u H.size _ _ h) (gw_V gw_2532 gw_2534 gs_11_0 gw_16 gw_2535) (by decide +kernel) (rc_fr hF) (rc_lo hL (Nat.le_of_ble_eq_true rfl)) rfl hl hc rfl hdg kk
theorem kc_stat {r : Int32} {cc : ByteArray} {pc nL : Nat} {c0 : Cond} {rest : List Value} {ro : Nat → Int32 → Int32 → RSt → Option (Int32 × RSt)} {u : RSt} (X : RC p s m args c cc nL c0 D kA V A) (hrec : RecOK_S l D kA V Z d ro) (hS : RS D kA Z A s u H locs) (h : ro 1 0 0 u = some (r, w)) (hF : d + 1 + 430 ≤ R.frames) (hL : 60 * (d + 1) + 26000 ≤ R.locals) (hl : ls.size = nL) (hc : (rest.map fun v => v.category).sum ≤ 8) (hdg : decode cc pc = .ok (.invokevirtual 371, 3)) (kk : ∀ H locs, RS D kA Z A s w H locs → W p l e R s m args below meth c H locs 0 0 Q (F0 m (pc + 3) ls (rest))) : W p l e R s m args below meth c H locs 0 0 Q (F0 m pc ls (.ref (Z 200) :: rest)) :=
  rcall_v (n := 0) X hS (hrec.2.1 u H.size _ _ h) (gw_V gw_2440 gw_2442 gs_9_9 gw_16 gw_2443) (by decide +kernel) (rc_fr hF) (rc_lo hL (Nat.le_of_ble_eq_true rfl)) rfl hl hc rfl hdg kk
theorem kc_choice {r : Int32} {cc : ByteArray} {pc nL : Nat} {c0 : Cond} {rest : List Value} {ro : Nat → Int32 → Int32 → RSt → Option (Int32 × RSt)} {u : RSt} (X : RC p s m args c cc nL c0 D kA V A) (hrec : RecOK_S l D kA V Z d ro) (hS : RS D kA Z A s u H locs) (h : ro 2 0 0 u = some (r, w)) (hF : d + 1 + 430 ≤ R.frames) (hL : 60 * (d + 1) + 26000 ≤ R.locals) (hl : ls.size = nL) (hc : (rest.map fun v => v.category).sum ≤ 8) (hdg : decode cc pc = .ok (.invokevirtual 500, 3)) (kk : ∀ H locs, RS D kA Z A s w H locs → W p l e R s m args below meth c H locs 0 0 Q (F0 m (pc + 3) ls (rest))) : W p l e R s m args below meth c H locs 0 0 Q (F0 m pc ls (.ref (Z 200) :: rest)) :=
  rcall_v (n := 0) X hS (hrec.2.2.1 u H.size _ _ h) (gw_V gw_2528 gw_2530 gs_10_15 gw_16 gw_2531) (by decide +kernel) (rc_fr hF) (rc_lo hL (Nat.le_of_ble_eq_true rfl)) rfl hl hc rfl hdg kk
theorem kc_again {r : Int32} {cc : ByteArray} {pc nL : Nat} {c0 : Cond} {rest : List Value} {ro : Nat → Int32 → Int32 → RSt → Option (Int32 × RSt)} {l1 : Int32} {u : RSt} (X : RC p s m args c cc nL c0 D kA V A) (hrec : RecOK_S l D kA V Z d ro) (hS : RS D kA Z A s u H locs) (h : ro 3 l1 0 u = some (r, w)) (hF : d + 1 + 430 ≤ R.frames) (hL : 60 * (d + 1) + 26000 ≤ R.locals) (hl : ls.size = nL) (hc : (rest.map fun v => v.category).sum ≤ 8) (hdg : decode cc pc = .ok (.invokevirtual 503, 3)) (kk : ∀ H locs, RS D kA Z A s w H locs → W p l e R s m args below meth c H locs 0 0 Q (F0 m (pc + 3) ls (rest))) : W p l e R s m args below meth c H locs 0 0 Q (F0 m pc ls (.int l1 :: .ref (Z 200) :: rest)) :=
  rcall_v (n := 1) X hS (hrec.2.2.2.1 l1 u H.size _ _ h) (gw_V gw_2540 gw_2542 gs_11_2 gw_16 gw_2543) (by decide +kernel) (rc_fr hF) (rc_lo hL (Nat.le_of_ble_eq_true rfl)) rfl hl hc rfl hdg kk
theorem kc_counts {r : Int32} {cc : ByteArray} {pc nL : Nat} {c0 : Cond} {rest : List Value} {ro : Nat → Int32 → Int32 → RSt → Option (Int32 × RSt)} {l1 : Int32} {u : RSt} (X : RC p s m args c cc nL c0 D kA V A) (hrec : RecOK_S l D kA V Z d ro) (hS : RS D kA Z A s u H locs) (h : ro 4 l1 0 u = some (r, w)) (hF : d + 1 + 430 ≤ R.frames) (hL : 60 * (d + 1) + 26000 ≤ R.locals) (hl : ls.size = nL) (hc : (rest.map fun v => v.category).sum ≤ 8) (hdg : decode cc pc = .ok (.invokevirtual 506, 3)) (kk : ∀ H locs, RS D kA Z A s w H locs → W p l e R s m args below meth c H locs 0 0 Q (F0 m (pc + 3) ls (rest))) : W p l e R s m args below meth c H locs 0 0 Q (F0 m pc ls (.int l1 :: .ref (Z 200) :: rest)) :=
  rcall_v (n := 1) X hS (hrec.2.2.2.2.1 l1 u H.size _ _ h) (gw_V gw_2548 gw_2550 gs_11_4 gw_16 gw_2551) (by decide +kernel) (rc_fr hF) (rc_lo hL (Nat.le_of_ble_eq_true rfl)) rfl hl hc rfl hdg kk
theorem kc_cases {r : Int32} {cc : ByteArray} {pc nL : Nat} {c0 : Cond} {rest : List Value} {ro : Nat → Int32 → Int32 → RSt → Option (Int32 × RSt)} {u : RSt} (X : RC p s m args c cc nL c0 D kA V A) (hrec : RecOK_S l D kA V Z d ro) (hS : RS D kA Z A s u H locs) (h : ro 5 0 0 u = some (r, w)) (hF : d + 1 + 430 ≤ R.frames) (hL : 60 * (d + 1) + 26000 ≤ R.locals) (hl : ls.size = nL) (hc : (rest.map fun v => v.category).sum ≤ 8) (hdg : decode cc pc = .ok (.invokevirtual 509, 3)) (kk : ∀ H locs, RS D kA Z A s w H locs → W p l e R s m args below meth c H locs 0 0 Q (F0 m (pc + 3) ls (rest))) : W p l e R s m args below meth c H locs 0 0 Q (F0 m pc ls (.ref (Z 200) :: rest)) :=
  rcall_v (n := 0) X hS (hrec.2.2.2.2.2 u H.size _ _ h) (gw_V gw_2552 gw_2554 gs_11_5 gw_16 gw_2555) (by decide +kernel) (rc_fr hF) (rc_lo hL (Nat.le_of_ble_eq_true rfl)) rfl hl hc rfl hdg kk
def B_body_31 (N : Nat) (ro : Nat → Int32 → Int32 → RSt → Option (Int32 × RSt)) (u : RSt) : Option (Int32 × RSt) := bn (F_ends N 226 u) fun _ u_1 => some (0, u_1)
set_option maxHeartbeats 4000000 in
theorem b_body_31 {r : Int32} {ro : Nat → Int32 → Int32 → RSt → Option (Int32 × RSt)} (X : RC p s m args c cX12_body 1 (Cond.code yX12_body cX12_body 1 none) D kA V A) (hE : REv p l e R s m args below meth c cX12_body D kA Z A Q w) (hF : 4 ≤ R.frames) (hL : 84 ≤ R.locals) (hrec : RecOK_S l D kA V Z d ro) (hFd : d + 1 + 430 ≤ R.frames) (hLd : 60 * (d + 1) + 26000 ≤ R.locals)  {u : RSt} (h : B_body_31 N ro u = some (r, w)) (hS : RS D kA Z A s u H locs) (hl : lv_has ls 1 [(0, .ref (Z 200))]) : W p l e R s m args below meth c H locs 0 0 Q (F0 m 31 ls []) := by
  obtain ⟨⟨hx, hb, hml, hown, hts⟩, hK, hEV, hA⟩ := id X
  have hG : ∀ w ∈ GW, w.before args s = true := fun w h => hts w (List.mem_cons_of_mem _ h)
  unfold B_body_31 at h
  refine lv_aload_n hx hb dX12_body_31 rfl (lv_at hl 0 rfl) ?_
  refine lv_sipush (v := 226) hx hb dX12_body_32 (by decide) ?_
  obtain ⟨r_u_1, u_1, h_u_1, h⟩ := bn_of h
  refine kc_ends X hS h_u_1 (Nat.le_trans (Nat.le_of_ble_eq_true rfl) hF) (Nat.le_trans (Nat.le_of_ble_eq_true rfl) hL) hl.1 (Nat.le_of_ble_eq_true rfl) dX12_body_35 (fun H locs hS => ?_)
  obtain ⟨-, rfl⟩ := so h
  exact hE _ _ _ _ hS dX12_body_38
def B_body_7 (N : Nat) (ro : Nat → Int32 → Int32 → RSt → Option (Int32 × RSt)) (R_7 : RSt → Option (Int32 × RSt)) (u : RSt) : Option (Int32 × RSt) := if (u.1 67) = (0 : Int32) then (bn (F_is N 226 u) fun r_4 u_3 => if r_4 = (0 : Int32) then (bn (ro 1 0 0 u_3) fun _ u_6 => R_7 (u_6)) else (B_body_31 N ro u_3)) else (B_body_31 N ro u)
set_option maxHeartbeats 4000000 in
theorem b_body_7 {r : Int32} {ro : Nat → Int32 → Int32 → RSt → Option (Int32 × RSt)} (X : RC p s m args c cX12_body 1 (Cond.code yX12_body cX12_body 1 none) D kA V A) (hE : REv p l e R s m args below meth c cX12_body D kA Z A Q w) (hF : 4 ≤ R.frames) (hL : 84 ≤ R.locals) (hrec : RecOK_S l D kA V Z d ro) (hFd : d + 1 + 430 ≤ R.frames) (hLd : 60 * (d + 1) + 26000 ≤ R.locals) {R_7 : RSt → Option (Int32 × RSt)} (hR_7 : ∀ (u : RSt), R_7 (u) = some (r, w) → ∀ (H : Heap) (locs : List Loc) (ls : Array Slot), RS D kA Z A s u H locs → lv_has ls 1 [(0, .ref (Z 200))] → W p l e R s m args below meth c H locs 0 0 Q (F0 m 7 ls [])) {u : RSt} (h : B_body_7 N ro R_7 u = some (r, w)) (hS : RS D kA Z A s u H locs) (hl : lv_has ls 1 [(0, .ref (Z 200))]) : W p l e R s m args below meth c H locs 0 0 Q (F0 m 7 ls []) := by
  obtain ⟨⟨hx, hb, hml, hown, hts⟩, hK, hEV, hA⟩ := id X
  have hG : ∀ w ∈ GW, w.before args s = true := fun w h => hts w (List.mem_cons_of_mem _ h)
  unfold B_body_7 at h
  refine lv_aload_n hx hb dX12_body_7 rfl (lv_at hl 0 rfl) ?_
  refine rg_67 X hS dX12_body_8 ?_
  refine lv_if_ne (tgt := 31) hx hb dX12_body_11 (by decide) (fun c_2 => ?_) (fun c_2 => ?_)
  · have h := im (c_2) h
    exact b_body_31 X hE hF hL hrec hFd hLd h hS (lv_sub hl [0] rfl)
  · have h := ip (c_2) h
    refine lv_aload_n hx hb dX12_body_14 rfl (lv_at hl 0 rfl) ?_
    refine lv_sipush (v := 226) hx hb dX12_body_15 (by decide) ?_
    obtain ⟨r_4, u_3, h_u_3, h⟩ := bn_of h
    refine kc_is X hS h_u_3 (Nat.le_trans (Nat.le_of_ble_eq_true rfl) hF) (Nat.le_trans (Nat.le_of_ble_eq_true rfl) hL) hl.1 (Nat.le_of_ble_eq_true rfl) dX12_body_18 (fun H locs hS => ?_)
    refine lv_if_ne (tgt := 31) hx hb dX12_body_21 (by decide) (fun c_5 => ?_) (fun c_5 => ?_)
    · have h := im (c_5) h
      exact b_body_31 X hE hF hL hrec hFd hLd h hS (lv_sub hl [0] rfl)
    · have h := ip (c_5) h
      refine lv_aload_n hx hb dX12_body_24 rfl (lv_at hl 0 rfl) ?_
      obtain ⟨r_u_6, u_6, h_u_6, h⟩ := bn_of h
      refine kc_stat X hrec hS h_u_6 hFd hLd hl.1 (Nat.le_of_ble_eq_true rfl) dX12_body_25 (fun H locs hS => ?_)
      refine lv_goto (tgt := 7) hx hb dX12_body_28 (by decide) ?_
      exact hR_7 _ h _ _ _ hS (lv_sub hl [0] rfl)
def LP_body_7 (N : Nat) (ro : Nat → Int32 → Int32 → RSt → Option (Int32 × RSt)) : Nat → RSt → Option (Int32 × RSt) := lp (fun R a => B_body_7 N ro R a)
theorem bl_body_7 {r : Int32} {ro : Nat → Int32 → Int32 → RSt → Option (Int32 × RSt)} (X : RC p s m args c cX12_body 1 (Cond.code yX12_body cX12_body 1 none) D kA V A) (hE : REv p l e R s m args below meth c cX12_body D kA Z A Q w) (hF : 4 ≤ R.frames) (hL : 84 ≤ R.locals) (hrec : RecOK_S l D kA V Z d ro) (hFd : d + 1 + 430 ≤ R.frames) (hLd : 60 * (d + 1) + 26000 ≤ R.locals)  : ∀ (n : Nat) (u : RSt), LP_body_7 N ro n (u) = some (r, w) → ∀ (H : Heap) (locs : List Loc) (ls : Array Slot), RS D kA Z A s u H locs → lv_has ls 1 [(0, .ref (Z 200))] → W p l e R s m args below meth c H locs 0 0 Q (F0 m 7 ls []) := by
  intro n
  induction n with
  | zero => intro u h; exact nomatch h
  | succ n ih => intro u h H locs ls hS hl; exact b_body_7 (N := N) (R_7 := LP_body_7 N ro n) X hE hF hL hrec hFd hLd ih h hS hl
def B_body_0 (N : Nat) (ro : Nat → Int32 → Int32 → RSt → Option (Int32 × RSt)) (u : RSt) : Option (Int32 × RSt) := bn (F_begins N 225 u) fun _ u_7 => LP_body_7 N ro N (u_7)
set_option maxHeartbeats 4000000 in
theorem b_body_0 {r : Int32} {ro : Nat → Int32 → Int32 → RSt → Option (Int32 × RSt)} (X : RC p s m args c cX12_body 1 (Cond.code yX12_body cX12_body 1 none) D kA V A) (hE : REv p l e R s m args below meth c cX12_body D kA Z A Q w) (hF : 4 ≤ R.frames) (hL : 84 ≤ R.locals) (hrec : RecOK_S l D kA V Z d ro) (hFd : d + 1 + 430 ≤ R.frames) (hLd : 60 * (d + 1) + 26000 ≤ R.locals)  {u : RSt} (h : B_body_0 N ro u = some (r, w)) (hS : RS D kA Z A s u H locs) (hl : lv_has ls 1 [(0, .ref (Z 200))]) : W p l e R s m args below meth c H locs 0 0 Q (F0 m 0 ls []) := by
  obtain ⟨⟨hx, hb, hml, hown, hts⟩, hK, hEV, hA⟩ := id X
  have hG : ∀ w ∈ GW, w.before args s = true := fun w h => hts w (List.mem_cons_of_mem _ h)
  unfold B_body_0 at h
  refine lv_aload_n hx hb dX12_body_0 rfl (lv_at hl 0 rfl) ?_
  refine lv_sipush (v := 225) hx hb dX12_body_1 (by decide) ?_
  obtain ⟨r_u_7, u_7, h_u_7, h⟩ := bn_of h
  refine kc_begins X hS h_u_7 (Nat.le_trans (Nat.le_of_ble_eq_true rfl) hF) (Nat.le_trans (Nat.le_of_ble_eq_true rfl) hL) hl.1 (Nat.le_of_ble_eq_true rfl) dX12_body_4 (fun H locs hS => ?_)
  exact bl_body_7 X hE hF hL hrec hFd hLd _ _ h _ _ _ hS (lv_sub hl [0] rfl)
def F_body (N : Nat) (ro : Nat → Int32 → Int32 → RSt → Option (Int32 × RSt)) (u : RSt) : Option (Int32 × RSt) := B_body_0 N ro u
set_option maxHeartbeats 4000000 in
theorem k_body (l : Launch) (D : va_G) (kA : Nat → ClassId) (V Z : Nat → Nat) (N : Nat) {d : Nat} (ro : Nat → Int32 → Int32 → RSt → Option (Int32 × RSt)) (hrec : RecOK_S l D kA V Z d ro) (u : RSt) (sz : Nat) {r : Int32} {w : RSt} (h : F_body N ro u = some (r, w)) : Met l yX12_body (Cond.code yX12_body cX12_body 1 none :: GW) { frames := d + 1 + 430, cells := 0, slots := 0, locals := 60 * (d + 1) + 26000 } (rPc D kA V Z [] u sz) (rQv D kA Z u sz w) 0 0 (va_A (RW kA Z u) sz) := by
  refine Met.ofW (cc := cX12_body) (maxL := 1) (ret := none) (by decide) rfl ?_
  intro p e s m args below meth c s₁ Bd hml hv
  obtain ⟨rfl, hsz, hP, hK, hD0, hE⟩ := hv
  have hts := atoms_spec (ws := Cond.code yX12_body cX12_body 1 none :: GW) Bd.pre
  have hl := lv_entry (.ref (Z 200) :: []) (n := 1) (Nat.le_of_ble_eq_true rfl)
  rw [lg_entry_eq]
  generalize (lg_sl (.ref (Z 200) :: []) ++ List.replicate (1 - (lg_sl (.ref (Z 200) :: [])).length) Slot.unset).toArray = ls at hl ⊢
  have hl : lv_has ls 1 [(0, .ref (Z 200))] := hl
  subst hsz
  have X : RC p s m (.ref (Z 200) :: []).toArray c cX12_body 1 (Cond.code yX12_body cX12_body 1 none) D kA V (va_A (RW kA Z u) s.heap.size) := ⟨⟨Bd.exec, Bd.bytes, hml, findClass_of_methodNamed Bd.named, hts⟩, hK, hE, fun q h => Or.inr h⟩
  exact b_body_0 X (rend_v (cy := cX12_body) X Bd.returns Bd.notSynchronized) (Nat.le_trans (Nat.le_of_ble_eq_true rfl) (Nat.le_add_left 430 _)) (Nat.le_trans (Nat.le_of_ble_eq_true rfl) (Nat.le_add_left 26000 _)) hrec (Nat.le_refl _) (Nat.le_refl _) h ⟨hP, hD0.self, va_S.rf⟩ (lv_sub hl [0] rfl)
def B_stat_66 (N : Nat) (ro : Nat → Int32 → Int32 → RSt → Option (Int32 × RSt)) (l1 : Int32) (l2 : Int32) (s0 : Int32) (u : RSt) : Option (Int32 × RSt) := if s0 = (0 : Int32) then (bn (F_stuck N u) fun _ u_29 => some (0, u_29)) else (bn (F_cost N l1 u) fun _ u_2 => if l2 = (1 : Int32) then (bn (F_isNext N 223 u_2) fun r_25 u_24 => if r_25 = (0 : Int32) then (bn (F_sets N u_24) fun _ u_27 => some (0, u_27)) else (bn (F_runs N u_24) fun _ u_28 => some (0, u_28))) else (pu (sI u_2 65 ((u_2.1 65) + 1)) fun u_4 => if l2 = 116 then (bn (ro 2 0 0 u_4) fun _ u_6 => some (0, u_6)) else (if l2 = 119 then (bn (ro 3 l1 0 u_4) fun _ u_8 => some (0, u_8)) else (if l2 = 120 then (bn (ro 4 l1 0 u_4) fun _ u_10 => some (0, u_10)) else (if l2 = 121 then (bn (ro 5 0 0 u_4) fun _ u_12 => some (0, u_12)) else (if l2 = 124 then (bn (F_leaves N l2 l1 u_4) fun _ u_14 => some (0, u_14)) else (if l2 = 125 then (bn (F_leaves N l2 l1 u_4) fun _ u_16 => some (0, u_16)) else (if l2 = 126 then (bn (F_returns N l1 u_4) fun _ u_18 => some (0, u_18)) else (bn (G_expression N u_4) fun r_20 u_19 => bn (F_emit N 35 l1 0 u_19) fun r_22 u_21 => bn (F_take N 229 u_21) fun _ u_23 => some (0, u_23))))))))))
set_option maxHeartbeats 4000000 in
theorem b_stat_66 {r : Int32} {ro : Nat → Int32 → Int32 → RSt → Option (Int32 × RSt)} (X : RC p s m args c cX12_stat 5 (Cond.code yX12_stat cX12_stat 5 none) D kA V A) (hE : REv p l e R s m args below meth c cX12_stat D kA Z A Q w) (hF : 414 ≤ R.frames) (hL : 24560 ≤ R.locals) (hrec : RecOK_S l D kA V Z d ro) (hFd : d + 1 + 430 ≤ R.frames) (hLd : 60 * (d + 1) + 26000 ≤ R.locals) {l1 : Int32} {l2 : Int32} {s0 : Int32}  {u : RSt} (h : B_stat_66 N ro l1 l2 s0 u = some (r, w)) (hS : RS D kA Z A s u H locs) (hl : lv_has ls 5 [(0, .ref (Z 200)), (1, .int l1), (2, .int l2)]) : W p l e R s m args below meth c H locs 0 0 Q (F0 m 66 ls [.int s0]) := by
  obtain ⟨⟨hx, hb, hml, hown, hts⟩, hK, hEV, hA⟩ := id X
  have hG : ∀ w ∈ GW, w.before args s = true := fun w h => hts w (List.mem_cons_of_mem _ h)
  unfold B_stat_66 at h
  refine lv_istore_n (lv' := [(3, .int s0), (0, .ref (Z 200)), (1, .int l1), (2, .int l2)]) hx hb dX12_stat_66 rfl hl (by decide) rfl (fun ls hl => ?_)
  refine lv_iload_n hx hb dX12_stat_67 rfl (lv_at hl 0 rfl) ?_
  refine lv_if_ne (tgt := 76) hx hb dX12_stat_68 (by decide) (fun c_1 => ?_) (fun c_1 => ?_)
  · have h := im (c_1) h
    refine lv_aload_n hx hb dX12_stat_76 rfl (lv_at hl 1 rfl) ?_
    refine lv_iload_n hx hb dX12_stat_77 rfl (lv_at hl 2 rfl) ?_
    obtain ⟨r_u_2, u_2, h_u_2, h⟩ := bn_of h
    refine kc_cost X hS h_u_2 (Nat.le_trans (Nat.le_of_ble_eq_true rfl) hF) (Nat.le_trans (Nat.le_of_ble_eq_true rfl) hL) hl.1 (Nat.le_of_ble_eq_true rfl) dX12_stat_78 (fun H locs hS => ?_)
    refine lv_iload_n hx hb dX12_stat_81 rfl (lv_at hl 3 rfl) ?_
    refine lv_iconst (v := 1) hx hb dX12_stat_82 (by decide) ?_
    refine lv_icmp_ne (tgt := 108) hx hb dX12_stat_83 (by decide) (fun c_3 => ?_) (fun c_3 => ?_)
    · have h := im (c_3) h
      refine lv_aload_n hx hb dX12_stat_108 rfl (lv_at hl 1 rfl) ?_
      refine lv_dup hx hb dX12_stat_109 rfl ?_
      refine rg_65 X hS dX12_stat_110 ?_
      refine lv_iconst (v := 1) hx hb dX12_stat_113 (by decide) ?_
      refine lv_iadd hx hb dX12_stat_114 ?_
      obtain ⟨u_4, e_u_4, h⟩ := pu_of h
      refine rp_65 X hS e_u_4 dX12_stat_115 (fun H locs hS => ?_)
      refine lv_iload_n hx hb dX12_stat_118 rfl (lv_at hl 3 rfl) ?_
      by_cases e_5 : l2 = 116
      · have h := ip e_5 h
        refine lv_tableIn (off := 57) (tgt := 176) hx hb dX12_stat_119 (by rw [e_5]; decide) (by rw [e_5]; decide) (by rw [e_5]; rfl) (by decide) ?_
        refine lv_aload_n hx hb dX12_stat_176 rfl (lv_at hl 1 rfl) ?_
        obtain ⟨r_u_6, u_6, h_u_6, h⟩ := bn_of h
        refine kc_choice X hrec hS h_u_6 hFd hLd hl.1 (Nat.le_of_ble_eq_true rfl) dX12_stat_177 (fun H locs hS => ?_)
        refine lv_goto (tgt := 246) hx hb dX12_stat_180 (by decide) ?_
        obtain ⟨-, rfl⟩ := so h
        exact hE _ _ _ _ hS dX12_stat_246
      have h := im e_5 h
      by_cases e_7 : l2 = 119
      · have h := ip e_7 h
        refine lv_tableIn (off := 64) (tgt := 183) hx hb dX12_stat_119 (by rw [e_7]; decide) (by rw [e_7]; decide) (by rw [e_7]; rfl) (by decide) ?_
        refine lv_aload_n hx hb dX12_stat_183 rfl (lv_at hl 1 rfl) ?_
        refine lv_iload_n hx hb dX12_stat_184 rfl (lv_at hl 2 rfl) ?_
        obtain ⟨r_u_8, u_8, h_u_8, h⟩ := bn_of h
        refine kc_again X hrec hS h_u_8 hFd hLd hl.1 (Nat.le_of_ble_eq_true rfl) dX12_stat_185 (fun H locs hS => ?_)
        refine lv_goto (tgt := 246) hx hb dX12_stat_188 (by decide) ?_
        obtain ⟨-, rfl⟩ := so h
        exact hE _ _ _ _ hS dX12_stat_246
      have h := im e_7 h
      by_cases e_9 : l2 = 120
      · have h := ip e_9 h
        refine lv_tableIn (off := 72) (tgt := 191) hx hb dX12_stat_119 (by rw [e_9]; decide) (by rw [e_9]; decide) (by rw [e_9]; rfl) (by decide) ?_
        refine lv_aload_n hx hb dX12_stat_191 rfl (lv_at hl 1 rfl) ?_
        refine lv_iload_n hx hb dX12_stat_192 rfl (lv_at hl 2 rfl) ?_
        obtain ⟨r_u_10, u_10, h_u_10, h⟩ := bn_of h
        refine kc_counts X hrec hS h_u_10 hFd hLd hl.1 (Nat.le_of_ble_eq_true rfl) dX12_stat_193 (fun H locs hS => ?_)
        refine lv_goto (tgt := 246) hx hb dX12_stat_196 (by decide) ?_
        obtain ⟨-, rfl⟩ := so h
        exact hE _ _ _ _ hS dX12_stat_246
      have h := im e_9 h
      by_cases e_11 : l2 = 121
      · have h := ip e_11 h
        refine lv_tableIn (off := 80) (tgt := 199) hx hb dX12_stat_119 (by rw [e_11]; decide) (by rw [e_11]; decide) (by rw [e_11]; rfl) (by decide) ?_
        refine lv_aload_n hx hb dX12_stat_199 rfl (lv_at hl 1 rfl) ?_
        obtain ⟨r_u_12, u_12, h_u_12, h⟩ := bn_of h
        refine kc_cases X hrec hS h_u_12 hFd hLd hl.1 (Nat.le_of_ble_eq_true rfl) dX12_stat_200 (fun H locs hS => ?_)
        refine lv_goto (tgt := 246) hx hb dX12_stat_203 (by decide) ?_
        obtain ⟨-, rfl⟩ := so h
        exact hE _ _ _ _ hS dX12_stat_246
      have h := im e_11 h
      by_cases e_13 : l2 = 124
      · have h := ip e_13 h
        refine lv_tableIn (off := 87) (tgt := 206) hx hb dX12_stat_119 (by rw [e_13]; decide) (by rw [e_13]; decide) (by rw [e_13]; rfl) (by decide) ?_
        refine lv_aload_n hx hb dX12_stat_206 rfl (lv_at hl 1 rfl) ?_
        refine lv_iload_n hx hb dX12_stat_207 rfl (lv_at hl 3 rfl) ?_
        refine lv_iload_n hx hb dX12_stat_208 rfl (lv_at hl 2 rfl) ?_
        obtain ⟨r_u_14, u_14, h_u_14, h⟩ := bn_of h
        refine kc_leaves X hS h_u_14 (Nat.le_trans (Nat.le_of_ble_eq_true rfl) hF) (Nat.le_trans (Nat.le_of_ble_eq_true rfl) hL) hl.1 (Nat.le_of_ble_eq_true rfl) dX12_stat_209 (fun H locs hS => ?_)
        refine lv_goto (tgt := 246) hx hb dX12_stat_212 (by decide) ?_
        obtain ⟨-, rfl⟩ := so h
        exact hE _ _ _ _ hS dX12_stat_246
      have h := im e_13 h
      by_cases e_15 : l2 = 125
      · have h := ip e_15 h
        refine lv_tableIn (off := 87) (tgt := 206) hx hb dX12_stat_119 (by rw [e_15]; decide) (by rw [e_15]; decide) (by rw [e_15]; rfl) (by decide) ?_
        refine lv_aload_n hx hb dX12_stat_206 rfl (lv_at hl 1 rfl) ?_
        refine lv_iload_n hx hb dX12_stat_207 rfl (lv_at hl 3 rfl) ?_
        refine lv_iload_n hx hb dX12_stat_208 rfl (lv_at hl 2 rfl) ?_
        obtain ⟨r_u_16, u_16, h_u_16, h⟩ := bn_of h
        refine kc_leaves X hS h_u_16 (Nat.le_trans (Nat.le_of_ble_eq_true rfl) hF) (Nat.le_trans (Nat.le_of_ble_eq_true rfl) hL) hl.1 (Nat.le_of_ble_eq_true rfl) dX12_stat_209 (fun H locs hS => ?_)
        refine lv_goto (tgt := 246) hx hb dX12_stat_212 (by decide) ?_
        obtain ⟨-, rfl⟩ := so h
        exact hE _ _ _ _ hS dX12_stat_246
      have h := im e_15 h
      by_cases e_17 : l2 = 126
      · have h := ip e_17 h
        refine lv_tableIn (off := 96) (tgt := 215) hx hb dX12_stat_119 (by rw [e_17]; decide) (by rw [e_17]; decide) (by rw [e_17]; rfl) (by decide) ?_
        refine lv_aload_n hx hb dX12_stat_215 rfl (lv_at hl 1 rfl) ?_
        refine lv_iload_n hx hb dX12_stat_216 rfl (lv_at hl 2 rfl) ?_
        obtain ⟨r_u_18, u_18, h_u_18, h⟩ := bn_of h
        refine kc_returns X hS h_u_18 (Nat.le_trans (Nat.le_of_ble_eq_true rfl) hF) (Nat.le_trans (Nat.le_of_ble_eq_true rfl) hL) hl.1 (Nat.le_of_ble_eq_true rfl) dX12_stat_217 (fun H locs hS => ?_)
        refine lv_goto (tgt := 246) hx hb dX12_stat_220 (by decide) ?_
        obtain ⟨-, rfl⟩ := so h
        exact hE _ _ _ _ hS dX12_stat_246
      have h := im e_17 h
      refine lv_tableDef (tgt := 223) hx hb dX12_stat_119 (by decide) (fun off h1 h2 ho => by
        have hI : (l2).toInt = 116 ∨ (l2).toInt = 117 ∨ (l2).toInt = 118 ∨ (l2).toInt = 119 ∨ (l2).toInt = 120 ∨ (l2).toInt = 121 ∨ (l2).toInt = 122 ∨ (l2).toInt = 123 ∨ (l2).toInt = 124 ∨ (l2).toInt = 125 ∨ (l2).toInt = 126 := by omega
        rcases hI with q | q | q | q | q | q | q | q | q | q | q
        · exact absurd (Int32.toInt_inj.mp (q.trans (by decide))) e_5
        · rw [q] at ho; simpa using ho
        · rw [q] at ho; simpa using ho
        · exact absurd (Int32.toInt_inj.mp (q.trans (by decide))) e_7
        · exact absurd (Int32.toInt_inj.mp (q.trans (by decide))) e_9
        · exact absurd (Int32.toInt_inj.mp (q.trans (by decide))) e_11
        · rw [q] at ho; simpa using ho
        · rw [q] at ho; simpa using ho
        · exact absurd (Int32.toInt_inj.mp (q.trans (by decide))) e_13
        · exact absurd (Int32.toInt_inj.mp (q.trans (by decide))) e_15
        · exact absurd (Int32.toInt_inj.mp (q.trans (by decide))) e_17) (by decide) ?_
      refine lv_aload_n hx hb dX12_stat_223 rfl (lv_at hl 1 rfl) ?_
      obtain ⟨r_20, u_19, h_u_19, h⟩ := bn_of h
      refine kg_expression X hS h_u_19 (Nat.le_trans (Nat.le_of_ble_eq_true rfl) hF) (Nat.le_trans (Nat.le_of_ble_eq_true rfl) hL) hl.1 (Nat.le_of_ble_eq_true rfl) dX12_stat_224 (fun H locs hS => ?_)
      refine lv_istore (lv' := [(4, .int r_20), (3, .int s0), (0, .ref (Z 200)), (1, .int l1), (2, .int l2)]) hx hb dX12_stat_227 hl (by decide) rfl (fun ls hl => ?_)
      refine lv_aload_n hx hb dX12_stat_229 rfl (lv_at hl 2 rfl) ?_
      refine lv_bipush (v := 35) hx hb dX12_stat_230 (by decide) ?_
      refine lv_iload_n hx hb dX12_stat_232 rfl (lv_at hl 3 rfl) ?_
      refine lv_iconst (v := 0) hx hb dX12_stat_233 (by decide) ?_
      obtain ⟨r_22, u_21, h_u_21, h⟩ := bn_of h
      refine kc_emit X hS h_u_21 (Nat.le_trans (Nat.le_of_ble_eq_true rfl) hF) (Nat.le_trans (Nat.le_of_ble_eq_true rfl) hL) hl.1 (Nat.le_of_ble_eq_true rfl) dX12_stat_234 (fun H locs hS => ?_)
      refine lv_istore (lv' := [(4, .int r_22), (3, .int s0), (0, .ref (Z 200)), (1, .int l1), (2, .int l2)]) hx hb dX12_stat_237 hl (by decide) rfl (fun ls hl => ?_)
      refine lv_aload_n hx hb dX12_stat_239 rfl (lv_at hl 2 rfl) ?_
      refine lv_sipush (v := 229) hx hb dX12_stat_240 (by decide) ?_
      obtain ⟨r_u_23, u_23, h_u_23, h⟩ := bn_of h
      refine kc_take X hS h_u_23 (Nat.le_trans (Nat.le_of_ble_eq_true rfl) hF) (Nat.le_trans (Nat.le_of_ble_eq_true rfl) hL) hl.1 (Nat.le_of_ble_eq_true rfl) dX12_stat_243 (fun H locs hS => ?_)
      obtain ⟨-, rfl⟩ := so h
      exact hE _ _ _ _ hS dX12_stat_246
    · have h := ip (c_3) h
      refine lv_aload_n hx hb dX12_stat_86 rfl (lv_at hl 1 rfl) ?_
      refine lv_sipush (v := 223) hx hb dX12_stat_87 (by decide) ?_
      obtain ⟨r_25, u_24, h_u_24, h⟩ := bn_of h
      refine kc_isNext X hS h_u_24 (Nat.le_trans (Nat.le_of_ble_eq_true rfl) hF) (Nat.le_trans (Nat.le_of_ble_eq_true rfl) hL) hl.1 (Nat.le_of_ble_eq_true rfl) dX12_stat_90 (fun H locs hS => ?_)
      refine lv_if_eq (tgt := 103) hx hb dX12_stat_93 (by decide) (fun c_26 => ?_) (fun c_26 => ?_)
      · have h := ip (c_26) h
        refine lv_aload_n hx hb dX12_stat_103 rfl (lv_at hl 1 rfl) ?_
        obtain ⟨r_u_27, u_27, h_u_27, h⟩ := bn_of h
        refine kc_sets X hS h_u_27 (Nat.le_trans (Nat.le_of_ble_eq_true rfl) hF) (Nat.le_trans (Nat.le_of_ble_eq_true rfl) hL) hl.1 (Nat.le_of_ble_eq_true rfl) dX12_stat_104 (fun H locs hS => ?_)
        obtain ⟨-, rfl⟩ := so h
        exact hE _ _ _ _ hS dX12_stat_107
      · have h := im (c_26) h
        refine lv_aload_n hx hb dX12_stat_96 rfl (lv_at hl 1 rfl) ?_
        obtain ⟨r_u_28, u_28, h_u_28, h⟩ := bn_of h
        refine kc_runs X hS h_u_28 (Nat.le_trans (Nat.le_of_ble_eq_true rfl) hF) (Nat.le_trans (Nat.le_of_ble_eq_true rfl) hL) hl.1 (Nat.le_of_ble_eq_true rfl) dX12_stat_97 (fun H locs hS => ?_)
        refine lv_goto (tgt := 107) hx hb dX12_stat_100 (by decide) ?_
        obtain ⟨-, rfl⟩ := so h
        exact hE _ _ _ _ hS dX12_stat_107
  · have h := ip (c_1) h
    refine lv_aload_n hx hb dX12_stat_71 rfl (lv_at hl 1 rfl) ?_
    obtain ⟨r_u_29, u_29, h_u_29, h⟩ := bn_of h
    refine kc_stuck X hS h_u_29 (Nat.le_trans (Nat.le_of_ble_eq_true rfl) hF) (Nat.le_trans (Nat.le_of_ble_eq_true rfl) hL) hl.1 (Nat.le_of_ble_eq_true rfl) dX12_stat_72 (fun H locs hS => ?_)
    obtain ⟨-, rfl⟩ := so h
    exact hE _ _ _ _ hS dX12_stat_75
def B_stat_61 (N : Nat) (ro : Nat → Int32 → Int32 → RSt → Option (Int32 × RSt)) (l1 : Int32) (l2 : Int32) (u : RSt) : Option (Int32 × RSt) := B_stat_66 N ro l1 l2 1 u
set_option maxHeartbeats 4000000 in
theorem b_stat_61 {r : Int32} {ro : Nat → Int32 → Int32 → RSt → Option (Int32 × RSt)} (X : RC p s m args c cX12_stat 5 (Cond.code yX12_stat cX12_stat 5 none) D kA V A) (hE : REv p l e R s m args below meth c cX12_stat D kA Z A Q w) (hF : 414 ≤ R.frames) (hL : 24560 ≤ R.locals) (hrec : RecOK_S l D kA V Z d ro) (hFd : d + 1 + 430 ≤ R.frames) (hLd : 60 * (d + 1) + 26000 ≤ R.locals) {l1 : Int32} {l2 : Int32}  {u : RSt} (h : B_stat_61 N ro l1 l2 u = some (r, w)) (hS : RS D kA Z A s u H locs) (hl : lv_has ls 5 [(0, .ref (Z 200)), (1, .int l1), (2, .int l2)]) : W p l e R s m args below meth c H locs 0 0 Q (F0 m 61 ls []) := by
  obtain ⟨⟨hx, hb, hml, hown, hts⟩, hK, hEV, hA⟩ := id X
  have hG : ∀ w ∈ GW, w.before args s = true := fun w h => hts w (List.mem_cons_of_mem _ h)
  unfold B_stat_61 at h
  refine lv_iconst (v := 1) hx hb dX12_stat_61 (by decide) ?_
  refine lv_goto (tgt := 66) hx hb dX12_stat_62 (by decide) ?_
  exact b_stat_66 X hE hF hL hrec hFd hLd h hS (lv_sub hl [0, 1, 2] rfl)
def B_stat_65 (N : Nat) (ro : Nat → Int32 → Int32 → RSt → Option (Int32 × RSt)) (l1 : Int32) (l2 : Int32) (u : RSt) : Option (Int32 × RSt) := B_stat_66 N ro l1 l2 0 u
set_option maxHeartbeats 4000000 in
theorem b_stat_65 {r : Int32} {ro : Nat → Int32 → Int32 → RSt → Option (Int32 × RSt)} (X : RC p s m args c cX12_stat 5 (Cond.code yX12_stat cX12_stat 5 none) D kA V A) (hE : REv p l e R s m args below meth c cX12_stat D kA Z A Q w) (hF : 414 ≤ R.frames) (hL : 24560 ≤ R.locals) (hrec : RecOK_S l D kA V Z d ro) (hFd : d + 1 + 430 ≤ R.frames) (hLd : 60 * (d + 1) + 26000 ≤ R.locals) {l1 : Int32} {l2 : Int32}  {u : RSt} (h : B_stat_65 N ro l1 l2 u = some (r, w)) (hS : RS D kA Z A s u H locs) (hl : lv_has ls 5 [(0, .ref (Z 200)), (1, .int l1), (2, .int l2)]) : W p l e R s m args below meth c H locs 0 0 Q (F0 m 65 ls []) := by
  obtain ⟨⟨hx, hb, hml, hown, hts⟩, hK, hEV, hA⟩ := id X
  have hG : ∀ w ∈ GW, w.before args s = true := fun w h => hts w (List.mem_cons_of_mem _ h)
  unfold B_stat_65 at h
  refine lv_iconst (v := 0) hx hb dX12_stat_65 (by decide) ?_
  exact b_stat_66 X hE hF hL hrec hFd hLd h hS (lv_sub hl [0, 1, 2] rfl)
def B_stat_0 (N : Nat) (ro : Nat → Int32 → Int32 → RSt → Option (Int32 × RSt)) (u : RSt) : Option (Int32 × RSt) := rd (u.2.2.1 3) 1502 (u.1 65) fun v_30 => rd (u.2.2.1 2) 1502 (u.1 65) fun v_32 => if v_32 = (1 : Int32) then (B_stat_61 N ro v_30 v_32 u) else (if v_32 < (116 : Int32) then (B_stat_65 N ro v_30 v_32 u) else (if (127 : Int32) < v_32 then (B_stat_65 N ro v_30 v_32 u) else (if v_32 = (117 : Int32) then (B_stat_65 N ro v_30 v_32 u) else (if v_32 = (118 : Int32) then (B_stat_65 N ro v_30 v_32 u) else (if v_32 = (122 : Int32) then (B_stat_65 N ro v_30 v_32 u) else (if v_32 = (123 : Int32) then (B_stat_65 N ro v_30 v_32 u) else (B_stat_61 N ro v_30 v_32 u)))))))
set_option maxHeartbeats 4000000 in
theorem b_stat_0 {r : Int32} {ro : Nat → Int32 → Int32 → RSt → Option (Int32 × RSt)} (X : RC p s m args c cX12_stat 5 (Cond.code yX12_stat cX12_stat 5 none) D kA V A) (hE : REv p l e R s m args below meth c cX12_stat D kA Z A Q w) (hF : 414 ≤ R.frames) (hL : 24560 ≤ R.locals) (hrec : RecOK_S l D kA V Z d ro) (hFd : d + 1 + 430 ≤ R.frames) (hLd : 60 * (d + 1) + 26000 ≤ R.locals)  {u : RSt} (h : B_stat_0 N ro u = some (r, w)) (hS : RS D kA Z A s u H locs) (hl : lv_has ls 5 [(0, .ref (Z 200))]) : W p l e R s m args below meth c H locs 0 0 Q (F0 m 0 ls []) := by
  obtain ⟨⟨hx, hb, hml, hown, hts⟩, hK, hEV, hA⟩ := id X
  have hG : ∀ w ∈ GW, w.before args s = true := fun w h => hts w (List.mem_cons_of_mem _ h)
  unfold B_stat_0 at h
  refine lv_aload_n hx hb dX12_stat_0 rfl (lv_at hl 0 rfl) ?_
  refine rg_3 X hS dX12_stat_1 ?_
  refine lv_aload_n hx hb dX12_stat_4 rfl (lv_at hl 0 rfl) ?_
  refine rg_65 X hS dX12_stat_5 ?_
  obtain ⟨v_30, e_v_30, i_31, h⟩ := rd_of h
  refine ra_3 X hS i_31 e_v_30 dX12_stat_8 ?_
  refine lv_istore_n (lv' := [(1, .int v_30), (0, .ref (Z 200))]) hx hb dX12_stat_9 rfl hl (by decide) rfl (fun ls hl => ?_)
  refine lv_aload_n hx hb dX12_stat_10 rfl (lv_at hl 1 rfl) ?_
  refine rg_2 X hS dX12_stat_11 ?_
  refine lv_aload_n hx hb dX12_stat_14 rfl (lv_at hl 1 rfl) ?_
  refine rg_65 X hS dX12_stat_15 ?_
  obtain ⟨v_32, e_v_32, i_33, h⟩ := rd_of h
  refine ra_2 X hS i_33 e_v_32 dX12_stat_18 ?_
  refine lv_istore_n (lv' := [(2, .int v_32), (1, .int v_30), (0, .ref (Z 200))]) hx hb dX12_stat_19 rfl hl (by decide) rfl (fun ls hl => ?_)
  refine lv_iload_n hx hb dX12_stat_20 rfl (lv_at hl 0 rfl) ?_
  refine lv_iconst (v := 1) hx hb dX12_stat_21 (by decide) ?_
  refine lv_icmp_eq (tgt := 61) hx hb dX12_stat_22 (by decide) (fun c_34 => ?_) (fun c_34 => ?_)
  · have h := ip (c_34) h
    exact b_stat_61 X hE hF hL hrec hFd hLd h hS (lv_sub hl [2, 1, 0] rfl)
  · have h := im (c_34) h
    refine lv_iload_n hx hb dX12_stat_25 rfl (lv_at hl 0 rfl) ?_
    refine lv_bipush (v := 116) hx hb dX12_stat_26 (by decide) ?_
    refine lv_icmp_lt (tgt := 65) hx hb dX12_stat_28 (by decide) (fun c_35 => ?_) (fun c_35 => ?_)
    · have h := ip (c_35) h
      exact b_stat_65 X hE hF hL hrec hFd hLd h hS (lv_sub hl [2, 1, 0] rfl)
    · have h := im (c_35) h
      refine lv_iload_n hx hb dX12_stat_31 rfl (lv_at hl 0 rfl) ?_
      refine lv_bipush (v := 127) hx hb dX12_stat_32 (by decide) ?_
      refine lv_icmp_gt (tgt := 65) hx hb dX12_stat_34 (by decide) (fun c_36 => ?_) (fun c_36 => ?_)
      · have h := ip (c_36) h
        exact b_stat_65 X hE hF hL hrec hFd hLd h hS (lv_sub hl [2, 1, 0] rfl)
      · have h := im (c_36) h
        refine lv_iload_n hx hb dX12_stat_37 rfl (lv_at hl 0 rfl) ?_
        refine lv_bipush (v := 117) hx hb dX12_stat_38 (by decide) ?_
        refine lv_icmp_eq (tgt := 65) hx hb dX12_stat_40 (by decide) (fun c_37 => ?_) (fun c_37 => ?_)
        · have h := ip (c_37) h
          exact b_stat_65 X hE hF hL hrec hFd hLd h hS (lv_sub hl [2, 1, 0] rfl)
        · have h := im (c_37) h
          refine lv_iload_n hx hb dX12_stat_43 rfl (lv_at hl 0 rfl) ?_
          refine lv_bipush (v := 118) hx hb dX12_stat_44 (by decide) ?_
          refine lv_icmp_eq (tgt := 65) hx hb dX12_stat_46 (by decide) (fun c_38 => ?_) (fun c_38 => ?_)
          · have h := ip (c_38) h
            exact b_stat_65 X hE hF hL hrec hFd hLd h hS (lv_sub hl [2, 1, 0] rfl)
          · have h := im (c_38) h
            refine lv_iload_n hx hb dX12_stat_49 rfl (lv_at hl 0 rfl) ?_
            refine lv_bipush (v := 122) hx hb dX12_stat_50 (by decide) ?_
            refine lv_icmp_eq (tgt := 65) hx hb dX12_stat_52 (by decide) (fun c_39 => ?_) (fun c_39 => ?_)
            · have h := ip (c_39) h
              exact b_stat_65 X hE hF hL hrec hFd hLd h hS (lv_sub hl [2, 1, 0] rfl)
            · have h := im (c_39) h
              refine lv_iload_n hx hb dX12_stat_55 rfl (lv_at hl 0 rfl) ?_
              refine lv_bipush (v := 123) hx hb dX12_stat_56 (by decide) ?_
              refine lv_icmp_eq (tgt := 65) hx hb dX12_stat_58 (by decide) (fun c_40 => ?_) (fun c_40 => ?_)
              · have h := ip (c_40) h
                exact b_stat_65 X hE hF hL hrec hFd hLd h hS (lv_sub hl [2, 1, 0] rfl)
              · have h := im (c_40) h
                exact b_stat_61 X hE hF hL hrec hFd hLd h hS (lv_sub hl [2, 1, 0] rfl)
def F_stat (N : Nat) (ro : Nat → Int32 → Int32 → RSt → Option (Int32 × RSt)) (u : RSt) : Option (Int32 × RSt) := B_stat_0 N ro u
set_option maxHeartbeats 4000000 in
theorem k_stat (l : Launch) (D : va_G) (kA : Nat → ClassId) (V Z : Nat → Nat) (N : Nat) {d : Nat} (ro : Nat → Int32 → Int32 → RSt → Option (Int32 × RSt)) (hrec : RecOK_S l D kA V Z d ro) (u : RSt) (sz : Nat) {r : Int32} {w : RSt} (h : F_stat N ro u = some (r, w)) : Met l yX12_stat (Cond.code yX12_stat cX12_stat 5 none :: GW) { frames := d + 1 + 430, cells := 0, slots := 0, locals := 60 * (d + 1) + 26000 } (rPc D kA V Z [] u sz) (rQv D kA Z u sz w) 0 0 (va_A (RW kA Z u) sz) := by
  refine Met.ofW (cc := cX12_stat) (maxL := 5) (ret := none) (by decide) rfl ?_
  intro p e s m args below meth c s₁ Bd hml hv
  obtain ⟨rfl, hsz, hP, hK, hD0, hE⟩ := hv
  have hts := atoms_spec (ws := Cond.code yX12_stat cX12_stat 5 none :: GW) Bd.pre
  have hl := lv_entry (.ref (Z 200) :: []) (n := 5) (Nat.le_of_ble_eq_true rfl)
  rw [lg_entry_eq]
  generalize (lg_sl (.ref (Z 200) :: []) ++ List.replicate (5 - (lg_sl (.ref (Z 200) :: [])).length) Slot.unset).toArray = ls at hl ⊢
  have hl : lv_has ls 5 [(0, .ref (Z 200))] := hl
  subst hsz
  have X : RC p s m (.ref (Z 200) :: []).toArray c cX12_stat 5 (Cond.code yX12_stat cX12_stat 5 none) D kA V (va_A (RW kA Z u) s.heap.size) := ⟨⟨Bd.exec, Bd.bytes, hml, findClass_of_methodNamed Bd.named, hts⟩, hK, hE, fun q h => Or.inr h⟩
  exact b_stat_0 X (rend_v (cy := cX12_stat) X Bd.returns Bd.notSynchronized) (Nat.le_trans (Nat.le_of_ble_eq_true rfl) (Nat.le_add_left 430 _)) (Nat.le_trans (Nat.le_of_ble_eq_true rfl) (Nat.le_add_left 26000 _)) hrec (Nat.le_refl _) (Nat.le_refl _) h ⟨hP, hD0.self, va_S.rf⟩ (lv_sub hl [0] rfl)
def B_choice_120 (N : Nat) (ro : Nat → Int32 → Int32 → RSt → Option (Int32 × RSt)) (l3 : Int32) (u : RSt) : Option (Int32 × RSt) := bn (F_leadAll N l3 u) fun _ u_1 => some (0, u_1)
set_option maxHeartbeats 4000000 in
theorem b_choice_120 {r : Int32} {ro : Nat → Int32 → Int32 → RSt → Option (Int32 × RSt)} (X : RC p s m args c cX12_choice 6 (Cond.code yX12_choice cX12_choice 6 none) D kA V A) (hE : REv p l e R s m args below meth c cX12_choice D kA Z A Q w) (hF : 413 ≤ R.frames) (hL : 24525 ≤ R.locals) (hrec : RecOK_S l D kA V Z d ro) (hFd : d + 1 + 430 ≤ R.frames) (hLd : 60 * (d + 1) + 26000 ≤ R.locals) {l3 : Int32}  {u : RSt} (h : B_choice_120 N ro l3 u = some (r, w)) (hS : RS D kA Z A s u H locs) (hl : lv_has ls 6 [(0, .ref (Z 200)), (3, .int l3)]) : W p l e R s m args below meth c H locs 0 0 Q (F0 m 120 ls []) := by
  obtain ⟨⟨hx, hb, hml, hown, hts⟩, hK, hEV, hA⟩ := id X
  have hG : ∀ w ∈ GW, w.before args s = true := fun w h => hts w (List.mem_cons_of_mem _ h)
  unfold B_choice_120 at h
  refine lv_aload_n hx hb dX12_choice_120 rfl (lv_at hl 0 rfl) ?_
  refine lv_iload_n hx hb dX12_choice_121 rfl (lv_at hl 1 rfl) ?_
  obtain ⟨r_u_1, u_1, h_u_1, h⟩ := bn_of h
  refine kc_leadAll X hS h_u_1 (Nat.le_trans (Nat.le_of_ble_eq_true rfl) hF) (Nat.le_trans (Nat.le_of_ble_eq_true rfl) hL) hl.1 (Nat.le_of_ble_eq_true rfl) dX12_choice_122 (fun H locs hS => ?_)
  obtain ⟨-, rfl⟩ := so h
  exact hE _ _ _ _ hS dX12_choice_125
def B_choice_110 (N : Nat) (ro : Nat → Int32 → Int32 → RSt → Option (Int32 × RSt)) (l2 : Int32) (l3 : Int32) (u : RSt) : Option (Int32 × RSt) := if l2 = ((-1) : Int32) then (B_choice_120 N ro l3 u) else (bn (F_lead N l2 u) fun _ u_3 => B_choice_120 N ro l3 u_3)
set_option maxHeartbeats 4000000 in
theorem b_choice_110 {r : Int32} {ro : Nat → Int32 → Int32 → RSt → Option (Int32 × RSt)} (X : RC p s m args c cX12_choice 6 (Cond.code yX12_choice cX12_choice 6 none) D kA V A) (hE : REv p l e R s m args below meth c cX12_choice D kA Z A Q w) (hF : 413 ≤ R.frames) (hL : 24525 ≤ R.locals) (hrec : RecOK_S l D kA V Z d ro) (hFd : d + 1 + 430 ≤ R.frames) (hLd : 60 * (d + 1) + 26000 ≤ R.locals) {l2 : Int32} {l3 : Int32}  {u : RSt} (h : B_choice_110 N ro l2 l3 u = some (r, w)) (hS : RS D kA Z A s u H locs) (hl : lv_has ls 6 [(0, .ref (Z 200)), (2, .int l2), (3, .int l3)]) : W p l e R s m args below meth c H locs 0 0 Q (F0 m 110 ls []) := by
  obtain ⟨⟨hx, hb, hml, hown, hts⟩, hK, hEV, hA⟩ := id X
  have hG : ∀ w ∈ GW, w.before args s = true := fun w h => hts w (List.mem_cons_of_mem _ h)
  unfold B_choice_110 at h
  refine lv_iload_n hx hb dX12_choice_110 rfl (lv_at hl 1 rfl) ?_
  refine lv_iconst (v := (-1)) hx hb dX12_choice_111 (by decide) ?_
  refine lv_icmp_eq (tgt := 120) hx hb dX12_choice_112 (by decide) (fun c_2 => ?_) (fun c_2 => ?_)
  · have h := ip (c_2) h
    exact b_choice_120 X hE hF hL hrec hFd hLd h hS (lv_sub hl [0, 2] rfl)
  · have h := im (c_2) h
    refine lv_aload_n hx hb dX12_choice_115 rfl (lv_at hl 0 rfl) ?_
    refine lv_iload_n hx hb dX12_choice_116 rfl (lv_at hl 1 rfl) ?_
    obtain ⟨r_u_3, u_3, h_u_3, h⟩ := bn_of h
    refine kc_lead X hS h_u_3 (Nat.le_trans (Nat.le_of_ble_eq_true rfl) hF) (Nat.le_trans (Nat.le_of_ble_eq_true rfl) hL) hl.1 (Nat.le_of_ble_eq_true rfl) dX12_choice_117 (fun H locs hS => ?_)
    exact b_choice_120 X hE hF hL hrec hFd hLd h hS (lv_sub hl [0, 2] rfl)
def B_choice_95 (N : Nat) (ro : Nat → Int32 → Int32 → RSt → Option (Int32 × RSt)) (R_20 : Int32 × Int32 × RSt → Option (Int32 × RSt)) (l2 : Int32) (l3 : Int32) (l4 : Int32) (u : RSt) : Option (Int32 × RSt) := bn (ro 0 0 0 u) fun _ u_4 => if l4 = (0 : Int32) then (R_20 (l2, l3, u_4)) else (B_choice_110 N ro l2 l3 u_4)
set_option maxHeartbeats 4000000 in
theorem b_choice_95 {r : Int32} {ro : Nat → Int32 → Int32 → RSt → Option (Int32 × RSt)} (X : RC p s m args c cX12_choice 6 (Cond.code yX12_choice cX12_choice 6 none) D kA V A) (hE : REv p l e R s m args below meth c cX12_choice D kA Z A Q w) (hF : 413 ≤ R.frames) (hL : 24525 ≤ R.locals) (hrec : RecOK_S l D kA V Z d ro) (hFd : d + 1 + 430 ≤ R.frames) (hLd : 60 * (d + 1) + 26000 ≤ R.locals) {R_20 : Int32 × Int32 × RSt → Option (Int32 × RSt)} {l2 : Int32} {l3 : Int32} {l4 : Int32} (hR_20 : ∀ (l2 : Int32) (l3 : Int32) (u : RSt), R_20 (l2, l3, u) = some (r, w) → ∀ (H : Heap) (locs : List Loc) (ls : Array Slot), RS D kA Z A s u H locs → lv_has ls 6 [(0, .ref (Z 200)), (2, .int l2), (3, .int l3)] → W p l e R s m args below meth c H locs 0 0 Q (F0 m 20 ls [])) {u : RSt} (h : B_choice_95 N ro R_20 l2 l3 l4 u = some (r, w)) (hS : RS D kA Z A s u H locs) (hl : lv_has ls 6 [(0, .ref (Z 200)), (2, .int l2), (3, .int l3), (4, .int l4)]) : W p l e R s m args below meth c H locs 0 0 Q (F0 m 95 ls []) := by
  obtain ⟨⟨hx, hb, hml, hown, hts⟩, hK, hEV, hA⟩ := id X
  have hG : ∀ w ∈ GW, w.before args s = true := fun w h => hts w (List.mem_cons_of_mem _ h)
  unfold B_choice_95 at h
  refine lv_aload_n hx hb dX12_choice_95 rfl (lv_at hl 0 rfl) ?_
  obtain ⟨r_u_4, u_4, h_u_4, h⟩ := bn_of h
  refine kc_body X hrec hS h_u_4 hFd hLd hl.1 (Nat.le_of_ble_eq_true rfl) dX12_choice_96 (fun H locs hS => ?_)
  refine lv_iload hx hb dX12_choice_99 (lv_at hl 3 rfl) ?_
  refine lv_if_eq (tgt := 107) hx hb dX12_choice_101 (by decide) (fun c_5 => ?_) (fun c_5 => ?_)
  · have h := ip (c_5) h
    refine lv_goto (tgt := 20) hx hb dX12_choice_107 (by decide) ?_
    exact hR_20 _ _ _ h _ _ _ hS (lv_sub hl [0, 1, 2] rfl)
  · have h := im (c_5) h
    refine lv_goto (tgt := 110) hx hb dX12_choice_104 (by decide) ?_
    exact b_choice_110 X hE hF hL hrec hFd hLd h hS (lv_sub hl [0, 1, 2] rfl)
def B_choice_38 (N : Nat) (ro : Nat → Int32 → Int32 → RSt → Option (Int32 × RSt)) (R_20 : Int32 × Int32 × RSt → Option (Int32 × RSt)) (l2 : Int32) (l3 : Int32) (u : RSt) : Option (Int32 × RSt) := bn (F_is N 118 u) fun r_7 u_6 => bn (F_emit N 28 l3 0 u_6) fun r_9 u_8 => bn (F_lead N l2 u_8) fun _ u_10 => pu (sI u_10 65 ((u_10.1 65) + 1)) fun u_11 => if r_7 = (0 : Int32) then (bn (G_expression N u_11) fun r_14 u_13 => bn (F_emit N 26 0 0 u_13) fun r_16 u_15 => B_choice_95 N ro R_20 r_16 r_9 r_7 u_15) else (B_choice_95 N ro R_20 (-1) r_9 r_7 u_11)
set_option maxHeartbeats 4000000 in
theorem b_choice_38 {r : Int32} {ro : Nat → Int32 → Int32 → RSt → Option (Int32 × RSt)} (X : RC p s m args c cX12_choice 6 (Cond.code yX12_choice cX12_choice 6 none) D kA V A) (hE : REv p l e R s m args below meth c cX12_choice D kA Z A Q w) (hF : 413 ≤ R.frames) (hL : 24525 ≤ R.locals) (hrec : RecOK_S l D kA V Z d ro) (hFd : d + 1 + 430 ≤ R.frames) (hLd : 60 * (d + 1) + 26000 ≤ R.locals) {R_20 : Int32 × Int32 × RSt → Option (Int32 × RSt)} {l2 : Int32} {l3 : Int32} (hR_20 : ∀ (l2 : Int32) (l3 : Int32) (u : RSt), R_20 (l2, l3, u) = some (r, w) → ∀ (H : Heap) (locs : List Loc) (ls : Array Slot), RS D kA Z A s u H locs → lv_has ls 6 [(0, .ref (Z 200)), (2, .int l2), (3, .int l3)] → W p l e R s m args below meth c H locs 0 0 Q (F0 m 20 ls [])) {u : RSt} (h : B_choice_38 N ro R_20 l2 l3 u = some (r, w)) (hS : RS D kA Z A s u H locs) (hl : lv_has ls 6 [(0, .ref (Z 200)), (2, .int l2), (3, .int l3)]) : W p l e R s m args below meth c H locs 0 0 Q (F0 m 38 ls []) := by
  obtain ⟨⟨hx, hb, hml, hown, hts⟩, hK, hEV, hA⟩ := id X
  have hG : ∀ w ∈ GW, w.before args s = true := fun w h => hts w (List.mem_cons_of_mem _ h)
  unfold B_choice_38 at h
  refine lv_aload_n hx hb dX12_choice_38 rfl (lv_at hl 0 rfl) ?_
  refine lv_bipush (v := 118) hx hb dX12_choice_39 (by decide) ?_
  obtain ⟨r_7, u_6, h_u_6, h⟩ := bn_of h
  refine kc_is X hS h_u_6 (Nat.le_trans (Nat.le_of_ble_eq_true rfl) hF) (Nat.le_trans (Nat.le_of_ble_eq_true rfl) hL) hl.1 (Nat.le_of_ble_eq_true rfl) dX12_choice_41 (fun H locs hS => ?_)
  refine lv_istore (lv' := [(4, .int r_7), (0, .ref (Z 200)), (2, .int l2), (3, .int l3)]) hx hb dX12_choice_44 hl (by decide) rfl (fun ls hl => ?_)
  refine lv_aload_n hx hb dX12_choice_46 rfl (lv_at hl 1 rfl) ?_
  refine lv_bipush (v := 28) hx hb dX12_choice_47 (by decide) ?_
  refine lv_iload_n hx hb dX12_choice_49 rfl (lv_at hl 3 rfl) ?_
  refine lv_iconst (v := 0) hx hb dX12_choice_50 (by decide) ?_
  obtain ⟨r_9, u_8, h_u_8, h⟩ := bn_of h
  refine kc_emit X hS h_u_8 (Nat.le_trans (Nat.le_of_ble_eq_true rfl) hF) (Nat.le_trans (Nat.le_of_ble_eq_true rfl) hL) hl.1 (Nat.le_of_ble_eq_true rfl) dX12_choice_51 (fun H locs hS => ?_)
  refine lv_istore (lv' := [(5, .int r_9), (4, .int r_7), (0, .ref (Z 200)), (2, .int l2), (3, .int l3)]) hx hb dX12_choice_54 hl (by decide) rfl (fun ls hl => ?_)
  refine lv_iload hx hb dX12_choice_56 (lv_at hl 0 rfl) ?_
  refine lv_istore_n (lv' := [(3, .int r_9), (5, .int r_9), (4, .int r_7), (0, .ref (Z 200)), (2, .int l2)]) hx hb dX12_choice_58 rfl hl (by decide) rfl (fun ls hl => ?_)
  refine lv_aload_n hx hb dX12_choice_59 rfl (lv_at hl 3 rfl) ?_
  refine lv_iload_n hx hb dX12_choice_60 rfl (lv_at hl 4 rfl) ?_
  obtain ⟨r_u_10, u_10, h_u_10, h⟩ := bn_of h
  refine kc_lead X hS h_u_10 (Nat.le_trans (Nat.le_of_ble_eq_true rfl) hF) (Nat.le_trans (Nat.le_of_ble_eq_true rfl) hL) hl.1 (Nat.le_of_ble_eq_true rfl) dX12_choice_61 (fun H locs hS => ?_)
  refine lv_iconst (v := (-1)) hx hb dX12_choice_64 (by decide) ?_
  refine lv_istore_n (lv' := [(2, .int (-1)), (3, .int r_9), (5, .int r_9), (4, .int r_7), (0, .ref (Z 200))]) hx hb dX12_choice_65 rfl hl (by decide) rfl (fun ls hl => ?_)
  refine lv_aload_n hx hb dX12_choice_66 rfl (lv_at hl 4 rfl) ?_
  refine lv_dup hx hb dX12_choice_67 rfl ?_
  refine rg_65 X hS dX12_choice_68 ?_
  refine lv_iconst (v := 1) hx hb dX12_choice_71 (by decide) ?_
  refine lv_iadd hx hb dX12_choice_72 ?_
  obtain ⟨u_11, e_u_11, h⟩ := pu_of h
  refine rp_65 X hS e_u_11 dX12_choice_73 (fun H locs hS => ?_)
  refine lv_iload hx hb dX12_choice_76 (lv_at hl 3 rfl) ?_
  refine lv_if_ne (tgt := 95) hx hb dX12_choice_78 (by decide) (fun c_12 => ?_) (fun c_12 => ?_)
  · have h := im (c_12) h
    exact b_choice_95 X hE hF hL hrec hFd hLd hR_20 h hS (lv_sub hl [4, 0, 1, 3] rfl)
  · have h := ip (c_12) h
    refine lv_aload_n hx hb dX12_choice_81 rfl (lv_at hl 4 rfl) ?_
    obtain ⟨r_14, u_13, h_u_13, h⟩ := bn_of h
    refine kg_expression X hS h_u_13 (Nat.le_trans (Nat.le_of_ble_eq_true rfl) hF) (Nat.le_trans (Nat.le_of_ble_eq_true rfl) hL) hl.1 (Nat.le_of_ble_eq_true rfl) dX12_choice_82 (fun H locs hS => ?_)
    refine lv_istore_n (lv' := [(1, .int r_14), (2, .int (-1)), (3, .int r_9), (5, .int r_9), (4, .int r_7), (0, .ref (Z 200))]) hx hb dX12_choice_85 rfl hl (by decide) rfl (fun ls hl => ?_)
    refine lv_aload_n hx hb dX12_choice_86 rfl (lv_at hl 5 rfl) ?_
    refine lv_bipush (v := 26) hx hb dX12_choice_87 (by decide) ?_
    refine lv_iconst (v := 0) hx hb dX12_choice_89 (by decide) ?_
    refine lv_iconst (v := 0) hx hb dX12_choice_90 (by decide) ?_
    obtain ⟨r_16, u_15, h_u_15, h⟩ := bn_of h
    refine kc_emit X hS h_u_15 (Nat.le_trans (Nat.le_of_ble_eq_true rfl) hF) (Nat.le_trans (Nat.le_of_ble_eq_true rfl) hL) hl.1 (Nat.le_of_ble_eq_true rfl) dX12_choice_91 (fun H locs hS => ?_)
    refine lv_istore_n (lv' := [(2, .int r_16), (1, .int r_14), (3, .int r_9), (5, .int r_9), (4, .int r_7), (0, .ref (Z 200))]) hx hb dX12_choice_94 rfl hl (by decide) rfl (fun ls hl => ?_)
    exact b_choice_95 X hE hF hL hrec hFd hLd hR_20 h hS (lv_sub hl [5, 0, 2, 4] rfl)
def B_choice_20 (N : Nat) (ro : Nat → Int32 → Int32 → RSt → Option (Int32 × RSt)) (R_20 : Int32 × Int32 × RSt → Option (Int32 × RSt)) (l2 : Int32) (l3 : Int32) (u : RSt) : Option (Int32 × RSt) := bn (F_is N 117 u) fun r_18 u_17 => if r_18 = (0 : Int32) then (bn (F_is N 118 u_17) fun r_21 u_20 => if r_21 = (0 : Int32) then (B_choice_110 N ro l2 l3 u_20) else (B_choice_38 N ro R_20 l2 l3 u_20)) else (B_choice_38 N ro R_20 l2 l3 u_17)
set_option maxHeartbeats 4000000 in
theorem b_choice_20 {r : Int32} {ro : Nat → Int32 → Int32 → RSt → Option (Int32 × RSt)} (X : RC p s m args c cX12_choice 6 (Cond.code yX12_choice cX12_choice 6 none) D kA V A) (hE : REv p l e R s m args below meth c cX12_choice D kA Z A Q w) (hF : 413 ≤ R.frames) (hL : 24525 ≤ R.locals) (hrec : RecOK_S l D kA V Z d ro) (hFd : d + 1 + 430 ≤ R.frames) (hLd : 60 * (d + 1) + 26000 ≤ R.locals) {R_20 : Int32 × Int32 × RSt → Option (Int32 × RSt)} {l2 : Int32} {l3 : Int32} (hR_20 : ∀ (l2 : Int32) (l3 : Int32) (u : RSt), R_20 (l2, l3, u) = some (r, w) → ∀ (H : Heap) (locs : List Loc) (ls : Array Slot), RS D kA Z A s u H locs → lv_has ls 6 [(0, .ref (Z 200)), (2, .int l2), (3, .int l3)] → W p l e R s m args below meth c H locs 0 0 Q (F0 m 20 ls [])) {u : RSt} (h : B_choice_20 N ro R_20 l2 l3 u = some (r, w)) (hS : RS D kA Z A s u H locs) (hl : lv_has ls 6 [(0, .ref (Z 200)), (2, .int l2), (3, .int l3)]) : W p l e R s m args below meth c H locs 0 0 Q (F0 m 20 ls []) := by
  obtain ⟨⟨hx, hb, hml, hown, hts⟩, hK, hEV, hA⟩ := id X
  have hG : ∀ w ∈ GW, w.before args s = true := fun w h => hts w (List.mem_cons_of_mem _ h)
  unfold B_choice_20 at h
  refine lv_aload_n hx hb dX12_choice_20 rfl (lv_at hl 0 rfl) ?_
  refine lv_bipush (v := 117) hx hb dX12_choice_21 (by decide) ?_
  obtain ⟨r_18, u_17, h_u_17, h⟩ := bn_of h
  refine kc_is X hS h_u_17 (Nat.le_trans (Nat.le_of_ble_eq_true rfl) hF) (Nat.le_trans (Nat.le_of_ble_eq_true rfl) hL) hl.1 (Nat.le_of_ble_eq_true rfl) dX12_choice_23 (fun H locs hS => ?_)
  refine lv_if_ne (tgt := 38) hx hb dX12_choice_26 (by decide) (fun c_19 => ?_) (fun c_19 => ?_)
  · have h := im (c_19) h
    exact b_choice_38 X hE hF hL hrec hFd hLd hR_20 h hS (lv_sub hl [0, 1, 2] rfl)
  · have h := ip (c_19) h
    refine lv_aload_n hx hb dX12_choice_29 rfl (lv_at hl 0 rfl) ?_
    refine lv_bipush (v := 118) hx hb dX12_choice_30 (by decide) ?_
    obtain ⟨r_21, u_20, h_u_20, h⟩ := bn_of h
    refine kc_is X hS h_u_20 (Nat.le_trans (Nat.le_of_ble_eq_true rfl) hF) (Nat.le_trans (Nat.le_of_ble_eq_true rfl) hL) hl.1 (Nat.le_of_ble_eq_true rfl) dX12_choice_32 (fun H locs hS => ?_)
    refine lv_if_eq (tgt := 110) hx hb dX12_choice_35 (by decide) (fun c_22 => ?_) (fun c_22 => ?_)
    · have h := ip (c_22) h
      exact b_choice_110 X hE hF hL hrec hFd hLd h hS (lv_sub hl [0, 1, 2] rfl)
    · have h := im (c_22) h
      exact b_choice_38 X hE hF hL hrec hFd hLd hR_20 h hS (lv_sub hl [0, 1, 2] rfl)
def LP_choice_20 (N : Nat) (ro : Nat → Int32 → Int32 → RSt → Option (Int32 × RSt)) : Nat → Int32 × Int32 × RSt → Option (Int32 × RSt) := lp (fun R a => B_choice_20 N ro R a.1 a.2.1 a.2.2)
theorem bl_choice_20 {r : Int32} {ro : Nat → Int32 → Int32 → RSt → Option (Int32 × RSt)} (X : RC p s m args c cX12_choice 6 (Cond.code yX12_choice cX12_choice 6 none) D kA V A) (hE : REv p l e R s m args below meth c cX12_choice D kA Z A Q w) (hF : 413 ≤ R.frames) (hL : 24525 ≤ R.locals) (hrec : RecOK_S l D kA V Z d ro) (hFd : d + 1 + 430 ≤ R.frames) (hLd : 60 * (d + 1) + 26000 ≤ R.locals)  : ∀ (n : Nat) (l2 : Int32) (l3 : Int32) (u : RSt), LP_choice_20 N ro n (l2, l3, u) = some (r, w) → ∀ (H : Heap) (locs : List Loc) (ls : Array Slot), RS D kA Z A s u H locs → lv_has ls 6 [(0, .ref (Z 200)), (2, .int l2), (3, .int l3)] → W p l e R s m args below meth c H locs 0 0 Q (F0 m 20 ls []) := by
  intro n
  induction n with
  | zero => intro l2 l3 u h; exact nomatch h
  | succ n ih => intro l2 l3 u h H locs ls hS hl; exact b_choice_20 (N := N) (R_20 := LP_choice_20 N ro n) X hE hF hL hrec hFd hLd ih h hS hl
def B_choice_0 (N : Nat) (ro : Nat → Int32 → Int32 → RSt → Option (Int32 × RSt)) (u : RSt) : Option (Int32 × RSt) := bn (G_expression N u) fun r_24 u_23 => bn (F_emit N 26 0 0 u_23) fun r_26 u_25 => bn (ro 0 0 0 u_25) fun _ u_27 => LP_choice_20 N ro N (r_26, (-1), u_27)
set_option maxHeartbeats 4000000 in
theorem b_choice_0 {r : Int32} {ro : Nat → Int32 → Int32 → RSt → Option (Int32 × RSt)} (X : RC p s m args c cX12_choice 6 (Cond.code yX12_choice cX12_choice 6 none) D kA V A) (hE : REv p l e R s m args below meth c cX12_choice D kA Z A Q w) (hF : 413 ≤ R.frames) (hL : 24525 ≤ R.locals) (hrec : RecOK_S l D kA V Z d ro) (hFd : d + 1 + 430 ≤ R.frames) (hLd : 60 * (d + 1) + 26000 ≤ R.locals)  {u : RSt} (h : B_choice_0 N ro u = some (r, w)) (hS : RS D kA Z A s u H locs) (hl : lv_has ls 6 [(0, .ref (Z 200))]) : W p l e R s m args below meth c H locs 0 0 Q (F0 m 0 ls []) := by
  obtain ⟨⟨hx, hb, hml, hown, hts⟩, hK, hEV, hA⟩ := id X
  have hG : ∀ w ∈ GW, w.before args s = true := fun w h => hts w (List.mem_cons_of_mem _ h)
  unfold B_choice_0 at h
  refine lv_aload_n hx hb dX12_choice_0 rfl (lv_at hl 0 rfl) ?_
  obtain ⟨r_24, u_23, h_u_23, h⟩ := bn_of h
  refine kg_expression X hS h_u_23 (Nat.le_trans (Nat.le_of_ble_eq_true rfl) hF) (Nat.le_trans (Nat.le_of_ble_eq_true rfl) hL) hl.1 (Nat.le_of_ble_eq_true rfl) dX12_choice_1 (fun H locs hS => ?_)
  refine lv_istore_n (lv' := [(1, .int r_24), (0, .ref (Z 200))]) hx hb dX12_choice_4 rfl hl (by decide) rfl (fun ls hl => ?_)
  refine lv_aload_n hx hb dX12_choice_5 rfl (lv_at hl 1 rfl) ?_
  refine lv_bipush (v := 26) hx hb dX12_choice_6 (by decide) ?_
  refine lv_iconst (v := 0) hx hb dX12_choice_8 (by decide) ?_
  refine lv_iconst (v := 0) hx hb dX12_choice_9 (by decide) ?_
  obtain ⟨r_26, u_25, h_u_25, h⟩ := bn_of h
  refine kc_emit X hS h_u_25 (Nat.le_trans (Nat.le_of_ble_eq_true rfl) hF) (Nat.le_trans (Nat.le_of_ble_eq_true rfl) hL) hl.1 (Nat.le_of_ble_eq_true rfl) dX12_choice_10 (fun H locs hS => ?_)
  refine lv_istore_n (lv' := [(2, .int r_26), (1, .int r_24), (0, .ref (Z 200))]) hx hb dX12_choice_13 rfl hl (by decide) rfl (fun ls hl => ?_)
  refine lv_aload_n hx hb dX12_choice_14 rfl (lv_at hl 2 rfl) ?_
  obtain ⟨r_u_27, u_27, h_u_27, h⟩ := bn_of h
  refine kc_body X hrec hS h_u_27 hFd hLd hl.1 (Nat.le_of_ble_eq_true rfl) dX12_choice_15 (fun H locs hS => ?_)
  refine lv_iconst (v := (-1)) hx hb dX12_choice_18 (by decide) ?_
  refine lv_istore_n (lv' := [(3, .int (-1)), (2, .int r_26), (1, .int r_24), (0, .ref (Z 200))]) hx hb dX12_choice_19 rfl hl (by decide) rfl (fun ls hl => ?_)
  exact bl_choice_20 X hE hF hL hrec hFd hLd _ _ _ _ h _ _ _ hS (lv_sub hl [3, 1, 0] rfl)
def F_choice (N : Nat) (ro : Nat → Int32 → Int32 → RSt → Option (Int32 × RSt)) (u : RSt) : Option (Int32 × RSt) := B_choice_0 N ro u
set_option maxHeartbeats 4000000 in
theorem k_choice (l : Launch) (D : va_G) (kA : Nat → ClassId) (V Z : Nat → Nat) (N : Nat) {d : Nat} (ro : Nat → Int32 → Int32 → RSt → Option (Int32 × RSt)) (hrec : RecOK_S l D kA V Z d ro) (u : RSt) (sz : Nat) {r : Int32} {w : RSt} (h : F_choice N ro u = some (r, w)) : Met l yX12_choice (Cond.code yX12_choice cX12_choice 6 none :: GW) { frames := d + 1 + 430, cells := 0, slots := 0, locals := 60 * (d + 1) + 26000 } (rPc D kA V Z [] u sz) (rQv D kA Z u sz w) 0 0 (va_A (RW kA Z u) sz) := by
  refine Met.ofW (cc := cX12_choice) (maxL := 6) (ret := none) (by decide) rfl ?_
  intro p e s m args below meth c s₁ Bd hml hv
  obtain ⟨rfl, hsz, hP, hK, hD0, hE⟩ := hv
  have hts := atoms_spec (ws := Cond.code yX12_choice cX12_choice 6 none :: GW) Bd.pre
  have hl := lv_entry (.ref (Z 200) :: []) (n := 6) (Nat.le_of_ble_eq_true rfl)
  rw [lg_entry_eq]
  generalize (lg_sl (.ref (Z 200) :: []) ++ List.replicate (6 - (lg_sl (.ref (Z 200) :: [])).length) Slot.unset).toArray = ls at hl ⊢
  have hl : lv_has ls 6 [(0, .ref (Z 200))] := hl
  subst hsz
  have X : RC p s m (.ref (Z 200) :: []).toArray c cX12_choice 6 (Cond.code yX12_choice cX12_choice 6 none) D kA V (va_A (RW kA Z u) s.heap.size) := ⟨⟨Bd.exec, Bd.bytes, hml, findClass_of_methodNamed Bd.named, hts⟩, hK, hE, fun q h => Or.inr h⟩
  exact b_choice_0 X (rend_v (cy := cX12_choice) X Bd.returns Bd.notSynchronized) (Nat.le_trans (Nat.le_of_ble_eq_true rfl) (Nat.le_add_left 430 _)) (Nat.le_trans (Nat.le_of_ble_eq_true rfl) (Nat.le_add_left 26000 _)) hrec (Nat.le_refl _) (Nat.le_refl _) h ⟨hP, hD0.self, va_S.rf⟩ (lv_sub hl [0] rfl)
def B_again_0 (N : Nat) (ro : Nat → Int32 → Int32 → RSt → Option (Int32 × RSt)) (l1 : Int32) (u : RSt) : Option (Int32 × RSt) := bn (F_here N u) fun r_2 u_1 => bn (G_expression N u_1) fun r_4 u_3 => bn (F_emit N 26 0 0 u_3) fun r_6 u_5 => bn (F_cost N l1 u_5) fun _ u_7 => bn (F_loop N u_7) fun _ u_8 => bn (ro 0 0 0 u_8) fun _ u_9 => pu (sI u_9 74 ((u_9.1 74) - 1)) fun u_10 => rd (u_10.2.2.1 76) 30 (u_10.1 74) fun v_11 => bn (F_leadAll N v_11 u_10) fun _ u_13 => bn (F_emit N 28 r_2 0 u_13) fun r_15 u_14 => bn (F_lead N r_6 u_14) fun _ u_16 => rd (u_16.2.2.1 75) 30 (u_16.1 74) fun v_17 => bn (F_leadAll N v_17 u_16) fun _ u_19 => some (0, u_19)
set_option maxHeartbeats 4000000 in
theorem b_again_0 {r : Int32} {ro : Nat → Int32 → Int32 → RSt → Option (Int32 × RSt)} (X : RC p s m args c cX12_again 5 (Cond.code yX12_again cX12_again 5 none) D kA V A) (hE : REv p l e R s m args below meth c cX12_again D kA Z A Q w) (hF : 413 ≤ R.frames) (hL : 24525 ≤ R.locals) (hrec : RecOK_S l D kA V Z d ro) (hFd : d + 1 + 430 ≤ R.frames) (hLd : 60 * (d + 1) + 26000 ≤ R.locals) {l1 : Int32}  {u : RSt} (h : B_again_0 N ro l1 u = some (r, w)) (hS : RS D kA Z A s u H locs) (hl : lv_has ls 5 [(0, .ref (Z 200)), (1, .int l1)]) : W p l e R s m args below meth c H locs 0 0 Q (F0 m 0 ls []) := by
  obtain ⟨⟨hx, hb, hml, hown, hts⟩, hK, hEV, hA⟩ := id X
  have hG : ∀ w ∈ GW, w.before args s = true := fun w h => hts w (List.mem_cons_of_mem _ h)
  unfold B_again_0 at h
  refine lv_aload_n hx hb dX12_again_0 rfl (lv_at hl 0 rfl) ?_
  obtain ⟨r_2, u_1, h_u_1, h⟩ := bn_of h
  refine kc_here X hS h_u_1 (Nat.le_trans (Nat.le_of_ble_eq_true rfl) hF) (Nat.le_trans (Nat.le_of_ble_eq_true rfl) hL) hl.1 (Nat.le_of_ble_eq_true rfl) dX12_again_1 (fun H locs hS => ?_)
  refine lv_istore_n (lv' := [(2, .int r_2), (0, .ref (Z 200)), (1, .int l1)]) hx hb dX12_again_4 rfl hl (by decide) rfl (fun ls hl => ?_)
  refine lv_aload_n hx hb dX12_again_5 rfl (lv_at hl 1 rfl) ?_
  obtain ⟨r_4, u_3, h_u_3, h⟩ := bn_of h
  refine kg_expression X hS h_u_3 (Nat.le_trans (Nat.le_of_ble_eq_true rfl) hF) (Nat.le_trans (Nat.le_of_ble_eq_true rfl) hL) hl.1 (Nat.le_of_ble_eq_true rfl) dX12_again_6 (fun H locs hS => ?_)
  refine lv_istore_n (lv' := [(3, .int r_4), (2, .int r_2), (0, .ref (Z 200)), (1, .int l1)]) hx hb dX12_again_9 rfl hl (by decide) rfl (fun ls hl => ?_)
  refine lv_aload_n hx hb dX12_again_10 rfl (lv_at hl 2 rfl) ?_
  refine lv_bipush (v := 26) hx hb dX12_again_11 (by decide) ?_
  refine lv_iconst (v := 0) hx hb dX12_again_13 (by decide) ?_
  refine lv_iconst (v := 0) hx hb dX12_again_14 (by decide) ?_
  obtain ⟨r_6, u_5, h_u_5, h⟩ := bn_of h
  refine kc_emit X hS h_u_5 (Nat.le_trans (Nat.le_of_ble_eq_true rfl) hF) (Nat.le_trans (Nat.le_of_ble_eq_true rfl) hL) hl.1 (Nat.le_of_ble_eq_true rfl) dX12_again_15 (fun H locs hS => ?_)
  refine lv_istore (lv' := [(4, .int r_6), (3, .int r_4), (2, .int r_2), (0, .ref (Z 200)), (1, .int l1)]) hx hb dX12_again_18 hl (by decide) rfl (fun ls hl => ?_)
  refine lv_aload_n hx hb dX12_again_20 rfl (lv_at hl 3 rfl) ?_
  refine lv_iload_n hx hb dX12_again_21 rfl (lv_at hl 4 rfl) ?_
  obtain ⟨r_u_7, u_7, h_u_7, h⟩ := bn_of h
  refine kc_cost X hS h_u_7 (Nat.le_trans (Nat.le_of_ble_eq_true rfl) hF) (Nat.le_trans (Nat.le_of_ble_eq_true rfl) hL) hl.1 (Nat.le_of_ble_eq_true rfl) dX12_again_22 (fun H locs hS => ?_)
  refine lv_aload_n hx hb dX12_again_25 rfl (lv_at hl 3 rfl) ?_
  obtain ⟨r_u_8, u_8, h_u_8, h⟩ := bn_of h
  refine kc_loop X hS h_u_8 (Nat.le_trans (Nat.le_of_ble_eq_true rfl) hF) (Nat.le_trans (Nat.le_of_ble_eq_true rfl) hL) hl.1 (Nat.le_of_ble_eq_true rfl) dX12_again_26 (fun H locs hS => ?_)
  refine lv_aload_n hx hb dX12_again_29 rfl (lv_at hl 3 rfl) ?_
  obtain ⟨r_u_9, u_9, h_u_9, h⟩ := bn_of h
  refine kc_body X hrec hS h_u_9 hFd hLd hl.1 (Nat.le_of_ble_eq_true rfl) dX12_again_30 (fun H locs hS => ?_)
  refine lv_aload_n hx hb dX12_again_33 rfl (lv_at hl 3 rfl) ?_
  refine lv_dup hx hb dX12_again_34 rfl ?_
  refine rg_74 X hS dX12_again_35 ?_
  refine lv_iconst (v := 1) hx hb dX12_again_38 (by decide) ?_
  refine lv_isub hx hb dX12_again_39 ?_
  obtain ⟨u_10, e_u_10, h⟩ := pu_of h
  refine rp_74 X hS e_u_10 dX12_again_40 (fun H locs hS => ?_)
  refine lv_aload_n hx hb dX12_again_43 rfl (lv_at hl 3 rfl) ?_
  refine lv_aload_n hx hb dX12_again_44 rfl (lv_at hl 3 rfl) ?_
  refine rg_76 X hS dX12_again_45 ?_
  refine lv_aload_n hx hb dX12_again_48 rfl (lv_at hl 3 rfl) ?_
  refine rg_74 X hS dX12_again_49 ?_
  obtain ⟨v_11, e_v_11, i_12, h⟩ := rd_of h
  refine ra_76 X hS i_12 e_v_11 dX12_again_52 ?_
  obtain ⟨r_u_13, u_13, h_u_13, h⟩ := bn_of h
  refine kc_leadAll X hS h_u_13 (Nat.le_trans (Nat.le_of_ble_eq_true rfl) hF) (Nat.le_trans (Nat.le_of_ble_eq_true rfl) hL) hl.1 (Nat.le_of_ble_eq_true rfl) dX12_again_53 (fun H locs hS => ?_)
  refine lv_aload_n hx hb dX12_again_56 rfl (lv_at hl 3 rfl) ?_
  refine lv_bipush (v := 28) hx hb dX12_again_57 (by decide) ?_
  refine lv_iload_n hx hb dX12_again_59 rfl (lv_at hl 2 rfl) ?_
  refine lv_iconst (v := 0) hx hb dX12_again_60 (by decide) ?_
  obtain ⟨r_15, u_14, h_u_14, h⟩ := bn_of h
  refine kc_emit X hS h_u_14 (Nat.le_trans (Nat.le_of_ble_eq_true rfl) hF) (Nat.le_trans (Nat.le_of_ble_eq_true rfl) hL) hl.1 (Nat.le_of_ble_eq_true rfl) dX12_again_61 (fun H locs hS => ?_)
  refine lv_istore_n (lv' := [(3, .int r_15), (4, .int r_6), (2, .int r_2), (0, .ref (Z 200)), (1, .int l1)]) hx hb dX12_again_64 rfl hl (by decide) rfl (fun ls hl => ?_)
  refine lv_aload_n hx hb dX12_again_65 rfl (lv_at hl 3 rfl) ?_
  refine lv_iload hx hb dX12_again_66 (lv_at hl 1 rfl) ?_
  obtain ⟨r_u_16, u_16, h_u_16, h⟩ := bn_of h
  refine kc_lead X hS h_u_16 (Nat.le_trans (Nat.le_of_ble_eq_true rfl) hF) (Nat.le_trans (Nat.le_of_ble_eq_true rfl) hL) hl.1 (Nat.le_of_ble_eq_true rfl) dX12_again_68 (fun H locs hS => ?_)
  refine lv_aload_n hx hb dX12_again_71 rfl (lv_at hl 3 rfl) ?_
  refine lv_aload_n hx hb dX12_again_72 rfl (lv_at hl 3 rfl) ?_
  refine rg_75 X hS dX12_again_73 ?_
  refine lv_aload_n hx hb dX12_again_76 rfl (lv_at hl 3 rfl) ?_
  refine rg_74 X hS dX12_again_77 ?_
  obtain ⟨v_17, e_v_17, i_18, h⟩ := rd_of h
  refine ra_75 X hS i_18 e_v_17 dX12_again_80 ?_
  obtain ⟨r_u_19, u_19, h_u_19, h⟩ := bn_of h
  refine kc_leadAll X hS h_u_19 (Nat.le_trans (Nat.le_of_ble_eq_true rfl) hF) (Nat.le_trans (Nat.le_of_ble_eq_true rfl) hL) hl.1 (Nat.le_of_ble_eq_true rfl) dX12_again_81 (fun H locs hS => ?_)
  obtain ⟨-, rfl⟩ := so h
  exact hE _ _ _ _ hS dX12_again_84
def F_again (N : Nat) (ro : Nat → Int32 → Int32 → RSt → Option (Int32 × RSt)) (l1 : Int32) (u : RSt) : Option (Int32 × RSt) := B_again_0 N ro l1 u
set_option maxHeartbeats 4000000 in
theorem k_again (l : Launch) (D : va_G) (kA : Nat → ClassId) (V Z : Nat → Nat) (N : Nat) {d : Nat} (ro : Nat → Int32 → Int32 → RSt → Option (Int32 × RSt)) (hrec : RecOK_S l D kA V Z d ro) (l1 : Int32) (u : RSt) (sz : Nat) {r : Int32} {w : RSt} (h : F_again N ro l1 u = some (r, w)) : Met l yX12_again (Cond.code yX12_again cX12_again 5 none :: GW) { frames := d + 1 + 430, cells := 0, slots := 0, locals := 60 * (d + 1) + 26000 } (rPc D kA V Z [.int l1] u sz) (rQv D kA Z u sz w) 0 0 (va_A (RW kA Z u) sz) := by
  refine Met.ofW (cc := cX12_again) (maxL := 5) (ret := none) (by decide) rfl ?_
  intro p e s m args below meth c s₁ Bd hml hv
  obtain ⟨rfl, hsz, hP, hK, hD0, hE⟩ := hv
  have hts := atoms_spec (ws := Cond.code yX12_again cX12_again 5 none :: GW) Bd.pre
  have hl := lv_entry (.ref (Z 200) :: [.int l1]) (n := 5) (Nat.le_of_ble_eq_true rfl)
  rw [lg_entry_eq]
  generalize (lg_sl (.ref (Z 200) :: [.int l1]) ++ List.replicate (5 - (lg_sl (.ref (Z 200) :: [.int l1])).length) Slot.unset).toArray = ls at hl ⊢
  have hl : lv_has ls 5 [(0, .ref (Z 200)), (1, .int l1)] := hl
  subst hsz
  have X : RC p s m (.ref (Z 200) :: [.int l1]).toArray c cX12_again 5 (Cond.code yX12_again cX12_again 5 none) D kA V (va_A (RW kA Z u) s.heap.size) := ⟨⟨Bd.exec, Bd.bytes, hml, findClass_of_methodNamed Bd.named, hts⟩, hK, hE, fun q h => Or.inr h⟩
  exact b_again_0 X (rend_v (cy := cX12_again) X Bd.returns Bd.notSynchronized) (Nat.le_trans (Nat.le_of_ble_eq_true rfl) (Nat.le_add_left 430 _)) (Nat.le_trans (Nat.le_of_ble_eq_true rfl) (Nat.le_add_left 26000 _)) hrec (Nat.le_refl _) (Nat.le_refl _) h ⟨hP, hD0.self, va_S.rf⟩ (lv_sub hl [0, 1] rfl)
def B_counts_279 (N : Nat) (ro : Nat → Int32 → Int32 → RSt → Option (Int32 × RSt)) (l1 : Int32) (l7 : Int32) (l8 : Int32) (s0 : Int32) (u : RSt) : Option (Int32 × RSt) := pu (sI u 65 ((u.1 65) + 1)) fun u_1 => rd (u_1.2.2.1 3) 1502 (u_1.1 65) fun v_2 => bn (F_take N 234 u_1) fun _ u_4 => bn (F_emit N l8 s0 0 u_4) fun r_6 u_5 => bn (G_expression N u_5) fun r_8 u_7 => bn (F_isTooWide N r_8 l7 u_7) fun r_10 u_9 => bn (F_wrong N r_10 4 v_2 u_9) fun _ u_11 => bn (F_emit N 18 l7 0 u_11) fun r_13 u_12 => bn (F_take N 204 u_12) fun _ u_14 => bn (G_expression N u_14) fun r_16 u_15 => bn (F_here N u_15) fun r_18 u_17 => bn (F_emit N l8 s0 0 u_17) fun r_20 u_19 => bn (F_emit N 16 l7 0 u_19) fun r_22 u_21 => bn (F_emit N 38 0 0 u_21) fun r_24 u_23 => bn (F_cost N l1 u_23) fun _ u_25 => bn (F_loop N u_25) fun _ u_26 => bn (ro 0 0 0 u_26) fun _ u_27 => pu (sI u_27 74 ((u_27.1 74) - 1)) fun u_28 => rd (u_28.2.2.1 76) 30 (u_28.1 74) fun v_29 => bn (F_leadAll N v_29 u_28) fun _ u_31 => bn (F_emit N l8 s0 0 u_31) fun r_33 u_32 => bn (F_emit N 16 l7 0 u_32) fun r_35 u_34 => bn (F_emit N 39 0 0 u_34) fun r_37 u_36 => bn (F_emit N l8 s0 0 u_36) fun r_39 u_38 => bn (F_emit N 17 l7 0 u_38) fun r_41 u_40 => bn (F_push N 1 u_40) fun _ u_42 => bn (F_joined N 240 l1 l7 3 u_42) fun r_44 u_43 => bn (F_emit N 18 l7 0 u_43) fun r_46 u_45 => bn (F_emit N 28 r_18 0 u_45) fun r_48 u_47 => bn (F_lead N r_24 u_47) fun _ u_49 => bn (F_lead N r_37 u_49) fun _ u_50 => rd (u_50.2.2.1 75) 30 (u_50.1 74) fun v_51 => bn (F_leadAll N v_51 u_50) fun _ u_53 => bn (F_emit N 37 0 0 u_53) fun r_55 u_54 => some (0, u_54)
set_option maxHeartbeats 4000000 in
theorem b_counts_279 {r : Int32} {ro : Nat → Int32 → Int32 → RSt → Option (Int32 × RSt)} (X : RC p s m args c cX12_counts 16 (Cond.code yX12_counts cX12_counts 16 none) D kA V A) (hE : REv p l e R s m args below meth c cX12_counts D kA Z A Q w) (hF : 413 ≤ R.frames) (hL : 24525 ≤ R.locals) (hrec : RecOK_S l D kA V Z d ro) (hFd : d + 1 + 430 ≤ R.frames) (hLd : 60 * (d + 1) + 26000 ≤ R.locals) {l1 : Int32} {l7 : Int32} {l8 : Int32} {s0 : Int32}  {u : RSt} (h : B_counts_279 N ro l1 l7 l8 s0 u = some (r, w)) (hS : RS D kA Z A s u H locs) (hl : lv_has ls 16 [(0, .ref (Z 200)), (1, .int l1), (7, .int l7), (8, .int l8)]) : W p l e R s m args below meth c H locs 0 0 Q (F0 m 279 ls [.int s0]) := by
  obtain ⟨⟨hx, hb, hml, hown, hts⟩, hK, hEV, hA⟩ := id X
  have hG : ∀ w ∈ GW, w.before args s = true := fun w h => hts w (List.mem_cons_of_mem _ h)
  unfold B_counts_279 at h
  refine lv_istore (lv' := [(9, .int s0), (0, .ref (Z 200)), (1, .int l1), (7, .int l7), (8, .int l8)]) hx hb dX12_counts_279 hl (by decide) rfl (fun ls hl => ?_)
  refine lv_aload_n hx hb dX12_counts_281 rfl (lv_at hl 1 rfl) ?_
  refine lv_dup hx hb dX12_counts_282 rfl ?_
  refine rg_65 X hS dX12_counts_283 ?_
  refine lv_iconst (v := 1) hx hb dX12_counts_286 (by decide) ?_
  refine lv_iadd hx hb dX12_counts_287 ?_
  obtain ⟨u_1, e_u_1, h⟩ := pu_of h
  refine rp_65 X hS e_u_1 dX12_counts_288 (fun H locs hS => ?_)
  refine lv_aload_n hx hb dX12_counts_291 rfl (lv_at hl 1 rfl) ?_
  refine rg_3 X hS dX12_counts_292 ?_
  refine lv_aload_n hx hb dX12_counts_295 rfl (lv_at hl 1 rfl) ?_
  refine rg_65 X hS dX12_counts_296 ?_
  obtain ⟨v_2, e_v_2, i_3, h⟩ := rd_of h
  refine ra_3 X hS i_3 e_v_2 dX12_counts_299 ?_
  refine lv_istore (lv' := [(10, .int v_2), (9, .int s0), (0, .ref (Z 200)), (1, .int l1), (7, .int l7), (8, .int l8)]) hx hb dX12_counts_300 hl (by decide) rfl (fun ls hl => ?_)
  refine lv_aload_n hx hb dX12_counts_302 rfl (lv_at hl 2 rfl) ?_
  refine lv_sipush (v := 234) hx hb dX12_counts_303 (by decide) ?_
  obtain ⟨r_u_4, u_4, h_u_4, h⟩ := bn_of h
  refine kc_take X hS h_u_4 (Nat.le_trans (Nat.le_of_ble_eq_true rfl) hF) (Nat.le_trans (Nat.le_of_ble_eq_true rfl) hL) hl.1 (Nat.le_of_ble_eq_true rfl) dX12_counts_306 (fun H locs hS => ?_)
  refine lv_aload_n hx hb dX12_counts_309 rfl (lv_at hl 2 rfl) ?_
  refine lv_iload hx hb dX12_counts_310 (lv_at hl 5 rfl) ?_
  refine lv_iload hx hb dX12_counts_312 (lv_at hl 1 rfl) ?_
  refine lv_iconst (v := 0) hx hb dX12_counts_314 (by decide) ?_
  obtain ⟨r_6, u_5, h_u_5, h⟩ := bn_of h
  refine kc_emit X hS h_u_5 (Nat.le_trans (Nat.le_of_ble_eq_true rfl) hF) (Nat.le_trans (Nat.le_of_ble_eq_true rfl) hL) hl.1 (Nat.le_of_ble_eq_true rfl) dX12_counts_315 (fun H locs hS => ?_)
  refine lv_istore (lv' := [(11, .int r_6), (10, .int v_2), (9, .int s0), (0, .ref (Z 200)), (1, .int l1), (7, .int l7), (8, .int l8)]) hx hb dX12_counts_318 hl (by decide) rfl (fun ls hl => ?_)
  refine lv_aload_n hx hb dX12_counts_320 rfl (lv_at hl 3 rfl) ?_
  obtain ⟨r_8, u_7, h_u_7, h⟩ := bn_of h
  refine kg_expression X hS h_u_7 (Nat.le_trans (Nat.le_of_ble_eq_true rfl) hF) (Nat.le_trans (Nat.le_of_ble_eq_true rfl) hL) hl.1 (Nat.le_of_ble_eq_true rfl) dX12_counts_321 (fun H locs hS => ?_)
  refine lv_istore (lv' := [(12, .int r_8), (11, .int r_6), (10, .int v_2), (9, .int s0), (0, .ref (Z 200)), (1, .int l1), (7, .int l7), (8, .int l8)]) hx hb dX12_counts_324 hl (by decide) rfl (fun ls hl => ?_)
  refine lv_aload_n hx hb dX12_counts_326 rfl (lv_at hl 4 rfl) ?_
  refine lv_aload_n hx hb dX12_counts_327 rfl (lv_at hl 4 rfl) ?_
  refine lv_iload hx hb dX12_counts_328 (lv_at hl 0 rfl) ?_
  refine lv_iload hx hb dX12_counts_330 (lv_at hl 6 rfl) ?_
  obtain ⟨r_10, u_9, h_u_9, h⟩ := bn_of h
  refine kc_isTooWide X hS h_u_9 (Nat.le_trans (Nat.le_of_ble_eq_true rfl) hF) (Nat.le_trans (Nat.le_of_ble_eq_true rfl) hL) hl.1 (Nat.le_of_ble_eq_true rfl) dX12_counts_332 (fun H locs hS => ?_)
  refine lv_iconst (v := 4) hx hb dX12_counts_335 (by decide) ?_
  refine lv_iload hx hb dX12_counts_336 (lv_at hl 2 rfl) ?_
  obtain ⟨r_u_11, u_11, h_u_11, h⟩ := bn_of h
  refine kc_wrong X hS h_u_11 (Nat.le_trans (Nat.le_of_ble_eq_true rfl) hF) (Nat.le_trans (Nat.le_of_ble_eq_true rfl) hL) hl.1 (Nat.le_of_ble_eq_true rfl) dX12_counts_338 (fun H locs hS => ?_)
  refine lv_aload_n hx hb dX12_counts_341 rfl (lv_at hl 4 rfl) ?_
  refine lv_bipush (v := 18) hx hb dX12_counts_342 (by decide) ?_
  refine lv_iload hx hb dX12_counts_344 (lv_at hl 6 rfl) ?_
  refine lv_iconst (v := 0) hx hb dX12_counts_346 (by decide) ?_
  obtain ⟨r_13, u_12, h_u_12, h⟩ := bn_of h
  refine kc_emit X hS h_u_12 (Nat.le_trans (Nat.le_of_ble_eq_true rfl) hF) (Nat.le_trans (Nat.le_of_ble_eq_true rfl) hL) hl.1 (Nat.le_of_ble_eq_true rfl) dX12_counts_347 (fun H locs hS => ?_)
  refine lv_istore (lv' := [(11, .int r_13), (12, .int r_8), (10, .int v_2), (9, .int s0), (0, .ref (Z 200)), (1, .int l1), (7, .int l7), (8, .int l8)]) hx hb dX12_counts_350 hl (by decide) rfl (fun ls hl => ?_)
  refine lv_aload_n hx hb dX12_counts_352 rfl (lv_at hl 4 rfl) ?_
  refine lv_sipush (v := 204) hx hb dX12_counts_353 (by decide) ?_
  obtain ⟨r_u_14, u_14, h_u_14, h⟩ := bn_of h
  refine kc_take X hS h_u_14 (Nat.le_trans (Nat.le_of_ble_eq_true rfl) hF) (Nat.le_trans (Nat.le_of_ble_eq_true rfl) hL) hl.1 (Nat.le_of_ble_eq_true rfl) dX12_counts_356 (fun H locs hS => ?_)
  refine lv_aload_n hx hb dX12_counts_359 rfl (lv_at hl 4 rfl) ?_
  obtain ⟨r_16, u_15, h_u_15, h⟩ := bn_of h
  refine kg_expression X hS h_u_15 (Nat.le_trans (Nat.le_of_ble_eq_true rfl) hF) (Nat.le_trans (Nat.le_of_ble_eq_true rfl) hL) hl.1 (Nat.le_of_ble_eq_true rfl) dX12_counts_360 (fun H locs hS => ?_)
  refine lv_istore (lv' := [(12, .int r_16), (11, .int r_13), (10, .int v_2), (9, .int s0), (0, .ref (Z 200)), (1, .int l1), (7, .int l7), (8, .int l8)]) hx hb dX12_counts_363 hl (by decide) rfl (fun ls hl => ?_)
  refine lv_aload_n hx hb dX12_counts_365 rfl (lv_at hl 4 rfl) ?_
  obtain ⟨r_18, u_17, h_u_17, h⟩ := bn_of h
  refine kc_here X hS h_u_17 (Nat.le_trans (Nat.le_of_ble_eq_true rfl) hF) (Nat.le_trans (Nat.le_of_ble_eq_true rfl) hL) hl.1 (Nat.le_of_ble_eq_true rfl) dX12_counts_366 (fun H locs hS => ?_)
  refine lv_istore (lv' := [(13, .int r_18), (12, .int r_16), (11, .int r_13), (10, .int v_2), (9, .int s0), (0, .ref (Z 200)), (1, .int l1), (7, .int l7), (8, .int l8)]) hx hb dX12_counts_369 hl (by decide) rfl (fun ls hl => ?_)
  refine lv_aload_n hx hb dX12_counts_371 rfl (lv_at hl 5 rfl) ?_
  refine lv_iload hx hb dX12_counts_372 (lv_at hl 8 rfl) ?_
  refine lv_iload hx hb dX12_counts_374 (lv_at hl 4 rfl) ?_
  refine lv_iconst (v := 0) hx hb dX12_counts_376 (by decide) ?_
  obtain ⟨r_20, u_19, h_u_19, h⟩ := bn_of h
  refine kc_emit X hS h_u_19 (Nat.le_trans (Nat.le_of_ble_eq_true rfl) hF) (Nat.le_trans (Nat.le_of_ble_eq_true rfl) hL) hl.1 (Nat.le_of_ble_eq_true rfl) dX12_counts_377 (fun H locs hS => ?_)
  refine lv_istore (lv' := [(11, .int r_20), (13, .int r_18), (12, .int r_16), (10, .int v_2), (9, .int s0), (0, .ref (Z 200)), (1, .int l1), (7, .int l7), (8, .int l8)]) hx hb dX12_counts_380 hl (by decide) rfl (fun ls hl => ?_)
  refine lv_aload_n hx hb dX12_counts_382 rfl (lv_at hl 5 rfl) ?_
  refine lv_bipush (v := 16) hx hb dX12_counts_383 (by decide) ?_
  refine lv_iload hx hb dX12_counts_385 (lv_at hl 7 rfl) ?_
  refine lv_iconst (v := 0) hx hb dX12_counts_387 (by decide) ?_
  obtain ⟨r_22, u_21, h_u_21, h⟩ := bn_of h
  refine kc_emit X hS h_u_21 (Nat.le_trans (Nat.le_of_ble_eq_true rfl) hF) (Nat.le_trans (Nat.le_of_ble_eq_true rfl) hL) hl.1 (Nat.le_of_ble_eq_true rfl) dX12_counts_388 (fun H locs hS => ?_)
  refine lv_istore (lv' := [(11, .int r_22), (13, .int r_18), (12, .int r_16), (10, .int v_2), (9, .int s0), (0, .ref (Z 200)), (1, .int l1), (7, .int l7), (8, .int l8)]) hx hb dX12_counts_391 hl (by decide) rfl (fun ls hl => ?_)
  refine lv_aload_n hx hb dX12_counts_393 rfl (lv_at hl 5 rfl) ?_
  refine lv_bipush (v := 38) hx hb dX12_counts_394 (by decide) ?_
  refine lv_iconst (v := 0) hx hb dX12_counts_396 (by decide) ?_
  refine lv_iconst (v := 0) hx hb dX12_counts_397 (by decide) ?_
  obtain ⟨r_24, u_23, h_u_23, h⟩ := bn_of h
  refine kc_emit X hS h_u_23 (Nat.le_trans (Nat.le_of_ble_eq_true rfl) hF) (Nat.le_trans (Nat.le_of_ble_eq_true rfl) hL) hl.1 (Nat.le_of_ble_eq_true rfl) dX12_counts_398 (fun H locs hS => ?_)
  refine lv_istore (lv' := [(14, .int r_24), (11, .int r_22), (13, .int r_18), (12, .int r_16), (10, .int v_2), (9, .int s0), (0, .ref (Z 200)), (1, .int l1), (7, .int l7), (8, .int l8)]) hx hb dX12_counts_401 hl (by decide) rfl (fun ls hl => ?_)
  refine lv_aload_n hx hb dX12_counts_403 rfl (lv_at hl 6 rfl) ?_
  refine lv_iload_n hx hb dX12_counts_404 rfl (lv_at hl 7 rfl) ?_
  obtain ⟨r_u_25, u_25, h_u_25, h⟩ := bn_of h
  refine kc_cost X hS h_u_25 (Nat.le_trans (Nat.le_of_ble_eq_true rfl) hF) (Nat.le_trans (Nat.le_of_ble_eq_true rfl) hL) hl.1 (Nat.le_of_ble_eq_true rfl) dX12_counts_405 (fun H locs hS => ?_)
  refine lv_aload_n hx hb dX12_counts_408 rfl (lv_at hl 6 rfl) ?_
  obtain ⟨r_u_26, u_26, h_u_26, h⟩ := bn_of h
  refine kc_loop X hS h_u_26 (Nat.le_trans (Nat.le_of_ble_eq_true rfl) hF) (Nat.le_trans (Nat.le_of_ble_eq_true rfl) hL) hl.1 (Nat.le_of_ble_eq_true rfl) dX12_counts_409 (fun H locs hS => ?_)
  refine lv_aload_n hx hb dX12_counts_412 rfl (lv_at hl 6 rfl) ?_
  obtain ⟨r_u_27, u_27, h_u_27, h⟩ := bn_of h
  refine kc_body X hrec hS h_u_27 hFd hLd hl.1 (Nat.le_of_ble_eq_true rfl) dX12_counts_413 (fun H locs hS => ?_)
  refine lv_aload_n hx hb dX12_counts_416 rfl (lv_at hl 6 rfl) ?_
  refine lv_dup hx hb dX12_counts_417 rfl ?_
  refine rg_74 X hS dX12_counts_418 ?_
  refine lv_iconst (v := 1) hx hb dX12_counts_421 (by decide) ?_
  refine lv_isub hx hb dX12_counts_422 ?_
  obtain ⟨u_28, e_u_28, h⟩ := pu_of h
  refine rp_74 X hS e_u_28 dX12_counts_423 (fun H locs hS => ?_)
  refine lv_aload_n hx hb dX12_counts_426 rfl (lv_at hl 6 rfl) ?_
  refine lv_aload_n hx hb dX12_counts_427 rfl (lv_at hl 6 rfl) ?_
  refine rg_76 X hS dX12_counts_428 ?_
  refine lv_aload_n hx hb dX12_counts_431 rfl (lv_at hl 6 rfl) ?_
  refine rg_74 X hS dX12_counts_432 ?_
  obtain ⟨v_29, e_v_29, i_30, h⟩ := rd_of h
  refine ra_76 X hS i_30 e_v_29 dX12_counts_435 ?_
  obtain ⟨r_u_31, u_31, h_u_31, h⟩ := bn_of h
  refine kc_leadAll X hS h_u_31 (Nat.le_trans (Nat.le_of_ble_eq_true rfl) hF) (Nat.le_trans (Nat.le_of_ble_eq_true rfl) hL) hl.1 (Nat.le_of_ble_eq_true rfl) dX12_counts_436 (fun H locs hS => ?_)
  refine lv_aload_n hx hb dX12_counts_439 rfl (lv_at hl 6 rfl) ?_
  refine lv_iload hx hb dX12_counts_440 (lv_at hl 9 rfl) ?_
  refine lv_iload hx hb dX12_counts_442 (lv_at hl 5 rfl) ?_
  refine lv_iconst (v := 0) hx hb dX12_counts_444 (by decide) ?_
  obtain ⟨r_33, u_32, h_u_32, h⟩ := bn_of h
  refine kc_emit X hS h_u_32 (Nat.le_trans (Nat.le_of_ble_eq_true rfl) hF) (Nat.le_trans (Nat.le_of_ble_eq_true rfl) hL) hl.1 (Nat.le_of_ble_eq_true rfl) dX12_counts_445 (fun H locs hS => ?_)
  refine lv_istore (lv' := [(11, .int r_33), (14, .int r_24), (13, .int r_18), (12, .int r_16), (10, .int v_2), (9, .int s0), (0, .ref (Z 200)), (1, .int l1), (7, .int l7), (8, .int l8)]) hx hb dX12_counts_448 hl (by decide) rfl (fun ls hl => ?_)
  refine lv_aload_n hx hb dX12_counts_450 rfl (lv_at hl 6 rfl) ?_
  refine lv_bipush (v := 16) hx hb dX12_counts_451 (by decide) ?_
  refine lv_iload hx hb dX12_counts_453 (lv_at hl 8 rfl) ?_
  refine lv_iconst (v := 0) hx hb dX12_counts_455 (by decide) ?_
  obtain ⟨r_35, u_34, h_u_34, h⟩ := bn_of h
  refine kc_emit X hS h_u_34 (Nat.le_trans (Nat.le_of_ble_eq_true rfl) hF) (Nat.le_trans (Nat.le_of_ble_eq_true rfl) hL) hl.1 (Nat.le_of_ble_eq_true rfl) dX12_counts_456 (fun H locs hS => ?_)
  refine lv_istore (lv' := [(11, .int r_35), (14, .int r_24), (13, .int r_18), (12, .int r_16), (10, .int v_2), (9, .int s0), (0, .ref (Z 200)), (1, .int l1), (7, .int l7), (8, .int l8)]) hx hb dX12_counts_459 hl (by decide) rfl (fun ls hl => ?_)
  refine lv_aload_n hx hb dX12_counts_461 rfl (lv_at hl 6 rfl) ?_
  refine lv_bipush (v := 39) hx hb dX12_counts_462 (by decide) ?_
  refine lv_iconst (v := 0) hx hb dX12_counts_464 (by decide) ?_
  refine lv_iconst (v := 0) hx hb dX12_counts_465 (by decide) ?_
  obtain ⟨r_37, u_36, h_u_36, h⟩ := bn_of h
  refine kc_emit X hS h_u_36 (Nat.le_trans (Nat.le_of_ble_eq_true rfl) hF) (Nat.le_trans (Nat.le_of_ble_eq_true rfl) hL) hl.1 (Nat.le_of_ble_eq_true rfl) dX12_counts_466 (fun H locs hS => ?_)
  refine lv_istore (lv' := [(15, .int r_37), (11, .int r_35), (14, .int r_24), (13, .int r_18), (12, .int r_16), (10, .int v_2), (9, .int s0), (0, .ref (Z 200)), (1, .int l1), (7, .int l7), (8, .int l8)]) hx hb dX12_counts_469 hl (by decide) rfl (fun ls hl => ?_)
  refine lv_aload_n hx hb dX12_counts_471 rfl (lv_at hl 7 rfl) ?_
  refine lv_iload hx hb dX12_counts_472 (lv_at hl 10 rfl) ?_
  refine lv_iload hx hb dX12_counts_474 (lv_at hl 6 rfl) ?_
  refine lv_iconst (v := 0) hx hb dX12_counts_476 (by decide) ?_
  obtain ⟨r_39, u_38, h_u_38, h⟩ := bn_of h
  refine kc_emit X hS h_u_38 (Nat.le_trans (Nat.le_of_ble_eq_true rfl) hF) (Nat.le_trans (Nat.le_of_ble_eq_true rfl) hL) hl.1 (Nat.le_of_ble_eq_true rfl) dX12_counts_477 (fun H locs hS => ?_)
  refine lv_istore (lv' := [(11, .int r_39), (15, .int r_37), (14, .int r_24), (13, .int r_18), (12, .int r_16), (10, .int v_2), (9, .int s0), (0, .ref (Z 200)), (1, .int l1), (7, .int l7), (8, .int l8)]) hx hb dX12_counts_480 hl (by decide) rfl (fun ls hl => ?_)
  refine lv_aload_n hx hb dX12_counts_482 rfl (lv_at hl 7 rfl) ?_
  refine lv_bipush (v := 17) hx hb dX12_counts_483 (by decide) ?_
  refine lv_iload hx hb dX12_counts_485 (lv_at hl 9 rfl) ?_
  refine lv_iconst (v := 0) hx hb dX12_counts_487 (by decide) ?_
  obtain ⟨r_41, u_40, h_u_40, h⟩ := bn_of h
  refine kc_emit X hS h_u_40 (Nat.le_trans (Nat.le_of_ble_eq_true rfl) hF) (Nat.le_trans (Nat.le_of_ble_eq_true rfl) hL) hl.1 (Nat.le_of_ble_eq_true rfl) dX12_counts_488 (fun H locs hS => ?_)
  refine lv_istore (lv' := [(11, .int r_41), (15, .int r_37), (14, .int r_24), (13, .int r_18), (12, .int r_16), (10, .int v_2), (9, .int s0), (0, .ref (Z 200)), (1, .int l1), (7, .int l7), (8, .int l8)]) hx hb dX12_counts_491 hl (by decide) rfl (fun ls hl => ?_)
  refine lv_aload_n hx hb dX12_counts_493 rfl (lv_at hl 7 rfl) ?_
  refine lv_lconst (v := 1) hx hb dX12_counts_494 (by decide) ?_
  obtain ⟨r_u_42, u_42, h_u_42, h⟩ := bn_of h
  refine kc_push X hS h_u_42 (Nat.le_trans (Nat.le_of_ble_eq_true rfl) hF) (Nat.le_trans (Nat.le_of_ble_eq_true rfl) hL) hl.1 (Nat.le_of_ble_eq_true rfl) dX12_counts_495 (fun H locs hS => ?_)
  refine lv_aload_n hx hb dX12_counts_498 rfl (lv_at hl 7 rfl) ?_
  refine lv_sipush (v := 240) hx hb dX12_counts_499 (by decide) ?_
  refine lv_iload_n hx hb dX12_counts_502 rfl (lv_at hl 8 rfl) ?_
  refine lv_iload hx hb dX12_counts_503 (lv_at hl 9 rfl) ?_
  refine lv_iconst (v := 3) hx hb dX12_counts_505 (by decide) ?_
  obtain ⟨r_44, u_43, h_u_43, h⟩ := bn_of h
  refine kc_joined X hS h_u_43 (Nat.le_trans (Nat.le_of_ble_eq_true rfl) hF) (Nat.le_trans (Nat.le_of_ble_eq_true rfl) hL) hl.1 (Nat.le_of_ble_eq_true rfl) dX12_counts_506 (fun H locs hS => ?_)
  refine lv_istore (lv' := [(12, .int r_44), (11, .int r_41), (15, .int r_37), (14, .int r_24), (13, .int r_18), (10, .int v_2), (9, .int s0), (0, .ref (Z 200)), (1, .int l1), (7, .int l7), (8, .int l8)]) hx hb dX12_counts_509 hl (by decide) rfl (fun ls hl => ?_)
  refine lv_aload_n hx hb dX12_counts_511 rfl (lv_at hl 7 rfl) ?_
  refine lv_bipush (v := 18) hx hb dX12_counts_512 (by decide) ?_
  refine lv_iload hx hb dX12_counts_514 (lv_at hl 9 rfl) ?_
  refine lv_iconst (v := 0) hx hb dX12_counts_516 (by decide) ?_
  obtain ⟨r_46, u_45, h_u_45, h⟩ := bn_of h
  refine kc_emit X hS h_u_45 (Nat.le_trans (Nat.le_of_ble_eq_true rfl) hF) (Nat.le_trans (Nat.le_of_ble_eq_true rfl) hL) hl.1 (Nat.le_of_ble_eq_true rfl) dX12_counts_517 (fun H locs hS => ?_)
  refine lv_istore (lv' := [(11, .int r_46), (12, .int r_44), (15, .int r_37), (14, .int r_24), (13, .int r_18), (10, .int v_2), (9, .int s0), (0, .ref (Z 200)), (1, .int l1), (7, .int l7), (8, .int l8)]) hx hb dX12_counts_520 hl (by decide) rfl (fun ls hl => ?_)
  refine lv_aload_n hx hb dX12_counts_522 rfl (lv_at hl 7 rfl) ?_
  refine lv_bipush (v := 28) hx hb dX12_counts_523 (by decide) ?_
  refine lv_iload hx hb dX12_counts_525 (lv_at hl 4 rfl) ?_
  refine lv_iconst (v := 0) hx hb dX12_counts_527 (by decide) ?_
  obtain ⟨r_48, u_47, h_u_47, h⟩ := bn_of h
  refine kc_emit X hS h_u_47 (Nat.le_trans (Nat.le_of_ble_eq_true rfl) hF) (Nat.le_trans (Nat.le_of_ble_eq_true rfl) hL) hl.1 (Nat.le_of_ble_eq_true rfl) dX12_counts_528 (fun H locs hS => ?_)
  refine lv_istore (lv' := [(11, .int r_48), (12, .int r_44), (15, .int r_37), (14, .int r_24), (13, .int r_18), (10, .int v_2), (9, .int s0), (0, .ref (Z 200)), (1, .int l1), (7, .int l7), (8, .int l8)]) hx hb dX12_counts_531 hl (by decide) rfl (fun ls hl => ?_)
  refine lv_aload_n hx hb dX12_counts_533 rfl (lv_at hl 7 rfl) ?_
  refine lv_iload hx hb dX12_counts_534 (lv_at hl 3 rfl) ?_
  obtain ⟨r_u_49, u_49, h_u_49, h⟩ := bn_of h
  refine kc_lead X hS h_u_49 (Nat.le_trans (Nat.le_of_ble_eq_true rfl) hF) (Nat.le_trans (Nat.le_of_ble_eq_true rfl) hL) hl.1 (Nat.le_of_ble_eq_true rfl) dX12_counts_536 (fun H locs hS => ?_)
  refine lv_aload_n hx hb dX12_counts_539 rfl (lv_at hl 7 rfl) ?_
  refine lv_iload hx hb dX12_counts_540 (lv_at hl 2 rfl) ?_
  obtain ⟨r_u_50, u_50, h_u_50, h⟩ := bn_of h
  refine kc_lead X hS h_u_50 (Nat.le_trans (Nat.le_of_ble_eq_true rfl) hF) (Nat.le_trans (Nat.le_of_ble_eq_true rfl) hL) hl.1 (Nat.le_of_ble_eq_true rfl) dX12_counts_542 (fun H locs hS => ?_)
  refine lv_aload_n hx hb dX12_counts_545 rfl (lv_at hl 7 rfl) ?_
  refine lv_aload_n hx hb dX12_counts_546 rfl (lv_at hl 7 rfl) ?_
  refine rg_75 X hS dX12_counts_547 ?_
  refine lv_aload_n hx hb dX12_counts_550 rfl (lv_at hl 7 rfl) ?_
  refine rg_74 X hS dX12_counts_551 ?_
  obtain ⟨v_51, e_v_51, i_52, h⟩ := rd_of h
  refine ra_75 X hS i_52 e_v_51 dX12_counts_554 ?_
  obtain ⟨r_u_53, u_53, h_u_53, h⟩ := bn_of h
  refine kc_leadAll X hS h_u_53 (Nat.le_trans (Nat.le_of_ble_eq_true rfl) hF) (Nat.le_trans (Nat.le_of_ble_eq_true rfl) hL) hl.1 (Nat.le_of_ble_eq_true rfl) dX12_counts_555 (fun H locs hS => ?_)
  refine lv_aload_n hx hb dX12_counts_558 rfl (lv_at hl 7 rfl) ?_
  refine lv_bipush (v := 37) hx hb dX12_counts_559 (by decide) ?_
  refine lv_iconst (v := 0) hx hb dX12_counts_561 (by decide) ?_
  refine lv_iconst (v := 0) hx hb dX12_counts_562 (by decide) ?_
  obtain ⟨r_55, u_54, h_u_54, h⟩ := bn_of h
  refine kc_emit X hS h_u_54 (Nat.le_trans (Nat.le_of_ble_eq_true rfl) hF) (Nat.le_trans (Nat.le_of_ble_eq_true rfl) hL) hl.1 (Nat.le_of_ble_eq_true rfl) dX12_counts_563 (fun H locs hS => ?_)
  refine lv_istore (lv' := [(11, .int r_55), (12, .int r_44), (15, .int r_37), (14, .int r_24), (13, .int r_18), (10, .int v_2), (9, .int s0), (0, .ref (Z 200)), (1, .int l1), (7, .int l7), (8, .int l8)]) hx hb dX12_counts_566 hl (by decide) rfl (fun ls hl => ?_)
  obtain ⟨-, rfl⟩ := so h
  exact hE _ _ _ _ hS dX12_counts_568
def B_counts_247 (N : Nat) (ro : Nat → Int32 → Int32 → RSt → Option (Int32 × RSt)) (l1 : Int32) (l3 : Int32) (l5 : Int32) (l6 : Int32) (l7 : Int32) (s0 : Int32) (u : RSt) : Option (Int32 × RSt) := if l5 = (0 : Int32) then (B_counts_279 N ro l1 l7 s0 0 u) else (if l3 = ((-1) : Int32) then (rd (u.2.2.1 15) 320 l6 fun v_58 => B_counts_279 N ro l1 l7 s0 v_58 u) else (rd (u.2.2.1 23) 320 l3 fun v_60 => B_counts_279 N ro l1 l7 s0 v_60 u))
set_option maxHeartbeats 4000000 in
theorem b_counts_247 {r : Int32} {ro : Nat → Int32 → Int32 → RSt → Option (Int32 × RSt)} (X : RC p s m args c cX12_counts 16 (Cond.code yX12_counts cX12_counts 16 none) D kA V A) (hE : REv p l e R s m args below meth c cX12_counts D kA Z A Q w) (hF : 413 ≤ R.frames) (hL : 24525 ≤ R.locals) (hrec : RecOK_S l D kA V Z d ro) (hFd : d + 1 + 430 ≤ R.frames) (hLd : 60 * (d + 1) + 26000 ≤ R.locals) {l1 : Int32} {l3 : Int32} {l5 : Int32} {l6 : Int32} {l7 : Int32} {s0 : Int32}  {u : RSt} (h : B_counts_247 N ro l1 l3 l5 l6 l7 s0 u = some (r, w)) (hS : RS D kA Z A s u H locs) (hl : lv_has ls 16 [(0, .ref (Z 200)), (1, .int l1), (3, .int l3), (5, .int l5), (6, .int l6), (7, .int l7)]) : W p l e R s m args below meth c H locs 0 0 Q (F0 m 247 ls [.int s0]) := by
  obtain ⟨⟨hx, hb, hml, hown, hts⟩, hK, hEV, hA⟩ := id X
  have hG : ∀ w ∈ GW, w.before args s = true := fun w h => hts w (List.mem_cons_of_mem _ h)
  unfold B_counts_247 at h
  refine lv_istore (lv' := [(8, .int s0), (0, .ref (Z 200)), (1, .int l1), (3, .int l3), (5, .int l5), (6, .int l6), (7, .int l7)]) hx hb dX12_counts_247 hl (by decide) rfl (fun ls hl => ?_)
  refine lv_iload hx hb dX12_counts_249 (lv_at hl 4 rfl) ?_
  refine lv_if_ne (tgt := 258) hx hb dX12_counts_251 (by decide) (fun c_56 => ?_) (fun c_56 => ?_)
  · have h := im (c_56) h
    refine lv_iload_n hx hb dX12_counts_258 rfl (lv_at hl 3 rfl) ?_
    refine lv_iconst (v := (-1)) hx hb dX12_counts_259 (by decide) ?_
    refine lv_icmp_eq (tgt := 272) hx hb dX12_counts_260 (by decide) (fun c_57 => ?_) (fun c_57 => ?_)
    · have h := ip (c_57) h
      refine lv_aload_n hx hb dX12_counts_272 rfl (lv_at hl 1 rfl) ?_
      refine rg_15 X hS dX12_counts_273 ?_
      refine lv_iload hx hb dX12_counts_276 (lv_at hl 5 rfl) ?_
      obtain ⟨v_58, e_v_58, i_59, h⟩ := rd_of h
      refine ra_15 X hS i_59 e_v_58 dX12_counts_278 ?_
      exact b_counts_279 X hE hF hL hrec hFd hLd h hS (lv_sub hl [1, 2, 6, 0] rfl)
    · have h := im (c_57) h
      refine lv_aload_n hx hb dX12_counts_263 rfl (lv_at hl 1 rfl) ?_
      refine rg_23 X hS dX12_counts_264 ?_
      refine lv_iload_n hx hb dX12_counts_267 rfl (lv_at hl 3 rfl) ?_
      obtain ⟨v_60, e_v_60, i_61, h⟩ := rd_of h
      refine ra_23 X hS i_61 e_v_60 dX12_counts_268 ?_
      refine lv_goto (tgt := 279) hx hb dX12_counts_269 (by decide) ?_
      exact b_counts_279 X hE hF hL hrec hFd hLd h hS (lv_sub hl [1, 2, 6, 0] rfl)
  · have h := ip (c_56) h
    refine lv_iconst (v := 0) hx hb dX12_counts_254 (by decide) ?_
    refine lv_goto (tgt := 279) hx hb dX12_counts_255 (by decide) ?_
    exact b_counts_279 X hE hF hL hrec hFd hLd h hS (lv_sub hl [1, 2, 6, 0] rfl)
def B_counts_220 (N : Nat) (ro : Nat → Int32 → Int32 → RSt → Option (Int32 × RSt)) (l1 : Int32) (l3 : Int32) (l5 : Int32) (l6 : Int32) (s0 : Int32) (u : RSt) : Option (Int32 × RSt) := if l3 = ((-1) : Int32) then (B_counts_247 N ro l1 l3 l5 l6 s0 10 u) else (if (u.1 70) = (2 : Int32) then (B_counts_247 N ro l1 l3 l5 l6 s0 11 u) else (B_counts_247 N ro l1 l3 l5 l6 s0 12 u))
set_option maxHeartbeats 4000000 in
theorem b_counts_220 {r : Int32} {ro : Nat → Int32 → Int32 → RSt → Option (Int32 × RSt)} (X : RC p s m args c cX12_counts 16 (Cond.code yX12_counts cX12_counts 16 none) D kA V A) (hE : REv p l e R s m args below meth c cX12_counts D kA Z A Q w) (hF : 413 ≤ R.frames) (hL : 24525 ≤ R.locals) (hrec : RecOK_S l D kA V Z d ro) (hFd : d + 1 + 430 ≤ R.frames) (hLd : 60 * (d + 1) + 26000 ≤ R.locals) {l1 : Int32} {l3 : Int32} {l5 : Int32} {l6 : Int32} {s0 : Int32}  {u : RSt} (h : B_counts_220 N ro l1 l3 l5 l6 s0 u = some (r, w)) (hS : RS D kA Z A s u H locs) (hl : lv_has ls 16 [(0, .ref (Z 200)), (1, .int l1), (3, .int l3), (5, .int l5), (6, .int l6)]) : W p l e R s m args below meth c H locs 0 0 Q (F0 m 220 ls [.int s0]) := by
  obtain ⟨⟨hx, hb, hml, hown, hts⟩, hK, hEV, hA⟩ := id X
  have hG : ∀ w ∈ GW, w.before args s = true := fun w h => hts w (List.mem_cons_of_mem _ h)
  unfold B_counts_220 at h
  refine lv_istore (lv' := [(7, .int s0), (0, .ref (Z 200)), (1, .int l1), (3, .int l3), (5, .int l5), (6, .int l6)]) hx hb dX12_counts_220 hl (by decide) rfl (fun ls hl => ?_)
  refine lv_iload_n hx hb dX12_counts_222 rfl (lv_at hl 3 rfl) ?_
  refine lv_iconst (v := (-1)) hx hb dX12_counts_223 (by decide) ?_
  refine lv_icmp_ne (tgt := 232) hx hb dX12_counts_224 (by decide) (fun c_62 => ?_) (fun c_62 => ?_)
  · have h := im (c_62) h
    refine lv_aload_n hx hb dX12_counts_232 rfl (lv_at hl 1 rfl) ?_
    refine rg_70 X hS dX12_counts_233 ?_
    refine lv_iconst (v := 2) hx hb dX12_counts_236 (by decide) ?_
    refine lv_icmp_ne (tgt := 245) hx hb dX12_counts_237 (by decide) (fun c_63 => ?_) (fun c_63 => ?_)
    · have h := im (c_63) h
      refine lv_bipush (v := 12) hx hb dX12_counts_245 (by decide) ?_
      exact b_counts_247 X hE hF hL hrec hFd hLd h hS (lv_sub hl [1, 2, 3, 4, 5, 0] rfl)
    · have h := ip (c_63) h
      refine lv_bipush (v := 11) hx hb dX12_counts_240 (by decide) ?_
      refine lv_goto (tgt := 247) hx hb dX12_counts_242 (by decide) ?_
      exact b_counts_247 X hE hF hL hrec hFd hLd h hS (lv_sub hl [1, 2, 3, 4, 5, 0] rfl)
  · have h := ip (c_62) h
    refine lv_bipush (v := 10) hx hb dX12_counts_227 (by decide) ?_
    refine lv_goto (tgt := 247) hx hb dX12_counts_229 (by decide) ?_
    exact b_counts_247 X hE hF hL hrec hFd hLd h hS (lv_sub hl [1, 2, 3, 4, 5, 0] rfl)
def B_counts_185 (N : Nat) (ro : Nat → Int32 → Int32 → RSt → Option (Int32 × RSt)) (l1 : Int32) (l2 : Int32) (l3 : Int32) (l5 : Int32) (l6 : Int32) (s1 : Int32) (u : RSt) : Option (Int32 × RSt) := bn (F_wrong N s1 4 l2 u) fun _ u_64 => if l5 = (0 : Int32) then (B_counts_220 N ro l1 l3 l5 l6 3 u_64) else (if l3 = ((-1) : Int32) then (rd (u_64.2.2.1 10) 320 l6 fun v_67 => B_counts_220 N ro l1 l3 l5 l6 v_67 u_64) else (rd (u_64.2.2.1 20) 320 l3 fun v_69 => B_counts_220 N ro l1 l3 l5 l6 v_69 u_64))
set_option maxHeartbeats 4000000 in
theorem b_counts_185 {r : Int32} {ro : Nat → Int32 → Int32 → RSt → Option (Int32 × RSt)} (X : RC p s m args c cX12_counts 16 (Cond.code yX12_counts cX12_counts 16 none) D kA V A) (hE : REv p l e R s m args below meth c cX12_counts D kA Z A Q w) (hF : 413 ≤ R.frames) (hL : 24525 ≤ R.locals) (hrec : RecOK_S l D kA V Z d ro) (hFd : d + 1 + 430 ≤ R.frames) (hLd : 60 * (d + 1) + 26000 ≤ R.locals) {l1 : Int32} {l2 : Int32} {l3 : Int32} {l5 : Int32} {l6 : Int32} {s1 : Int32}  {u : RSt} (h : B_counts_185 N ro l1 l2 l3 l5 l6 s1 u = some (r, w)) (hS : RS D kA Z A s u H locs) (hl : lv_has ls 16 [(0, .ref (Z 200)), (1, .int l1), (2, .int l2), (3, .int l3), (5, .int l5), (6, .int l6)]) : W p l e R s m args below meth c H locs 0 0 Q (F0 m 185 ls [.int s1, .ref (Z 200)]) := by
  obtain ⟨⟨hx, hb, hml, hown, hts⟩, hK, hEV, hA⟩ := id X
  have hG : ∀ w ∈ GW, w.before args s = true := fun w h => hts w (List.mem_cons_of_mem _ h)
  unfold B_counts_185 at h
  refine lv_iconst (v := 4) hx hb dX12_counts_185 (by decide) ?_
  refine lv_iload_n hx hb dX12_counts_186 rfl (lv_at hl 2 rfl) ?_
  obtain ⟨r_u_64, u_64, h_u_64, h⟩ := bn_of h
  refine kc_wrong X hS h_u_64 (Nat.le_trans (Nat.le_of_ble_eq_true rfl) hF) (Nat.le_trans (Nat.le_of_ble_eq_true rfl) hL) hl.1 (Nat.le_of_ble_eq_true rfl) dX12_counts_187 (fun H locs hS => ?_)
  refine lv_iload hx hb dX12_counts_190 (lv_at hl 4 rfl) ?_
  refine lv_if_ne (tgt := 199) hx hb dX12_counts_192 (by decide) (fun c_65 => ?_) (fun c_65 => ?_)
  · have h := im (c_65) h
    refine lv_iload_n hx hb dX12_counts_199 rfl (lv_at hl 3 rfl) ?_
    refine lv_iconst (v := (-1)) hx hb dX12_counts_200 (by decide) ?_
    refine lv_icmp_eq (tgt := 213) hx hb dX12_counts_201 (by decide) (fun c_66 => ?_) (fun c_66 => ?_)
    · have h := ip (c_66) h
      refine lv_aload_n hx hb dX12_counts_213 rfl (lv_at hl 0 rfl) ?_
      refine rg_10 X hS dX12_counts_214 ?_
      refine lv_iload hx hb dX12_counts_217 (lv_at hl 5 rfl) ?_
      obtain ⟨v_67, e_v_67, i_68, h⟩ := rd_of h
      refine ra_10 X hS i_68 e_v_67 dX12_counts_219 ?_
      exact b_counts_220 X hE hF hL hrec hFd hLd h hS (lv_sub hl [0, 1, 3, 4, 5] rfl)
    · have h := im (c_66) h
      refine lv_aload_n hx hb dX12_counts_204 rfl (lv_at hl 0 rfl) ?_
      refine rg_20 X hS dX12_counts_205 ?_
      refine lv_iload_n hx hb dX12_counts_208 rfl (lv_at hl 3 rfl) ?_
      obtain ⟨v_69, e_v_69, i_70, h⟩ := rd_of h
      refine ra_20 X hS i_70 e_v_69 dX12_counts_209 ?_
      refine lv_goto (tgt := 220) hx hb dX12_counts_210 (by decide) ?_
      exact b_counts_220 X hE hF hL hrec hFd hLd h hS (lv_sub hl [0, 1, 3, 4, 5] rfl)
  · have h := ip (c_65) h
    refine lv_iconst (v := 3) hx hb dX12_counts_195 (by decide) ?_
    refine lv_goto (tgt := 220) hx hb dX12_counts_196 (by decide) ?_
    exact b_counts_220 X hE hF hL hrec hFd hLd h hS (lv_sub hl [0, 1, 3, 4, 5] rfl)
def B_counts_180 (N : Nat) (ro : Nat → Int32 → Int32 → RSt → Option (Int32 × RSt)) (l1 : Int32) (l2 : Int32) (l3 : Int32) (l5 : Int32) (l6 : Int32) (u : RSt) : Option (Int32 × RSt) := B_counts_185 N ro l1 l2 l3 l5 l6 1 u
set_option maxHeartbeats 4000000 in
theorem b_counts_180 {r : Int32} {ro : Nat → Int32 → Int32 → RSt → Option (Int32 × RSt)} (X : RC p s m args c cX12_counts 16 (Cond.code yX12_counts cX12_counts 16 none) D kA V A) (hE : REv p l e R s m args below meth c cX12_counts D kA Z A Q w) (hF : 413 ≤ R.frames) (hL : 24525 ≤ R.locals) (hrec : RecOK_S l D kA V Z d ro) (hFd : d + 1 + 430 ≤ R.frames) (hLd : 60 * (d + 1) + 26000 ≤ R.locals) {l1 : Int32} {l2 : Int32} {l3 : Int32} {l5 : Int32} {l6 : Int32}  {u : RSt} (h : B_counts_180 N ro l1 l2 l3 l5 l6 u = some (r, w)) (hS : RS D kA Z A s u H locs) (hl : lv_has ls 16 [(0, .ref (Z 200)), (1, .int l1), (2, .int l2), (3, .int l3), (5, .int l5), (6, .int l6)]) : W p l e R s m args below meth c H locs 0 0 Q (F0 m 180 ls [.ref (Z 200)]) := by
  obtain ⟨⟨hx, hb, hml, hown, hts⟩, hK, hEV, hA⟩ := id X
  have hG : ∀ w ∈ GW, w.before args s = true := fun w h => hts w (List.mem_cons_of_mem _ h)
  unfold B_counts_180 at h
  refine lv_iconst (v := 1) hx hb dX12_counts_180 (by decide) ?_
  refine lv_goto (tgt := 185) hx hb dX12_counts_181 (by decide) ?_
  exact b_counts_185 X hE hF hL hrec hFd hLd h hS (lv_sub hl [0, 1, 2, 3, 4, 5] rfl)
def B_counts_184 (N : Nat) (ro : Nat → Int32 → Int32 → RSt → Option (Int32 × RSt)) (l1 : Int32) (l2 : Int32) (l3 : Int32) (l5 : Int32) (l6 : Int32) (u : RSt) : Option (Int32 × RSt) := B_counts_185 N ro l1 l2 l3 l5 l6 0 u
set_option maxHeartbeats 4000000 in
theorem b_counts_184 {r : Int32} {ro : Nat → Int32 → Int32 → RSt → Option (Int32 × RSt)} (X : RC p s m args c cX12_counts 16 (Cond.code yX12_counts cX12_counts 16 none) D kA V A) (hE : REv p l e R s m args below meth c cX12_counts D kA Z A Q w) (hF : 413 ≤ R.frames) (hL : 24525 ≤ R.locals) (hrec : RecOK_S l D kA V Z d ro) (hFd : d + 1 + 430 ≤ R.frames) (hLd : 60 * (d + 1) + 26000 ≤ R.locals) {l1 : Int32} {l2 : Int32} {l3 : Int32} {l5 : Int32} {l6 : Int32}  {u : RSt} (h : B_counts_184 N ro l1 l2 l3 l5 l6 u = some (r, w)) (hS : RS D kA Z A s u H locs) (hl : lv_has ls 16 [(0, .ref (Z 200)), (1, .int l1), (2, .int l2), (3, .int l3), (5, .int l5), (6, .int l6)]) : W p l e R s m args below meth c H locs 0 0 Q (F0 m 184 ls [.ref (Z 200)]) := by
  obtain ⟨⟨hx, hb, hml, hown, hts⟩, hK, hEV, hA⟩ := id X
  have hG : ∀ w ∈ GW, w.before args s = true := fun w h => hts w (List.mem_cons_of_mem _ h)
  unfold B_counts_184 at h
  refine lv_iconst (v := 0) hx hb dX12_counts_184 (by decide) ?_
  exact b_counts_185 X hE hF hL hrec hFd hLd h hS (lv_sub hl [0, 1, 2, 3, 4, 5] rfl)
def B_counts_121 (N : Nat) (ro : Nat → Int32 → Int32 → RSt → Option (Int32 × RSt)) (l1 : Int32) (l2 : Int32) (l3 : Int32) (l4 : Int32) (s0 : Int32) (u : RSt) : Option (Int32 × RSt) := if s0 = (0 : Int32) then (B_counts_184 N ro l1 l2 l3 s0 ((160 * (u.1 56)) + l4) u) else (if l3 = ((-1) : Int32) then (rd (u.2.2.1 13) 320 ((160 * (u.1 56)) + l4) fun v_73 => if v_73 = (0 : Int32) then (rd (u.2.2.1 12) 320 ((160 * (u.1 56)) + l4) fun v_76 => if v_76 = (2 : Int32) then (B_counts_180 N ro l1 l2 l3 s0 ((160 * (u.1 56)) + l4) u) else (B_counts_184 N ro l1 l2 l3 s0 ((160 * (u.1 56)) + l4) u)) else (B_counts_180 N ro l1 l2 l3 s0 ((160 * (u.1 56)) + l4) u)) else (rd (u.2.2.1 22) 320 l3 fun v_79 => if v_79 = (0 : Int32) then (B_counts_184 N ro l1 l2 l3 s0 ((160 * (u.1 56)) + l4) u) else (B_counts_180 N ro l1 l2 l3 s0 ((160 * (u.1 56)) + l4) u)))
set_option maxHeartbeats 4000000 in
theorem b_counts_121 {r : Int32} {ro : Nat → Int32 → Int32 → RSt → Option (Int32 × RSt)} (X : RC p s m args c cX12_counts 16 (Cond.code yX12_counts cX12_counts 16 none) D kA V A) (hE : REv p l e R s m args below meth c cX12_counts D kA Z A Q w) (hF : 413 ≤ R.frames) (hL : 24525 ≤ R.locals) (hrec : RecOK_S l D kA V Z d ro) (hFd : d + 1 + 430 ≤ R.frames) (hLd : 60 * (d + 1) + 26000 ≤ R.locals) {l1 : Int32} {l2 : Int32} {l3 : Int32} {l4 : Int32} {s0 : Int32}  {u : RSt} (h : B_counts_121 N ro l1 l2 l3 l4 s0 u = some (r, w)) (hS : RS D kA Z A s u H locs) (hl : lv_has ls 16 [(0, .ref (Z 200)), (1, .int l1), (2, .int l2), (3, .int l3), (4, .int l4)]) : W p l e R s m args below meth c H locs 0 0 Q (F0 m 121 ls [.int s0]) := by
  obtain ⟨⟨hx, hb, hml, hown, hts⟩, hK, hEV, hA⟩ := id X
  have hG : ∀ w ∈ GW, w.before args s = true := fun w h => hts w (List.mem_cons_of_mem _ h)
  unfold B_counts_121 at h
  refine lv_istore (lv' := [(5, .int s0), (0, .ref (Z 200)), (1, .int l1), (2, .int l2), (3, .int l3), (4, .int l4)]) hx hb dX12_counts_121 hl (by decide) rfl (fun ls hl => ?_)
  refine lv_sipush (v := 160) hx hb dX12_counts_123 (by decide) ?_
  refine lv_aload_n hx hb dX12_counts_126 rfl (lv_at hl 1 rfl) ?_
  refine rg_56 X hS dX12_counts_127 ?_
  refine lv_imul hx hb dX12_counts_130 ?_
  refine lv_iload hx hb dX12_counts_131 (lv_at hl 5 rfl) ?_
  refine lv_iadd hx hb dX12_counts_133 ?_
  refine lv_istore (lv' := [(6, .int ((160 * (u.1 56)) + l4)), (5, .int s0), (0, .ref (Z 200)), (1, .int l1), (2, .int l2), (3, .int l3), (4, .int l4)]) hx hb dX12_counts_134 hl (by decide) rfl (fun ls hl => ?_)
  refine lv_aload_n hx hb dX12_counts_136 rfl (lv_at hl 2 rfl) ?_
  refine lv_iload hx hb dX12_counts_137 (lv_at hl 1 rfl) ?_
  refine lv_if_eq (tgt := 184) hx hb dX12_counts_139 (by decide) (fun c_71 => ?_) (fun c_71 => ?_)
  · have h := ip (c_71) h
    exact b_counts_184 X hE hF hL hrec hFd hLd h hS (lv_sub hl [2, 3, 4, 5, 1, 0] rfl)
  · have h := im (c_71) h
    refine lv_iload_n hx hb dX12_counts_142 rfl (lv_at hl 5 rfl) ?_
    refine lv_iconst (v := (-1)) hx hb dX12_counts_143 (by decide) ?_
    refine lv_icmp_eq (tgt := 159) hx hb dX12_counts_144 (by decide) (fun c_72 => ?_) (fun c_72 => ?_)
    · have h := ip (c_72) h
      refine lv_aload_n hx hb dX12_counts_159 rfl (lv_at hl 2 rfl) ?_
      refine rg_13 X hS dX12_counts_160 ?_
      refine lv_iload hx hb dX12_counts_163 (lv_at hl 0 rfl) ?_
      obtain ⟨v_73, e_v_73, i_74, h⟩ := rd_of h
      refine ra_13 X hS i_74 e_v_73 dX12_counts_165 ?_
      refine lv_if_ne (tgt := 180) hx hb dX12_counts_166 (by decide) (fun c_75 => ?_) (fun c_75 => ?_)
      · have h := im (c_75) h
        exact b_counts_180 X hE hF hL hrec hFd hLd h hS (lv_sub hl [2, 3, 4, 5, 1, 0] rfl)
      · have h := ip (c_75) h
        refine lv_aload_n hx hb dX12_counts_169 rfl (lv_at hl 2 rfl) ?_
        refine rg_12 X hS dX12_counts_170 ?_
        refine lv_iload hx hb dX12_counts_173 (lv_at hl 0 rfl) ?_
        obtain ⟨v_76, e_v_76, i_77, h⟩ := rd_of h
        refine ra_12 X hS i_77 e_v_76 dX12_counts_175 ?_
        refine lv_iconst (v := 2) hx hb dX12_counts_176 (by decide) ?_
        refine lv_icmp_ne (tgt := 184) hx hb dX12_counts_177 (by decide) (fun c_78 => ?_) (fun c_78 => ?_)
        · have h := im (c_78) h
          exact b_counts_184 X hE hF hL hrec hFd hLd h hS (lv_sub hl [2, 3, 4, 5, 1, 0] rfl)
        · have h := ip (c_78) h
          exact b_counts_180 X hE hF hL hrec hFd hLd h hS (lv_sub hl [2, 3, 4, 5, 1, 0] rfl)
    · have h := im (c_72) h
      refine lv_aload_n hx hb dX12_counts_147 rfl (lv_at hl 2 rfl) ?_
      refine rg_22 X hS dX12_counts_148 ?_
      refine lv_iload_n hx hb dX12_counts_151 rfl (lv_at hl 5 rfl) ?_
      obtain ⟨v_79, e_v_79, i_80, h⟩ := rd_of h
      refine ra_22 X hS i_80 e_v_79 dX12_counts_152 ?_
      refine lv_if_eq (tgt := 184) hx hb dX12_counts_153 (by decide) (fun c_81 => ?_) (fun c_81 => ?_)
      · have h := ip (c_81) h
        exact b_counts_184 X hE hF hL hrec hFd hLd h hS (lv_sub hl [2, 3, 4, 5, 1, 0] rfl)
      · have h := im (c_81) h
        refine lv_goto (tgt := 180) hx hb dX12_counts_156 (by decide) ?_
        exact b_counts_180 X hE hF hL hrec hFd hLd h hS (lv_sub hl [2, 3, 4, 5, 1, 0] rfl)
def B_counts_120 (N : Nat) (ro : Nat → Int32 → Int32 → RSt → Option (Int32 × RSt)) (l1 : Int32) (l2 : Int32) (l3 : Int32) (l4 : Int32) (u : RSt) : Option (Int32 × RSt) := B_counts_121 N ro l1 l2 l3 l4 0 u
set_option maxHeartbeats 4000000 in
theorem b_counts_120 {r : Int32} {ro : Nat → Int32 → Int32 → RSt → Option (Int32 × RSt)} (X : RC p s m args c cX12_counts 16 (Cond.code yX12_counts cX12_counts 16 none) D kA V A) (hE : REv p l e R s m args below meth c cX12_counts D kA Z A Q w) (hF : 413 ≤ R.frames) (hL : 24525 ≤ R.locals) (hrec : RecOK_S l D kA V Z d ro) (hFd : d + 1 + 430 ≤ R.frames) (hLd : 60 * (d + 1) + 26000 ≤ R.locals) {l1 : Int32} {l2 : Int32} {l3 : Int32} {l4 : Int32}  {u : RSt} (h : B_counts_120 N ro l1 l2 l3 l4 u = some (r, w)) (hS : RS D kA Z A s u H locs) (hl : lv_has ls 16 [(0, .ref (Z 200)), (1, .int l1), (2, .int l2), (3, .int l3), (4, .int l4)]) : W p l e R s m args below meth c H locs 0 0 Q (F0 m 120 ls []) := by
  obtain ⟨⟨hx, hb, hml, hown, hts⟩, hK, hEV, hA⟩ := id X
  have hG : ∀ w ∈ GW, w.before args s = true := fun w h => hts w (List.mem_cons_of_mem _ h)
  unfold B_counts_120 at h
  refine lv_iconst (v := 0) hx hb dX12_counts_120 (by decide) ?_
  exact b_counts_121 X hE hF hL hrec hFd hLd h hS (lv_sub hl [0, 1, 2, 3, 4] rfl)
def B_counts_97 (N : Nat) (ro : Nat → Int32 → Int32 → RSt → Option (Int32 × RSt)) (l1 : Int32) (l2 : Int32) (l3 : Int32) (l4 : Int32) (s1 : Int32) (u : RSt) : Option (Int32 × RSt) := bn (F_wrong N s1 3 l2 u) fun _ u_82 => if (u_82.1 69) = (0 : Int32) then (B_counts_120 N ro l1 l2 l3 l4 u_82) else (if (u_82.1 67) = (0 : Int32) then (B_counts_121 N ro l1 l2 l3 l4 1 u_82) else (B_counts_120 N ro l1 l2 l3 l4 u_82))
set_option maxHeartbeats 4000000 in
theorem b_counts_97 {r : Int32} {ro : Nat → Int32 → Int32 → RSt → Option (Int32 × RSt)} (X : RC p s m args c cX12_counts 16 (Cond.code yX12_counts cX12_counts 16 none) D kA V A) (hE : REv p l e R s m args below meth c cX12_counts D kA Z A Q w) (hF : 413 ≤ R.frames) (hL : 24525 ≤ R.locals) (hrec : RecOK_S l D kA V Z d ro) (hFd : d + 1 + 430 ≤ R.frames) (hLd : 60 * (d + 1) + 26000 ≤ R.locals) {l1 : Int32} {l2 : Int32} {l3 : Int32} {l4 : Int32} {s1 : Int32}  {u : RSt} (h : B_counts_97 N ro l1 l2 l3 l4 s1 u = some (r, w)) (hS : RS D kA Z A s u H locs) (hl : lv_has ls 16 [(0, .ref (Z 200)), (1, .int l1), (2, .int l2), (3, .int l3), (4, .int l4)]) : W p l e R s m args below meth c H locs 0 0 Q (F0 m 97 ls [.int s1, .ref (Z 200)]) := by
  obtain ⟨⟨hx, hb, hml, hown, hts⟩, hK, hEV, hA⟩ := id X
  have hG : ∀ w ∈ GW, w.before args s = true := fun w h => hts w (List.mem_cons_of_mem _ h)
  unfold B_counts_97 at h
  refine lv_iconst (v := 3) hx hb dX12_counts_97 (by decide) ?_
  refine lv_iload_n hx hb dX12_counts_98 rfl (lv_at hl 2 rfl) ?_
  obtain ⟨r_u_82, u_82, h_u_82, h⟩ := bn_of h
  refine kc_wrong X hS h_u_82 (Nat.le_trans (Nat.le_of_ble_eq_true rfl) hF) (Nat.le_trans (Nat.le_of_ble_eq_true rfl) hL) hl.1 (Nat.le_of_ble_eq_true rfl) dX12_counts_99 (fun H locs hS => ?_)
  refine lv_aload_n hx hb dX12_counts_102 rfl (lv_at hl 0 rfl) ?_
  refine rg_69 X hS dX12_counts_103 ?_
  refine lv_if_eq (tgt := 120) hx hb dX12_counts_106 (by decide) (fun c_83 => ?_) (fun c_83 => ?_)
  · have h := ip (c_83) h
    exact b_counts_120 X hE hF hL hrec hFd hLd h hS (lv_sub hl [0, 1, 2, 3, 4] rfl)
  · have h := im (c_83) h
    refine lv_aload_n hx hb dX12_counts_109 rfl (lv_at hl 0 rfl) ?_
    refine rg_67 X hS dX12_counts_110 ?_
    refine lv_if_ne (tgt := 120) hx hb dX12_counts_113 (by decide) (fun c_84 => ?_) (fun c_84 => ?_)
    · have h := im (c_84) h
      exact b_counts_120 X hE hF hL hrec hFd hLd h hS (lv_sub hl [0, 1, 2, 3, 4] rfl)
    · have h := ip (c_84) h
      refine lv_iconst (v := 1) hx hb dX12_counts_116 (by decide) ?_
      refine lv_goto (tgt := 121) hx hb dX12_counts_117 (by decide) ?_
      exact b_counts_121 X hE hF hL hrec hFd hLd h hS (lv_sub hl [0, 1, 2, 3, 4] rfl)
def B_counts_96 (N : Nat) (ro : Nat → Int32 → Int32 → RSt → Option (Int32 × RSt)) (l1 : Int32) (l2 : Int32) (l3 : Int32) (l4 : Int32) (u : RSt) : Option (Int32 × RSt) := B_counts_97 N ro l1 l2 l3 l4 0 u
set_option maxHeartbeats 4000000 in
theorem b_counts_96 {r : Int32} {ro : Nat → Int32 → Int32 → RSt → Option (Int32 × RSt)} (X : RC p s m args c cX12_counts 16 (Cond.code yX12_counts cX12_counts 16 none) D kA V A) (hE : REv p l e R s m args below meth c cX12_counts D kA Z A Q w) (hF : 413 ≤ R.frames) (hL : 24525 ≤ R.locals) (hrec : RecOK_S l D kA V Z d ro) (hFd : d + 1 + 430 ≤ R.frames) (hLd : 60 * (d + 1) + 26000 ≤ R.locals) {l1 : Int32} {l2 : Int32} {l3 : Int32} {l4 : Int32}  {u : RSt} (h : B_counts_96 N ro l1 l2 l3 l4 u = some (r, w)) (hS : RS D kA Z A s u H locs) (hl : lv_has ls 16 [(0, .ref (Z 200)), (1, .int l1), (2, .int l2), (3, .int l3), (4, .int l4)]) : W p l e R s m args below meth c H locs 0 0 Q (F0 m 96 ls [.ref (Z 200)]) := by
  obtain ⟨⟨hx, hb, hml, hown, hts⟩, hK, hEV, hA⟩ := id X
  have hG : ∀ w ∈ GW, w.before args s = true := fun w h => hts w (List.mem_cons_of_mem _ h)
  unfold B_counts_96 at h
  refine lv_iconst (v := 0) hx hb dX12_counts_96 (by decide) ?_
  exact b_counts_97 X hE hF hL hrec hFd hLd h hS (lv_sub hl [0, 1, 2, 3, 4] rfl)
def B_counts_78 (N : Nat) (ro : Nat → Int32 → Int32 → RSt → Option (Int32 × RSt)) (l1 : Int32) (l2 : Int32) (l3 : Int32) (s0 : Int32) (u : RSt) : Option (Int32 × RSt) := if l3 = ((-1) : Int32) then (if s0 = ((-1) : Int32) then (B_counts_97 N ro l1 l2 l3 s0 1 u) else (B_counts_96 N ro l1 l2 l3 s0 u)) else (B_counts_96 N ro l1 l2 l3 s0 u)
set_option maxHeartbeats 4000000 in
theorem b_counts_78 {r : Int32} {ro : Nat → Int32 → Int32 → RSt → Option (Int32 × RSt)} (X : RC p s m args c cX12_counts 16 (Cond.code yX12_counts cX12_counts 16 none) D kA V A) (hE : REv p l e R s m args below meth c cX12_counts D kA Z A Q w) (hF : 413 ≤ R.frames) (hL : 24525 ≤ R.locals) (hrec : RecOK_S l D kA V Z d ro) (hFd : d + 1 + 430 ≤ R.frames) (hLd : 60 * (d + 1) + 26000 ≤ R.locals) {l1 : Int32} {l2 : Int32} {l3 : Int32} {s0 : Int32}  {u : RSt} (h : B_counts_78 N ro l1 l2 l3 s0 u = some (r, w)) (hS : RS D kA Z A s u H locs) (hl : lv_has ls 16 [(0, .ref (Z 200)), (1, .int l1), (2, .int l2), (3, .int l3)]) : W p l e R s m args below meth c H locs 0 0 Q (F0 m 78 ls [.int s0]) := by
  obtain ⟨⟨hx, hb, hml, hown, hts⟩, hK, hEV, hA⟩ := id X
  have hG : ∀ w ∈ GW, w.before args s = true := fun w h => hts w (List.mem_cons_of_mem _ h)
  unfold B_counts_78 at h
  refine lv_istore (lv' := [(4, .int s0), (0, .ref (Z 200)), (1, .int l1), (2, .int l2), (3, .int l3)]) hx hb dX12_counts_78 hl (by decide) rfl (fun ls hl => ?_)
  refine lv_aload_n hx hb dX12_counts_80 rfl (lv_at hl 1 rfl) ?_
  refine lv_iload_n hx hb dX12_counts_81 rfl (lv_at hl 4 rfl) ?_
  refine lv_iconst (v := (-1)) hx hb dX12_counts_82 (by decide) ?_
  refine lv_icmp_ne (tgt := 96) hx hb dX12_counts_83 (by decide) (fun c_85 => ?_) (fun c_85 => ?_)
  · have h := im (c_85) h
    exact b_counts_96 X hE hF hL hrec hFd hLd h hS (lv_sub hl [1, 2, 3, 4, 0] rfl)
  · have h := ip (c_85) h
    refine lv_iload hx hb dX12_counts_86 (lv_at hl 0 rfl) ?_
    refine lv_iconst (v := (-1)) hx hb dX12_counts_88 (by decide) ?_
    refine lv_icmp_ne (tgt := 96) hx hb dX12_counts_89 (by decide) (fun c_86 => ?_) (fun c_86 => ?_)
    · have h := im (c_86) h
      exact b_counts_96 X hE hF hL hrec hFd hLd h hS (lv_sub hl [1, 2, 3, 4, 0] rfl)
    · have h := ip (c_86) h
      refine lv_iconst (v := 1) hx hb dX12_counts_92 (by decide) ?_
      refine lv_goto (tgt := 97) hx hb dX12_counts_93 (by decide) ?_
      exact b_counts_97 X hE hF hL hrec hFd hLd h hS (lv_sub hl [1, 2, 3, 4, 0] rfl)
def B_counts_77 (N : Nat) (ro : Nat → Int32 → Int32 → RSt → Option (Int32 × RSt)) (l1 : Int32) (l2 : Int32) (l3 : Int32) (u : RSt) : Option (Int32 × RSt) := B_counts_78 N ro l1 l2 l3 (-1) u
set_option maxHeartbeats 4000000 in
theorem b_counts_77 {r : Int32} {ro : Nat → Int32 → Int32 → RSt → Option (Int32 × RSt)} (X : RC p s m args c cX12_counts 16 (Cond.code yX12_counts cX12_counts 16 none) D kA V A) (hE : REv p l e R s m args below meth c cX12_counts D kA Z A Q w) (hF : 413 ≤ R.frames) (hL : 24525 ≤ R.locals) (hrec : RecOK_S l D kA V Z d ro) (hFd : d + 1 + 430 ≤ R.frames) (hLd : 60 * (d + 1) + 26000 ≤ R.locals) {l1 : Int32} {l2 : Int32} {l3 : Int32}  {u : RSt} (h : B_counts_77 N ro l1 l2 l3 u = some (r, w)) (hS : RS D kA Z A s u H locs) (hl : lv_has ls 16 [(0, .ref (Z 200)), (1, .int l1), (2, .int l2), (3, .int l3)]) : W p l e R s m args below meth c H locs 0 0 Q (F0 m 77 ls []) := by
  obtain ⟨⟨hx, hb, hml, hown, hts⟩, hK, hEV, hA⟩ := id X
  have hG : ∀ w ∈ GW, w.before args s = true := fun w h => hts w (List.mem_cons_of_mem _ h)
  unfold B_counts_77 at h
  refine lv_iconst (v := (-1)) hx hb dX12_counts_77 (by decide) ?_
  exact b_counts_78 X hE hF hL hrec hFd hLd h hS (lv_sub hl [0, 1, 2, 3] rfl)
def B_counts_56 (N : Nat) (ro : Nat → Int32 → Int32 → RSt → Option (Int32 × RSt)) (l1 : Int32) (l2 : Int32) (s0 : Int32) (u : RSt) : Option (Int32 × RSt) := if s0 = ((-1) : Int32) then (if (u.1 69) = (0 : Int32) then (B_counts_77 N ro l1 l2 s0 u) else (bn (F_own N 0 u) fun r_90 u_89 => B_counts_78 N ro l1 l2 s0 r_90 u_89)) else (B_counts_77 N ro l1 l2 s0 u)
set_option maxHeartbeats 4000000 in
theorem b_counts_56 {r : Int32} {ro : Nat → Int32 → Int32 → RSt → Option (Int32 × RSt)} (X : RC p s m args c cX12_counts 16 (Cond.code yX12_counts cX12_counts 16 none) D kA V A) (hE : REv p l e R s m args below meth c cX12_counts D kA Z A Q w) (hF : 413 ≤ R.frames) (hL : 24525 ≤ R.locals) (hrec : RecOK_S l D kA V Z d ro) (hFd : d + 1 + 430 ≤ R.frames) (hLd : 60 * (d + 1) + 26000 ≤ R.locals) {l1 : Int32} {l2 : Int32} {s0 : Int32}  {u : RSt} (h : B_counts_56 N ro l1 l2 s0 u = some (r, w)) (hS : RS D kA Z A s u H locs) (hl : lv_has ls 16 [(0, .ref (Z 200)), (1, .int l1), (2, .int l2)]) : W p l e R s m args below meth c H locs 0 0 Q (F0 m 56 ls [.int s0]) := by
  obtain ⟨⟨hx, hb, hml, hown, hts⟩, hK, hEV, hA⟩ := id X
  have hG : ∀ w ∈ GW, w.before args s = true := fun w h => hts w (List.mem_cons_of_mem _ h)
  unfold B_counts_56 at h
  refine lv_istore_n (lv' := [(3, .int s0), (0, .ref (Z 200)), (1, .int l1), (2, .int l2)]) hx hb dX12_counts_56 rfl hl (by decide) rfl (fun ls hl => ?_)
  refine lv_iload_n hx hb dX12_counts_57 rfl (lv_at hl 0 rfl) ?_
  refine lv_iconst (v := (-1)) hx hb dX12_counts_58 (by decide) ?_
  refine lv_icmp_ne (tgt := 77) hx hb dX12_counts_59 (by decide) (fun c_87 => ?_) (fun c_87 => ?_)
  · have h := im (c_87) h
    exact b_counts_77 X hE hF hL hrec hFd hLd h hS (lv_sub hl [1, 2, 3, 0] rfl)
  · have h := ip (c_87) h
    refine lv_aload_n hx hb dX12_counts_62 rfl (lv_at hl 1 rfl) ?_
    refine rg_69 X hS dX12_counts_63 ?_
    refine lv_if_eq (tgt := 77) hx hb dX12_counts_66 (by decide) (fun c_88 => ?_) (fun c_88 => ?_)
    · have h := ip (c_88) h
      exact b_counts_77 X hE hF hL hrec hFd hLd h hS (lv_sub hl [1, 2, 3, 0] rfl)
    · have h := im (c_88) h
      refine lv_aload_n hx hb dX12_counts_69 rfl (lv_at hl 1 rfl) ?_
      refine lv_iconst (v := 0) hx hb dX12_counts_70 (by decide) ?_
      obtain ⟨r_90, u_89, h_u_89, h⟩ := bn_of h
      refine kc_own X hS h_u_89 (Nat.le_trans (Nat.le_of_ble_eq_true rfl) hF) (Nat.le_trans (Nat.le_of_ble_eq_true rfl) hL) hl.1 (Nat.le_of_ble_eq_true rfl) dX12_counts_71 (fun H locs hS => ?_)
      refine lv_goto (tgt := 78) hx hb dX12_counts_74 (by decide) ?_
      exact b_counts_78 X hE hF hL hrec hFd hLd h hS (lv_sub hl [1, 2, 3, 0] rfl)
def B_counts_0 (N : Nat) (ro : Nat → Int32 → Int32 → RSt → Option (Int32 × RSt)) (l1 : Int32) (u : RSt) : Option (Int32 × RSt) := bn (F_is N 1 u) fun r_92 u_91 => if r_92 = (0 : Int32) then (bn (F_stuck N u_91) fun _ u_103 => some (0, u_103)) else (rd (u_91.2.2.1 3) 1502 (u_91.1 65) fun v_94 => if (u_91.1 69) = (0 : Int32) then (B_counts_56 N ro l1 v_94 (-1) u_91) else (rd (u_91.2.2.2 6) 1502 (u_91.1 65) fun v_97 => rd (u_91.2.2.2 7) 1502 (u_91.1 65) fun v_99 => bn (F_slotOf N v_97 v_99 u_91) fun r_102 u_101 => B_counts_56 N ro l1 v_94 r_102 u_101))
set_option maxHeartbeats 4000000 in
theorem b_counts_0 {r : Int32} {ro : Nat → Int32 → Int32 → RSt → Option (Int32 × RSt)} (X : RC p s m args c cX12_counts 16 (Cond.code yX12_counts cX12_counts 16 none) D kA V A) (hE : REv p l e R s m args below meth c cX12_counts D kA Z A Q w) (hF : 413 ≤ R.frames) (hL : 24525 ≤ R.locals) (hrec : RecOK_S l D kA V Z d ro) (hFd : d + 1 + 430 ≤ R.frames) (hLd : 60 * (d + 1) + 26000 ≤ R.locals) {l1 : Int32}  {u : RSt} (h : B_counts_0 N ro l1 u = some (r, w)) (hS : RS D kA Z A s u H locs) (hl : lv_has ls 16 [(0, .ref (Z 200)), (1, .int l1)]) : W p l e R s m args below meth c H locs 0 0 Q (F0 m 0 ls []) := by
  obtain ⟨⟨hx, hb, hml, hown, hts⟩, hK, hEV, hA⟩ := id X
  have hG : ∀ w ∈ GW, w.before args s = true := fun w h => hts w (List.mem_cons_of_mem _ h)
  unfold B_counts_0 at h
  refine lv_aload_n hx hb dX12_counts_0 rfl (lv_at hl 0 rfl) ?_
  refine lv_iconst (v := 1) hx hb dX12_counts_1 (by decide) ?_
  obtain ⟨r_92, u_91, h_u_91, h⟩ := bn_of h
  refine kc_is X hS h_u_91 (Nat.le_trans (Nat.le_of_ble_eq_true rfl) hF) (Nat.le_trans (Nat.le_of_ble_eq_true rfl) hL) hl.1 (Nat.le_of_ble_eq_true rfl) dX12_counts_2 (fun H locs hS => ?_)
  refine lv_if_ne (tgt := 13) hx hb dX12_counts_5 (by decide) (fun c_93 => ?_) (fun c_93 => ?_)
  · have h := im (c_93) h
    refine lv_aload_n hx hb dX12_counts_13 rfl (lv_at hl 0 rfl) ?_
    refine rg_3 X hS dX12_counts_14 ?_
    refine lv_aload_n hx hb dX12_counts_17 rfl (lv_at hl 0 rfl) ?_
    refine rg_65 X hS dX12_counts_18 ?_
    obtain ⟨v_94, e_v_94, i_95, h⟩ := rd_of h
    refine ra_3 X hS i_95 e_v_94 dX12_counts_21 ?_
    refine lv_istore_n (lv' := [(2, .int v_94), (0, .ref (Z 200)), (1, .int l1)]) hx hb dX12_counts_22 rfl hl (by decide) rfl (fun ls hl => ?_)
    refine lv_aload_n hx hb dX12_counts_23 rfl (lv_at hl 1 rfl) ?_
    refine rg_69 X hS dX12_counts_24 ?_
    refine lv_if_eq (tgt := 55) hx hb dX12_counts_27 (by decide) (fun c_96 => ?_) (fun c_96 => ?_)
    · have h := ip (c_96) h
      refine lv_iconst (v := (-1)) hx hb dX12_counts_55 (by decide) ?_
      exact b_counts_56 X hE hF hL hrec hFd hLd h hS (lv_sub hl [1, 2, 0] rfl)
    · have h := im (c_96) h
      refine lv_aload_n hx hb dX12_counts_30 rfl (lv_at hl 1 rfl) ?_
      refine lv_aload_n hx hb dX12_counts_31 rfl (lv_at hl 1 rfl) ?_
      refine rg_6 X hS dX12_counts_32 ?_
      refine lv_aload_n hx hb dX12_counts_35 rfl (lv_at hl 1 rfl) ?_
      refine rg_65 X hS dX12_counts_36 ?_
      obtain ⟨v_97, e_v_97, i_98, h⟩ := rd_of h
      refine ra_6 X hS i_98 e_v_97 dX12_counts_39 ?_
      refine lv_aload_n hx hb dX12_counts_40 rfl (lv_at hl 1 rfl) ?_
      refine rg_7 X hS dX12_counts_41 ?_
      refine lv_aload_n hx hb dX12_counts_44 rfl (lv_at hl 1 rfl) ?_
      refine rg_65 X hS dX12_counts_45 ?_
      obtain ⟨v_99, e_v_99, i_100, h⟩ := rd_of h
      refine ra_7 X hS i_100 e_v_99 dX12_counts_48 ?_
      obtain ⟨r_102, u_101, h_u_101, h⟩ := bn_of h
      refine kc_slotOf X hS h_u_101 (Nat.le_trans (Nat.le_of_ble_eq_true rfl) hF) (Nat.le_trans (Nat.le_of_ble_eq_true rfl) hL) hl.1 (Nat.le_of_ble_eq_true rfl) dX12_counts_49 (fun H locs hS => ?_)
      refine lv_goto (tgt := 56) hx hb dX12_counts_52 (by decide) ?_
      exact b_counts_56 X hE hF hL hrec hFd hLd h hS (lv_sub hl [1, 2, 0] rfl)
  · have h := ip (c_93) h
    refine lv_aload_n hx hb dX12_counts_8 rfl (lv_at hl 0 rfl) ?_
    obtain ⟨r_u_103, u_103, h_u_103, h⟩ := bn_of h
    refine kc_stuck X hS h_u_103 (Nat.le_trans (Nat.le_of_ble_eq_true rfl) hF) (Nat.le_trans (Nat.le_of_ble_eq_true rfl) hL) hl.1 (Nat.le_of_ble_eq_true rfl) dX12_counts_9 (fun H locs hS => ?_)
    obtain ⟨-, rfl⟩ := so h
    exact hE _ _ _ _ hS dX12_counts_12
def F_counts (N : Nat) (ro : Nat → Int32 → Int32 → RSt → Option (Int32 × RSt)) (l1 : Int32) (u : RSt) : Option (Int32 × RSt) := B_counts_0 N ro l1 u
set_option maxHeartbeats 4000000 in
theorem k_counts (l : Launch) (D : va_G) (kA : Nat → ClassId) (V Z : Nat → Nat) (N : Nat) {d : Nat} (ro : Nat → Int32 → Int32 → RSt → Option (Int32 × RSt)) (hrec : RecOK_S l D kA V Z d ro) (l1 : Int32) (u : RSt) (sz : Nat) {r : Int32} {w : RSt} (h : F_counts N ro l1 u = some (r, w)) : Met l yX12_counts (Cond.code yX12_counts cX12_counts 16 none :: GW) { frames := d + 1 + 430, cells := 0, slots := 0, locals := 60 * (d + 1) + 26000 } (rPc D kA V Z [.int l1] u sz) (rQv D kA Z u sz w) 0 0 (va_A (RW kA Z u) sz) := by
  refine Met.ofW (cc := cX12_counts) (maxL := 16) (ret := none) (by decide) rfl ?_
  intro p e s m args below meth c s₁ Bd hml hv
  obtain ⟨rfl, hsz, hP, hK, hD0, hE⟩ := hv
  have hts := atoms_spec (ws := Cond.code yX12_counts cX12_counts 16 none :: GW) Bd.pre
  have hl := lv_entry (.ref (Z 200) :: [.int l1]) (n := 16) (Nat.le_of_ble_eq_true rfl)
  rw [lg_entry_eq]
  generalize (lg_sl (.ref (Z 200) :: [.int l1]) ++ List.replicate (16 - (lg_sl (.ref (Z 200) :: [.int l1])).length) Slot.unset).toArray = ls at hl ⊢
  have hl : lv_has ls 16 [(0, .ref (Z 200)), (1, .int l1)] := hl
  subst hsz
  have X : RC p s m (.ref (Z 200) :: [.int l1]).toArray c cX12_counts 16 (Cond.code yX12_counts cX12_counts 16 none) D kA V (va_A (RW kA Z u) s.heap.size) := ⟨⟨Bd.exec, Bd.bytes, hml, findClass_of_methodNamed Bd.named, hts⟩, hK, hE, fun q h => Or.inr h⟩
  exact b_counts_0 X (rend_v (cy := cX12_counts) X Bd.returns Bd.notSynchronized) (Nat.le_trans (Nat.le_of_ble_eq_true rfl) (Nat.le_add_left 430 _)) (Nat.le_trans (Nat.le_of_ble_eq_true rfl) (Nat.le_add_left 26000 _)) hrec (Nat.le_refl _) (Nat.le_refl _) h ⟨hP, hD0.self, va_S.rf⟩ (lv_sub hl [0, 1] rfl)
def B_cases_103 (N : Nat) (ro : Nat → Int32 → Int32 → RSt → Option (Int32 × RSt)) (R_14 : Int32 × RSt → Option (Int32 × RSt)) (l2 : Int32) (l4 : Int32) (u : RSt) : Option (Int32 × RSt) := bn (ro 0 0 0 u) fun _ u_1 => bn (F_emit N 28 l2 0 u_1) fun r_3 u_2 => bn (F_lead N l4 u_2) fun _ u_4 => R_14 (r_3, u_4)
set_option maxHeartbeats 4000000 in
theorem b_cases_103 {r : Int32} {ro : Nat → Int32 → Int32 → RSt → Option (Int32 × RSt)} (X : RC p s m args c cX12_cases 6 (Cond.code yX12_cases cX12_cases 6 none) D kA V A) (hE : REv p l e R s m args below meth c cX12_cases D kA Z A Q w) (hF : 413 ≤ R.frames) (hL : 24525 ≤ R.locals) (hrec : RecOK_S l D kA V Z d ro) (hFd : d + 1 + 430 ≤ R.frames) (hLd : 60 * (d + 1) + 26000 ≤ R.locals) {R_14 : Int32 × RSt → Option (Int32 × RSt)} {l2 : Int32} {l4 : Int32} (hR_14 : ∀ (l2 : Int32) (u : RSt), R_14 (l2, u) = some (r, w) → ∀ (H : Heap) (locs : List Loc) (ls : Array Slot), RS D kA Z A s u H locs → lv_has ls 6 [(0, .ref (Z 200)), (2, .int l2)] → W p l e R s m args below meth c H locs 0 0 Q (F0 m 14 ls [])) {u : RSt} (h : B_cases_103 N ro R_14 l2 l4 u = some (r, w)) (hS : RS D kA Z A s u H locs) (hl : lv_has ls 6 [(0, .ref (Z 200)), (2, .int l2), (4, .int l4)]) : W p l e R s m args below meth c H locs 0 0 Q (F0 m 103 ls []) := by
  obtain ⟨⟨hx, hb, hml, hown, hts⟩, hK, hEV, hA⟩ := id X
  have hG : ∀ w ∈ GW, w.before args s = true := fun w h => hts w (List.mem_cons_of_mem _ h)
  unfold B_cases_103 at h
  refine lv_aload_n hx hb dX12_cases_103 rfl (lv_at hl 0 rfl) ?_
  obtain ⟨r_u_1, u_1, h_u_1, h⟩ := bn_of h
  refine kc_body X hrec hS h_u_1 hFd hLd hl.1 (Nat.le_of_ble_eq_true rfl) dX12_cases_104 (fun H locs hS => ?_)
  refine lv_aload_n hx hb dX12_cases_107 rfl (lv_at hl 0 rfl) ?_
  refine lv_bipush (v := 28) hx hb dX12_cases_108 (by decide) ?_
  refine lv_iload_n hx hb dX12_cases_110 rfl (lv_at hl 1 rfl) ?_
  refine lv_iconst (v := 0) hx hb dX12_cases_111 (by decide) ?_
  obtain ⟨r_3, u_2, h_u_2, h⟩ := bn_of h
  refine kc_emit X hS h_u_2 (Nat.le_trans (Nat.le_of_ble_eq_true rfl) hF) (Nat.le_trans (Nat.le_of_ble_eq_true rfl) hL) hl.1 (Nat.le_of_ble_eq_true rfl) dX12_cases_112 (fun H locs hS => ?_)
  refine lv_istore (lv' := [(5, .int r_3), (0, .ref (Z 200)), (2, .int l2), (4, .int l4)]) hx hb dX12_cases_115 hl (by decide) rfl (fun ls hl => ?_)
  refine lv_iload hx hb dX12_cases_117 (lv_at hl 0 rfl) ?_
  refine lv_istore_n (lv' := [(2, .int r_3), (5, .int r_3), (0, .ref (Z 200)), (4, .int l4)]) hx hb dX12_cases_119 rfl hl (by decide) rfl (fun ls hl => ?_)
  refine lv_aload_n hx hb dX12_cases_120 rfl (lv_at hl 2 rfl) ?_
  refine lv_iload hx hb dX12_cases_121 (lv_at hl 3 rfl) ?_
  obtain ⟨r_u_4, u_4, h_u_4, h⟩ := bn_of h
  refine kc_lead X hS h_u_4 (Nat.le_trans (Nat.le_of_ble_eq_true rfl) hF) (Nat.le_trans (Nat.le_of_ble_eq_true rfl) hL) hl.1 (Nat.le_of_ble_eq_true rfl) dX12_cases_123 (fun H locs hS => ?_)
  refine lv_goto (tgt := 14) hx hb dX12_cases_126 (by decide) ?_
  exact hR_14 _ _ h _ _ _ hS (lv_sub hl [2, 0] rfl)
def B_cases_65 (N : Nat) (ro : Nat → Int32 → Int32 → RSt → Option (Int32 × RSt)) (R_14 : Int32 × RSt → Option (Int32 × RSt)) (R_65 : Int32 × Int32 × Int32 × RSt → Option (Int32 × RSt)) (l2 : Int32) (l4 : Int32) (l5 : Int32) (u : RSt) : Option (Int32 × RSt) := if (u.1 69) = (0 : Int32) then (B_cases_103 N ro R_14 l2 l4 u) else (if (u.1 67) = (0 : Int32) then (if l4 ≤ l5 then (B_cases_103 N ro R_14 l2 l4 u) else (bn (F_here N u) fun r_9 u_8 => wr 16000 l5 (sA u_8 50 l5.toNatClampNeg r_9) fun u_10 => R_65 (l2, l4, (l5 + 1), u_10))) else (B_cases_103 N ro R_14 l2 l4 u))
set_option maxHeartbeats 4000000 in
theorem b_cases_65 {r : Int32} {ro : Nat → Int32 → Int32 → RSt → Option (Int32 × RSt)} (X : RC p s m args c cX12_cases 6 (Cond.code yX12_cases cX12_cases 6 none) D kA V A) (hE : REv p l e R s m args below meth c cX12_cases D kA Z A Q w) (hF : 413 ≤ R.frames) (hL : 24525 ≤ R.locals) (hrec : RecOK_S l D kA V Z d ro) (hFd : d + 1 + 430 ≤ R.frames) (hLd : 60 * (d + 1) + 26000 ≤ R.locals) {R_14 : Int32 × RSt → Option (Int32 × RSt)} {R_65 : Int32 × Int32 × Int32 × RSt → Option (Int32 × RSt)} {l2 : Int32} {l4 : Int32} {l5 : Int32} (hR_14 : ∀ (l2 : Int32) (u : RSt), R_14 (l2, u) = some (r, w) → ∀ (H : Heap) (locs : List Loc) (ls : Array Slot), RS D kA Z A s u H locs → lv_has ls 6 [(0, .ref (Z 200)), (2, .int l2)] → W p l e R s m args below meth c H locs 0 0 Q (F0 m 14 ls [])) (hR_65 : ∀ (l2 : Int32) (l4 : Int32) (l5 : Int32) (u : RSt), R_65 (l2, l4, l5, u) = some (r, w) → ∀ (H : Heap) (locs : List Loc) (ls : Array Slot), RS D kA Z A s u H locs → lv_has ls 6 [(0, .ref (Z 200)), (2, .int l2), (4, .int l4), (5, .int l5)] → W p l e R s m args below meth c H locs 0 0 Q (F0 m 65 ls [])) {u : RSt} (h : B_cases_65 N ro R_14 R_65 l2 l4 l5 u = some (r, w)) (hS : RS D kA Z A s u H locs) (hl : lv_has ls 6 [(0, .ref (Z 200)), (2, .int l2), (4, .int l4), (5, .int l5)]) : W p l e R s m args below meth c H locs 0 0 Q (F0 m 65 ls []) := by
  obtain ⟨⟨hx, hb, hml, hown, hts⟩, hK, hEV, hA⟩ := id X
  have hG : ∀ w ∈ GW, w.before args s = true := fun w h => hts w (List.mem_cons_of_mem _ h)
  unfold B_cases_65 at h
  refine lv_aload_n hx hb dX12_cases_65 rfl (lv_at hl 0 rfl) ?_
  refine rg_69 X hS dX12_cases_66 ?_
  refine lv_if_eq (tgt := 103) hx hb dX12_cases_69 (by decide) (fun c_5 => ?_) (fun c_5 => ?_)
  · have h := ip (c_5) h
    exact b_cases_103 X hE hF hL hrec hFd hLd hR_14 h hS (lv_sub hl [0, 1, 2] rfl)
  · have h := im (c_5) h
    refine lv_aload_n hx hb dX12_cases_72 rfl (lv_at hl 0 rfl) ?_
    refine rg_67 X hS dX12_cases_73 ?_
    refine lv_if_ne (tgt := 103) hx hb dX12_cases_76 (by decide) (fun c_6 => ?_) (fun c_6 => ?_)
    · have h := im (c_6) h
      exact b_cases_103 X hE hF hL hrec hFd hLd hR_14 h hS (lv_sub hl [0, 1, 2] rfl)
    · have h := ip (c_6) h
      refine lv_iload hx hb dX12_cases_79 (lv_at hl 3 rfl) ?_
      refine lv_iload hx hb dX12_cases_81 (lv_at hl 2 rfl) ?_
      refine lv_icmp_ge (tgt := 103) hx hb dX12_cases_83 (by decide) (fun c_7 => ?_) (fun c_7 => ?_)
      · have h := ip (c_7) h
        exact b_cases_103 X hE hF hL hrec hFd hLd hR_14 h hS (lv_sub hl [0, 1, 2] rfl)
      · have h := im (c_7) h
        refine lv_aload_n hx hb dX12_cases_86 rfl (lv_at hl 0 rfl) ?_
        refine rg_50 X hS dX12_cases_87 ?_
        refine lv_iload hx hb dX12_cases_90 (lv_at hl 3 rfl) ?_
        refine lv_aload_n hx hb dX12_cases_92 rfl (lv_at hl 0 rfl) ?_
        obtain ⟨r_9, u_8, h_u_8, h⟩ := bn_of h
        refine kc_here X hS h_u_8 (Nat.le_trans (Nat.le_of_ble_eq_true rfl) hF) (Nat.le_trans (Nat.le_of_ble_eq_true rfl) hL) hl.1 (Nat.le_of_ble_eq_true rfl) dX12_cases_93 (fun H locs hS => ?_)
        obtain ⟨u_10, e_u_10, i_11, h⟩ := wr_of h
        refine rs_50 X hS i_11 e_u_10 dX12_cases_96 (fun H locs hS => ?_)
        refine lv_iinc (v := l5 + 1) (lv' := [(5, .int (l5 + 1)), (0, .ref (Z 200)), (2, .int l2), (4, .int l4)]) hx hb dX12_cases_97 hl (k := 3) rfl rfl (by decide) rfl (fun ls hl => ?_)
        refine lv_goto (tgt := 65) hx hb dX12_cases_100 (by decide) ?_
        exact hR_65 _ _ _ _ h _ _ _ hS (lv_sub hl [1, 2, 3, 0] rfl)
def LP_cases_65 (N : Nat) (ro : Nat → Int32 → Int32 → RSt → Option (Int32 × RSt)) (R_14 : Int32 × RSt → Option (Int32 × RSt)) : Nat → Int32 × Int32 × Int32 × RSt → Option (Int32 × RSt) := lp (fun R a => B_cases_65 N ro R_14 R a.1 a.2.1 a.2.2.1 a.2.2.2)
theorem bl_cases_65 {r : Int32} {ro : Nat → Int32 → Int32 → RSt → Option (Int32 × RSt)} (X : RC p s m args c cX12_cases 6 (Cond.code yX12_cases cX12_cases 6 none) D kA V A) (hE : REv p l e R s m args below meth c cX12_cases D kA Z A Q w) (hF : 413 ≤ R.frames) (hL : 24525 ≤ R.locals) (hrec : RecOK_S l D kA V Z d ro) (hFd : d + 1 + 430 ≤ R.frames) (hLd : 60 * (d + 1) + 26000 ≤ R.locals) {R_14 : Int32 × RSt → Option (Int32 × RSt)} (hR_14 : ∀ (l2 : Int32) (u : RSt), R_14 (l2, u) = some (r, w) → ∀ (H : Heap) (locs : List Loc) (ls : Array Slot), RS D kA Z A s u H locs → lv_has ls 6 [(0, .ref (Z 200)), (2, .int l2)] → W p l e R s m args below meth c H locs 0 0 Q (F0 m 14 ls [])) : ∀ (n : Nat) (l2 : Int32) (l4 : Int32) (l5 : Int32) (u : RSt), LP_cases_65 N ro R_14 n (l2, l4, l5, u) = some (r, w) → ∀ (H : Heap) (locs : List Loc) (ls : Array Slot), RS D kA Z A s u H locs → lv_has ls 6 [(0, .ref (Z 200)), (2, .int l2), (4, .int l4), (5, .int l5)] → W p l e R s m args below meth c H locs 0 0 Q (F0 m 65 ls []) := by
  intro n
  induction n with
  | zero => intro l2 l4 l5 u h; exact nomatch h
  | succ n ih => intro l2 l4 l5 u h H locs ls hS hl; exact b_cases_65 (N := N) (R_65 := LP_cases_65 N ro R_14 n) X hE hF hL hrec hFd hLd hR_14 ih h hS hl
def B_cases_28 (N : Nat) (ro : Nat → Int32 → Int32 → RSt → Option (Int32 × RSt)) (R_14 : Int32 × RSt → Option (Int32 × RSt)) (R_28 : Int32 × Int32 × RSt → Option (Int32 × RSt)) (l2 : Int32) (l3 : Int32) (u : RSt) : Option (Int32 × RSt) := pu (sI u 65 ((u.1 65) + 1)) fun u_12 => bn (F_label N u_12) fun _ u_13 => bn (F_is N 230 u_13) fun r_15 u_14 => if r_15 = (0 : Int32) then (bn (F_emit N 28 0 0 u_14) fun r_18 u_17 => LP_cases_65 N ro R_14 N (l2, r_18, l3, u_17)) else (R_28 (l2, l3, u_14))
set_option maxHeartbeats 4000000 in
theorem b_cases_28 {r : Int32} {ro : Nat → Int32 → Int32 → RSt → Option (Int32 × RSt)} (X : RC p s m args c cX12_cases 6 (Cond.code yX12_cases cX12_cases 6 none) D kA V A) (hE : REv p l e R s m args below meth c cX12_cases D kA Z A Q w) (hF : 413 ≤ R.frames) (hL : 24525 ≤ R.locals) (hrec : RecOK_S l D kA V Z d ro) (hFd : d + 1 + 430 ≤ R.frames) (hLd : 60 * (d + 1) + 26000 ≤ R.locals) {R_14 : Int32 × RSt → Option (Int32 × RSt)} {R_28 : Int32 × Int32 × RSt → Option (Int32 × RSt)} {l2 : Int32} {l3 : Int32} (hR_14 : ∀ (l2 : Int32) (u : RSt), R_14 (l2, u) = some (r, w) → ∀ (H : Heap) (locs : List Loc) (ls : Array Slot), RS D kA Z A s u H locs → lv_has ls 6 [(0, .ref (Z 200)), (2, .int l2)] → W p l e R s m args below meth c H locs 0 0 Q (F0 m 14 ls [])) (hR_28 : ∀ (l2 : Int32) (l3 : Int32) (u : RSt), R_28 (l2, l3, u) = some (r, w) → ∀ (H : Heap) (locs : List Loc) (ls : Array Slot), RS D kA Z A s u H locs → lv_has ls 6 [(0, .ref (Z 200)), (2, .int l2), (3, .int l3)] → W p l e R s m args below meth c H locs 0 0 Q (F0 m 28 ls [])) {u : RSt} (h : B_cases_28 N ro R_14 R_28 l2 l3 u = some (r, w)) (hS : RS D kA Z A s u H locs) (hl : lv_has ls 6 [(0, .ref (Z 200)), (2, .int l2), (3, .int l3)]) : W p l e R s m args below meth c H locs 0 0 Q (F0 m 28 ls []) := by
  obtain ⟨⟨hx, hb, hml, hown, hts⟩, hK, hEV, hA⟩ := id X
  have hG : ∀ w ∈ GW, w.before args s = true := fun w h => hts w (List.mem_cons_of_mem _ h)
  unfold B_cases_28 at h
  refine lv_aload_n hx hb dX12_cases_28 rfl (lv_at hl 0 rfl) ?_
  refine lv_dup hx hb dX12_cases_29 rfl ?_
  refine rg_65 X hS dX12_cases_30 ?_
  refine lv_iconst (v := 1) hx hb dX12_cases_33 (by decide) ?_
  refine lv_iadd hx hb dX12_cases_34 ?_
  obtain ⟨u_12, e_u_12, h⟩ := pu_of h
  refine rp_65 X hS e_u_12 dX12_cases_35 (fun H locs hS => ?_)
  refine lv_aload_n hx hb dX12_cases_38 rfl (lv_at hl 0 rfl) ?_
  obtain ⟨r_u_13, u_13, h_u_13, h⟩ := bn_of h
  refine kc_label X hS h_u_13 (Nat.le_trans (Nat.le_of_ble_eq_true rfl) hF) (Nat.le_trans (Nat.le_of_ble_eq_true rfl) hL) hl.1 (Nat.le_of_ble_eq_true rfl) dX12_cases_39 (fun H locs hS => ?_)
  refine lv_aload_n hx hb dX12_cases_42 rfl (lv_at hl 0 rfl) ?_
  refine lv_sipush (v := 230) hx hb dX12_cases_43 (by decide) ?_
  obtain ⟨r_15, u_14, h_u_14, h⟩ := bn_of h
  refine kc_is X hS h_u_14 (Nat.le_trans (Nat.le_of_ble_eq_true rfl) hF) (Nat.le_trans (Nat.le_of_ble_eq_true rfl) hL) hl.1 (Nat.le_of_ble_eq_true rfl) dX12_cases_46 (fun H locs hS => ?_)
  refine lv_if_ne (tgt := 28) hx hb dX12_cases_49 (by decide) (fun c_16 => ?_) (fun c_16 => ?_)
  · have h := im (c_16) h
    exact hR_28 _ _ _ h _ _ _ hS (lv_sub hl [0, 1, 2] rfl)
  · have h := ip (c_16) h
    refine lv_aload_n hx hb dX12_cases_52 rfl (lv_at hl 0 rfl) ?_
    refine lv_bipush (v := 28) hx hb dX12_cases_53 (by decide) ?_
    refine lv_iconst (v := 0) hx hb dX12_cases_55 (by decide) ?_
    refine lv_iconst (v := 0) hx hb dX12_cases_56 (by decide) ?_
    obtain ⟨r_18, u_17, h_u_17, h⟩ := bn_of h
    refine kc_emit X hS h_u_17 (Nat.le_trans (Nat.le_of_ble_eq_true rfl) hF) (Nat.le_trans (Nat.le_of_ble_eq_true rfl) hL) hl.1 (Nat.le_of_ble_eq_true rfl) dX12_cases_57 (fun H locs hS => ?_)
    refine lv_istore (lv' := [(4, .int r_18), (0, .ref (Z 200)), (2, .int l2), (3, .int l3)]) hx hb dX12_cases_60 hl (by decide) rfl (fun ls hl => ?_)
    refine lv_iload_n hx hb dX12_cases_62 rfl (lv_at hl 3 rfl) ?_
    refine lv_istore (lv' := [(5, .int l3), (4, .int r_18), (0, .ref (Z 200)), (2, .int l2), (3, .int l3)]) hx hb dX12_cases_63 hl (by decide) rfl (fun ls hl => ?_)
    exact bl_cases_65 X hE hF hL hrec hFd hLd hR_14 _ _ _ _ _ h _ _ _ hS (lv_sub hl [2, 3, 1, 0] rfl)
def LP_cases_28 (N : Nat) (ro : Nat → Int32 → Int32 → RSt → Option (Int32 × RSt)) (R_14 : Int32 × RSt → Option (Int32 × RSt)) : Nat → Int32 × Int32 × RSt → Option (Int32 × RSt) := lp (fun R a => B_cases_28 N ro R_14 R a.1 a.2.1 a.2.2)
theorem bl_cases_28 {r : Int32} {ro : Nat → Int32 → Int32 → RSt → Option (Int32 × RSt)} (X : RC p s m args c cX12_cases 6 (Cond.code yX12_cases cX12_cases 6 none) D kA V A) (hE : REv p l e R s m args below meth c cX12_cases D kA Z A Q w) (hF : 413 ≤ R.frames) (hL : 24525 ≤ R.locals) (hrec : RecOK_S l D kA V Z d ro) (hFd : d + 1 + 430 ≤ R.frames) (hLd : 60 * (d + 1) + 26000 ≤ R.locals) {R_14 : Int32 × RSt → Option (Int32 × RSt)} (hR_14 : ∀ (l2 : Int32) (u : RSt), R_14 (l2, u) = some (r, w) → ∀ (H : Heap) (locs : List Loc) (ls : Array Slot), RS D kA Z A s u H locs → lv_has ls 6 [(0, .ref (Z 200)), (2, .int l2)] → W p l e R s m args below meth c H locs 0 0 Q (F0 m 14 ls [])) : ∀ (n : Nat) (l2 : Int32) (l3 : Int32) (u : RSt), LP_cases_28 N ro R_14 n (l2, l3, u) = some (r, w) → ∀ (H : Heap) (locs : List Loc) (ls : Array Slot), RS D kA Z A s u H locs → lv_has ls 6 [(0, .ref (Z 200)), (2, .int l2), (3, .int l3)] → W p l e R s m args below meth c H locs 0 0 Q (F0 m 28 ls []) := by
  intro n
  induction n with
  | zero => intro l2 l3 u h; exact nomatch h
  | succ n ih => intro l2 l3 u h H locs ls hS hl; exact b_cases_28 (N := N) (R_28 := LP_cases_28 N ro R_14 n) X hE hF hL hrec hFd hLd hR_14 ih h hS hl
def B_cases_151 (N : Nat) (ro : Nat → Int32 → Int32 → RSt → Option (Int32 × RSt)) (l2 : Int32) (u : RSt) : Option (Int32 × RSt) := bn (F_ends N 226 u) fun _ u_19 => bn (F_leadAll N l2 u_19) fun _ u_20 => some (0, u_20)
set_option maxHeartbeats 4000000 in
theorem b_cases_151 {r : Int32} {ro : Nat → Int32 → Int32 → RSt → Option (Int32 × RSt)} (X : RC p s m args c cX12_cases 6 (Cond.code yX12_cases cX12_cases 6 none) D kA V A) (hE : REv p l e R s m args below meth c cX12_cases D kA Z A Q w) (hF : 413 ≤ R.frames) (hL : 24525 ≤ R.locals) (hrec : RecOK_S l D kA V Z d ro) (hFd : d + 1 + 430 ≤ R.frames) (hLd : 60 * (d + 1) + 26000 ≤ R.locals) {l2 : Int32}  {u : RSt} (h : B_cases_151 N ro l2 u = some (r, w)) (hS : RS D kA Z A s u H locs) (hl : lv_has ls 6 [(0, .ref (Z 200)), (2, .int l2)]) : W p l e R s m args below meth c H locs 0 0 Q (F0 m 151 ls []) := by
  obtain ⟨⟨hx, hb, hml, hown, hts⟩, hK, hEV, hA⟩ := id X
  have hG : ∀ w ∈ GW, w.before args s = true := fun w h => hts w (List.mem_cons_of_mem _ h)
  unfold B_cases_151 at h
  refine lv_aload_n hx hb dX12_cases_151 rfl (lv_at hl 0 rfl) ?_
  refine lv_sipush (v := 226) hx hb dX12_cases_152 (by decide) ?_
  obtain ⟨r_u_19, u_19, h_u_19, h⟩ := bn_of h
  refine kc_ends X hS h_u_19 (Nat.le_trans (Nat.le_of_ble_eq_true rfl) hF) (Nat.le_trans (Nat.le_of_ble_eq_true rfl) hL) hl.1 (Nat.le_of_ble_eq_true rfl) dX12_cases_155 (fun H locs hS => ?_)
  refine lv_aload_n hx hb dX12_cases_158 rfl (lv_at hl 0 rfl) ?_
  refine lv_iload_n hx hb dX12_cases_159 rfl (lv_at hl 1 rfl) ?_
  obtain ⟨r_u_20, u_20, h_u_20, h⟩ := bn_of h
  refine kc_leadAll X hS h_u_20 (Nat.le_trans (Nat.le_of_ble_eq_true rfl) hF) (Nat.le_trans (Nat.le_of_ble_eq_true rfl) hL) hl.1 (Nat.le_of_ble_eq_true rfl) dX12_cases_160 (fun H locs hS => ?_)
  obtain ⟨-, rfl⟩ := so h
  exact hE _ _ _ _ hS dX12_cases_163
def B_cases_14 (N : Nat) (ro : Nat → Int32 → Int32 → RSt → Option (Int32 × RSt)) (R_14 : Int32 × RSt → Option (Int32 × RSt)) (l2 : Int32) (u : RSt) : Option (Int32 × RSt) := bn (F_is N 122 u) fun r_22 u_21 => if r_22 = (0 : Int32) then (bn (F_emit N 37 0 0 u_21) fun r_25 u_24 => bn (F_has N 123 u_24) fun r_27 u_26 => if r_27 = (0 : Int32) then (B_cases_151 N ro l2 u_26) else (bn (ro 0 0 0 u_26) fun _ u_29 => B_cases_151 N ro l2 u_29)) else (bn (F_here N u_21) fun r_31 u_30 => LP_cases_28 N ro R_14 N (l2, r_31, u_30))
set_option maxHeartbeats 4000000 in
theorem b_cases_14 {r : Int32} {ro : Nat → Int32 → Int32 → RSt → Option (Int32 × RSt)} (X : RC p s m args c cX12_cases 6 (Cond.code yX12_cases cX12_cases 6 none) D kA V A) (hE : REv p l e R s m args below meth c cX12_cases D kA Z A Q w) (hF : 413 ≤ R.frames) (hL : 24525 ≤ R.locals) (hrec : RecOK_S l D kA V Z d ro) (hFd : d + 1 + 430 ≤ R.frames) (hLd : 60 * (d + 1) + 26000 ≤ R.locals) {R_14 : Int32 × RSt → Option (Int32 × RSt)} {l2 : Int32} (hR_14 : ∀ (l2 : Int32) (u : RSt), R_14 (l2, u) = some (r, w) → ∀ (H : Heap) (locs : List Loc) (ls : Array Slot), RS D kA Z A s u H locs → lv_has ls 6 [(0, .ref (Z 200)), (2, .int l2)] → W p l e R s m args below meth c H locs 0 0 Q (F0 m 14 ls [])) {u : RSt} (h : B_cases_14 N ro R_14 l2 u = some (r, w)) (hS : RS D kA Z A s u H locs) (hl : lv_has ls 6 [(0, .ref (Z 200)), (2, .int l2)]) : W p l e R s m args below meth c H locs 0 0 Q (F0 m 14 ls []) := by
  obtain ⟨⟨hx, hb, hml, hown, hts⟩, hK, hEV, hA⟩ := id X
  have hG : ∀ w ∈ GW, w.before args s = true := fun w h => hts w (List.mem_cons_of_mem _ h)
  unfold B_cases_14 at h
  refine lv_aload_n hx hb dX12_cases_14 rfl (lv_at hl 0 rfl) ?_
  refine lv_bipush (v := 122) hx hb dX12_cases_15 (by decide) ?_
  obtain ⟨r_22, u_21, h_u_21, h⟩ := bn_of h
  refine kc_is X hS h_u_21 (Nat.le_trans (Nat.le_of_ble_eq_true rfl) hF) (Nat.le_trans (Nat.le_of_ble_eq_true rfl) hL) hl.1 (Nat.le_of_ble_eq_true rfl) dX12_cases_17 (fun H locs hS => ?_)
  refine lv_if_eq (tgt := 129) hx hb dX12_cases_20 (by decide) (fun c_23 => ?_) (fun c_23 => ?_)
  · have h := ip (c_23) h
    refine lv_aload_n hx hb dX12_cases_129 rfl (lv_at hl 0 rfl) ?_
    refine lv_bipush (v := 37) hx hb dX12_cases_130 (by decide) ?_
    refine lv_iconst (v := 0) hx hb dX12_cases_132 (by decide) ?_
    refine lv_iconst (v := 0) hx hb dX12_cases_133 (by decide) ?_
    obtain ⟨r_25, u_24, h_u_24, h⟩ := bn_of h
    refine kc_emit X hS h_u_24 (Nat.le_trans (Nat.le_of_ble_eq_true rfl) hF) (Nat.le_trans (Nat.le_of_ble_eq_true rfl) hL) hl.1 (Nat.le_of_ble_eq_true rfl) dX12_cases_134 (fun H locs hS => ?_)
    refine lv_istore_n (lv' := [(1, .int r_25), (0, .ref (Z 200)), (2, .int l2)]) hx hb dX12_cases_137 rfl hl (by decide) rfl (fun ls hl => ?_)
    refine lv_aload_n hx hb dX12_cases_138 rfl (lv_at hl 1 rfl) ?_
    refine lv_bipush (v := 123) hx hb dX12_cases_139 (by decide) ?_
    obtain ⟨r_27, u_26, h_u_26, h⟩ := bn_of h
    refine kc_has X hS h_u_26 (Nat.le_trans (Nat.le_of_ble_eq_true rfl) hF) (Nat.le_trans (Nat.le_of_ble_eq_true rfl) hL) hl.1 (Nat.le_of_ble_eq_true rfl) dX12_cases_141 (fun H locs hS => ?_)
    refine lv_if_eq (tgt := 151) hx hb dX12_cases_144 (by decide) (fun c_28 => ?_) (fun c_28 => ?_)
    · have h := ip (c_28) h
      exact b_cases_151 X hE hF hL hrec hFd hLd h hS (lv_sub hl [1, 2] rfl)
    · have h := im (c_28) h
      refine lv_aload_n hx hb dX12_cases_147 rfl (lv_at hl 1 rfl) ?_
      obtain ⟨r_u_29, u_29, h_u_29, h⟩ := bn_of h
      refine kc_body X hrec hS h_u_29 hFd hLd hl.1 (Nat.le_of_ble_eq_true rfl) dX12_cases_148 (fun H locs hS => ?_)
      exact b_cases_151 X hE hF hL hrec hFd hLd h hS (lv_sub hl [1, 2] rfl)
  · have h := im (c_23) h
    refine lv_aload_n hx hb dX12_cases_23 rfl (lv_at hl 0 rfl) ?_
    obtain ⟨r_31, u_30, h_u_30, h⟩ := bn_of h
    refine kc_here X hS h_u_30 (Nat.le_trans (Nat.le_of_ble_eq_true rfl) hF) (Nat.le_trans (Nat.le_of_ble_eq_true rfl) hL) hl.1 (Nat.le_of_ble_eq_true rfl) dX12_cases_24 (fun H locs hS => ?_)
    refine lv_istore_n (lv' := [(3, .int r_31), (0, .ref (Z 200)), (2, .int l2)]) hx hb dX12_cases_27 rfl hl (by decide) rfl (fun ls hl => ?_)
    exact bl_cases_28 X hE hF hL hrec hFd hLd hR_14 _ _ _ _ h _ _ _ hS (lv_sub hl [1, 2, 0] rfl)
def LP_cases_14 (N : Nat) (ro : Nat → Int32 → Int32 → RSt → Option (Int32 × RSt)) : Nat → Int32 × RSt → Option (Int32 × RSt) := lp (fun R a => B_cases_14 N ro R a.1 a.2)
theorem bl_cases_14 {r : Int32} {ro : Nat → Int32 → Int32 → RSt → Option (Int32 × RSt)} (X : RC p s m args c cX12_cases 6 (Cond.code yX12_cases cX12_cases 6 none) D kA V A) (hE : REv p l e R s m args below meth c cX12_cases D kA Z A Q w) (hF : 413 ≤ R.frames) (hL : 24525 ≤ R.locals) (hrec : RecOK_S l D kA V Z d ro) (hFd : d + 1 + 430 ≤ R.frames) (hLd : 60 * (d + 1) + 26000 ≤ R.locals)  : ∀ (n : Nat) (l2 : Int32) (u : RSt), LP_cases_14 N ro n (l2, u) = some (r, w) → ∀ (H : Heap) (locs : List Loc) (ls : Array Slot), RS D kA Z A s u H locs → lv_has ls 6 [(0, .ref (Z 200)), (2, .int l2)] → W p l e R s m args below meth c H locs 0 0 Q (F0 m 14 ls []) := by
  intro n
  induction n with
  | zero => intro l2 u h; exact nomatch h
  | succ n ih => intro l2 u h H locs ls hS hl; exact b_cases_14 (N := N) (R_14 := LP_cases_14 N ro n) X hE hF hL hrec hFd hLd ih h hS hl
def B_cases_0 (N : Nat) (ro : Nat → Int32 → Int32 → RSt → Option (Int32 × RSt)) (u : RSt) : Option (Int32 × RSt) := bn (G_expression N u) fun r_33 u_32 => bn (F_begins N 225 u_32) fun _ u_34 => LP_cases_14 N ro N ((-1), u_34)
set_option maxHeartbeats 4000000 in
theorem b_cases_0 {r : Int32} {ro : Nat → Int32 → Int32 → RSt → Option (Int32 × RSt)} (X : RC p s m args c cX12_cases 6 (Cond.code yX12_cases cX12_cases 6 none) D kA V A) (hE : REv p l e R s m args below meth c cX12_cases D kA Z A Q w) (hF : 413 ≤ R.frames) (hL : 24525 ≤ R.locals) (hrec : RecOK_S l D kA V Z d ro) (hFd : d + 1 + 430 ≤ R.frames) (hLd : 60 * (d + 1) + 26000 ≤ R.locals)  {u : RSt} (h : B_cases_0 N ro u = some (r, w)) (hS : RS D kA Z A s u H locs) (hl : lv_has ls 6 [(0, .ref (Z 200))]) : W p l e R s m args below meth c H locs 0 0 Q (F0 m 0 ls []) := by
  obtain ⟨⟨hx, hb, hml, hown, hts⟩, hK, hEV, hA⟩ := id X
  have hG : ∀ w ∈ GW, w.before args s = true := fun w h => hts w (List.mem_cons_of_mem _ h)
  unfold B_cases_0 at h
  refine lv_aload_n hx hb dX12_cases_0 rfl (lv_at hl 0 rfl) ?_
  obtain ⟨r_33, u_32, h_u_32, h⟩ := bn_of h
  refine kg_expression X hS h_u_32 (Nat.le_trans (Nat.le_of_ble_eq_true rfl) hF) (Nat.le_trans (Nat.le_of_ble_eq_true rfl) hL) hl.1 (Nat.le_of_ble_eq_true rfl) dX12_cases_1 (fun H locs hS => ?_)
  refine lv_istore_n (lv' := [(1, .int r_33), (0, .ref (Z 200))]) hx hb dX12_cases_4 rfl hl (by decide) rfl (fun ls hl => ?_)
  refine lv_aload_n hx hb dX12_cases_5 rfl (lv_at hl 1 rfl) ?_
  refine lv_sipush (v := 225) hx hb dX12_cases_6 (by decide) ?_
  obtain ⟨r_u_34, u_34, h_u_34, h⟩ := bn_of h
  refine kc_begins X hS h_u_34 (Nat.le_trans (Nat.le_of_ble_eq_true rfl) hF) (Nat.le_trans (Nat.le_of_ble_eq_true rfl) hL) hl.1 (Nat.le_of_ble_eq_true rfl) dX12_cases_9 (fun H locs hS => ?_)
  refine lv_iconst (v := (-1)) hx hb dX12_cases_12 (by decide) ?_
  refine lv_istore_n (lv' := [(2, .int (-1)), (1, .int r_33), (0, .ref (Z 200))]) hx hb dX12_cases_13 rfl hl (by decide) rfl (fun ls hl => ?_)
  exact bl_cases_14 X hE hF hL hrec hFd hLd _ _ _ h _ _ _ hS (lv_sub hl [2, 0] rfl)
def F_cases (N : Nat) (ro : Nat → Int32 → Int32 → RSt → Option (Int32 × RSt)) (u : RSt) : Option (Int32 × RSt) := B_cases_0 N ro u
set_option maxHeartbeats 4000000 in
theorem k_cases (l : Launch) (D : va_G) (kA : Nat → ClassId) (V Z : Nat → Nat) (N : Nat) {d : Nat} (ro : Nat → Int32 → Int32 → RSt → Option (Int32 × RSt)) (hrec : RecOK_S l D kA V Z d ro) (u : RSt) (sz : Nat) {r : Int32} {w : RSt} (h : F_cases N ro u = some (r, w)) : Met l yX12_cases (Cond.code yX12_cases cX12_cases 6 none :: GW) { frames := d + 1 + 430, cells := 0, slots := 0, locals := 60 * (d + 1) + 26000 } (rPc D kA V Z [] u sz) (rQv D kA Z u sz w) 0 0 (va_A (RW kA Z u) sz) := by
  refine Met.ofW (cc := cX12_cases) (maxL := 6) (ret := none) (by decide) rfl ?_
  intro p e s m args below meth c s₁ Bd hml hv
  obtain ⟨rfl, hsz, hP, hK, hD0, hE⟩ := hv
  have hts := atoms_spec (ws := Cond.code yX12_cases cX12_cases 6 none :: GW) Bd.pre
  have hl := lv_entry (.ref (Z 200) :: []) (n := 6) (Nat.le_of_ble_eq_true rfl)
  rw [lg_entry_eq]
  generalize (lg_sl (.ref (Z 200) :: []) ++ List.replicate (6 - (lg_sl (.ref (Z 200) :: [])).length) Slot.unset).toArray = ls at hl ⊢
  have hl : lv_has ls 6 [(0, .ref (Z 200))] := hl
  subst hsz
  have X : RC p s m (.ref (Z 200) :: []).toArray c cX12_cases 6 (Cond.code yX12_cases cX12_cases 6 none) D kA V (va_A (RW kA Z u) s.heap.size) := ⟨⟨Bd.exec, Bd.bytes, hml, findClass_of_methodNamed Bd.named, hts⟩, hK, hE, fun q h => Or.inr h⟩
  exact b_cases_0 X (rend_v (cy := cX12_cases) X Bd.returns Bd.notSynchronized) (Nat.le_trans (Nat.le_of_ble_eq_true rfl) (Nat.le_add_left 430 _)) (Nat.le_trans (Nat.le_of_ble_eq_true rfl) (Nat.le_add_left 26000 _)) hrec (Nat.le_refl _) (Nat.le_refl _) h ⟨hP, hD0.self, va_S.rf⟩ (lv_sub hl [0] rfl)
def FS_ (N : Nat) : Nat → Nat → Int32 → Int32 → RSt → Option (Int32 × RSt)
  | 0 => fun _ _ _ _ => none
  | d + 1 => fun q a b u => if q = 0 then F_body N (FS_ N d) u else if q = 1 then F_stat N (FS_ N d) u else if q = 2 then F_choice N (FS_ N d) u else if q = 3 then F_again N (FS_ N d) a u else if q = 4 then F_counts N (FS_ N d) a u else if q = 5 then F_cases N (FS_ N d) u else none
theorem okS_ (l : Launch) (D : va_G) (kA : Nat → ClassId) (V Z : Nat → Nat) (N : Nat) : ∀ d : Nat, RecOK_S l D kA V Z d (FS_ N d) := by
  intro d
  induction d with
  | zero => exact ⟨fun u sz r w h => (nomatch h), fun u sz r w h => (nomatch h), fun u sz r w h => (nomatch h), fun l1 u sz r w h => (nomatch h), fun l1 u sz r w h => (nomatch h), fun u sz r w h => (nomatch h)⟩
  | succ d ih => exact ⟨fun u sz r w h => k_body l D kA V Z N (FS_ N d) ih u sz h, fun u sz r w h => k_stat l D kA V Z N (FS_ N d) ih u sz h, fun u sz r w h => k_choice l D kA V Z N (FS_ N d) ih u sz h, fun l1 u sz r w h => k_again l D kA V Z N (FS_ N d) ih l1 u sz h, fun l1 u sz r w h => k_counts l D kA V Z N (FS_ N d) ih l1 u sz h, fun u sz r w h => k_cases l D kA V Z N (FS_ N d) ih u sz h⟩
def G_body (N : Nat) (u : RSt) : Option (Int32 × RSt) := FS_ N 100 0 0 0 u
theorem kg_body {r : Int32} {cc : ByteArray} {pc nL : Nat} {c0 : Cond} {rest : List Value} {u : RSt} (X : RC p s m args c cc nL c0 D kA V A) (hS : RS D kA Z A s u H locs) (h : G_body N u = some (r, w)) (hF : 530 + 1 ≤ R.frames) (hL : 8 + (1 + 11) + 32000 ≤ R.locals) (hl : ls.size = nL) (hc : (rest.map fun v => v.category).sum ≤ 8) (hdg : decode cc pc = .ok (.invokevirtual 417, 3)) (kk : ∀ H locs, RS D kA Z A s w H locs → W p l e R s m args below meth c H locs 0 0 Q (F0 m (pc + 3) ls (rest))) : W p l e R s m args below meth c H locs 0 0 Q (F0 m pc ls (.ref (Z 200) :: rest)) :=
  rcall_v (n := 0) (f9 := 100 + 430) (l9 := 60 * 100 + 26000) X hS ((okS_ l D kA V Z N 100).1 u H.size _ _ h) (gw_V gw_2532 gw_2534 gs_11_0 gw_16 gw_2535) (by decide +kernel) hF hL rfl hl hc rfl hdg kk
def G_stat (N : Nat) (u : RSt) : Option (Int32 × RSt) := FS_ N 100 1 0 0 u
theorem kg_stat {r : Int32} {cc : ByteArray} {pc nL : Nat} {c0 : Cond} {rest : List Value} {u : RSt} (X : RC p s m args c cc nL c0 D kA V A) (hS : RS D kA Z A s u H locs) (h : G_stat N u = some (r, w)) (hF : 530 + 1 ≤ R.frames) (hL : 8 + (5 + 11) + 32000 ≤ R.locals) (hl : ls.size = nL) (hc : (rest.map fun v => v.category).sum ≤ 8) (hdg : decode cc pc = .ok (.invokevirtual 371, 3)) (kk : ∀ H locs, RS D kA Z A s w H locs → W p l e R s m args below meth c H locs 0 0 Q (F0 m (pc + 3) ls (rest))) : W p l e R s m args below meth c H locs 0 0 Q (F0 m pc ls (.ref (Z 200) :: rest)) :=
  rcall_v (n := 0) (f9 := 100 + 430) (l9 := 60 * 100 + 26000) X hS ((okS_ l D kA V Z N 100).2.1 u H.size _ _ h) (gw_V gw_2440 gw_2442 gs_9_9 gw_16 gw_2443) (by decide +kernel) hF hL rfl hl hc rfl hdg kk
def G_choice (N : Nat) (u : RSt) : Option (Int32 × RSt) := FS_ N 100 2 0 0 u
theorem kg_choice {r : Int32} {cc : ByteArray} {pc nL : Nat} {c0 : Cond} {rest : List Value} {u : RSt} (X : RC p s m args c cc nL c0 D kA V A) (hS : RS D kA Z A s u H locs) (h : G_choice N u = some (r, w)) (hF : 530 + 1 ≤ R.frames) (hL : 8 + (6 + 11) + 32000 ≤ R.locals) (hl : ls.size = nL) (hc : (rest.map fun v => v.category).sum ≤ 8) (hdg : decode cc pc = .ok (.invokevirtual 500, 3)) (kk : ∀ H locs, RS D kA Z A s w H locs → W p l e R s m args below meth c H locs 0 0 Q (F0 m (pc + 3) ls (rest))) : W p l e R s m args below meth c H locs 0 0 Q (F0 m pc ls (.ref (Z 200) :: rest)) :=
  rcall_v (n := 0) (f9 := 100 + 430) (l9 := 60 * 100 + 26000) X hS ((okS_ l D kA V Z N 100).2.2.1 u H.size _ _ h) (gw_V gw_2528 gw_2530 gs_10_15 gw_16 gw_2531) (by decide +kernel) hF hL rfl hl hc rfl hdg kk
def G_again (N : Nat) (l1 : Int32) (u : RSt) : Option (Int32 × RSt) := FS_ N 100 3 l1 0 u
theorem kg_again {r : Int32} {cc : ByteArray} {pc nL : Nat} {c0 : Cond} {rest : List Value} {l1 : Int32} {u : RSt} (X : RC p s m args c cc nL c0 D kA V A) (hS : RS D kA Z A s u H locs) (h : G_again N l1 u = some (r, w)) (hF : 530 + 1 ≤ R.frames) (hL : 8 + (5 + 11) + 32000 ≤ R.locals) (hl : ls.size = nL) (hc : (rest.map fun v => v.category).sum ≤ 8) (hdg : decode cc pc = .ok (.invokevirtual 503, 3)) (kk : ∀ H locs, RS D kA Z A s w H locs → W p l e R s m args below meth c H locs 0 0 Q (F0 m (pc + 3) ls (rest))) : W p l e R s m args below meth c H locs 0 0 Q (F0 m pc ls (.int l1 :: .ref (Z 200) :: rest)) :=
  rcall_v (n := 1) (f9 := 100 + 430) (l9 := 60 * 100 + 26000) X hS ((okS_ l D kA V Z N 100).2.2.2.1 l1 u H.size _ _ h) (gw_V gw_2540 gw_2542 gs_11_2 gw_16 gw_2543) (by decide +kernel) hF hL rfl hl hc rfl hdg kk
def G_counts (N : Nat) (l1 : Int32) (u : RSt) : Option (Int32 × RSt) := FS_ N 100 4 l1 0 u
theorem kg_counts {r : Int32} {cc : ByteArray} {pc nL : Nat} {c0 : Cond} {rest : List Value} {l1 : Int32} {u : RSt} (X : RC p s m args c cc nL c0 D kA V A) (hS : RS D kA Z A s u H locs) (h : G_counts N l1 u = some (r, w)) (hF : 530 + 1 ≤ R.frames) (hL : 8 + (16 + 11) + 32000 ≤ R.locals) (hl : ls.size = nL) (hc : (rest.map fun v => v.category).sum ≤ 8) (hdg : decode cc pc = .ok (.invokevirtual 506, 3)) (kk : ∀ H locs, RS D kA Z A s w H locs → W p l e R s m args below meth c H locs 0 0 Q (F0 m (pc + 3) ls (rest))) : W p l e R s m args below meth c H locs 0 0 Q (F0 m pc ls (.int l1 :: .ref (Z 200) :: rest)) :=
  rcall_v (n := 1) (f9 := 100 + 430) (l9 := 60 * 100 + 26000) X hS ((okS_ l D kA V Z N 100).2.2.2.2.1 l1 u H.size _ _ h) (gw_V gw_2548 gw_2550 gs_11_4 gw_16 gw_2551) (by decide +kernel) hF hL rfl hl hc rfl hdg kk
def G_cases (N : Nat) (u : RSt) : Option (Int32 × RSt) := FS_ N 100 5 0 0 u
theorem kg_cases {r : Int32} {cc : ByteArray} {pc nL : Nat} {c0 : Cond} {rest : List Value} {u : RSt} (X : RC p s m args c cc nL c0 D kA V A) (hS : RS D kA Z A s u H locs) (h : G_cases N u = some (r, w)) (hF : 530 + 1 ≤ R.frames) (hL : 8 + (6 + 11) + 32000 ≤ R.locals) (hl : ls.size = nL) (hc : (rest.map fun v => v.category).sum ≤ 8) (hdg : decode cc pc = .ok (.invokevirtual 509, 3)) (kk : ∀ H locs, RS D kA Z A s w H locs → W p l e R s m args below meth c H locs 0 0 Q (F0 m (pc + 3) ls (rest))) : W p l e R s m args below meth c H locs 0 0 Q (F0 m pc ls (.ref (Z 200) :: rest)) :=
  rcall_v (n := 0) (f9 := 100 + 430) (l9 := 60 * 100 + 26000) X hS ((okS_ l D kA V Z N 100).2.2.2.2.2 u H.size _ _ h) (gw_V gw_2552 gw_2554 gs_11_5 gw_16 gw_2555) (by decide +kernel) hF hL rfl hl hc rfl hdg kk
end StatRows
