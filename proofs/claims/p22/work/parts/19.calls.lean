abbrev cX12_anew : ByteArray := prog_14_method_101_code
def yX12_anew : MethodName := ⟨RX12, "anew", "()V"⟩
theorem dX12_anew_0 : decode cX12_anew 0 = .ok (.bipush 24, 2) := by decide +kernel
theorem dX12_anew_2 : decode cX12_anew 2 = .ok (.aload_n 0, 1) := by decide +kernel
theorem dX12_anew_3 : decode cX12_anew 3 = .ok (.getfield 581, 3) := by decide +kernel
theorem dX12_anew_6 : decode cX12_anew 6 = .ok (.imul, 1) := by decide +kernel
theorem dX12_anew_7 : decode cX12_anew 7 = .ok (.istore_n 1, 1) := by decide +kernel
theorem dX12_anew_8 : decode cX12_anew 8 = .ok (.iload_n 1, 1) := by decide +kernel
theorem dX12_anew_9 : decode cX12_anew 9 = .ok (.bipush 24, 2) := by decide +kernel
theorem dX12_anew_11 : decode cX12_anew 11 = .ok (.aload_n 0, 1) := by decide +kernel
theorem dX12_anew_12 : decode cX12_anew 12 = .ok (.getfield 581, 3) := by decide +kernel
theorem dX12_anew_15 : decode cX12_anew 15 = .ok (.imul, 1) := by decide +kernel
theorem dX12_anew_16 : decode cX12_anew 16 = .ok (.aload_n 0, 1) := by decide +kernel
theorem dX12_anew_17 : decode cX12_anew 17 = .ok (.getfield 384, 3) := by decide +kernel
theorem dX12_anew_20 : decode cX12_anew 20 = .ok (.aload_n 0, 1) := by decide +kernel
theorem dX12_anew_21 : decode cX12_anew 21 = .ok (.getfield 581, 3) := by decide +kernel
theorem dX12_anew_24 : decode cX12_anew 24 = .ok (.iaload, 1) := by decide +kernel
theorem dX12_anew_25 : decode cX12_anew 25 = .ok (.iadd, 1) := by decide +kernel
theorem dX12_anew_26 : decode cX12_anew 26 = .ok (.if_icmp .ge 111, 3) := by decide +kernel
theorem dX12_anew_29 : decode cX12_anew 29 = .ok (.aload_n 0, 1) := by decide +kernel
theorem dX12_anew_30 : decode cX12_anew 30 = .ok (.getfield 387, 3) := by decide +kernel
theorem dX12_anew_33 : decode cX12_anew 33 = .ok (.iload_n 1, 1) := by decide +kernel
theorem dX12_anew_34 : decode cX12_anew 34 = .ok (.iaload, 1) := by decide +kernel
theorem dX12_anew_35 : decode cX12_anew 35 = .ok (.istore_n 2, 1) := by decide +kernel
theorem dX12_anew_36 : decode cX12_anew 36 = .ok (.sipush 160, 3) := by decide +kernel
theorem dX12_anew_39 : decode cX12_anew 39 = .ok (.aload_n 0, 1) := by decide +kernel
theorem dX12_anew_40 : decode cX12_anew 40 = .ok (.getfield 581, 3) := by decide +kernel
theorem dX12_anew_43 : decode cX12_anew 43 = .ok (.imul, 1) := by decide +kernel
theorem dX12_anew_44 : decode cX12_anew 44 = .ok (.aload_n 0, 1) := by decide +kernel
theorem dX12_anew_45 : decode cX12_anew 45 = .ok (.getfield 358, 3) := by decide +kernel
theorem dX12_anew_48 : decode cX12_anew 48 = .ok (.iload_n 2, 1) := by decide +kernel
theorem dX12_anew_49 : decode cX12_anew 49 = .ok (.iaload, 1) := by decide +kernel
theorem dX12_anew_50 : decode cX12_anew 50 = .ok (.iadd, 1) := by decide +kernel
theorem dX12_anew_51 : decode cX12_anew 51 = .ok (.istore_n 3, 1) := by decide +kernel
theorem dX12_anew_52 : decode cX12_anew 52 = .ok (.iload_n 3, 1) := by decide +kernel
theorem dX12_anew_53 : decode cX12_anew 53 = .ok (.sipush 160, 3) := by decide +kernel
theorem dX12_anew_56 : decode cX12_anew 56 = .ok (.aload_n 0, 1) := by decide +kernel
theorem dX12_anew_57 : decode cX12_anew 57 = .ok (.getfield 581, 3) := by decide +kernel
theorem dX12_anew_60 : decode cX12_anew 60 = .ok (.imul, 1) := by decide +kernel
theorem dX12_anew_61 : decode cX12_anew 61 = .ok (.aload_n 0, 1) := by decide +kernel
theorem dX12_anew_62 : decode cX12_anew 62 = .ok (.getfield 358, 3) := by decide +kernel
theorem dX12_anew_65 : decode cX12_anew 65 = .ok (.iload_n 2, 1) := by decide +kernel
theorem dX12_anew_66 : decode cX12_anew 66 = .ok (.iaload, 1) := by decide +kernel
theorem dX12_anew_67 : decode cX12_anew 67 = .ok (.iadd, 1) := by decide +kernel
theorem dX12_anew_68 : decode cX12_anew 68 = .ok (.aload_n 0, 1) := by decide +kernel
theorem dX12_anew_69 : decode cX12_anew 69 = .ok (.getfield 257, 3) := by decide +kernel
theorem dX12_anew_72 : decode cX12_anew 72 = .ok (.iload_n 2, 1) := by decide +kernel
theorem dX12_anew_73 : decode cX12_anew 73 = .ok (.iaload, 1) := by decide +kernel
theorem dX12_anew_74 : decode cX12_anew 74 = .ok (.iadd, 1) := by decide +kernel
theorem dX12_anew_75 : decode cX12_anew 75 = .ok (.if_icmp .ge 56, 3) := by decide +kernel
theorem dX12_anew_78 : decode cX12_anew 78 = .ok (.iconst 0, 1) := by decide +kernel
theorem dX12_anew_79 : decode cX12_anew 79 = .ok (.istore 4, 2) := by decide +kernel
theorem dX12_anew_81 : decode cX12_anew 81 = .ok (.iload 4, 2) := by decide +kernel
theorem dX12_anew_83 : decode cX12_anew 83 = .ok (.aload_n 0, 1) := by decide +kernel
theorem dX12_anew_84 : decode cX12_anew 84 = .ok (.getfield 245, 3) := by decide +kernel
theorem dX12_anew_87 : decode cX12_anew 87 = .ok (.iload_n 3, 1) := by decide +kernel
theorem dX12_anew_88 : decode cX12_anew 88 = .ok (.iaload, 1) := by decide +kernel
theorem dX12_anew_89 : decode cX12_anew 89 = .ok (.if_icmp .ge 36, 3) := by decide +kernel
theorem dX12_anew_92 : decode cX12_anew 92 = .ok (.aload_n 0, 1) := by decide +kernel
theorem dX12_anew_93 : decode cX12_anew 93 = .ok (.getfield 536, 3) := by decide +kernel
theorem dX12_anew_96 : decode cX12_anew 96 = .ok (.aload_n 0, 1) := by decide +kernel
theorem dX12_anew_97 : decode cX12_anew 97 = .ok (.getfield 390, 3) := by decide +kernel
theorem dX12_anew_100 : decode cX12_anew 100 = .ok (.iload_n 1, 1) := by decide +kernel
theorem dX12_anew_101 : decode cX12_anew 101 = .ok (.iaload, 1) := by decide +kernel
theorem dX12_anew_102 : decode cX12_anew 102 = .ok (.aload_n 0, 1) := by decide +kernel
theorem dX12_anew_103 : decode cX12_anew 103 = .ok (.getfield 251, 3) := by decide +kernel
theorem dX12_anew_106 : decode cX12_anew 106 = .ok (.iload_n 3, 1) := by decide +kernel
theorem dX12_anew_107 : decode cX12_anew 107 = .ok (.iaload, 1) := by decide +kernel
theorem dX12_anew_108 : decode cX12_anew 108 = .ok (.iadd, 1) := by decide +kernel
theorem dX12_anew_109 : decode cX12_anew 109 = .ok (.iload 4, 2) := by decide +kernel
theorem dX12_anew_111 : decode cX12_anew 111 = .ok (.iadd, 1) := by decide +kernel
theorem dX12_anew_112 : decode cX12_anew 112 = .ok (.aload_n 0, 1) := by decide +kernel
theorem dX12_anew_113 : decode cX12_anew 113 = .ok (.getfield 254, 3) := by decide +kernel
theorem dX12_anew_116 : decode cX12_anew 116 = .ok (.iload_n 3, 1) := by decide +kernel
theorem dX12_anew_117 : decode cX12_anew 117 = .ok (.laload, 1) := by decide +kernel
theorem dX12_anew_118 : decode cX12_anew 118 = .ok (.lastore, 1) := by decide +kernel
theorem dX12_anew_119 : decode cX12_anew 119 = .ok (.iinc 4 1, 3) := by decide +kernel
theorem dX12_anew_122 : decode cX12_anew 122 = .ok (.goto (-41), 3) := by decide +kernel
theorem dX12_anew_125 : decode cX12_anew 125 = .ok (.iinc 3 1, 3) := by decide +kernel
theorem dX12_anew_128 : decode cX12_anew 128 = .ok (.goto (-76), 3) := by decide +kernel
theorem dX12_anew_131 : decode cX12_anew 131 = .ok (.iinc 1 1, 3) := by decide +kernel
theorem dX12_anew_134 : decode cX12_anew 134 = .ok (.goto (-126), 3) := by decide +kernel
theorem dX12_anew_137 : decode cX12_anew 137 = .ok (.iconst 0, 1) := by decide +kernel
theorem dX12_anew_138 : decode cX12_anew 138 = .ok (.istore_n 1, 1) := by decide +kernel
theorem dX12_anew_139 : decode cX12_anew 139 = .ok (.iload_n 1, 1) := by decide +kernel
theorem dX12_anew_140 : decode cX12_anew 140 = .ok (.bipush 8, 2) := by decide +kernel
theorem dX12_anew_142 : decode cX12_anew 142 = .ok (.if_icmp .ge 16, 3) := by decide +kernel
theorem dX12_anew_145 : decode cX12_anew 145 = .ok (.aload_n 0, 1) := by decide +kernel
theorem dX12_anew_146 : decode cX12_anew 146 = .ok (.getfield 638, 3) := by decide +kernel
theorem dX12_anew_149 : decode cX12_anew 149 = .ok (.iload_n 1, 1) := by decide +kernel
theorem dX12_anew_150 : decode cX12_anew 150 = .ok (.iconst 0, 1) := by decide +kernel
theorem dX12_anew_151 : decode cX12_anew 151 = .ok (.bastore, 1) := by decide +kernel
theorem dX12_anew_152 : decode cX12_anew 152 = .ok (.iinc 1 1, 3) := by decide +kernel
theorem dX12_anew_155 : decode cX12_anew 155 = .ok (.goto (-16), 3) := by decide +kernel
theorem dX12_anew_158 : decode cX12_anew 158 = .ok (.return_, 1) := by decide +kernel
abbrev cX12_begin : ByteArray := prog_14_method_102_code
def yX12_begin : MethodName := ⟨RX12, "begin", "()V"⟩
theorem dX12_begin_0 : decode cX12_begin 0 = .ok (.aload_n 0, 1) := by decide +kernel
theorem dX12_begin_1 : decode cX12_begin 1 = .ok (.iconst 0, 1) := by decide +kernel
theorem dX12_begin_2 : decode cX12_begin 2 = .ok (.putfield 599, 3) := by decide +kernel
theorem dX12_begin_5 : decode cX12_begin 5 = .ok (.iconst 0, 1) := by decide +kernel
theorem dX12_begin_6 : decode cX12_begin 6 = .ok (.istore_n 1, 1) := by decide +kernel
theorem dX12_begin_7 : decode cX12_begin 7 = .ok (.iload_n 1, 1) := by decide +kernel
theorem dX12_begin_8 : decode cX12_begin 8 = .ok (.sipush 128, 3) := by decide +kernel
theorem dX12_begin_11 : decode cX12_begin 11 = .ok (.if_icmp .ge 16, 3) := by decide +kernel
theorem dX12_begin_14 : decode cX12_begin 14 = .ok (.aload_n 0, 1) := by decide +kernel
theorem dX12_begin_15 : decode cX12_begin 15 = .ok (.getfield 539, 3) := by decide +kernel
theorem dX12_begin_18 : decode cX12_begin 18 = .ok (.iload_n 1, 1) := by decide +kernel
theorem dX12_begin_19 : decode cX12_begin 19 = .ok (.iconst 0, 1) := by decide +kernel
theorem dX12_begin_20 : decode cX12_begin 20 = .ok (.iastore, 1) := by decide +kernel
theorem dX12_begin_21 : decode cX12_begin 21 = .ok (.iinc 1 1, 3) := by decide +kernel
theorem dX12_begin_24 : decode cX12_begin 24 = .ok (.goto (-17), 3) := by decide +kernel
theorem dX12_begin_27 : decode cX12_begin 27 = .ok (.return_, 1) := by decide +kernel
abbrev cX12_accept : ByteArray := prog_14_method_100_code
def yX12_accept : MethodName := ⟨RX12, "accept", "(Z)V"⟩
theorem dX12_accept_0 : decode cX12_accept 0 = .ok (.sipush 160, 3) := by decide +kernel
theorem dX12_accept_3 : decode cX12_accept 3 = .ok (.aload_n 0, 1) := by decide +kernel
theorem dX12_accept_4 : decode cX12_accept 4 = .ok (.getfield 129, 3) := by decide +kernel
theorem dX12_accept_7 : decode cX12_accept 7 = .ok (.imul, 1) := by decide +kernel
theorem dX12_accept_8 : decode cX12_accept 8 = .ok (.istore_n 2, 1) := by decide +kernel
theorem dX12_accept_9 : decode cX12_accept 9 = .ok (.iload_n 2, 1) := by decide +kernel
theorem dX12_accept_10 : decode cX12_accept 10 = .ok (.sipush 160, 3) := by decide +kernel
theorem dX12_accept_13 : decode cX12_accept 13 = .ok (.aload_n 0, 1) := by decide +kernel
theorem dX12_accept_14 : decode cX12_accept 14 = .ok (.getfield 129, 3) := by decide +kernel
theorem dX12_accept_17 : decode cX12_accept 17 = .ok (.imul, 1) := by decide +kernel
theorem dX12_accept_18 : decode cX12_accept 18 = .ok (.aload_n 0, 1) := by decide +kernel
theorem dX12_accept_19 : decode cX12_accept 19 = .ok (.getfield 266, 3) := by decide +kernel
theorem dX12_accept_22 : decode cX12_accept 22 = .ok (.aload_n 0, 1) := by decide +kernel
theorem dX12_accept_23 : decode cX12_accept 23 = .ok (.getfield 129, 3) := by decide +kernel
theorem dX12_accept_26 : decode cX12_accept 26 = .ok (.iaload, 1) := by decide +kernel
theorem dX12_accept_27 : decode cX12_accept 27 = .ok (.iadd, 1) := by decide +kernel
theorem dX12_accept_28 : decode cX12_accept 28 = .ok (.if_icmp .ge 213, 3) := by decide +kernel
theorem dX12_accept_31 : decode cX12_accept 31 = .ok (.aload_n 0, 1) := by decide +kernel
theorem dX12_accept_32 : decode cX12_accept 32 = .ok (.getfield 272, 3) := by decide +kernel
theorem dX12_accept_35 : decode cX12_accept 35 = .ok (.iload_n 2, 1) := by decide +kernel
theorem dX12_accept_36 : decode cX12_accept 36 = .ok (.iaload, 1) := by decide +kernel
theorem dX12_accept_37 : decode cX12_accept 37 = .ok (.iconst 1, 1) := by decide +kernel
theorem dX12_accept_38 : decode cX12_accept 38 = .ok (.if_icmp .le 6, 3) := by decide +kernel
theorem dX12_accept_41 : decode cX12_accept 41 = .ok (.goto 194, 3) := by decide +kernel
theorem dX12_accept_44 : decode cX12_accept 44 = .ok (.iconst 0, 1) := by decide +kernel
theorem dX12_accept_45 : decode cX12_accept 45 = .ok (.istore_n 3, 1) := by decide +kernel
theorem dX12_accept_46 : decode cX12_accept 46 = .ok (.iload_n 3, 1) := by decide +kernel
theorem dX12_accept_47 : decode cX12_accept 47 = .ok (.aload_n 0, 1) := by decide +kernel
theorem dX12_accept_48 : decode cX12_accept 48 = .ok (.getfield 275, 3) := by decide +kernel
theorem dX12_accept_51 : decode cX12_accept 51 = .ok (.iload_n 2, 1) := by decide +kernel
theorem dX12_accept_52 : decode cX12_accept 52 = .ok (.iaload, 1) := by decide +kernel
theorem dX12_accept_53 : decode cX12_accept 53 = .ok (.if_icmp .ge 28, 3) := by decide +kernel
theorem dX12_accept_56 : decode cX12_accept 56 = .ok (.aload_n 0, 1) := by decide +kernel
theorem dX12_accept_57 : decode cX12_accept 57 = .ok (.getfield 703, 3) := by decide +kernel
theorem dX12_accept_60 : decode cX12_accept 60 = .ok (.aload_n 0, 1) := by decide +kernel
theorem dX12_accept_61 : decode cX12_accept 61 = .ok (.getfield 293, 3) := by decide +kernel
theorem dX12_accept_64 : decode cX12_accept 64 = .ok (.iload_n 2, 1) := by decide +kernel
theorem dX12_accept_65 : decode cX12_accept 65 = .ok (.iaload, 1) := by decide +kernel
theorem dX12_accept_66 : decode cX12_accept 66 = .ok (.iload_n 3, 1) := by decide +kernel
theorem dX12_accept_67 : decode cX12_accept 67 = .ok (.iadd, 1) := by decide +kernel
theorem dX12_accept_68 : decode cX12_accept 68 = .ok (.aload_n 0, 1) := by decide +kernel
theorem dX12_accept_69 : decode cX12_accept 69 = .ok (.getfield 284, 3) := by decide +kernel
theorem dX12_accept_72 : decode cX12_accept 72 = .ok (.iload_n 2, 1) := by decide +kernel
theorem dX12_accept_73 : decode cX12_accept 73 = .ok (.laload, 1) := by decide +kernel
theorem dX12_accept_74 : decode cX12_accept 74 = .ok (.lastore, 1) := by decide +kernel
theorem dX12_accept_75 : decode cX12_accept 75 = .ok (.iinc 3 1, 3) := by decide +kernel
theorem dX12_accept_78 : decode cX12_accept 78 = .ok (.goto (-32), 3) := by decide +kernel
theorem dX12_accept_81 : decode cX12_accept 81 = .ok (.sipush 160, 3) := by decide +kernel
theorem dX12_accept_84 : decode cX12_accept 84 = .ok (.aload_n 0, 1) := by decide +kernel
theorem dX12_accept_85 : decode cX12_accept 85 = .ok (.getfield 581, 3) := by decide +kernel
theorem dX12_accept_88 : decode cX12_accept 88 = .ok (.imul, 1) := by decide +kernel
theorem dX12_accept_89 : decode cX12_accept 89 = .ok (.istore_n 3, 1) := by decide +kernel
theorem dX12_accept_90 : decode cX12_accept 90 = .ok (.iload_n 1, 1) := by decide +kernel
theorem dX12_accept_91 : decode cX12_accept 91 = .ok (.ifCond .eq 144, 3) := by decide +kernel
theorem dX12_accept_94 : decode cX12_accept 94 = .ok (.iload_n 3, 1) := by decide +kernel
theorem dX12_accept_95 : decode cX12_accept 95 = .ok (.sipush 160, 3) := by decide +kernel
theorem dX12_accept_98 : decode cX12_accept 98 = .ok (.aload_n 0, 1) := by decide +kernel
theorem dX12_accept_99 : decode cX12_accept 99 = .ok (.getfield 581, 3) := by decide +kernel
theorem dX12_accept_102 : decode cX12_accept 102 = .ok (.imul, 1) := by decide +kernel
theorem dX12_accept_103 : decode cX12_accept 103 = .ok (.aload_n 0, 1) := by decide +kernel
theorem dX12_accept_104 : decode cX12_accept 104 = .ok (.getfield 266, 3) := by decide +kernel
theorem dX12_accept_107 : decode cX12_accept 107 = .ok (.aload_n 0, 1) := by decide +kernel
theorem dX12_accept_108 : decode cX12_accept 108 = .ok (.getfield 581, 3) := by decide +kernel
theorem dX12_accept_111 : decode cX12_accept 111 = .ok (.iaload, 1) := by decide +kernel
theorem dX12_accept_112 : decode cX12_accept 112 = .ok (.iadd, 1) := by decide +kernel
theorem dX12_accept_113 : decode cX12_accept 113 = .ok (.if_icmp .ge 122, 3) := by decide +kernel
theorem dX12_accept_116 : decode cX12_accept 116 = .ok (.aload_n 0, 1) := by decide +kernel
theorem dX12_accept_117 : decode cX12_accept 117 = .ok (.getfield 272, 3) := by decide +kernel
theorem dX12_accept_120 : decode cX12_accept 120 = .ok (.iload_n 3, 1) := by decide +kernel
theorem dX12_accept_121 : decode cX12_accept 121 = .ok (.iaload, 1) := by decide +kernel
theorem dX12_accept_122 : decode cX12_accept 122 = .ok (.iconst 1, 1) := by decide +kernel
theorem dX12_accept_123 : decode cX12_accept 123 = .ok (.if_icmp .gt 106, 3) := by decide +kernel
theorem dX12_accept_126 : decode cX12_accept 126 = .ok (.aload_n 0, 1) := by decide +kernel
theorem dX12_accept_127 : decode cX12_accept 127 = .ok (.getfield 287, 3) := by decide +kernel
theorem dX12_accept_130 : decode cX12_accept 130 = .ok (.iload_n 3, 1) := by decide +kernel
theorem dX12_accept_131 : decode cX12_accept 131 = .ok (.laload, 1) := by decide +kernel
theorem dX12_accept_132 : decode cX12_accept 132 = .ok (.aload_n 0, 1) := by decide +kernel
theorem dX12_accept_133 : decode cX12_accept 133 = .ok (.getfield 287, 3) := by decide +kernel
theorem dX12_accept_136 : decode cX12_accept 136 = .ok (.iload_n 2, 1) := by decide +kernel
theorem dX12_accept_137 : decode cX12_accept 137 = .ok (.laload, 1) := by decide +kernel
theorem dX12_accept_138 : decode cX12_accept 138 = .ok (.lcmp, 1) := by decide +kernel
theorem dX12_accept_139 : decode cX12_accept 139 = .ok (.ifCond .ne 90, 3) := by decide +kernel
theorem dX12_accept_142 : decode cX12_accept 142 = .ok (.aload_n 0, 1) := by decide +kernel
theorem dX12_accept_143 : decode cX12_accept 143 = .ok (.getfield 290, 3) := by decide +kernel
theorem dX12_accept_146 : decode cX12_accept 146 = .ok (.iload_n 3, 1) := by decide +kernel
theorem dX12_accept_147 : decode cX12_accept 147 = .ok (.laload, 1) := by decide +kernel
theorem dX12_accept_148 : decode cX12_accept 148 = .ok (.aload_n 0, 1) := by decide +kernel
theorem dX12_accept_149 : decode cX12_accept 149 = .ok (.getfield 290, 3) := by decide +kernel
theorem dX12_accept_152 : decode cX12_accept 152 = .ok (.iload_n 2, 1) := by decide +kernel
theorem dX12_accept_153 : decode cX12_accept 153 = .ok (.laload, 1) := by decide +kernel
theorem dX12_accept_154 : decode cX12_accept 154 = .ok (.lcmp, 1) := by decide +kernel
theorem dX12_accept_155 : decode cX12_accept 155 = .ok (.ifCond .eq 6, 3) := by decide +kernel
theorem dX12_accept_158 : decode cX12_accept 158 = .ok (.goto 71, 3) := by decide +kernel
theorem dX12_accept_161 : decode cX12_accept 161 = .ok (.iconst 0, 1) := by decide +kernel
theorem dX12_accept_162 : decode cX12_accept 162 = .ok (.istore 4, 2) := by decide +kernel
theorem dX12_accept_164 : decode cX12_accept 164 = .ok (.iload 4, 2) := by decide +kernel
theorem dX12_accept_166 : decode cX12_accept 166 = .ok (.aload_n 0, 1) := by decide +kernel
theorem dX12_accept_167 : decode cX12_accept 167 = .ok (.getfield 275, 3) := by decide +kernel
theorem dX12_accept_170 : decode cX12_accept 170 = .ok (.iload_n 2, 1) := by decide +kernel
theorem dX12_accept_171 : decode cX12_accept 171 = .ok (.iaload, 1) := by decide +kernel
theorem dX12_accept_172 : decode cX12_accept 172 = .ok (.if_icmp .ge 57, 3) := by decide +kernel
theorem dX12_accept_175 : decode cX12_accept 175 = .ok (.iload 4, 2) := by decide +kernel
theorem dX12_accept_177 : decode cX12_accept 177 = .ok (.aload_n 0, 1) := by decide +kernel
theorem dX12_accept_178 : decode cX12_accept 178 = .ok (.getfield 275, 3) := by decide +kernel
theorem dX12_accept_181 : decode cX12_accept 181 = .ok (.iload_n 3, 1) := by decide +kernel
theorem dX12_accept_182 : decode cX12_accept 182 = .ok (.iaload, 1) := by decide +kernel
theorem dX12_accept_183 : decode cX12_accept 183 = .ok (.if_icmp .ge 46, 3) := by decide +kernel
theorem dX12_accept_186 : decode cX12_accept 186 = .ok (.aload_n 0, 1) := by decide +kernel
theorem dX12_accept_187 : decode cX12_accept 187 = .ok (.getfield 703, 3) := by decide +kernel
theorem dX12_accept_190 : decode cX12_accept 190 = .ok (.aload_n 0, 1) := by decide +kernel
theorem dX12_accept_191 : decode cX12_accept 191 = .ok (.getfield 293, 3) := by decide +kernel
theorem dX12_accept_194 : decode cX12_accept 194 = .ok (.iload_n 2, 1) := by decide +kernel
theorem dX12_accept_195 : decode cX12_accept 195 = .ok (.iaload, 1) := by decide +kernel
theorem dX12_accept_196 : decode cX12_accept 196 = .ok (.iload 4, 2) := by decide +kernel
theorem dX12_accept_198 : decode cX12_accept 198 = .ok (.iadd, 1) := by decide +kernel
theorem dX12_accept_199 : decode cX12_accept 199 = .ok (.aload_n 0, 1) := by decide +kernel
theorem dX12_accept_200 : decode cX12_accept 200 = .ok (.getfield 269, 3) := by decide +kernel
theorem dX12_accept_203 : decode cX12_accept 203 = .ok (.iload_n 2, 1) := by decide +kernel
theorem dX12_accept_204 : decode cX12_accept 204 = .ok (.iaload, 1) := by decide +kernel
theorem dX12_accept_205 : decode cX12_accept 205 = .ok (.aload_n 0, 1) := by decide +kernel
theorem dX12_accept_206 : decode cX12_accept 206 = .ok (.getfield 536, 3) := by decide +kernel
theorem dX12_accept_209 : decode cX12_accept 209 = .ok (.aload_n 0, 1) := by decide +kernel
theorem dX12_accept_210 : decode cX12_accept 210 = .ok (.getfield 293, 3) := by decide +kernel
theorem dX12_accept_213 : decode cX12_accept 213 = .ok (.iload_n 3, 1) := by decide +kernel
theorem dX12_accept_214 : decode cX12_accept 214 = .ok (.iaload, 1) := by decide +kernel
theorem dX12_accept_215 : decode cX12_accept 215 = .ok (.iload 4, 2) := by decide +kernel
theorem dX12_accept_217 : decode cX12_accept 217 = .ok (.iadd, 1) := by decide +kernel
theorem dX12_accept_218 : decode cX12_accept 218 = .ok (.laload, 1) := by decide +kernel
theorem dX12_accept_219 : decode cX12_accept 219 = .ok (.invokestatic 170, 3) := by decide +kernel
theorem dX12_accept_222 : decode cX12_accept 222 = .ok (.lastore, 1) := by decide +kernel
theorem dX12_accept_223 : decode cX12_accept 223 = .ok (.iinc 4 1, 3) := by decide +kernel
theorem dX12_accept_226 : decode cX12_accept 226 = .ok (.goto (-62), 3) := by decide +kernel
theorem dX12_accept_229 : decode cX12_accept 229 = .ok (.iinc 3 1, 3) := by decide +kernel
theorem dX12_accept_232 : decode cX12_accept 232 = .ok (.goto (-142), 3) := by decide +kernel
theorem dX12_accept_235 : decode cX12_accept 235 = .ok (.iinc 2 1, 3) := by decide +kernel
theorem dX12_accept_238 : decode cX12_accept 238 = .ok (.goto (-229), 3) := by decide +kernel
theorem dX12_accept_241 : decode cX12_accept 241 = .ok (.iconst 0, 1) := by decide +kernel
theorem dX12_accept_242 : decode cX12_accept 242 = .ok (.istore_n 2, 1) := by decide +kernel
theorem dX12_accept_243 : decode cX12_accept 243 = .ok (.iload_n 2, 1) := by decide +kernel
theorem dX12_accept_244 : decode cX12_accept 244 = .ok (.aload_n 0, 1) := by decide +kernel
theorem dX12_accept_245 : decode cX12_accept 245 = .ok (.getfield 296, 3) := by decide +kernel
theorem dX12_accept_248 : decode cX12_accept 248 = .ok (.if_icmp .ge 21, 3) := by decide +kernel
theorem dX12_accept_251 : decode cX12_accept 251 = .ok (.aload_n 0, 1) := by decide +kernel
theorem dX12_accept_252 : decode cX12_accept 252 = .ok (.getfield 536, 3) := by decide +kernel
theorem dX12_accept_255 : decode cX12_accept 255 = .ok (.iload_n 2, 1) := by decide +kernel
theorem dX12_accept_256 : decode cX12_accept 256 = .ok (.aload_n 0, 1) := by decide +kernel
theorem dX12_accept_257 : decode cX12_accept 257 = .ok (.getfield 703, 3) := by decide +kernel
theorem dX12_accept_260 : decode cX12_accept 260 = .ok (.iload_n 2, 1) := by decide +kernel
theorem dX12_accept_261 : decode cX12_accept 261 = .ok (.laload, 1) := by decide +kernel
theorem dX12_accept_262 : decode cX12_accept 262 = .ok (.lastore, 1) := by decide +kernel
theorem dX12_accept_263 : decode cX12_accept 263 = .ok (.iinc 2 1, 3) := by decide +kernel
theorem dX12_accept_266 : decode cX12_accept 266 = .ok (.goto (-23), 3) := by decide +kernel
theorem dX12_accept_269 : decode cX12_accept 269 = .ok (.aload_n 0, 1) := by decide +kernel
theorem dX12_accept_270 : decode cX12_accept 270 = .ok (.aload_n 0, 1) := by decide +kernel
theorem dX12_accept_271 : decode cX12_accept 271 = .ok (.getfield 129, 3) := by decide +kernel
theorem dX12_accept_274 : decode cX12_accept 274 = .ok (.putfield 581, 3) := by decide +kernel
theorem dX12_accept_277 : decode cX12_accept 277 = .ok (.aload_n 0, 1) := by decide +kernel
theorem dX12_accept_278 : decode cX12_accept 278 = .ok (.invokevirtual 726, 3) := by decide +kernel
theorem dX12_accept_281 : decode cX12_accept 281 = .ok (.iconst 0, 1) := by decide +kernel
theorem dX12_accept_282 : decode cX12_accept 282 = .ok (.istore_n 2, 1) := by decide +kernel
theorem dX12_accept_283 : decode cX12_accept 283 = .ok (.iload_n 2, 1) := by decide +kernel
theorem dX12_accept_284 : decode cX12_accept 284 = .ok (.bipush 8, 2) := by decide +kernel
theorem dX12_accept_286 : decode cX12_accept 286 = .ok (.if_icmp .ge 51, 3) := by decide +kernel
theorem dX12_accept_289 : decode cX12_accept 289 = .ok (.aload_n 0, 1) := by decide +kernel
theorem dX12_accept_290 : decode cX12_accept 290 = .ok (.getfield 629, 3) := by decide +kernel
theorem dX12_accept_293 : decode cX12_accept 293 = .ok (.iload_n 2, 1) := by decide +kernel
theorem dX12_accept_294 : decode cX12_accept 294 = .ok (.iconst 0, 1) := by decide +kernel
theorem dX12_accept_295 : decode cX12_accept 295 = .ok (.iastore, 1) := by decide +kernel
theorem dX12_accept_296 : decode cX12_accept 296 = .ok (.aload_n 0, 1) := by decide +kernel
theorem dX12_accept_297 : decode cX12_accept 297 = .ok (.getfield 635, 3) := by decide +kernel
theorem dX12_accept_300 : decode cX12_accept 300 = .ok (.iload_n 2, 1) := by decide +kernel
theorem dX12_accept_301 : decode cX12_accept 301 = .ok (.iconst 0, 1) := by decide +kernel
theorem dX12_accept_302 : decode cX12_accept 302 = .ok (.iastore, 1) := by decide +kernel
theorem dX12_accept_303 : decode cX12_accept 303 = .ok (.aload_n 0, 1) := by decide +kernel
theorem dX12_accept_304 : decode cX12_accept 304 = .ok (.getfield 641, 3) := by decide +kernel
theorem dX12_accept_307 : decode cX12_accept 307 = .ok (.iload_n 2, 1) := by decide +kernel
theorem dX12_accept_308 : decode cX12_accept 308 = .ok (.iconst 0, 1) := by decide +kernel
theorem dX12_accept_309 : decode cX12_accept 309 = .ok (.iastore, 1) := by decide +kernel
theorem dX12_accept_310 : decode cX12_accept 310 = .ok (.aload_n 0, 1) := by decide +kernel
theorem dX12_accept_311 : decode cX12_accept 311 = .ok (.getfield 644, 3) := by decide +kernel
theorem dX12_accept_314 : decode cX12_accept 314 = .ok (.iload_n 2, 1) := by decide +kernel
theorem dX12_accept_315 : decode cX12_accept 315 = .ok (.iconst 0, 1) := by decide +kernel
theorem dX12_accept_316 : decode cX12_accept 316 = .ok (.iastore, 1) := by decide +kernel
theorem dX12_accept_317 : decode cX12_accept 317 = .ok (.aload_n 0, 1) := by decide +kernel
theorem dX12_accept_318 : decode cX12_accept 318 = .ok (.getfield 647, 3) := by decide +kernel
theorem dX12_accept_321 : decode cX12_accept 321 = .ok (.iload_n 2, 1) := by decide +kernel
theorem dX12_accept_322 : decode cX12_accept 322 = .ok (.iconst 0, 1) := by decide +kernel
theorem dX12_accept_323 : decode cX12_accept 323 = .ok (.iastore, 1) := by decide +kernel
theorem dX12_accept_324 : decode cX12_accept 324 = .ok (.aload_n 0, 1) := by decide +kernel
theorem dX12_accept_325 : decode cX12_accept 325 = .ok (.getfield 650, 3) := by decide +kernel
theorem dX12_accept_328 : decode cX12_accept 328 = .ok (.iload_n 2, 1) := by decide +kernel
theorem dX12_accept_329 : decode cX12_accept 329 = .ok (.iconst 0, 1) := by decide +kernel
theorem dX12_accept_330 : decode cX12_accept 330 = .ok (.iastore, 1) := by decide +kernel
theorem dX12_accept_331 : decode cX12_accept 331 = .ok (.iinc 2 1, 3) := by decide +kernel
theorem dX12_accept_334 : decode cX12_accept 334 = .ok (.goto (-51), 3) := by decide +kernel
theorem dX12_accept_337 : decode cX12_accept 337 = .ok (.aload_n 0, 1) := by decide +kernel
theorem dX12_accept_338 : decode cX12_accept 338 = .ok (.iconst 0, 1) := by decide +kernel
theorem dX12_accept_339 : decode cX12_accept 339 = .ok (.putfield 668, 3) := by decide +kernel
theorem dX12_accept_342 : decode cX12_accept 342 = .ok (.aload_n 0, 1) := by decide +kernel
theorem dX12_accept_343 : decode cX12_accept 343 = .ok (.iconst 0, 1) := by decide +kernel
theorem dX12_accept_344 : decode cX12_accept 344 = .ok (.putfield 695, 3) := by decide +kernel
theorem dX12_accept_347 : decode cX12_accept 347 = .ok (.iload_n 1, 1) := by decide +kernel
theorem dX12_accept_348 : decode cX12_accept 348 = .ok (.ifCond .ne 7, 3) := by decide +kernel
theorem dX12_accept_351 : decode cX12_accept 351 = .ok (.aload_n 0, 1) := by decide +kernel
theorem dX12_accept_352 : decode cX12_accept 352 = .ok (.invokevirtual 729, 3) := by decide +kernel
theorem dX12_accept_355 : decode cX12_accept 355 = .ok (.return_, 1) := by decide +kernel
abbrev cX12_scan : ByteArray := prog_14_method_104_code
def yX12_scan : MethodName := ⟨RX12, "scan", "(I)I"⟩
theorem dX12_scan_0 : decode cX12_scan 0 = .ok (.aload_n 0, 1) := by decide +kernel
theorem dX12_scan_1 : decode cX12_scan 1 = .ok (.iload_n 1, 1) := by decide +kernel
theorem dX12_scan_2 : decode cX12_scan 2 = .ok (.iconst 1, 1) := by decide +kernel
theorem dX12_scan_3 : decode cX12_scan 3 = .ok (.bipush 50, 2) := by decide +kernel
theorem dX12_scan_5 : decode cX12_scan 5 = .ok (.invokestatic 732, 3) := by decide +kernel
theorem dX12_scan_8 : decode cX12_scan 8 = .ok (.ifCond .eq 7, 3) := by decide +kernel
theorem dX12_scan_11 : decode cX12_scan 11 = .ok (.iconst 0, 1) := by decide +kernel
theorem dX12_scan_12 : decode cX12_scan 12 = .ok (.goto 4, 3) := by decide +kernel
theorem dX12_scan_15 : decode cX12_scan 15 = .ok (.iconst 1, 1) := by decide +kernel
theorem dX12_scan_16 : decode cX12_scan 16 = .ok (.putfield 1, 3) := by decide +kernel
theorem dX12_scan_19 : decode cX12_scan 19 = .ok (.iconst 0, 1) := by decide +kernel
theorem dX12_scan_20 : decode cX12_scan 20 = .ok (.istore_n 2, 1) := by decide +kernel
theorem dX12_scan_21 : decode cX12_scan 21 = .ok (.iconst 0, 1) := by decide +kernel
theorem dX12_scan_22 : decode cX12_scan 22 = .ok (.istore_n 3, 1) := by decide +kernel
theorem dX12_scan_23 : decode cX12_scan 23 = .ok (.iload_n 3, 1) := by decide +kernel
theorem dX12_scan_24 : decode cX12_scan 24 = .ok (.iload_n 1, 1) := by decide +kernel
theorem dX12_scan_25 : decode cX12_scan 25 = .ok (.if_icmp .ge 23, 3) := by decide +kernel
theorem dX12_scan_28 : decode cX12_scan 28 = .ok (.aload_n 0, 1) := by decide +kernel
theorem dX12_scan_29 : decode cX12_scan 29 = .ok (.getfield 1, 3) := by decide +kernel
theorem dX12_scan_32 : decode cX12_scan 32 = .ok (.ifCond .ne 16, 3) := by decide +kernel
theorem dX12_scan_35 : decode cX12_scan 35 = .ok (.iload_n 2, 1) := by decide +kernel
theorem dX12_scan_36 : decode cX12_scan 36 = .ok (.aload_n 0, 1) := by decide +kernel
theorem dX12_scan_37 : decode cX12_scan 37 = .ok (.invokevirtual 736, 3) := by decide +kernel
theorem dX12_scan_40 : decode cX12_scan 40 = .ok (.iadd, 1) := by decide +kernel
theorem dX12_scan_41 : decode cX12_scan 41 = .ok (.istore_n 2, 1) := by decide +kernel
theorem dX12_scan_42 : decode cX12_scan 42 = .ok (.iinc 3 1, 3) := by decide +kernel
theorem dX12_scan_45 : decode cX12_scan 45 = .ok (.goto (-22), 3) := by decide +kernel
theorem dX12_scan_48 : decode cX12_scan 48 = .ok (.iload_n 2, 1) := by decide +kernel
theorem dX12_scan_49 : decode cX12_scan 49 = .ok (.ireturn, 1) := by decide +kernel
abbrev cX12_power : ByteArray := prog_14_method_105_code
def yX12_power : MethodName := ⟨RX12, "power", "()V"⟩
theorem dX12_power_0 : decode cX12_power 0 = .ok (.aload_n 0, 1) := by decide +kernel
theorem dX12_power_1 : decode cX12_power 1 = .ok (.iconst 0, 1) := by decide +kernel
theorem dX12_power_2 : decode cX12_power 2 = .ok (.putfield 1, 3) := by decide +kernel
theorem dX12_power_5 : decode cX12_power 5 = .ok (.sipush 160, 3) := by decide +kernel
theorem dX12_power_8 : decode cX12_power 8 = .ok (.aload_n 0, 1) := by decide +kernel
theorem dX12_power_9 : decode cX12_power 9 = .ok (.getfield 581, 3) := by decide +kernel
theorem dX12_power_12 : decode cX12_power 12 = .ok (.imul, 1) := by decide +kernel
theorem dX12_power_13 : decode cX12_power 13 = .ok (.istore_n 1, 1) := by decide +kernel
theorem dX12_power_14 : decode cX12_power 14 = .ok (.iload_n 1, 1) := by decide +kernel
theorem dX12_power_15 : decode cX12_power 15 = .ok (.sipush 160, 3) := by decide +kernel
theorem dX12_power_18 : decode cX12_power 18 = .ok (.aload_n 0, 1) := by decide +kernel
theorem dX12_power_19 : decode cX12_power 19 = .ok (.getfield 581, 3) := by decide +kernel
theorem dX12_power_22 : decode cX12_power 22 = .ok (.imul, 1) := by decide +kernel
theorem dX12_power_23 : decode cX12_power 23 = .ok (.aload_n 0, 1) := by decide +kernel
theorem dX12_power_24 : decode cX12_power 24 = .ok (.getfield 266, 3) := by decide +kernel
theorem dX12_power_27 : decode cX12_power 27 = .ok (.aload_n 0, 1) := by decide +kernel
theorem dX12_power_28 : decode cX12_power 28 = .ok (.getfield 581, 3) := by decide +kernel
theorem dX12_power_31 : decode cX12_power 31 = .ok (.iaload, 1) := by decide +kernel
theorem dX12_power_32 : decode cX12_power 32 = .ok (.iadd, 1) := by decide +kernel
theorem dX12_power_33 : decode cX12_power 33 = .ok (.if_icmp .ge 55, 3) := by decide +kernel
theorem dX12_power_36 : decode cX12_power 36 = .ok (.iconst 0, 1) := by decide +kernel
theorem dX12_power_37 : decode cX12_power 37 = .ok (.istore_n 2, 1) := by decide +kernel
theorem dX12_power_38 : decode cX12_power 38 = .ok (.iload_n 2, 1) := by decide +kernel
theorem dX12_power_39 : decode cX12_power 39 = .ok (.aload_n 0, 1) := by decide +kernel
theorem dX12_power_40 : decode cX12_power 40 = .ok (.getfield 275, 3) := by decide +kernel
theorem dX12_power_43 : decode cX12_power 43 = .ok (.iload_n 1, 1) := by decide +kernel
theorem dX12_power_44 : decode cX12_power 44 = .ok (.iaload, 1) := by decide +kernel
theorem dX12_power_45 : decode cX12_power 45 = .ok (.if_icmp .ge 37, 3) := by decide +kernel
theorem dX12_power_48 : decode cX12_power 48 = .ok (.aload_n 0, 1) := by decide +kernel
theorem dX12_power_49 : decode cX12_power 49 = .ok (.getfield 272, 3) := by decide +kernel
theorem dX12_power_52 : decode cX12_power 52 = .ok (.iload_n 1, 1) := by decide +kernel
theorem dX12_power_53 : decode cX12_power 53 = .ok (.iaload, 1) := by decide +kernel
theorem dX12_power_54 : decode cX12_power 54 = .ok (.ifCond .ne 28, 3) := by decide +kernel
theorem dX12_power_57 : decode cX12_power 57 = .ok (.aload_n 0, 1) := by decide +kernel
theorem dX12_power_58 : decode cX12_power 58 = .ok (.getfield 536, 3) := by decide +kernel
theorem dX12_power_61 : decode cX12_power 61 = .ok (.aload_n 0, 1) := by decide +kernel
theorem dX12_power_62 : decode cX12_power 62 = .ok (.getfield 293, 3) := by decide +kernel
theorem dX12_power_65 : decode cX12_power 65 = .ok (.iload_n 1, 1) := by decide +kernel
theorem dX12_power_66 : decode cX12_power 66 = .ok (.iaload, 1) := by decide +kernel
theorem dX12_power_67 : decode cX12_power 67 = .ok (.iload_n 2, 1) := by decide +kernel
theorem dX12_power_68 : decode cX12_power 68 = .ok (.iadd, 1) := by decide +kernel
theorem dX12_power_69 : decode cX12_power 69 = .ok (.aload_n 0, 1) := by decide +kernel
theorem dX12_power_70 : decode cX12_power 70 = .ok (.getfield 284, 3) := by decide +kernel
theorem dX12_power_73 : decode cX12_power 73 = .ok (.iload_n 1, 1) := by decide +kernel
theorem dX12_power_74 : decode cX12_power 74 = .ok (.laload, 1) := by decide +kernel
theorem dX12_power_75 : decode cX12_power 75 = .ok (.lastore, 1) := by decide +kernel
theorem dX12_power_76 : decode cX12_power 76 = .ok (.iinc 2 1, 3) := by decide +kernel
theorem dX12_power_79 : decode cX12_power 79 = .ok (.goto (-41), 3) := by decide +kernel
theorem dX12_power_82 : decode cX12_power 82 = .ok (.iinc 1 1, 3) := by decide +kernel
theorem dX12_power_85 : decode cX12_power 85 = .ok (.goto (-71), 3) := by decide +kernel
theorem dX12_power_88 : decode cX12_power 88 = .ok (.aload_n 0, 1) := by decide +kernel
theorem dX12_power_89 : decode cX12_power 89 = .ok (.invokevirtual 726, 3) := by decide +kernel
theorem dX12_power_92 : decode cX12_power 92 = .ok (.aload_n 0, 1) := by decide +kernel
theorem dX12_power_93 : decode cX12_power 93 = .ok (.invokevirtual 729, 3) := by decide +kernel
theorem dX12_power_96 : decode cX12_power 96 = .ok (.return_, 1) := by decide +kernel
abbrev cX12_hasByte : ByteArray := prog_14_method_106_code
def yX12_hasByte : MethodName := ⟨RX12, "hasByte", "(II)Z"⟩
theorem dX12_hasByte_0 : decode cX12_hasByte 0 = .ok (.aload_n 0, 1) := by decide +kernel
theorem dX12_hasByte_1 : decode cX12_hasByte 1 = .ok (.iload_n 1, 1) := by decide +kernel
theorem dX12_hasByte_2 : decode cX12_hasByte 2 = .ok (.iconst 0, 1) := by decide +kernel
theorem dX12_hasByte_3 : decode cX12_hasByte 3 = .ok (.bipush 63, 2) := by decide +kernel
theorem dX12_hasByte_5 : decode cX12_hasByte 5 = .ok (.invokestatic 732, 3) := by decide +kernel
theorem dX12_hasByte_8 : decode cX12_hasByte 8 = .ok (.ifCond .eq 7, 3) := by decide +kernel
theorem dX12_hasByte_11 : decode cX12_hasByte 11 = .ok (.iconst 0, 1) := by decide +kernel
theorem dX12_hasByte_12 : decode cX12_hasByte 12 = .ok (.goto 4, 3) := by decide +kernel
theorem dX12_hasByte_15 : decode cX12_hasByte 15 = .ok (.iload_n 2, 1) := by decide +kernel
theorem dX12_hasByte_16 : decode cX12_hasByte 16 = .ok (.putfield 1, 3) := by decide +kernel
theorem dX12_hasByte_19 : decode cX12_hasByte 19 = .ok (.aload_n 0, 1) := by decide +kernel
theorem dX12_hasByte_20 : decode cX12_hasByte 20 = .ok (.getfield 1, 3) := by decide +kernel
theorem dX12_hasByte_23 : decode cX12_hasByte 23 = .ok (.ifCond .ne 7, 3) := by decide +kernel
theorem dX12_hasByte_26 : decode cX12_hasByte 26 = .ok (.iconst 1, 1) := by decide +kernel
theorem dX12_hasByte_27 : decode cX12_hasByte 27 = .ok (.goto 4, 3) := by decide +kernel
theorem dX12_hasByte_30 : decode cX12_hasByte 30 = .ok (.iconst 0, 1) := by decide +kernel
theorem dX12_hasByte_31 : decode cX12_hasByte 31 = .ok (.ireturn, 1) := by decide +kernel
abbrev cX12_input : ByteArray := prog_14_method_107_code
def yX12_input : MethodName := ⟨RX12, "input", "(II)V"⟩
theorem dX12_input_0 : decode cX12_input 0 = .ok (.aload_n 0, 1) := by decide +kernel
theorem dX12_input_1 : decode cX12_input 1 = .ok (.iload_n 1, 1) := by decide +kernel
theorem dX12_input_2 : decode cX12_input 2 = .ok (.iconst 1, 1) := by decide +kernel
theorem dX12_input_3 : decode cX12_input 3 = .ok (.invokevirtual 739, 3) := by decide +kernel
theorem dX12_input_6 : decode cX12_input 6 = .ok (.ifCond .eq 14, 3) := by decide +kernel
theorem dX12_input_9 : decode cX12_input 9 = .ok (.aload_n 0, 1) := by decide +kernel
theorem dX12_input_10 : decode cX12_input 10 = .ok (.getfield 659, 3) := by decide +kernel
theorem dX12_input_13 : decode cX12_input 13 = .ok (.iload_n 1, 1) := by decide +kernel
theorem dX12_input_14 : decode cX12_input 14 = .ok (.iload_n 2, 1) := by decide +kernel
theorem dX12_input_15 : decode cX12_input 15 = .ok (.sipush 255, 3) := by decide +kernel
theorem dX12_input_18 : decode cX12_input 18 = .ok (.iand, 1) := by decide +kernel
theorem dX12_input_19 : decode cX12_input 19 = .ok (.iastore, 1) := by decide +kernel
theorem dX12_input_20 : decode cX12_input 20 = .ok (.return_, 1) := by decide +kernel
abbrev cX12_look : ByteArray := prog_14_method_108_code
def yX12_look : MethodName := ⟨RX12, "look", "(II)I"⟩
theorem dX12_look_0 : decode cX12_look 0 = .ok (.aload_n 0, 1) := by decide +kernel
theorem dX12_look_1 : decode cX12_look 1 = .ok (.iload_n 1, 1) := by decide +kernel
theorem dX12_look_2 : decode cX12_look 2 = .ok (.iconst 0, 1) := by decide +kernel
theorem dX12_look_3 : decode cX12_look 3 = .ok (.bipush 7, 2) := by decide +kernel
theorem dX12_look_5 : decode cX12_look 5 = .ok (.invokestatic 732, 3) := by decide +kernel
theorem dX12_look_8 : decode cX12_look 8 = .ok (.ifCond .eq 7, 3) := by decide +kernel
theorem dX12_look_11 : decode cX12_look 11 = .ok (.iconst 0, 1) := by decide +kernel
theorem dX12_look_12 : decode cX12_look 12 = .ok (.goto 4, 3) := by decide +kernel
theorem dX12_look_15 : decode cX12_look 15 = .ok (.iconst 1, 1) := by decide +kernel
theorem dX12_look_16 : decode cX12_look 16 = .ok (.putfield 1, 3) := by decide +kernel
theorem dX12_look_19 : decode cX12_look 19 = .ok (.aload_n 0, 1) := by decide +kernel
theorem dX12_look_20 : decode cX12_look 20 = .ok (.getfield 1, 3) := by decide +kernel
theorem dX12_look_23 : decode cX12_look 23 = .ok (.ifCond .gt 12, 3) := by decide +kernel
theorem dX12_look_26 : decode cX12_look 26 = .ok (.aload_n 0, 1) := by decide +kernel
theorem dX12_look_27 : decode cX12_look 27 = .ok (.iload_n 2, 1) := by decide +kernel
theorem dX12_look_28 : decode cX12_look 28 = .ok (.iconst 2, 1) := by decide +kernel
theorem dX12_look_29 : decode cX12_look 29 = .ok (.invokevirtual 739, 3) := by decide +kernel
theorem dX12_look_32 : decode cX12_look 32 = .ok (.ifCond .ne 5, 3) := by decide +kernel
theorem dX12_look_35 : decode cX12_look 35 = .ok (.iconst 0, 1) := by decide +kernel
theorem dX12_look_36 : decode cX12_look 36 = .ok (.ireturn, 1) := by decide +kernel
theorem dX12_look_37 : decode cX12_look 37 = .ok (.iload_n 1, 1) := by decide +kernel
theorem dX12_look_38 : decode cX12_look 38 = .ok (.iconst 2, 1) := by decide +kernel
theorem dX12_look_39 : decode cX12_look 39 = .ok (.irem, 1) := by decide +kernel
theorem dX12_look_40 : decode cX12_look 40 = .ok (.ifCond .ne 7, 3) := by decide +kernel
theorem dX12_look_43 : decode cX12_look 43 = .ok (.iload_n 2, 1) := by decide +kernel
theorem dX12_look_44 : decode cX12_look 44 = .ok (.goto 7, 3) := by decide +kernel
theorem dX12_look_47 : decode cX12_look 47 = .ok (.bipush 64, 2) := by decide +kernel
theorem dX12_look_49 : decode cX12_look 49 = .ok (.iload_n 2, 1) := by decide +kernel
theorem dX12_look_50 : decode cX12_look 50 = .ok (.iadd, 1) := by decide +kernel
theorem dX12_look_51 : decode cX12_look 51 = .ok (.istore_n 3, 1) := by decide +kernel
theorem dX12_look_52 : decode cX12_look 52 = .ok (.iload_n 1, 1) := by decide +kernel
theorem dX12_look_53 : decode cX12_look 53 = .ok (.iconst 2, 1) := by decide +kernel
theorem dX12_look_54 : decode cX12_look 54 = .ok (.if_icmp .ge 12, 3) := by decide +kernel
theorem dX12_look_57 : decode cX12_look 57 = .ok (.aload_n 0, 1) := by decide +kernel
theorem dX12_look_58 : decode cX12_look 58 = .ok (.getfield 659, 3) := by decide +kernel
theorem dX12_look_61 : decode cX12_look 61 = .ok (.iload_n 3, 1) := by decide +kernel
theorem dX12_look_62 : decode cX12_look 62 = .ok (.iaload, 1) := by decide +kernel
theorem dX12_look_63 : decode cX12_look 63 = .ok (.goto 38, 3) := by decide +kernel
theorem dX12_look_66 : decode cX12_look 66 = .ok (.iload_n 1, 1) := by decide +kernel
theorem dX12_look_67 : decode cX12_look 67 = .ok (.iconst 4, 1) := by decide +kernel
theorem dX12_look_68 : decode cX12_look 68 = .ok (.if_icmp .ge 12, 3) := by decide +kernel
theorem dX12_look_71 : decode cX12_look 71 = .ok (.aload_n 0, 1) := by decide +kernel
theorem dX12_look_72 : decode cX12_look 72 = .ok (.getfield 539, 3) := by decide +kernel
theorem dX12_look_75 : decode cX12_look 75 = .ok (.iload_n 3, 1) := by decide +kernel
theorem dX12_look_76 : decode cX12_look 76 = .ok (.iaload, 1) := by decide +kernel
theorem dX12_look_77 : decode cX12_look 77 = .ok (.goto 24, 3) := by decide +kernel
theorem dX12_look_80 : decode cX12_look 80 = .ok (.iload_n 1, 1) := by decide +kernel
theorem dX12_look_81 : decode cX12_look 81 = .ok (.bipush 6, 2) := by decide +kernel
theorem dX12_look_83 : decode cX12_look 83 = .ok (.if_icmp .ge 12, 3) := by decide +kernel
theorem dX12_look_86 : decode cX12_look 86 = .ok (.aload_n 0, 1) := by decide +kernel
theorem dX12_look_87 : decode cX12_look 87 = .ok (.getfield 653, 3) := by decide +kernel
theorem dX12_look_90 : decode cX12_look 90 = .ok (.iload_n 3, 1) := by decide +kernel
theorem dX12_look_91 : decode cX12_look 91 = .ok (.iaload, 1) := by decide +kernel
theorem dX12_look_92 : decode cX12_look 92 = .ok (.goto 9, 3) := by decide +kernel
theorem dX12_look_95 : decode cX12_look 95 = .ok (.aload_n 0, 1) := by decide +kernel
theorem dX12_look_96 : decode cX12_look 96 = .ok (.getfield 656, 3) := by decide +kernel
theorem dX12_look_99 : decode cX12_look 99 = .ok (.iload_n 3, 1) := by decide +kernel
theorem dX12_look_100 : decode cX12_look 100 = .ok (.iaload, 1) := by decide +kernel
theorem dX12_look_101 : decode cX12_look 101 = .ok (.ireturn, 1) := by decide +kernel
abbrev cX12_force : ByteArray := prog_14_method_109_code
def yX12_force : MethodName := ⟨RX12, "force", "(ZIII)V"⟩
theorem dX12_force_0 : decode cX12_force 0 = .ok (.aload_n 0, 1) := by decide +kernel
theorem dX12_force_1 : decode cX12_force 1 = .ok (.iload_n 2, 1) := by decide +kernel
theorem dX12_force_2 : decode cX12_force 2 = .ok (.iconst 1, 1) := by decide +kernel
theorem dX12_force_3 : decode cX12_force 3 = .ok (.invokevirtual 739, 3) := by decide +kernel
theorem dX12_force_6 : decode cX12_force 6 = .ok (.ifCond .ne 4, 3) := by decide +kernel
theorem dX12_force_9 : decode cX12_force 9 = .ok (.return_, 1) := by decide +kernel
theorem dX12_force_10 : decode cX12_force 10 = .ok (.iload_n 1, 1) := by decide +kernel
theorem dX12_force_11 : decode cX12_force 11 = .ok (.ifCond .eq 10, 3) := by decide +kernel
theorem dX12_force_14 : decode cX12_force 14 = .ok (.bipush 64, 2) := by decide +kernel
theorem dX12_force_16 : decode cX12_force 16 = .ok (.iload_n 2, 1) := by decide +kernel
theorem dX12_force_17 : decode cX12_force 17 = .ok (.iadd, 1) := by decide +kernel
theorem dX12_force_18 : decode cX12_force 18 = .ok (.goto 4, 3) := by decide +kernel
theorem dX12_force_21 : decode cX12_force 21 = .ok (.iload_n 2, 1) := by decide +kernel
theorem dX12_force_22 : decode cX12_force 22 = .ok (.istore 5, 2) := by decide +kernel
theorem dX12_force_24 : decode cX12_force 24 = .ok (.aload_n 0, 1) := by decide +kernel
theorem dX12_force_25 : decode cX12_force 25 = .ok (.getfield 653, 3) := by decide +kernel
theorem dX12_force_28 : decode cX12_force 28 = .ok (.iload 5, 2) := by decide +kernel
theorem dX12_force_30 : decode cX12_force 30 = .ok (.iload_n 3, 1) := by decide +kernel
theorem dX12_force_31 : decode cX12_force 31 = .ok (.sipush 255, 3) := by decide +kernel
theorem dX12_force_34 : decode cX12_force 34 = .ok (.iand, 1) := by decide +kernel
theorem dX12_force_35 : decode cX12_force 35 = .ok (.iastore, 1) := by decide +kernel
theorem dX12_force_36 : decode cX12_force 36 = .ok (.aload_n 0, 1) := by decide +kernel
theorem dX12_force_37 : decode cX12_force 37 = .ok (.getfield 656, 3) := by decide +kernel
theorem dX12_force_40 : decode cX12_force 40 = .ok (.iload 5, 2) := by decide +kernel
theorem dX12_force_42 : decode cX12_force 42 = .ok (.iload_n 3, 1) := by decide +kernel
theorem dX12_force_43 : decode cX12_force 43 = .ok (.iload 4, 2) := by decide +kernel
theorem dX12_force_45 : decode cX12_force 45 = .ok (.iand, 1) := by decide +kernel
theorem dX12_force_46 : decode cX12_force 46 = .ok (.sipush 255, 3) := by decide +kernel
theorem dX12_force_49 : decode cX12_force 49 = .ok (.iand, 1) := by decide +kernel
theorem dX12_force_50 : decode cX12_force 50 = .ok (.iastore, 1) := by decide +kernel
theorem dX12_force_51 : decode cX12_force 51 = .ok (.return_, 1) := by decide +kernel
abbrev cX12_watchdog : ByteArray := prog_14_method_110_code
def yX12_watchdog : MethodName := ⟨RX12, "watchdog", "(I)V"⟩
theorem dX12_watchdog_0 : decode cX12_watchdog 0 = .ok (.aload_n 0, 1) := by decide +kernel
theorem dX12_watchdog_1 : decode cX12_watchdog 1 = .ok (.iload_n 1, 1) := by decide +kernel
theorem dX12_watchdog_2 : decode cX12_watchdog 2 = .ok (.iconst 1, 1) := by decide +kernel
theorem dX12_watchdog_3 : decode cX12_watchdog 3 = .ok (.sipush 5000, 3) := by decide +kernel
theorem dX12_watchdog_6 : decode cX12_watchdog 6 = .ok (.invokestatic 732, 3) := by decide +kernel
theorem dX12_watchdog_9 : decode cX12_watchdog 9 = .ok (.ifCond .eq 7, 3) := by decide +kernel
theorem dX12_watchdog_12 : decode cX12_watchdog 12 = .ok (.iconst 0, 1) := by decide +kernel
theorem dX12_watchdog_13 : decode cX12_watchdog 13 = .ok (.goto 4, 3) := by decide +kernel
theorem dX12_watchdog_16 : decode cX12_watchdog 16 = .ok (.iconst 1, 1) := by decide +kernel
theorem dX12_watchdog_17 : decode cX12_watchdog 17 = .ok (.putfield 1, 3) := by decide +kernel
theorem dX12_watchdog_20 : decode cX12_watchdog 20 = .ok (.aload_n 0, 1) := by decide +kernel
theorem dX12_watchdog_21 : decode cX12_watchdog 21 = .ok (.getfield 1, 3) := by decide +kernel
theorem dX12_watchdog_24 : decode cX12_watchdog 24 = .ok (.ifCond .ne 8, 3) := by decide +kernel
theorem dX12_watchdog_27 : decode cX12_watchdog 27 = .ok (.aload_n 0, 1) := by decide +kernel
theorem dX12_watchdog_28 : decode cX12_watchdog 28 = .ok (.iload_n 1, 1) := by decide +kernel
theorem dX12_watchdog_29 : decode cX12_watchdog 29 = .ok (.putfield 596, 3) := by decide +kernel
theorem dX12_watchdog_32 : decode cX12_watchdog 32 = .ok (.return_, 1) := by decide +kernel
abbrev cX12_hasTask : ByteArray := prog_14_method_111_code
def yX12_hasTask : MethodName := ⟨RX12, "hasTask", "(I)Z"⟩
theorem dX12_hasTask_0 : decode cX12_hasTask 0 = .ok (.aload_n 0, 1) := by decide +kernel
theorem dX12_hasTask_1 : decode cX12_hasTask 1 = .ok (.iload_n 1, 1) := by decide +kernel
theorem dX12_hasTask_2 : decode cX12_hasTask 2 = .ok (.iconst 0, 1) := by decide +kernel
theorem dX12_hasTask_3 : decode cX12_hasTask 3 = .ok (.aload_n 0, 1) := by decide +kernel
theorem dX12_hasTask_4 : decode cX12_hasTask 4 = .ok (.getfield 399, 3) := by decide +kernel
theorem dX12_hasTask_7 : decode cX12_hasTask 7 = .ok (.aload_n 0, 1) := by decide +kernel
theorem dX12_hasTask_8 : decode cX12_hasTask 8 = .ok (.getfield 581, 3) := by decide +kernel
theorem dX12_hasTask_11 : decode cX12_hasTask 11 = .ok (.iaload, 1) := by decide +kernel
theorem dX12_hasTask_12 : decode cX12_hasTask 12 = .ok (.iconst 1, 1) := by decide +kernel
theorem dX12_hasTask_13 : decode cX12_hasTask 13 = .ok (.isub, 1) := by decide +kernel
theorem dX12_hasTask_14 : decode cX12_hasTask 14 = .ok (.invokestatic 732, 3) := by decide +kernel
theorem dX12_hasTask_17 : decode cX12_hasTask 17 = .ok (.ifCond .eq 7, 3) := by decide +kernel
theorem dX12_hasTask_20 : decode cX12_hasTask 20 = .ok (.iconst 0, 1) := by decide +kernel
theorem dX12_hasTask_21 : decode cX12_hasTask 21 = .ok (.goto 4, 3) := by decide +kernel
theorem dX12_hasTask_24 : decode cX12_hasTask 24 = .ok (.iconst 1, 1) := by decide +kernel
theorem dX12_hasTask_25 : decode cX12_hasTask 25 = .ok (.putfield 1, 3) := by decide +kernel
theorem dX12_hasTask_28 : decode cX12_hasTask 28 = .ok (.aload_n 0, 1) := by decide +kernel
theorem dX12_hasTask_29 : decode cX12_hasTask 29 = .ok (.getfield 1, 3) := by decide +kernel
theorem dX12_hasTask_32 : decode cX12_hasTask 32 = .ok (.ifCond .ne 7, 3) := by decide +kernel
theorem dX12_hasTask_35 : decode cX12_hasTask 35 = .ok (.iconst 1, 1) := by decide +kernel
theorem dX12_hasTask_36 : decode cX12_hasTask 36 = .ok (.goto 4, 3) := by decide +kernel
theorem dX12_hasTask_39 : decode cX12_hasTask 39 = .ok (.iconst 0, 1) := by decide +kernel
theorem dX12_hasTask_40 : decode cX12_hasTask 40 = .ok (.ireturn, 1) := by decide +kernel
abbrev cX12_clear : ByteArray := prog_14_method_112_code
def yX12_clear : MethodName := ⟨RX12, "clear", "(I)Z"⟩
theorem dX12_clear_0 : decode cX12_clear 0 = .ok (.aload_n 0, 1) := by decide +kernel
theorem dX12_clear_1 : decode cX12_clear 1 = .ok (.iload_n 1, 1) := by decide +kernel
theorem dX12_clear_2 : decode cX12_clear 2 = .ok (.invokevirtual 742, 3) := by decide +kernel
theorem dX12_clear_5 : decode cX12_clear 5 = .ok (.ifCond .ne 5, 3) := by decide +kernel
theorem dX12_clear_8 : decode cX12_clear 8 = .ok (.iconst 0, 1) := by decide +kernel
theorem dX12_clear_9 : decode cX12_clear 9 = .ok (.ireturn, 1) := by decide +kernel
theorem dX12_clear_10 : decode cX12_clear 10 = .ok (.aload_n 0, 1) := by decide +kernel
theorem dX12_clear_11 : decode cX12_clear 11 = .ok (.getfield 638, 3) := by decide +kernel
theorem dX12_clear_14 : decode cX12_clear 14 = .ok (.iload_n 1, 1) := by decide +kernel
theorem dX12_clear_15 : decode cX12_clear 15 = .ok (.baload, 1) := by decide +kernel
theorem dX12_clear_16 : decode cX12_clear 16 = .ok (.istore_n 2, 1) := by decide +kernel
theorem dX12_clear_17 : decode cX12_clear 17 = .ok (.aload_n 0, 1) := by decide +kernel
theorem dX12_clear_18 : decode cX12_clear 18 = .ok (.getfield 638, 3) := by decide +kernel
theorem dX12_clear_21 : decode cX12_clear 21 = .ok (.iload_n 1, 1) := by decide +kernel
theorem dX12_clear_22 : decode cX12_clear 22 = .ok (.iconst 0, 1) := by decide +kernel
theorem dX12_clear_23 : decode cX12_clear 23 = .ok (.bastore, 1) := by decide +kernel
theorem dX12_clear_24 : decode cX12_clear 24 = .ok (.iload_n 2, 1) := by decide +kernel
theorem dX12_clear_25 : decode cX12_clear 25 = .ok (.ireturn, 1) := by decide +kernel
abbrev cX12_task : ByteArray := prog_14_method_113_code
def yX12_task : MethodName := ⟨RX12, "task", "(II)I"⟩
theorem dX12_task_0 : decode cX12_task 0 = .ok (.aload_n 0, 1) := by decide +kernel
theorem dX12_task_1 : decode cX12_task 1 = .ok (.iload_n 1, 1) := by decide +kernel
theorem dX12_task_2 : decode cX12_task 2 = .ok (.invokevirtual 742, 3) := by decide +kernel
theorem dX12_task_5 : decode cX12_task 5 = .ok (.ifCond .ne 5, 3) := by decide +kernel
theorem dX12_task_8 : decode cX12_task 8 = .ok (.iconst 0, 1) := by decide +kernel
theorem dX12_task_9 : decode cX12_task 9 = .ok (.ireturn, 1) := by decide +kernel
theorem dX12_task_10 : decode cX12_task 10 = .ok (.iload_n 2, 1) := by decide +kernel
theorem dX12_task_11 : decode cX12_task 11 = .ok (.tableswitch 136 0 8 #[49, 64, 79, 94, 101, 108, 115, 122, 129], 49) := by decide +kernel
theorem dX12_task_60 : decode cX12_task 60 = .ok (.aload_n 0, 1) := by decide +kernel
theorem dX12_task_61 : decode cX12_task 61 = .ok (.getfield 402, 3) := by decide +kernel
theorem dX12_task_64 : decode cX12_task 64 = .ok (.bipush 8, 2) := by decide +kernel
theorem dX12_task_66 : decode cX12_task 66 = .ok (.aload_n 0, 1) := by decide +kernel
theorem dX12_task_67 : decode cX12_task 67 = .ok (.getfield 581, 3) := by decide +kernel
theorem dX12_task_70 : decode cX12_task 70 = .ok (.imul, 1) := by decide +kernel
theorem dX12_task_71 : decode cX12_task 71 = .ok (.iload_n 1, 1) := by decide +kernel
theorem dX12_task_72 : decode cX12_task 72 = .ok (.iadd, 1) := by decide +kernel
theorem dX12_task_73 : decode cX12_task 73 = .ok (.iaload, 1) := by decide +kernel
theorem dX12_task_74 : decode cX12_task 74 = .ok (.ireturn, 1) := by decide +kernel
theorem dX12_task_75 : decode cX12_task 75 = .ok (.aload_n 0, 1) := by decide +kernel
theorem dX12_task_76 : decode cX12_task 76 = .ok (.getfield 405, 3) := by decide +kernel
theorem dX12_task_79 : decode cX12_task 79 = .ok (.bipush 8, 2) := by decide +kernel
theorem dX12_task_81 : decode cX12_task 81 = .ok (.aload_n 0, 1) := by decide +kernel
theorem dX12_task_82 : decode cX12_task 82 = .ok (.getfield 581, 3) := by decide +kernel
theorem dX12_task_85 : decode cX12_task 85 = .ok (.imul, 1) := by decide +kernel
theorem dX12_task_86 : decode cX12_task 86 = .ok (.iload_n 1, 1) := by decide +kernel
theorem dX12_task_87 : decode cX12_task 87 = .ok (.iadd, 1) := by decide +kernel
theorem dX12_task_88 : decode cX12_task 88 = .ok (.iaload, 1) := by decide +kernel
theorem dX12_task_89 : decode cX12_task 89 = .ok (.ireturn, 1) := by decide +kernel
theorem dX12_task_90 : decode cX12_task 90 = .ok (.aload_n 0, 1) := by decide +kernel
theorem dX12_task_91 : decode cX12_task 91 = .ok (.getfield 638, 3) := by decide +kernel
theorem dX12_task_94 : decode cX12_task 94 = .ok (.iload_n 1, 1) := by decide +kernel
theorem dX12_task_95 : decode cX12_task 95 = .ok (.baload, 1) := by decide +kernel
theorem dX12_task_96 : decode cX12_task 96 = .ok (.ifCond .eq 7, 3) := by decide +kernel
theorem dX12_task_99 : decode cX12_task 99 = .ok (.iconst 1, 1) := by decide +kernel
theorem dX12_task_100 : decode cX12_task 100 = .ok (.goto 4, 3) := by decide +kernel
theorem dX12_task_103 : decode cX12_task 103 = .ok (.iconst 0, 1) := by decide +kernel
theorem dX12_task_104 : decode cX12_task 104 = .ok (.ireturn, 1) := by decide +kernel
theorem dX12_task_105 : decode cX12_task 105 = .ok (.aload_n 0, 1) := by decide +kernel
theorem dX12_task_106 : decode cX12_task 106 = .ok (.getfield 629, 3) := by decide +kernel
theorem dX12_task_109 : decode cX12_task 109 = .ok (.iload_n 1, 1) := by decide +kernel
theorem dX12_task_110 : decode cX12_task 110 = .ok (.iaload, 1) := by decide +kernel
theorem dX12_task_111 : decode cX12_task 111 = .ok (.ireturn, 1) := by decide +kernel
theorem dX12_task_112 : decode cX12_task 112 = .ok (.aload_n 0, 1) := by decide +kernel
theorem dX12_task_113 : decode cX12_task 113 = .ok (.getfield 635, 3) := by decide +kernel
theorem dX12_task_116 : decode cX12_task 116 = .ok (.iload_n 1, 1) := by decide +kernel
theorem dX12_task_117 : decode cX12_task 117 = .ok (.iaload, 1) := by decide +kernel
theorem dX12_task_118 : decode cX12_task 118 = .ok (.ireturn, 1) := by decide +kernel
theorem dX12_task_119 : decode cX12_task 119 = .ok (.aload_n 0, 1) := by decide +kernel
theorem dX12_task_120 : decode cX12_task 120 = .ok (.getfield 641, 3) := by decide +kernel
theorem dX12_task_123 : decode cX12_task 123 = .ok (.iload_n 1, 1) := by decide +kernel
theorem dX12_task_124 : decode cX12_task 124 = .ok (.iaload, 1) := by decide +kernel
theorem dX12_task_125 : decode cX12_task 125 = .ok (.ireturn, 1) := by decide +kernel
theorem dX12_task_126 : decode cX12_task 126 = .ok (.aload_n 0, 1) := by decide +kernel
theorem dX12_task_127 : decode cX12_task 127 = .ok (.getfield 644, 3) := by decide +kernel
theorem dX12_task_130 : decode cX12_task 130 = .ok (.iload_n 1, 1) := by decide +kernel
theorem dX12_task_131 : decode cX12_task 131 = .ok (.iaload, 1) := by decide +kernel
theorem dX12_task_132 : decode cX12_task 132 = .ok (.ireturn, 1) := by decide +kernel
theorem dX12_task_133 : decode cX12_task 133 = .ok (.aload_n 0, 1) := by decide +kernel
theorem dX12_task_134 : decode cX12_task 134 = .ok (.getfield 647, 3) := by decide +kernel
theorem dX12_task_137 : decode cX12_task 137 = .ok (.iload_n 1, 1) := by decide +kernel
theorem dX12_task_138 : decode cX12_task 138 = .ok (.iaload, 1) := by decide +kernel
theorem dX12_task_139 : decode cX12_task 139 = .ok (.ireturn, 1) := by decide +kernel
theorem dX12_task_140 : decode cX12_task 140 = .ok (.aload_n 0, 1) := by decide +kernel
theorem dX12_task_141 : decode cX12_task 141 = .ok (.getfield 650, 3) := by decide +kernel
theorem dX12_task_144 : decode cX12_task 144 = .ok (.iload_n 1, 1) := by decide +kernel
theorem dX12_task_145 : decode cX12_task 145 = .ok (.iaload, 1) := by decide +kernel
theorem dX12_task_146 : decode cX12_task 146 = .ok (.ireturn, 1) := by decide +kernel
theorem dX12_task_147 : decode cX12_task 147 = .ok (.aload_n 0, 1) := by decide +kernel
theorem dX12_task_148 : decode cX12_task 148 = .ok (.iconst 2, 1) := by decide +kernel
theorem dX12_task_149 : decode cX12_task 149 = .ok (.putfield 1, 3) := by decide +kernel
theorem dX12_task_152 : decode cX12_task 152 = .ok (.iconst 0, 1) := by decide +kernel
theorem dX12_task_153 : decode cX12_task 153 = .ok (.ireturn, 1) := by decide +kernel
abbrev cX12_hasVariable : ByteArray := prog_14_method_114_code
def yX12_hasVariable : MethodName := ⟨RX12, "hasVariable", "(I)Z"⟩
theorem dX12_hasVariable_0 : decode cX12_hasVariable 0 = .ok (.aload_n 0, 1) := by decide +kernel
theorem dX12_hasVariable_1 : decode cX12_hasVariable 1 = .ok (.iload_n 1, 1) := by decide +kernel
theorem dX12_hasVariable_2 : decode cX12_hasVariable 2 = .ok (.iconst 0, 1) := by decide +kernel
theorem dX12_hasVariable_3 : decode cX12_hasVariable 3 = .ok (.aload_n 0, 1) := by decide +kernel
theorem dX12_hasVariable_4 : decode cX12_hasVariable 4 = .ok (.getfield 266, 3) := by decide +kernel
theorem dX12_hasVariable_7 : decode cX12_hasVariable 7 = .ok (.aload_n 0, 1) := by decide +kernel
theorem dX12_hasVariable_8 : decode cX12_hasVariable 8 = .ok (.getfield 581, 3) := by decide +kernel
theorem dX12_hasVariable_11 : decode cX12_hasVariable 11 = .ok (.iaload, 1) := by decide +kernel
theorem dX12_hasVariable_12 : decode cX12_hasVariable 12 = .ok (.iconst 1, 1) := by decide +kernel
theorem dX12_hasVariable_13 : decode cX12_hasVariable 13 = .ok (.isub, 1) := by decide +kernel
theorem dX12_hasVariable_14 : decode cX12_hasVariable 14 = .ok (.invokestatic 732, 3) := by decide +kernel
theorem dX12_hasVariable_17 : decode cX12_hasVariable 17 = .ok (.ifCond .eq 7, 3) := by decide +kernel
theorem dX12_hasVariable_20 : decode cX12_hasVariable 20 = .ok (.iconst 0, 1) := by decide +kernel
theorem dX12_hasVariable_21 : decode cX12_hasVariable 21 = .ok (.goto 4, 3) := by decide +kernel
theorem dX12_hasVariable_24 : decode cX12_hasVariable 24 = .ok (.iconst 1, 1) := by decide +kernel
theorem dX12_hasVariable_25 : decode cX12_hasVariable 25 = .ok (.putfield 1, 3) := by decide +kernel
theorem dX12_hasVariable_28 : decode cX12_hasVariable 28 = .ok (.aload_n 0, 1) := by decide +kernel
theorem dX12_hasVariable_29 : decode cX12_hasVariable 29 = .ok (.getfield 1, 3) := by decide +kernel
theorem dX12_hasVariable_32 : decode cX12_hasVariable 32 = .ok (.ifCond .ne 7, 3) := by decide +kernel
theorem dX12_hasVariable_35 : decode cX12_hasVariable 35 = .ok (.iconst 1, 1) := by decide +kernel
theorem dX12_hasVariable_36 : decode cX12_hasVariable 36 = .ok (.goto 4, 3) := by decide +kernel
theorem dX12_hasVariable_39 : decode cX12_hasVariable 39 = .ok (.iconst 0, 1) := by decide +kernel
theorem dX12_hasVariable_40 : decode cX12_hasVariable 40 = .ok (.ireturn, 1) := by decide +kernel
abbrev cX12_hasPlace : ByteArray := prog_14_method_115_code
def yX12_hasPlace : MethodName := ⟨RX12, "hasPlace", "(II)Z"⟩
theorem dX12_hasPlace_0 : decode cX12_hasPlace 0 = .ok (.aload_n 0, 1) := by decide +kernel
theorem dX12_hasPlace_1 : decode cX12_hasPlace 1 = .ok (.iload_n 1, 1) := by decide +kernel
theorem dX12_hasPlace_2 : decode cX12_hasPlace 2 = .ok (.invokevirtual 745, 3) := by decide +kernel
theorem dX12_hasPlace_5 : decode cX12_hasPlace 5 = .ok (.ifCond .eq 33, 3) := by decide +kernel
theorem dX12_hasPlace_8 : decode cX12_hasPlace 8 = .ok (.iload_n 2, 1) := by decide +kernel
theorem dX12_hasPlace_9 : decode cX12_hasPlace 9 = .ok (.iconst 0, 1) := by decide +kernel
theorem dX12_hasPlace_10 : decode cX12_hasPlace 10 = .ok (.aload_n 0, 1) := by decide +kernel
theorem dX12_hasPlace_11 : decode cX12_hasPlace 11 = .ok (.getfield 275, 3) := by decide +kernel
theorem dX12_hasPlace_14 : decode cX12_hasPlace 14 = .ok (.sipush 160, 3) := by decide +kernel
theorem dX12_hasPlace_17 : decode cX12_hasPlace 17 = .ok (.aload_n 0, 1) := by decide +kernel
theorem dX12_hasPlace_18 : decode cX12_hasPlace 18 = .ok (.getfield 581, 3) := by decide +kernel
theorem dX12_hasPlace_21 : decode cX12_hasPlace 21 = .ok (.imul, 1) := by decide +kernel
theorem dX12_hasPlace_22 : decode cX12_hasPlace 22 = .ok (.iload_n 1, 1) := by decide +kernel
theorem dX12_hasPlace_23 : decode cX12_hasPlace 23 = .ok (.iadd, 1) := by decide +kernel
theorem dX12_hasPlace_24 : decode cX12_hasPlace 24 = .ok (.iaload, 1) := by decide +kernel
theorem dX12_hasPlace_25 : decode cX12_hasPlace 25 = .ok (.iconst 1, 1) := by decide +kernel
theorem dX12_hasPlace_26 : decode cX12_hasPlace 26 = .ok (.isub, 1) := by decide +kernel
theorem dX12_hasPlace_27 : decode cX12_hasPlace 27 = .ok (.invokestatic 732, 3) := by decide +kernel
theorem dX12_hasPlace_30 : decode cX12_hasPlace 30 = .ok (.ifCond .ne 8, 3) := by decide +kernel
theorem dX12_hasPlace_33 : decode cX12_hasPlace 33 = .ok (.aload_n 0, 1) := by decide +kernel
theorem dX12_hasPlace_34 : decode cX12_hasPlace 34 = .ok (.iconst 1, 1) := by decide +kernel
theorem dX12_hasPlace_35 : decode cX12_hasPlace 35 = .ok (.putfield 1, 3) := by decide +kernel
theorem dX12_hasPlace_38 : decode cX12_hasPlace 38 = .ok (.aload_n 0, 1) := by decide +kernel
theorem dX12_hasPlace_39 : decode cX12_hasPlace 39 = .ok (.getfield 1, 3) := by decide +kernel
theorem dX12_hasPlace_42 : decode cX12_hasPlace 42 = .ok (.ifCond .ne 7, 3) := by decide +kernel
theorem dX12_hasPlace_45 : decode cX12_hasPlace 45 = .ok (.iconst 1, 1) := by decide +kernel
theorem dX12_hasPlace_46 : decode cX12_hasPlace 46 = .ok (.goto 4, 3) := by decide +kernel
theorem dX12_hasPlace_49 : decode cX12_hasPlace 49 = .ok (.iconst 0, 1) := by decide +kernel
theorem dX12_hasPlace_50 : decode cX12_hasPlace 50 = .ok (.ireturn, 1) := by decide +kernel
abbrev cX12_value : ByteArray := prog_14_method_116_code
def yX12_value : MethodName := ⟨RX12, "value", "(II)J"⟩
theorem dX12_value_0 : decode cX12_value 0 = .ok (.aload_n 0, 1) := by decide +kernel
theorem dX12_value_1 : decode cX12_value 1 = .ok (.iload_n 1, 1) := by decide +kernel
theorem dX12_value_2 : decode cX12_value 2 = .ok (.iload_n 2, 1) := by decide +kernel
theorem dX12_value_3 : decode cX12_value 3 = .ok (.invokevirtual 748, 3) := by decide +kernel
theorem dX12_value_6 : decode cX12_value 6 = .ok (.ifCond .eq 12, 3) := by decide +kernel
theorem dX12_value_9 : decode cX12_value 9 = .ok (.aload_n 0, 1) := by decide +kernel
theorem dX12_value_10 : decode cX12_value 10 = .ok (.iload_n 1, 1) := by decide +kernel
theorem dX12_value_11 : decode cX12_value 11 = .ok (.iload_n 2, 1) := by decide +kernel
theorem dX12_value_12 : decode cX12_value 12 = .ok (.invokevirtual 677, 3) := by decide +kernel
theorem dX12_value_15 : decode cX12_value 15 = .ok (.goto 4, 3) := by decide +kernel
theorem dX12_value_18 : decode cX12_value 18 = .ok (.lconst 0, 1) := by decide +kernel
theorem dX12_value_19 : decode cX12_value 19 = .ok (.lreturn, 1) := by decide +kernel
abbrev cX12_poke : ByteArray := prog_14_method_117_code
def yX12_poke : MethodName := ⟨RX12, "poke", "(IIJ)J"⟩
theorem dX12_poke_0 : decode cX12_poke 0 = .ok (.aload_n 0, 1) := by decide +kernel
theorem dX12_poke_1 : decode cX12_poke 1 = .ok (.iload_n 1, 1) := by decide +kernel
theorem dX12_poke_2 : decode cX12_poke 2 = .ok (.iload_n 2, 1) := by decide +kernel
theorem dX12_poke_3 : decode cX12_poke 3 = .ok (.invokevirtual 748, 3) := by decide +kernel
theorem dX12_poke_6 : decode cX12_poke 6 = .ok (.ifCond .ne 5, 3) := by decide +kernel
theorem dX12_poke_9 : decode cX12_poke 9 = .ok (.lconst 0, 1) := by decide +kernel
theorem dX12_poke_10 : decode cX12_poke 10 = .ok (.lreturn, 1) := by decide +kernel
theorem dX12_poke_11 : decode cX12_poke 11 = .ok (.sipush 160, 3) := by decide +kernel
theorem dX12_poke_14 : decode cX12_poke 14 = .ok (.aload_n 0, 1) := by decide +kernel
theorem dX12_poke_15 : decode cX12_poke 15 = .ok (.getfield 581, 3) := by decide +kernel
theorem dX12_poke_18 : decode cX12_poke 18 = .ok (.imul, 1) := by decide +kernel
theorem dX12_poke_19 : decode cX12_poke 19 = .ok (.iload_n 1, 1) := by decide +kernel
theorem dX12_poke_20 : decode cX12_poke 20 = .ok (.iadd, 1) := by decide +kernel
theorem dX12_poke_21 : decode cX12_poke 21 = .ok (.istore 5, 2) := by decide +kernel
theorem dX12_poke_23 : decode cX12_poke 23 = .ok (.aload_n 0, 1) := by decide +kernel
theorem dX12_poke_24 : decode cX12_poke 24 = .ok (.getfield 272, 3) := by decide +kernel
theorem dX12_poke_27 : decode cX12_poke 27 = .ok (.iload 5, 2) := by decide +kernel
theorem dX12_poke_29 : decode cX12_poke 29 = .ok (.iaload, 1) := by decide +kernel
theorem dX12_poke_30 : decode cX12_poke 30 = .ok (.iconst 2, 1) := by decide +kernel
theorem dX12_poke_31 : decode cX12_poke 31 = .ok (.if_icmp .ne 8, 3) := by decide +kernel
theorem dX12_poke_34 : decode cX12_poke 34 = .ok (.aload_n 0, 1) := by decide +kernel
theorem dX12_poke_35 : decode cX12_poke 35 = .ok (.iconst 2, 1) := by decide +kernel
theorem dX12_poke_36 : decode cX12_poke 36 = .ok (.putfield 1, 3) := by decide +kernel
theorem dX12_poke_39 : decode cX12_poke 39 = .ok (.aload_n 0, 1) := by decide +kernel
theorem dX12_poke_40 : decode cX12_poke 40 = .ok (.getfield 1, 3) := by decide +kernel
theorem dX12_poke_43 : decode cX12_poke 43 = .ok (.ifCond .le 5, 3) := by decide +kernel
theorem dX12_poke_46 : decode cX12_poke 46 = .ok (.lconst 0, 1) := by decide +kernel
theorem dX12_poke_47 : decode cX12_poke 47 = .ok (.lreturn, 1) := by decide +kernel
theorem dX12_poke_48 : decode cX12_poke 48 = .ok (.aload_n 0, 1) := by decide +kernel
theorem dX12_poke_49 : decode cX12_poke 49 = .ok (.aload_n 0, 1) := by decide +kernel
theorem dX12_poke_50 : decode cX12_poke 50 = .ok (.getfield 293, 3) := by decide +kernel
theorem dX12_poke_53 : decode cX12_poke 53 = .ok (.iload 5, 2) := by decide +kernel
theorem dX12_poke_55 : decode cX12_poke 55 = .ok (.iaload, 1) := by decide +kernel
theorem dX12_poke_56 : decode cX12_poke 56 = .ok (.iload_n 2, 1) := by decide +kernel
theorem dX12_poke_57 : decode cX12_poke 57 = .ok (.iadd, 1) := by decide +kernel
theorem dX12_poke_58 : decode cX12_poke 58 = .ok (.aload_n 0, 1) := by decide +kernel
theorem dX12_poke_59 : decode cX12_poke 59 = .ok (.getfield 269, 3) := by decide +kernel
theorem dX12_poke_62 : decode cX12_poke 62 = .ok (.iload 5, 2) := by decide +kernel
theorem dX12_poke_64 : decode cX12_poke 64 = .ok (.iaload, 1) := by decide +kernel
theorem dX12_poke_65 : decode cX12_poke 65 = .ok (.lload_n 3, 1) := by decide +kernel
theorem dX12_poke_66 : decode cX12_poke 66 = .ok (.invokevirtual 606, 3) := by decide +kernel
theorem dX12_poke_69 : decode cX12_poke 69 = .ok (.aload_n 0, 1) := by decide +kernel
theorem dX12_poke_70 : decode cX12_poke 70 = .ok (.iload_n 1, 1) := by decide +kernel
theorem dX12_poke_71 : decode cX12_poke 71 = .ok (.iload_n 2, 1) := by decide +kernel
theorem dX12_poke_72 : decode cX12_poke 72 = .ok (.invokevirtual 677, 3) := by decide +kernel
theorem dX12_poke_75 : decode cX12_poke 75 = .ok (.lreturn, 1) := by decide +kernel
abbrev cX12_variable : ByteArray := prog_14_method_118_code
def yX12_variable : MethodName := ⟨RX12, "variable", "(II)I"⟩
theorem dX12_variable_0 : decode cX12_variable 0 = .ok (.aload_n 0, 1) := by decide +kernel
theorem dX12_variable_1 : decode cX12_variable 1 = .ok (.iload_n 1, 1) := by decide +kernel
theorem dX12_variable_2 : decode cX12_variable 2 = .ok (.invokevirtual 745, 3) := by decide +kernel
theorem dX12_variable_5 : decode cX12_variable 5 = .ok (.ifCond .ne 5, 3) := by decide +kernel
theorem dX12_variable_8 : decode cX12_variable 8 = .ok (.iconst 0, 1) := by decide +kernel
theorem dX12_variable_9 : decode cX12_variable 9 = .ok (.ireturn, 1) := by decide +kernel
theorem dX12_variable_10 : decode cX12_variable 10 = .ok (.sipush 160, 3) := by decide +kernel
theorem dX12_variable_13 : decode cX12_variable 13 = .ok (.aload_n 0, 1) := by decide +kernel
theorem dX12_variable_14 : decode cX12_variable 14 = .ok (.getfield 581, 3) := by decide +kernel
theorem dX12_variable_17 : decode cX12_variable 17 = .ok (.imul, 1) := by decide +kernel
theorem dX12_variable_18 : decode cX12_variable 18 = .ok (.iload_n 1, 1) := by decide +kernel
theorem dX12_variable_19 : decode cX12_variable 19 = .ok (.iadd, 1) := by decide +kernel
theorem dX12_variable_20 : decode cX12_variable 20 = .ok (.istore_n 3, 1) := by decide +kernel
theorem dX12_variable_21 : decode cX12_variable 21 = .ok (.iload_n 2, 1) := by decide +kernel
theorem dX12_variable_22 : decode cX12_variable 22 = .ok (.tableswitch 77 0 4 #[34, 41, 48, 55, 70], 34) := by decide +kernel
theorem dX12_variable_56 : decode cX12_variable 56 = .ok (.aload_n 0, 1) := by decide +kernel
theorem dX12_variable_57 : decode cX12_variable 57 = .ok (.getfield 269, 3) := by decide +kernel
theorem dX12_variable_60 : decode cX12_variable 60 = .ok (.iload_n 3, 1) := by decide +kernel
theorem dX12_variable_61 : decode cX12_variable 61 = .ok (.iaload, 1) := by decide +kernel
theorem dX12_variable_62 : decode cX12_variable 62 = .ok (.ireturn, 1) := by decide +kernel
theorem dX12_variable_63 : decode cX12_variable 63 = .ok (.aload_n 0, 1) := by decide +kernel
theorem dX12_variable_64 : decode cX12_variable 64 = .ok (.getfield 275, 3) := by decide +kernel
theorem dX12_variable_67 : decode cX12_variable 67 = .ok (.iload_n 3, 1) := by decide +kernel
theorem dX12_variable_68 : decode cX12_variable 68 = .ok (.iaload, 1) := by decide +kernel
theorem dX12_variable_69 : decode cX12_variable 69 = .ok (.ireturn, 1) := by decide +kernel
theorem dX12_variable_70 : decode cX12_variable 70 = .ok (.aload_n 0, 1) := by decide +kernel
theorem dX12_variable_71 : decode cX12_variable 71 = .ok (.getfield 272, 3) := by decide +kernel
theorem dX12_variable_74 : decode cX12_variable 74 = .ok (.iload_n 3, 1) := by decide +kernel
theorem dX12_variable_75 : decode cX12_variable 75 = .ok (.iaload, 1) := by decide +kernel
theorem dX12_variable_76 : decode cX12_variable 76 = .ok (.ireturn, 1) := by decide +kernel
theorem dX12_variable_77 : decode cX12_variable 77 = .ok (.aload_n 0, 1) := by decide +kernel
theorem dX12_variable_78 : decode cX12_variable 78 = .ok (.getfield 278, 3) := by decide +kernel
theorem dX12_variable_81 : decode cX12_variable 81 = .ok (.iload_n 3, 1) := by decide +kernel
theorem dX12_variable_82 : decode cX12_variable 82 = .ok (.baload, 1) := by decide +kernel
theorem dX12_variable_83 : decode cX12_variable 83 = .ok (.ifCond .eq 7, 3) := by decide +kernel
theorem dX12_variable_86 : decode cX12_variable 86 = .ok (.iconst 1, 1) := by decide +kernel
theorem dX12_variable_87 : decode cX12_variable 87 = .ok (.goto 4, 3) := by decide +kernel
theorem dX12_variable_90 : decode cX12_variable 90 = .ok (.iconst 0, 1) := by decide +kernel
theorem dX12_variable_91 : decode cX12_variable 91 = .ok (.ireturn, 1) := by decide +kernel
theorem dX12_variable_92 : decode cX12_variable 92 = .ok (.aload_n 0, 1) := by decide +kernel
theorem dX12_variable_93 : decode cX12_variable 93 = .ok (.getfield 281, 3) := by decide +kernel
theorem dX12_variable_96 : decode cX12_variable 96 = .ok (.iload_n 3, 1) := by decide +kernel
theorem dX12_variable_97 : decode cX12_variable 97 = .ok (.iaload, 1) := by decide +kernel
theorem dX12_variable_98 : decode cX12_variable 98 = .ok (.ireturn, 1) := by decide +kernel
theorem dX12_variable_99 : decode cX12_variable 99 = .ok (.aload_n 0, 1) := by decide +kernel
theorem dX12_variable_100 : decode cX12_variable 100 = .ok (.iconst 2, 1) := by decide +kernel
theorem dX12_variable_101 : decode cX12_variable 101 = .ok (.putfield 1, 3) := by decide +kernel
theorem dX12_variable_104 : decode cX12_variable 104 = .ok (.iconst 0, 1) := by decide +kernel
theorem dX12_variable_105 : decode cX12_variable 105 = .ok (.ireturn, 1) := by decide +kernel
abbrev cX12_field : ByteArray := prog_14_method_119_code
def yX12_field : MethodName := ⟨RX12, "field", "(III)J"⟩
theorem dX12_field_0 : decode cX12_field 0 = .ok (.aload_n 0, 1) := by decide +kernel
theorem dX12_field_1 : decode cX12_field 1 = .ok (.iconst 1, 1) := by decide +kernel
theorem dX12_field_2 : decode cX12_field 2 = .ok (.putfield 1, 3) := by decide +kernel
theorem dX12_field_5 : decode cX12_field 5 = .ok (.iload_n 1, 1) := by decide +kernel
theorem dX12_field_6 : decode cX12_field 6 = .ok (.iconst 0, 1) := by decide +kernel
theorem dX12_field_7 : decode cX12_field 7 = .ok (.aload_n 0, 1) := by decide +kernel
theorem dX12_field_8 : decode cX12_field 8 = .ok (.getfield 384, 3) := by decide +kernel
theorem dX12_field_11 : decode cX12_field 11 = .ok (.aload_n 0, 1) := by decide +kernel
theorem dX12_field_12 : decode cX12_field 12 = .ok (.getfield 581, 3) := by decide +kernel
theorem dX12_field_15 : decode cX12_field 15 = .ok (.iaload, 1) := by decide +kernel
theorem dX12_field_16 : decode cX12_field 16 = .ok (.iconst 1, 1) := by decide +kernel
theorem dX12_field_17 : decode cX12_field 17 = .ok (.isub, 1) := by decide +kernel
theorem dX12_field_18 : decode cX12_field 18 = .ok (.invokestatic 732, 3) := by decide +kernel
theorem dX12_field_21 : decode cX12_field 21 = .ok (.ifCond .ne 5, 3) := by decide +kernel
theorem dX12_field_24 : decode cX12_field 24 = .ok (.lconst 0, 1) := by decide +kernel
theorem dX12_field_25 : decode cX12_field 25 = .ok (.lreturn, 1) := by decide +kernel
theorem dX12_field_26 : decode cX12_field 26 = .ok (.bipush 24, 2) := by decide +kernel
theorem dX12_field_28 : decode cX12_field 28 = .ok (.aload_n 0, 1) := by decide +kernel
theorem dX12_field_29 : decode cX12_field 29 = .ok (.getfield 581, 3) := by decide +kernel
theorem dX12_field_32 : decode cX12_field 32 = .ok (.imul, 1) := by decide +kernel
theorem dX12_field_33 : decode cX12_field 33 = .ok (.iload_n 1, 1) := by decide +kernel
theorem dX12_field_34 : decode cX12_field 34 = .ok (.iadd, 1) := by decide +kernel
theorem dX12_field_35 : decode cX12_field 35 = .ok (.istore 4, 2) := by decide +kernel
theorem dX12_field_37 : decode cX12_field 37 = .ok (.aload_n 0, 1) := by decide +kernel
theorem dX12_field_38 : decode cX12_field 38 = .ok (.getfield 387, 3) := by decide +kernel
theorem dX12_field_41 : decode cX12_field 41 = .ok (.iload 4, 2) := by decide +kernel
theorem dX12_field_43 : decode cX12_field 43 = .ok (.iaload, 1) := by decide +kernel
theorem dX12_field_44 : decode cX12_field 44 = .ok (.istore 5, 2) := by decide +kernel
theorem dX12_field_46 : decode cX12_field 46 = .ok (.iload_n 2, 1) := by decide +kernel
theorem dX12_field_47 : decode cX12_field 47 = .ok (.iconst 0, 1) := by decide +kernel
theorem dX12_field_48 : decode cX12_field 48 = .ok (.aload_n 0, 1) := by decide +kernel
theorem dX12_field_49 : decode cX12_field 49 = .ok (.getfield 257, 3) := by decide +kernel
theorem dX12_field_52 : decode cX12_field 52 = .ok (.iload 5, 2) := by decide +kernel
theorem dX12_field_54 : decode cX12_field 54 = .ok (.iaload, 1) := by decide +kernel
theorem dX12_field_55 : decode cX12_field 55 = .ok (.iconst 1, 1) := by decide +kernel
theorem dX12_field_56 : decode cX12_field 56 = .ok (.isub, 1) := by decide +kernel
theorem dX12_field_57 : decode cX12_field 57 = .ok (.invokestatic 732, 3) := by decide +kernel
theorem dX12_field_60 : decode cX12_field 60 = .ok (.ifCond .ne 5, 3) := by decide +kernel
theorem dX12_field_63 : decode cX12_field 63 = .ok (.lconst 0, 1) := by decide +kernel
theorem dX12_field_64 : decode cX12_field 64 = .ok (.lreturn, 1) := by decide +kernel
theorem dX12_field_65 : decode cX12_field 65 = .ok (.sipush 160, 3) := by decide +kernel
theorem dX12_field_68 : decode cX12_field 68 = .ok (.aload_n 0, 1) := by decide +kernel
theorem dX12_field_69 : decode cX12_field 69 = .ok (.getfield 581, 3) := by decide +kernel
theorem dX12_field_72 : decode cX12_field 72 = .ok (.imul, 1) := by decide +kernel
theorem dX12_field_73 : decode cX12_field 73 = .ok (.aload_n 0, 1) := by decide +kernel
theorem dX12_field_74 : decode cX12_field 74 = .ok (.getfield 358, 3) := by decide +kernel
theorem dX12_field_77 : decode cX12_field 77 = .ok (.iload 5, 2) := by decide +kernel
theorem dX12_field_79 : decode cX12_field 79 = .ok (.iaload, 1) := by decide +kernel
theorem dX12_field_80 : decode cX12_field 80 = .ok (.iadd, 1) := by decide +kernel
theorem dX12_field_81 : decode cX12_field 81 = .ok (.iload_n 2, 1) := by decide +kernel
theorem dX12_field_82 : decode cX12_field 82 = .ok (.iadd, 1) := by decide +kernel
theorem dX12_field_83 : decode cX12_field 83 = .ok (.istore 6, 2) := by decide +kernel
theorem dX12_field_85 : decode cX12_field 85 = .ok (.iload_n 3, 1) := by decide +kernel
theorem dX12_field_86 : decode cX12_field 86 = .ok (.iconst 0, 1) := by decide +kernel
theorem dX12_field_87 : decode cX12_field 87 = .ok (.aload_n 0, 1) := by decide +kernel
theorem dX12_field_88 : decode cX12_field 88 = .ok (.getfield 245, 3) := by decide +kernel
theorem dX12_field_91 : decode cX12_field 91 = .ok (.iload 6, 2) := by decide +kernel
theorem dX12_field_93 : decode cX12_field 93 = .ok (.iaload, 1) := by decide +kernel
theorem dX12_field_94 : decode cX12_field 94 = .ok (.iconst 1, 1) := by decide +kernel
theorem dX12_field_95 : decode cX12_field 95 = .ok (.isub, 1) := by decide +kernel
theorem dX12_field_96 : decode cX12_field 96 = .ok (.invokestatic 732, 3) := by decide +kernel
theorem dX12_field_99 : decode cX12_field 99 = .ok (.ifCond .ne 5, 3) := by decide +kernel
theorem dX12_field_102 : decode cX12_field 102 = .ok (.lconst 0, 1) := by decide +kernel
theorem dX12_field_103 : decode cX12_field 103 = .ok (.lreturn, 1) := by decide +kernel
theorem dX12_field_104 : decode cX12_field 104 = .ok (.aload_n 0, 1) := by decide +kernel
theorem dX12_field_105 : decode cX12_field 105 = .ok (.iconst 0, 1) := by decide +kernel
theorem dX12_field_106 : decode cX12_field 106 = .ok (.putfield 1, 3) := by decide +kernel
theorem dX12_field_109 : decode cX12_field 109 = .ok (.aload_n 0, 1) := by decide +kernel
theorem dX12_field_110 : decode cX12_field 110 = .ok (.getfield 536, 3) := by decide +kernel
theorem dX12_field_113 : decode cX12_field 113 = .ok (.aload_n 0, 1) := by decide +kernel
theorem dX12_field_114 : decode cX12_field 114 = .ok (.getfield 390, 3) := by decide +kernel
theorem dX12_field_117 : decode cX12_field 117 = .ok (.iload 4, 2) := by decide +kernel
theorem dX12_field_119 : decode cX12_field 119 = .ok (.iaload, 1) := by decide +kernel
theorem dX12_field_120 : decode cX12_field 120 = .ok (.aload_n 0, 1) := by decide +kernel
theorem dX12_field_121 : decode cX12_field 121 = .ok (.getfield 251, 3) := by decide +kernel
theorem dX12_field_124 : decode cX12_field 124 = .ok (.iload 6, 2) := by decide +kernel
theorem dX12_field_126 : decode cX12_field 126 = .ok (.iaload, 1) := by decide +kernel
theorem dX12_field_127 : decode cX12_field 127 = .ok (.iadd, 1) := by decide +kernel
theorem dX12_field_128 : decode cX12_field 128 = .ok (.iload_n 3, 1) := by decide +kernel
theorem dX12_field_129 : decode cX12_field 129 = .ok (.iadd, 1) := by decide +kernel
theorem dX12_field_130 : decode cX12_field 130 = .ok (.laload, 1) := by decide +kernel
theorem dX12_field_131 : decode cX12_field 131 = .ok (.lreturn, 1) := by decide +kernel
abbrev cX12_trace : ByteArray := prog_14_method_121_code
def yX12_trace : MethodName := ⟨RX12, "trace", "(IIZ)Z"⟩
theorem dX12_trace_0 : decode cX12_trace 0 = .ok (.aload_n 0, 1) := by decide +kernel
theorem dX12_trace_1 : decode cX12_trace 1 = .ok (.iload_n 1, 1) := by decide +kernel
theorem dX12_trace_2 : decode cX12_trace 2 = .ok (.iload_n 2, 1) := by decide +kernel
theorem dX12_trace_3 : decode cX12_trace 3 = .ok (.invokevirtual 748, 3) := by decide +kernel
theorem dX12_trace_6 : decode cX12_trace 6 = .ok (.ifCond .ne 5, 3) := by decide +kernel
theorem dX12_trace_9 : decode cX12_trace 9 = .ok (.iconst 0, 1) := by decide +kernel
theorem dX12_trace_10 : decode cX12_trace 10 = .ok (.ireturn, 1) := by decide +kernel
theorem dX12_trace_11 : decode cX12_trace 11 = .ok (.iconst 0, 1) := by decide +kernel
theorem dX12_trace_12 : decode cX12_trace 12 = .ok (.istore 4, 2) := by decide +kernel
theorem dX12_trace_14 : decode cX12_trace 14 = .ok (.iload 4, 2) := by decide +kernel
theorem dX12_trace_16 : decode cX12_trace 16 = .ok (.aload_n 0, 1) := by decide +kernel
theorem dX12_trace_17 : decode cX12_trace 17 = .ok (.getfield 668, 3) := by decide +kernel
theorem dX12_trace_20 : decode cX12_trace 20 = .ok (.if_icmp .ge 31, 3) := by decide +kernel
theorem dX12_trace_23 : decode cX12_trace 23 = .ok (.aload_n 0, 1) := by decide +kernel
theorem dX12_trace_24 : decode cX12_trace 24 = .ok (.getfield 671, 3) := by decide +kernel
theorem dX12_trace_27 : decode cX12_trace 27 = .ok (.iload 4, 2) := by decide +kernel
theorem dX12_trace_29 : decode cX12_trace 29 = .ok (.iaload, 1) := by decide +kernel
theorem dX12_trace_30 : decode cX12_trace 30 = .ok (.iload_n 1, 1) := by decide +kernel
theorem dX12_trace_31 : decode cX12_trace 31 = .ok (.if_icmp .ne 14, 3) := by decide +kernel
theorem dX12_trace_34 : decode cX12_trace 34 = .ok (.aload_n 0, 1) := by decide +kernel
theorem dX12_trace_35 : decode cX12_trace 35 = .ok (.getfield 674, 3) := by decide +kernel
theorem dX12_trace_38 : decode cX12_trace 38 = .ok (.iload 4, 2) := by decide +kernel
theorem dX12_trace_40 : decode cX12_trace 40 = .ok (.iaload, 1) := by decide +kernel
theorem dX12_trace_41 : decode cX12_trace 41 = .ok (.iload_n 2, 1) := by decide +kernel
theorem dX12_trace_42 : decode cX12_trace 42 = .ok (.if_icmp .eq 9, 3) := by decide +kernel
theorem dX12_trace_45 : decode cX12_trace 45 = .ok (.iinc 4 1, 3) := by decide +kernel
theorem dX12_trace_48 : decode cX12_trace 48 = .ok (.goto (-34), 3) := by decide +kernel
theorem dX12_trace_51 : decode cX12_trace 51 = .ok (.iload 4, 2) := by decide +kernel
theorem dX12_trace_53 : decode cX12_trace 53 = .ok (.aload_n 0, 1) := by decide +kernel
theorem dX12_trace_54 : decode cX12_trace 54 = .ok (.getfield 668, 3) := by decide +kernel
theorem dX12_trace_57 : decode cX12_trace 57 = .ok (.if_icmp .ge 7, 3) := by decide +kernel
theorem dX12_trace_60 : decode cX12_trace 60 = .ok (.iconst 1, 1) := by decide +kernel
theorem dX12_trace_61 : decode cX12_trace 61 = .ok (.goto 4, 3) := by decide +kernel
theorem dX12_trace_64 : decode cX12_trace 64 = .ok (.iconst 0, 1) := by decide +kernel
theorem dX12_trace_65 : decode cX12_trace 65 = .ok (.istore 5, 2) := by decide +kernel
theorem dX12_trace_67 : decode cX12_trace 67 = .ok (.iload_n 3, 1) := by decide +kernel
theorem dX12_trace_68 : decode cX12_trace 68 = .ok (.ifCond .eq 22, 3) := by decide +kernel
theorem dX12_trace_71 : decode cX12_trace 71 = .ok (.iload 5, 2) := by decide +kernel
theorem dX12_trace_73 : decode cX12_trace 73 = .ok (.ifCond .ne 17, 3) := by decide +kernel
theorem dX12_trace_76 : decode cX12_trace 76 = .ok (.aload_n 0, 1) := by decide +kernel
theorem dX12_trace_77 : decode cX12_trace 77 = .ok (.getfield 668, 3) := by decide +kernel
theorem dX12_trace_80 : decode cX12_trace 80 = .ok (.bipush 16, 2) := by decide +kernel
theorem dX12_trace_82 : decode cX12_trace 82 = .ok (.if_icmp .ne 8, 3) := by decide +kernel
theorem dX12_trace_85 : decode cX12_trace 85 = .ok (.aload_n 0, 1) := by decide +kernel
theorem dX12_trace_86 : decode cX12_trace 86 = .ok (.iconst 2, 1) := by decide +kernel
theorem dX12_trace_87 : decode cX12_trace 87 = .ok (.putfield 1, 3) := by decide +kernel
theorem dX12_trace_90 : decode cX12_trace 90 = .ok (.aload_n 0, 1) := by decide +kernel
theorem dX12_trace_91 : decode cX12_trace 91 = .ok (.getfield 1, 3) := by decide +kernel
theorem dX12_trace_94 : decode cX12_trace 94 = .ok (.ifCond .gt 9, 3) := by decide +kernel
theorem dX12_trace_97 : decode cX12_trace 97 = .ok (.iload_n 3, 1) := by decide +kernel
theorem dX12_trace_98 : decode cX12_trace 98 = .ok (.iload 5, 2) := by decide +kernel
theorem dX12_trace_100 : decode cX12_trace 100 = .ok (.if_icmp .ne 5, 3) := by decide +kernel
theorem dX12_trace_103 : decode cX12_trace 103 = .ok (.iconst 0, 1) := by decide +kernel
theorem dX12_trace_104 : decode cX12_trace 104 = .ok (.ireturn, 1) := by decide +kernel
theorem dX12_trace_105 : decode cX12_trace 105 = .ok (.iload_n 3, 1) := by decide +kernel
theorem dX12_trace_106 : decode cX12_trace 106 = .ok (.ifCond .eq 44, 3) := by decide +kernel
theorem dX12_trace_109 : decode cX12_trace 109 = .ok (.aload_n 0, 1) := by decide +kernel
theorem dX12_trace_110 : decode cX12_trace 110 = .ok (.getfield 671, 3) := by decide +kernel
theorem dX12_trace_113 : decode cX12_trace 113 = .ok (.iload 4, 2) := by decide +kernel
theorem dX12_trace_115 : decode cX12_trace 115 = .ok (.iload_n 1, 1) := by decide +kernel
theorem dX12_trace_116 : decode cX12_trace 116 = .ok (.iastore, 1) := by decide +kernel
theorem dX12_trace_117 : decode cX12_trace 117 = .ok (.aload_n 0, 1) := by decide +kernel
theorem dX12_trace_118 : decode cX12_trace 118 = .ok (.getfield 674, 3) := by decide +kernel
theorem dX12_trace_121 : decode cX12_trace 121 = .ok (.iload 4, 2) := by decide +kernel
theorem dX12_trace_123 : decode cX12_trace 123 = .ok (.iload_n 2, 1) := by decide +kernel
theorem dX12_trace_124 : decode cX12_trace 124 = .ok (.iastore, 1) := by decide +kernel
theorem dX12_trace_125 : decode cX12_trace 125 = .ok (.aload_n 0, 1) := by decide +kernel
theorem dX12_trace_126 : decode cX12_trace 126 = .ok (.getfield 680, 3) := by decide +kernel
theorem dX12_trace_129 : decode cX12_trace 129 = .ok (.iload 4, 2) := by decide +kernel
theorem dX12_trace_131 : decode cX12_trace 131 = .ok (.aload_n 0, 1) := by decide +kernel
theorem dX12_trace_132 : decode cX12_trace 132 = .ok (.iload_n 1, 1) := by decide +kernel
theorem dX12_trace_133 : decode cX12_trace 133 = .ok (.iload_n 2, 1) := by decide +kernel
theorem dX12_trace_134 : decode cX12_trace 134 = .ok (.invokevirtual 677, 3) := by decide +kernel
theorem dX12_trace_137 : decode cX12_trace 137 = .ok (.lastore, 1) := by decide +kernel
theorem dX12_trace_138 : decode cX12_trace 138 = .ok (.aload_n 0, 1) := by decide +kernel
theorem dX12_trace_139 : decode cX12_trace 139 = .ok (.dup, 1) := by decide +kernel
theorem dX12_trace_140 : decode cX12_trace 140 = .ok (.getfield 668, 3) := by decide +kernel
theorem dX12_trace_143 : decode cX12_trace 143 = .ok (.iconst 1, 1) := by decide +kernel
theorem dX12_trace_144 : decode cX12_trace 144 = .ok (.iadd, 1) := by decide +kernel
theorem dX12_trace_145 : decode cX12_trace 145 = .ok (.putfield 668, 3) := by decide +kernel
theorem dX12_trace_148 : decode cX12_trace 148 = .ok (.iconst 1, 1) := by decide +kernel
theorem dX12_trace_149 : decode cX12_trace 149 = .ok (.ireturn, 1) := by decide +kernel
theorem dX12_trace_150 : decode cX12_trace 150 = .ok (.aload_n 0, 1) := by decide +kernel
theorem dX12_trace_151 : decode cX12_trace 151 = .ok (.dup, 1) := by decide +kernel
theorem dX12_trace_152 : decode cX12_trace 152 = .ok (.getfield 668, 3) := by decide +kernel
theorem dX12_trace_155 : decode cX12_trace 155 = .ok (.iconst 1, 1) := by decide +kernel
theorem dX12_trace_156 : decode cX12_trace 156 = .ok (.isub, 1) := by decide +kernel
theorem dX12_trace_157 : decode cX12_trace 157 = .ok (.putfield 668, 3) := by decide +kernel
theorem dX12_trace_160 : decode cX12_trace 160 = .ok (.iload 4, 2) := by decide +kernel
theorem dX12_trace_162 : decode cX12_trace 162 = .ok (.istore 6, 2) := by decide +kernel
theorem dX12_trace_164 : decode cX12_trace 164 = .ok (.iload 6, 2) := by decide +kernel
theorem dX12_trace_166 : decode cX12_trace 166 = .ok (.aload_n 0, 1) := by decide +kernel
theorem dX12_trace_167 : decode cX12_trace 167 = .ok (.getfield 668, 3) := by decide +kernel
theorem dX12_trace_170 : decode cX12_trace 170 = .ok (.if_icmp .ge 57, 3) := by decide +kernel
theorem dX12_trace_173 : decode cX12_trace 173 = .ok (.aload_n 0, 1) := by decide +kernel
theorem dX12_trace_174 : decode cX12_trace 174 = .ok (.getfield 671, 3) := by decide +kernel
theorem dX12_trace_177 : decode cX12_trace 177 = .ok (.iload 6, 2) := by decide +kernel
theorem dX12_trace_179 : decode cX12_trace 179 = .ok (.aload_n 0, 1) := by decide +kernel
theorem dX12_trace_180 : decode cX12_trace 180 = .ok (.getfield 671, 3) := by decide +kernel
theorem dX12_trace_183 : decode cX12_trace 183 = .ok (.iload 6, 2) := by decide +kernel
theorem dX12_trace_185 : decode cX12_trace 185 = .ok (.iconst 1, 1) := by decide +kernel
theorem dX12_trace_186 : decode cX12_trace 186 = .ok (.iadd, 1) := by decide +kernel
theorem dX12_trace_187 : decode cX12_trace 187 = .ok (.iaload, 1) := by decide +kernel
theorem dX12_trace_188 : decode cX12_trace 188 = .ok (.iastore, 1) := by decide +kernel
theorem dX12_trace_189 : decode cX12_trace 189 = .ok (.aload_n 0, 1) := by decide +kernel
theorem dX12_trace_190 : decode cX12_trace 190 = .ok (.getfield 674, 3) := by decide +kernel
theorem dX12_trace_193 : decode cX12_trace 193 = .ok (.iload 6, 2) := by decide +kernel
theorem dX12_trace_195 : decode cX12_trace 195 = .ok (.aload_n 0, 1) := by decide +kernel
theorem dX12_trace_196 : decode cX12_trace 196 = .ok (.getfield 674, 3) := by decide +kernel
theorem dX12_trace_199 : decode cX12_trace 199 = .ok (.iload 6, 2) := by decide +kernel
theorem dX12_trace_201 : decode cX12_trace 201 = .ok (.iconst 1, 1) := by decide +kernel
theorem dX12_trace_202 : decode cX12_trace 202 = .ok (.iadd, 1) := by decide +kernel
theorem dX12_trace_203 : decode cX12_trace 203 = .ok (.iaload, 1) := by decide +kernel
theorem dX12_trace_204 : decode cX12_trace 204 = .ok (.iastore, 1) := by decide +kernel
theorem dX12_trace_205 : decode cX12_trace 205 = .ok (.aload_n 0, 1) := by decide +kernel
theorem dX12_trace_206 : decode cX12_trace 206 = .ok (.getfield 680, 3) := by decide +kernel
theorem dX12_trace_209 : decode cX12_trace 209 = .ok (.iload 6, 2) := by decide +kernel
theorem dX12_trace_211 : decode cX12_trace 211 = .ok (.aload_n 0, 1) := by decide +kernel
theorem dX12_trace_212 : decode cX12_trace 212 = .ok (.getfield 680, 3) := by decide +kernel
theorem dX12_trace_215 : decode cX12_trace 215 = .ok (.iload 6, 2) := by decide +kernel
theorem dX12_trace_217 : decode cX12_trace 217 = .ok (.iconst 1, 1) := by decide +kernel
theorem dX12_trace_218 : decode cX12_trace 218 = .ok (.iadd, 1) := by decide +kernel
theorem dX12_trace_219 : decode cX12_trace 219 = .ok (.laload, 1) := by decide +kernel
theorem dX12_trace_220 : decode cX12_trace 220 = .ok (.lastore, 1) := by decide +kernel
theorem dX12_trace_221 : decode cX12_trace 221 = .ok (.iinc 6 1, 3) := by decide +kernel
theorem dX12_trace_224 : decode cX12_trace 224 = .ok (.goto (-60), 3) := by decide +kernel
theorem dX12_trace_227 : decode cX12_trace 227 = .ok (.iconst 1, 1) := by decide +kernel
theorem dX12_trace_228 : decode cX12_trace 228 = .ok (.ireturn, 1) := by decide +kernel
abbrev cX12_event : ByteArray := prog_14_method_122_code
def yX12_event : MethodName := ⟨RX12, "event", "(II)J"⟩
theorem dX12_event_0 : decode cX12_event 0 = .ok (.aload_n 0, 1) := by decide +kernel
theorem dX12_event_1 : decode cX12_event 1 = .ok (.iload_n 1, 1) := by decide +kernel
theorem dX12_event_2 : decode cX12_event 2 = .ok (.iconst 0, 1) := by decide +kernel
theorem dX12_event_3 : decode cX12_event 3 = .ok (.aload_n 0, 1) := by decide +kernel
theorem dX12_event_4 : decode cX12_event 4 = .ok (.getfield 695, 3) := by decide +kernel
theorem dX12_event_7 : decode cX12_event 7 = .ok (.iconst 1, 1) := by decide +kernel
theorem dX12_event_8 : decode cX12_event 8 = .ok (.isub, 1) := by decide +kernel
theorem dX12_event_9 : decode cX12_event 9 = .ok (.invokestatic 732, 3) := by decide +kernel
theorem dX12_event_12 : decode cX12_event 12 = .ok (.ifCond .ne 7, 3) := by decide +kernel
theorem dX12_event_15 : decode cX12_event 15 = .ok (.iconst 1, 1) := by decide +kernel
theorem dX12_event_16 : decode cX12_event 16 = .ok (.goto 17, 3) := by decide +kernel
theorem dX12_event_19 : decode cX12_event 19 = .ok (.iload_n 2, 1) := by decide +kernel
theorem dX12_event_20 : decode cX12_event 20 = .ok (.iconst 0, 1) := by decide +kernel
theorem dX12_event_21 : decode cX12_event 21 = .ok (.iconst 3, 1) := by decide +kernel
theorem dX12_event_22 : decode cX12_event 22 = .ok (.invokestatic 732, 3) := by decide +kernel
theorem dX12_event_25 : decode cX12_event 25 = .ok (.ifCond .ne 7, 3) := by decide +kernel
theorem dX12_event_28 : decode cX12_event 28 = .ok (.iconst 2, 1) := by decide +kernel
theorem dX12_event_29 : decode cX12_event 29 = .ok (.goto 4, 3) := by decide +kernel
theorem dX12_event_32 : decode cX12_event 32 = .ok (.iconst 0, 1) := by decide +kernel
theorem dX12_event_33 : decode cX12_event 33 = .ok (.putfield 1, 3) := by decide +kernel
theorem dX12_event_36 : decode cX12_event 36 = .ok (.aload_n 0, 1) := by decide +kernel
theorem dX12_event_37 : decode cX12_event 37 = .ok (.getfield 1, 3) := by decide +kernel
theorem dX12_event_40 : decode cX12_event 40 = .ok (.ifCond .le 5, 3) := by decide +kernel
theorem dX12_event_43 : decode cX12_event 43 = .ok (.lconst 0, 1) := by decide +kernel
theorem dX12_event_44 : decode cX12_event 44 = .ok (.lreturn, 1) := by decide +kernel
theorem dX12_event_45 : decode cX12_event 45 = .ok (.iload_n 2, 1) := by decide +kernel
theorem dX12_event_46 : decode cX12_event 46 = .ok (.ifCond .ne 13, 3) := by decide +kernel
theorem dX12_event_49 : decode cX12_event 49 = .ok (.aload_n 0, 1) := by decide +kernel
theorem dX12_event_50 : decode cX12_event 50 = .ok (.getfield 683, 3) := by decide +kernel
theorem dX12_event_53 : decode cX12_event 53 = .ok (.iload_n 1, 1) := by decide +kernel
theorem dX12_event_54 : decode cX12_event 54 = .ok (.iaload, 1) := by decide +kernel
theorem dX12_event_55 : decode cX12_event 55 = .ok (.i2l, 1) := by decide +kernel
theorem dX12_event_56 : decode cX12_event 56 = .ok (.goto 39, 3) := by decide +kernel
theorem dX12_event_59 : decode cX12_event 59 = .ok (.iload_n 2, 1) := by decide +kernel
theorem dX12_event_60 : decode cX12_event 60 = .ok (.iconst 1, 1) := by decide +kernel
theorem dX12_event_61 : decode cX12_event 61 = .ok (.if_icmp .ne 13, 3) := by decide +kernel
theorem dX12_event_64 : decode cX12_event 64 = .ok (.aload_n 0, 1) := by decide +kernel
theorem dX12_event_65 : decode cX12_event 65 = .ok (.getfield 686, 3) := by decide +kernel
theorem dX12_event_68 : decode cX12_event 68 = .ok (.iload_n 1, 1) := by decide +kernel
theorem dX12_event_69 : decode cX12_event 69 = .ok (.iaload, 1) := by decide +kernel
theorem dX12_event_70 : decode cX12_event 70 = .ok (.i2l, 1) := by decide +kernel
theorem dX12_event_71 : decode cX12_event 71 = .ok (.goto 24, 3) := by decide +kernel
theorem dX12_event_74 : decode cX12_event 74 = .ok (.iload_n 2, 1) := by decide +kernel
theorem dX12_event_75 : decode cX12_event 75 = .ok (.iconst 2, 1) := by decide +kernel
theorem dX12_event_76 : decode cX12_event 76 = .ok (.if_icmp .ne 13, 3) := by decide +kernel
theorem dX12_event_79 : decode cX12_event 79 = .ok (.aload_n 0, 1) := by decide +kernel
theorem dX12_event_80 : decode cX12_event 80 = .ok (.getfield 689, 3) := by decide +kernel
theorem dX12_event_83 : decode cX12_event 83 = .ok (.iload_n 1, 1) := by decide +kernel
theorem dX12_event_84 : decode cX12_event 84 = .ok (.iaload, 1) := by decide +kernel
theorem dX12_event_85 : decode cX12_event 85 = .ok (.i2l, 1) := by decide +kernel
theorem dX12_event_86 : decode cX12_event 86 = .ok (.goto 9, 3) := by decide +kernel
theorem dX12_event_89 : decode cX12_event 89 = .ok (.aload_n 0, 1) := by decide +kernel
theorem dX12_event_90 : decode cX12_event 90 = .ok (.getfield 692, 3) := by decide +kernel
theorem dX12_event_93 : decode cX12_event 93 = .ok (.iload_n 1, 1) := by decide +kernel
theorem dX12_event_94 : decode cX12_event 94 = .ok (.laload, 1) := by decide +kernel
theorem dX12_event_95 : decode cX12_event 95 = .ok (.lreturn, 1) := by decide +kernel
abbrev cX12_count : ByteArray := prog_14_method_123_code
def yX12_count : MethodName := ⟨RX12, "count", "(I)I"⟩
theorem dX12_count_0 : decode cX12_count 0 = .ok (.aload_n 0, 1) := by decide +kernel
theorem dX12_count_1 : decode cX12_count 1 = .ok (.iload_n 1, 1) := by decide +kernel
theorem dX12_count_2 : decode cX12_count 2 = .ok (.iconst 0, 1) := by decide +kernel
theorem dX12_count_3 : decode cX12_count 3 = .ok (.bipush 10, 2) := by decide +kernel
theorem dX12_count_5 : decode cX12_count 5 = .ok (.invokestatic 732, 3) := by decide +kernel
theorem dX12_count_8 : decode cX12_count 8 = .ok (.ifCond .eq 7, 3) := by decide +kernel
theorem dX12_count_11 : decode cX12_count 11 = .ok (.iconst 0, 1) := by decide +kernel
theorem dX12_count_12 : decode cX12_count 12 = .ok (.goto 4, 3) := by decide +kernel
theorem dX12_count_15 : decode cX12_count 15 = .ok (.iconst 1, 1) := by decide +kernel
theorem dX12_count_16 : decode cX12_count 16 = .ok (.putfield 1, 3) := by decide +kernel
theorem dX12_count_19 : decode cX12_count 19 = .ok (.iconst 0, 1) := by decide +kernel
theorem dX12_count_20 : decode cX12_count 20 = .ok (.istore_n 2, 1) := by decide +kernel
theorem dX12_count_21 : decode cX12_count 21 = .ok (.iconst 0, 1) := by decide +kernel
theorem dX12_count_22 : decode cX12_count 22 = .ok (.istore_n 3, 1) := by decide +kernel
theorem dX12_count_23 : decode cX12_count 23 = .ok (.iload_n 3, 1) := by decide +kernel
theorem dX12_count_24 : decode cX12_count 24 = .ok (.aload_n 0, 1) := by decide +kernel
theorem dX12_count_25 : decode cX12_count 25 = .ok (.getfield 399, 3) := by decide +kernel
theorem dX12_count_28 : decode cX12_count 28 = .ok (.aload_n 0, 1) := by decide +kernel
theorem dX12_count_29 : decode cX12_count 29 = .ok (.getfield 581, 3) := by decide +kernel
theorem dX12_count_32 : decode cX12_count 32 = .ok (.iaload, 1) := by decide +kernel
theorem dX12_count_33 : decode cX12_count 33 = .ok (.if_icmp .ge 26, 3) := by decide +kernel
theorem dX12_count_36 : decode cX12_count 36 = .ok (.iload_n 2, 1) := by decide +kernel
theorem dX12_count_37 : decode cX12_count 37 = .ok (.aload_n 0, 1) := by decide +kernel
theorem dX12_count_38 : decode cX12_count 38 = .ok (.getfield 638, 3) := by decide +kernel
theorem dX12_count_41 : decode cX12_count 41 = .ok (.iload_n 3, 1) := by decide +kernel
theorem dX12_count_42 : decode cX12_count 42 = .ok (.baload, 1) := by decide +kernel
theorem dX12_count_43 : decode cX12_count 43 = .ok (.ifCond .eq 7, 3) := by decide +kernel
theorem dX12_count_46 : decode cX12_count 46 = .ok (.iconst 1, 1) := by decide +kernel
theorem dX12_count_47 : decode cX12_count 47 = .ok (.goto 4, 3) := by decide +kernel
theorem dX12_count_50 : decode cX12_count 50 = .ok (.iconst 0, 1) := by decide +kernel
theorem dX12_count_51 : decode cX12_count 51 = .ok (.iadd, 1) := by decide +kernel
theorem dX12_count_52 : decode cX12_count 52 = .ok (.istore_n 2, 1) := by decide +kernel
theorem dX12_count_53 : decode cX12_count 53 = .ok (.iinc 3 1, 3) := by decide +kernel
theorem dX12_count_56 : decode cX12_count 56 = .ok (.goto (-33), 3) := by decide +kernel
theorem dX12_count_59 : decode cX12_count 59 = .ok (.iload_n 1, 1) := by decide +kernel
theorem dX12_count_60 : decode cX12_count 60 = .ok (.tableswitch 137 0 10 #[60, 70, 80, 90, 100, 110, 115, 117, 122, 127, 132], 60) := by decide +kernel
theorem dX12_count_120 : decode cX12_count 120 = .ok (.aload_n 0, 1) := by decide +kernel
theorem dX12_count_121 : decode cX12_count 121 = .ok (.getfield 266, 3) := by decide +kernel
theorem dX12_count_124 : decode cX12_count 124 = .ok (.aload_n 0, 1) := by decide +kernel
theorem dX12_count_125 : decode cX12_count 125 = .ok (.getfield 581, 3) := by decide +kernel
theorem dX12_count_128 : decode cX12_count 128 = .ok (.iaload, 1) := by decide +kernel
theorem dX12_count_129 : decode cX12_count 129 = .ok (.ireturn, 1) := by decide +kernel
theorem dX12_count_130 : decode cX12_count 130 = .ok (.aload_n 0, 1) := by decide +kernel
theorem dX12_count_131 : decode cX12_count 131 = .ok (.getfield 384, 3) := by decide +kernel
theorem dX12_count_134 : decode cX12_count 134 = .ok (.aload_n 0, 1) := by decide +kernel
theorem dX12_count_135 : decode cX12_count 135 = .ok (.getfield 581, 3) := by decide +kernel
theorem dX12_count_138 : decode cX12_count 138 = .ok (.iaload, 1) := by decide +kernel
theorem dX12_count_139 : decode cX12_count 139 = .ok (.ireturn, 1) := by decide +kernel
theorem dX12_count_140 : decode cX12_count 140 = .ok (.aload_n 0, 1) := by decide +kernel
theorem dX12_count_141 : decode cX12_count 141 = .ok (.getfield 399, 3) := by decide +kernel
theorem dX12_count_144 : decode cX12_count 144 = .ok (.aload_n 0, 1) := by decide +kernel
theorem dX12_count_145 : decode cX12_count 145 = .ok (.getfield 581, 3) := by decide +kernel
theorem dX12_count_148 : decode cX12_count 148 = .ok (.iaload, 1) := by decide +kernel
theorem dX12_count_149 : decode cX12_count 149 = .ok (.ireturn, 1) := by decide +kernel
theorem dX12_count_150 : decode cX12_count 150 = .ok (.aload_n 0, 1) := by decide +kernel
theorem dX12_count_151 : decode cX12_count 151 = .ok (.getfield 343, 3) := by decide +kernel
theorem dX12_count_154 : decode cX12_count 154 = .ok (.aload_n 0, 1) := by decide +kernel
theorem dX12_count_155 : decode cX12_count 155 = .ok (.getfield 581, 3) := by decide +kernel
theorem dX12_count_158 : decode cX12_count 158 = .ok (.iaload, 1) := by decide +kernel
theorem dX12_count_159 : decode cX12_count 159 = .ok (.ireturn, 1) := by decide +kernel
theorem dX12_count_160 : decode cX12_count 160 = .ok (.aload_n 0, 1) := by decide +kernel
theorem dX12_count_161 : decode cX12_count 161 = .ok (.getfield 340, 3) := by decide +kernel
theorem dX12_count_164 : decode cX12_count 164 = .ok (.aload_n 0, 1) := by decide +kernel
theorem dX12_count_165 : decode cX12_count 165 = .ok (.getfield 581, 3) := by decide +kernel
theorem dX12_count_168 : decode cX12_count 168 = .ok (.iaload, 1) := by decide +kernel
theorem dX12_count_169 : decode cX12_count 169 = .ok (.ireturn, 1) := by decide +kernel
theorem dX12_count_170 : decode cX12_count 170 = .ok (.aload_n 0, 1) := by decide +kernel
theorem dX12_count_171 : decode cX12_count 171 = .ok (.getfield 599, 3) := by decide +kernel
theorem dX12_count_174 : decode cX12_count 174 = .ok (.ireturn, 1) := by decide +kernel
theorem dX12_count_175 : decode cX12_count 175 = .ok (.iload_n 2, 1) := by decide +kernel
theorem dX12_count_176 : decode cX12_count 176 = .ok (.ireturn, 1) := by decide +kernel
theorem dX12_count_177 : decode cX12_count 177 = .ok (.aload_n 0, 1) := by decide +kernel
theorem dX12_count_178 : decode cX12_count 178 = .ok (.getfield 668, 3) := by decide +kernel
theorem dX12_count_181 : decode cX12_count 181 = .ok (.ireturn, 1) := by decide +kernel
theorem dX12_count_182 : decode cX12_count 182 = .ok (.aload_n 0, 1) := by decide +kernel
theorem dX12_count_183 : decode cX12_count 183 = .ok (.getfield 695, 3) := by decide +kernel
theorem dX12_count_186 : decode cX12_count 186 = .ok (.ireturn, 1) := by decide +kernel
theorem dX12_count_187 : decode cX12_count 187 = .ok (.aload_n 0, 1) := by decide +kernel
theorem dX12_count_188 : decode cX12_count 188 = .ok (.getfield 7, 3) := by decide +kernel
theorem dX12_count_191 : decode cX12_count 191 = .ok (.ireturn, 1) := by decide +kernel
theorem dX12_count_192 : decode cX12_count 192 = .ok (.aload_n 0, 1) := by decide +kernel
theorem dX12_count_193 : decode cX12_count 193 = .ok (.getfield 596, 3) := by decide +kernel
theorem dX12_count_196 : decode cX12_count 196 = .ok (.ireturn, 1) := by decide +kernel
theorem dX12_count_197 : decode cX12_count 197 = .ok (.iconst 0, 1) := by decide +kernel
theorem dX12_count_198 : decode cX12_count 198 = .ok (.ireturn, 1) := by decide +kernel
abbrev cX12_sum : ByteArray := prog_14_method_124_code
def yX12_sum : MethodName := ⟨RX12, "sum", "()J"⟩
theorem dX12_sum_0 : decode cX12_sum 0 = .ok (.aload_n 0, 1) := by decide +kernel
theorem dX12_sum_1 : decode cX12_sum 1 = .ok (.iconst 0, 1) := by decide +kernel
theorem dX12_sum_2 : decode cX12_sum 2 = .ok (.putfield 1, 3) := by decide +kernel
theorem dX12_sum_5 : decode cX12_sum 5 = .ok (.lconst 0, 1) := by decide +kernel
theorem dX12_sum_6 : decode cX12_sum 6 = .ok (.lstore_n 1, 1) := by decide +kernel
theorem dX12_sum_7 : decode cX12_sum 7 = .ok (.iconst 0, 1) := by decide +kernel
theorem dX12_sum_8 : decode cX12_sum 8 = .ok (.istore_n 3, 1) := by decide +kernel
theorem dX12_sum_9 : decode cX12_sum 9 = .ok (.iload_n 3, 1) := by decide +kernel
theorem dX12_sum_10 : decode cX12_sum 10 = .ok (.aload_n 0, 1) := by decide +kernel
theorem dX12_sum_11 : decode cX12_sum 11 = .ok (.getfield 266, 3) := by decide +kernel
theorem dX12_sum_14 : decode cX12_sum 14 = .ok (.aload_n 0, 1) := by decide +kernel
theorem dX12_sum_15 : decode cX12_sum 15 = .ok (.getfield 581, 3) := by decide +kernel
theorem dX12_sum_18 : decode cX12_sum 18 = .ok (.iaload, 1) := by decide +kernel
theorem dX12_sum_19 : decode cX12_sum 19 = .ok (.if_icmp .ge 52, 3) := by decide +kernel
theorem dX12_sum_22 : decode cX12_sum 22 = .ok (.iconst 0, 1) := by decide +kernel
theorem dX12_sum_23 : decode cX12_sum 23 = .ok (.istore 4, 2) := by decide +kernel
theorem dX12_sum_25 : decode cX12_sum 25 = .ok (.iload 4, 2) := by decide +kernel
theorem dX12_sum_27 : decode cX12_sum 27 = .ok (.aload_n 0, 1) := by decide +kernel
theorem dX12_sum_28 : decode cX12_sum 28 = .ok (.getfield 275, 3) := by decide +kernel
theorem dX12_sum_31 : decode cX12_sum 31 = .ok (.sipush 160, 3) := by decide +kernel
theorem dX12_sum_34 : decode cX12_sum 34 = .ok (.aload_n 0, 1) := by decide +kernel
theorem dX12_sum_35 : decode cX12_sum 35 = .ok (.getfield 581, 3) := by decide +kernel
theorem dX12_sum_38 : decode cX12_sum 38 = .ok (.imul, 1) := by decide +kernel
theorem dX12_sum_39 : decode cX12_sum 39 = .ok (.iload_n 3, 1) := by decide +kernel
theorem dX12_sum_40 : decode cX12_sum 40 = .ok (.iadd, 1) := by decide +kernel
theorem dX12_sum_41 : decode cX12_sum 41 = .ok (.iaload, 1) := by decide +kernel
theorem dX12_sum_42 : decode cX12_sum 42 = .ok (.if_icmp .ge 23, 3) := by decide +kernel
theorem dX12_sum_45 : decode cX12_sum 45 = .ok (.ldc2_w 545, 3) := by decide +kernel
theorem dX12_sum_48 : decode cX12_sum 48 = .ok (.lload_n 1, 1) := by decide +kernel
theorem dX12_sum_49 : decode cX12_sum 49 = .ok (.lmul, 1) := by decide +kernel
theorem dX12_sum_50 : decode cX12_sum 50 = .ok (.aload_n 0, 1) := by decide +kernel
theorem dX12_sum_51 : decode cX12_sum 51 = .ok (.iload_n 3, 1) := by decide +kernel
theorem dX12_sum_52 : decode cX12_sum 52 = .ok (.iload 4, 2) := by decide +kernel
theorem dX12_sum_54 : decode cX12_sum 54 = .ok (.invokevirtual 677, 3) := by decide +kernel
theorem dX12_sum_57 : decode cX12_sum 57 = .ok (.ladd, 1) := by decide +kernel
theorem dX12_sum_58 : decode cX12_sum 58 = .ok (.lstore_n 1, 1) := by decide +kernel
theorem dX12_sum_59 : decode cX12_sum 59 = .ok (.iinc 4 1, 3) := by decide +kernel
theorem dX12_sum_62 : decode cX12_sum 62 = .ok (.goto (-37), 3) := by decide +kernel
theorem dX12_sum_65 : decode cX12_sum 65 = .ok (.iinc 3 1, 3) := by decide +kernel
theorem dX12_sum_68 : decode cX12_sum 68 = .ok (.goto (-59), 3) := by decide +kernel
theorem dX12_sum_71 : decode cX12_sum 71 = .ok (.bipush 24, 2) := by decide +kernel
theorem dX12_sum_73 : decode cX12_sum 73 = .ok (.aload_n 0, 1) := by decide +kernel
theorem dX12_sum_74 : decode cX12_sum 74 = .ok (.getfield 581, 3) := by decide +kernel
theorem dX12_sum_77 : decode cX12_sum 77 = .ok (.imul, 1) := by decide +kernel
theorem dX12_sum_78 : decode cX12_sum 78 = .ok (.istore_n 3, 1) := by decide +kernel
theorem dX12_sum_79 : decode cX12_sum 79 = .ok (.iload_n 3, 1) := by decide +kernel
theorem dX12_sum_80 : decode cX12_sum 80 = .ok (.bipush 24, 2) := by decide +kernel
theorem dX12_sum_82 : decode cX12_sum 82 = .ok (.aload_n 0, 1) := by decide +kernel
theorem dX12_sum_83 : decode cX12_sum 83 = .ok (.getfield 581, 3) := by decide +kernel
theorem dX12_sum_86 : decode cX12_sum 86 = .ok (.imul, 1) := by decide +kernel
theorem dX12_sum_87 : decode cX12_sum 87 = .ok (.aload_n 0, 1) := by decide +kernel
theorem dX12_sum_88 : decode cX12_sum 88 = .ok (.getfield 384, 3) := by decide +kernel
theorem dX12_sum_91 : decode cX12_sum 91 = .ok (.aload_n 0, 1) := by decide +kernel
theorem dX12_sum_92 : decode cX12_sum 92 = .ok (.getfield 581, 3) := by decide +kernel
theorem dX12_sum_95 : decode cX12_sum 95 = .ok (.iaload, 1) := by decide +kernel
theorem dX12_sum_96 : decode cX12_sum 96 = .ok (.iadd, 1) := by decide +kernel
theorem dX12_sum_97 : decode cX12_sum 97 = .ok (.if_icmp .ge 55, 3) := by decide +kernel
theorem dX12_sum_100 : decode cX12_sum 100 = .ok (.iconst 0, 1) := by decide +kernel
theorem dX12_sum_101 : decode cX12_sum 101 = .ok (.istore 4, 2) := by decide +kernel
theorem dX12_sum_103 : decode cX12_sum 103 = .ok (.iload 4, 2) := by decide +kernel
theorem dX12_sum_105 : decode cX12_sum 105 = .ok (.aload_n 0, 1) := by decide +kernel
theorem dX12_sum_106 : decode cX12_sum 106 = .ok (.getfield 260, 3) := by decide +kernel
theorem dX12_sum_109 : decode cX12_sum 109 = .ok (.aload_n 0, 1) := by decide +kernel
theorem dX12_sum_110 : decode cX12_sum 110 = .ok (.getfield 387, 3) := by decide +kernel
theorem dX12_sum_113 : decode cX12_sum 113 = .ok (.iload_n 3, 1) := by decide +kernel
theorem dX12_sum_114 : decode cX12_sum 114 = .ok (.iaload, 1) := by decide +kernel
theorem dX12_sum_115 : decode cX12_sum 115 = .ok (.iaload, 1) := by decide +kernel
theorem dX12_sum_116 : decode cX12_sum 116 = .ok (.if_icmp .ge 30, 3) := by decide +kernel
theorem dX12_sum_119 : decode cX12_sum 119 = .ok (.ldc2_w 545, 3) := by decide +kernel
theorem dX12_sum_122 : decode cX12_sum 122 = .ok (.lload_n 1, 1) := by decide +kernel
theorem dX12_sum_123 : decode cX12_sum 123 = .ok (.lmul, 1) := by decide +kernel
theorem dX12_sum_124 : decode cX12_sum 124 = .ok (.aload_n 0, 1) := by decide +kernel
theorem dX12_sum_125 : decode cX12_sum 125 = .ok (.getfield 536, 3) := by decide +kernel
theorem dX12_sum_128 : decode cX12_sum 128 = .ok (.aload_n 0, 1) := by decide +kernel
theorem dX12_sum_129 : decode cX12_sum 129 = .ok (.getfield 390, 3) := by decide +kernel
theorem dX12_sum_132 : decode cX12_sum 132 = .ok (.iload_n 3, 1) := by decide +kernel
theorem dX12_sum_133 : decode cX12_sum 133 = .ok (.iaload, 1) := by decide +kernel
theorem dX12_sum_134 : decode cX12_sum 134 = .ok (.iload 4, 2) := by decide +kernel
theorem dX12_sum_136 : decode cX12_sum 136 = .ok (.iadd, 1) := by decide +kernel
theorem dX12_sum_137 : decode cX12_sum 137 = .ok (.laload, 1) := by decide +kernel
theorem dX12_sum_138 : decode cX12_sum 138 = .ok (.ladd, 1) := by decide +kernel
theorem dX12_sum_139 : decode cX12_sum 139 = .ok (.lstore_n 1, 1) := by decide +kernel
theorem dX12_sum_140 : decode cX12_sum 140 = .ok (.iinc 4 1, 3) := by decide +kernel
theorem dX12_sum_143 : decode cX12_sum 143 = .ok (.goto (-40), 3) := by decide +kernel
theorem dX12_sum_146 : decode cX12_sum 146 = .ok (.iinc 3 1, 3) := by decide +kernel
theorem dX12_sum_149 : decode cX12_sum 149 = .ok (.goto (-70), 3) := by decide +kernel
theorem dX12_sum_152 : decode cX12_sum 152 = .ok (.lload_n 1, 1) := by decide +kernel
theorem dX12_sum_153 : decode cX12_sum 153 = .ok (.lreturn, 1) := by decide +kernel
abbrev cX12_areKinds : ByteArray := prog_14_method_125_code
def yX12_areKinds : MethodName := ⟨RX12, "areKinds", "(IIZ)Z"⟩
theorem dX12_areKinds_0 : decode cX12_areKinds 0 = .ok (.aload_n 0, 1) := by decide +kernel
theorem dX12_areKinds_1 : decode cX12_areKinds 1 = .ok (.iload_n 1, 1) := by decide +kernel
theorem dX12_areKinds_2 : decode cX12_areKinds 2 = .ok (.iconst 0, 1) := by decide +kernel
theorem dX12_areKinds_3 : decode cX12_areKinds 3 = .ok (.iconst 4, 1) := by decide +kernel
theorem dX12_areKinds_4 : decode cX12_areKinds 4 = .ok (.invokestatic 732, 3) := by decide +kernel
theorem dX12_areKinds_7 : decode cX12_areKinds 7 = .ok (.ifCond .eq 20, 3) := by decide +kernel
theorem dX12_areKinds_10 : decode cX12_areKinds 10 = .ok (.iload_n 2, 1) := by decide +kernel
theorem dX12_areKinds_11 : decode cX12_areKinds 11 = .ok (.iconst 0, 1) := by decide +kernel
theorem dX12_areKinds_12 : decode cX12_areKinds 12 = .ok (.iconst 4, 1) := by decide +kernel
theorem dX12_areKinds_13 : decode cX12_areKinds 13 = .ok (.invokestatic 732, 3) := by decide +kernel
theorem dX12_areKinds_16 : decode cX12_areKinds 16 = .ok (.ifCond .eq 11, 3) := by decide +kernel
theorem dX12_areKinds_19 : decode cX12_areKinds 19 = .ok (.iload_n 3, 1) := by decide +kernel
theorem dX12_areKinds_20 : decode cX12_areKinds 20 = .ok (.ifCond .eq 7, 3) := by decide +kernel
theorem dX12_areKinds_23 : decode cX12_areKinds 23 = .ok (.iconst 0, 1) := by decide +kernel
theorem dX12_areKinds_24 : decode cX12_areKinds 24 = .ok (.goto 4, 3) := by decide +kernel
theorem dX12_areKinds_27 : decode cX12_areKinds 27 = .ok (.iconst 1, 1) := by decide +kernel
theorem dX12_areKinds_28 : decode cX12_areKinds 28 = .ok (.putfield 1, 3) := by decide +kernel
theorem dX12_areKinds_31 : decode cX12_areKinds 31 = .ok (.aload_n 0, 1) := by decide +kernel
theorem dX12_areKinds_32 : decode cX12_areKinds 32 = .ok (.getfield 1, 3) := by decide +kernel
theorem dX12_areKinds_35 : decode cX12_areKinds 35 = .ok (.ifCond .ne 7, 3) := by decide +kernel
theorem dX12_areKinds_38 : decode cX12_areKinds 38 = .ok (.iconst 1, 1) := by decide +kernel
theorem dX12_areKinds_39 : decode cX12_areKinds 39 = .ok (.goto 4, 3) := by decide +kernel
theorem dX12_areKinds_42 : decode cX12_areKinds 42 = .ok (.iconst 0, 1) := by decide +kernel
theorem dX12_areKinds_43 : decode cX12_areKinds 43 = .ok (.ireturn, 1) := by decide +kernel
abbrev cX12_cut : ByteArray := prog_14_method_126_code
def yX12_cut : MethodName := ⟨RX12, "cut", "(IJ)J"⟩
theorem dX12_cut_0 : decode cX12_cut 0 = .ok (.aload_n 0, 1) := by decide +kernel
theorem dX12_cut_1 : decode cX12_cut 1 = .ok (.iload_n 1, 1) := by decide +kernel
theorem dX12_cut_2 : decode cX12_cut 2 = .ok (.iload_n 1, 1) := by decide +kernel
theorem dX12_cut_3 : decode cX12_cut 3 = .ok (.iconst 1, 1) := by decide +kernel
theorem dX12_cut_4 : decode cX12_cut 4 = .ok (.invokevirtual 751, 3) := by decide +kernel
theorem dX12_cut_7 : decode cX12_cut 7 = .ok (.ifCond .eq 11, 3) := by decide +kernel
theorem dX12_cut_10 : decode cX12_cut 10 = .ok (.iload_n 1, 1) := by decide +kernel
theorem dX12_cut_11 : decode cX12_cut 11 = .ok (.lload_n 2, 1) := by decide +kernel
theorem dX12_cut_12 : decode cX12_cut 12 = .ok (.invokestatic 170, 3) := by decide +kernel
theorem dX12_cut_15 : decode cX12_cut 15 = .ok (.goto 4, 3) := by decide +kernel
theorem dX12_cut_18 : decode cX12_cut 18 = .ok (.lconst 0, 1) := by decide +kernel
theorem dX12_cut_19 : decode cX12_cut 19 = .ok (.lreturn, 1) := by decide +kernel
abbrev cX12_work : ByteArray := prog_14_method_127_code
def yX12_work : MethodName := ⟨RX12, "work", "(IIIJJ)J"⟩
theorem dX12_work_0 : decode cX12_work 0 = .ok (.aload_n 0, 1) := by decide +kernel
theorem dX12_work_1 : decode cX12_work 1 = .ok (.iload_n 2, 1) := by decide +kernel
theorem dX12_work_2 : decode cX12_work 2 = .ok (.iload_n 3, 1) := by decide +kernel
theorem dX12_work_3 : decode cX12_work 3 = .ok (.iload_n 1, 1) := by decide +kernel
theorem dX12_work_4 : decode cX12_work 4 = .ok (.iconst 0, 1) := by decide +kernel
theorem dX12_work_5 : decode cX12_work 5 = .ok (.bipush 10, 2) := by decide +kernel
theorem dX12_work_7 : decode cX12_work 7 = .ok (.invokestatic 732, 3) := by decide +kernel
theorem dX12_work_10 : decode cX12_work 10 = .ok (.invokevirtual 751, 3) := by decide +kernel
theorem dX12_work_13 : decode cX12_work 13 = .ok (.ifCond .ne 5, 3) := by decide +kernel
theorem dX12_work_16 : decode cX12_work 16 = .ok (.lconst 0, 1) := by decide +kernel
theorem dX12_work_17 : decode cX12_work 17 = .ok (.lreturn, 1) := by decide +kernel
theorem dX12_work_18 : decode cX12_work 18 = .ok (.iload_n 1, 1) := by decide +kernel
theorem dX12_work_19 : decode cX12_work 19 = .ok (.ifCond .ne 9, 3) := by decide +kernel
theorem dX12_work_22 : decode cX12_work 22 = .ok (.sipush 240, 3) := by decide +kernel
theorem dX12_work_25 : decode cX12_work 25 = .ok (.goto 109, 3) := by decide +kernel
theorem dX12_work_28 : decode cX12_work 28 = .ok (.iload_n 1, 1) := by decide +kernel
theorem dX12_work_29 : decode cX12_work 29 = .ok (.iconst 1, 1) := by decide +kernel
theorem dX12_work_30 : decode cX12_work 30 = .ok (.if_icmp .ne 9, 3) := by decide +kernel
theorem dX12_work_33 : decode cX12_work 33 = .ok (.sipush 241, 3) := by decide +kernel
theorem dX12_work_36 : decode cX12_work 36 = .ok (.goto 98, 3) := by decide +kernel
theorem dX12_work_39 : decode cX12_work 39 = .ok (.iload_n 1, 1) := by decide +kernel
theorem dX12_work_40 : decode cX12_work 40 = .ok (.iconst 2, 1) := by decide +kernel
theorem dX12_work_41 : decode cX12_work 41 = .ok (.if_icmp .ne 9, 3) := by decide +kernel
theorem dX12_work_44 : decode cX12_work 44 = .ok (.sipush 242, 3) := by decide +kernel
theorem dX12_work_47 : decode cX12_work 47 = .ok (.goto 87, 3) := by decide +kernel
theorem dX12_work_50 : decode cX12_work 50 = .ok (.iload_n 1, 1) := by decide +kernel
theorem dX12_work_51 : decode cX12_work 51 = .ok (.iconst 3, 1) := by decide +kernel
theorem dX12_work_52 : decode cX12_work 52 = .ok (.if_icmp .ne 9, 3) := by decide +kernel
theorem dX12_work_55 : decode cX12_work 55 = .ok (.sipush 243, 3) := by decide +kernel
theorem dX12_work_58 : decode cX12_work 58 = .ok (.goto 76, 3) := by decide +kernel
theorem dX12_work_61 : decode cX12_work 61 = .ok (.iload_n 1, 1) := by decide +kernel
theorem dX12_work_62 : decode cX12_work 62 = .ok (.iconst 4, 1) := by decide +kernel
theorem dX12_work_63 : decode cX12_work 63 = .ok (.if_icmp .ne 9, 3) := by decide +kernel
theorem dX12_work_66 : decode cX12_work 66 = .ok (.sipush 244, 3) := by decide +kernel
theorem dX12_work_69 : decode cX12_work 69 = .ok (.goto 65, 3) := by decide +kernel
theorem dX12_work_72 : decode cX12_work 72 = .ok (.iload_n 1, 1) := by decide +kernel
theorem dX12_work_73 : decode cX12_work 73 = .ok (.iconst 5, 1) := by decide +kernel
theorem dX12_work_74 : decode cX12_work 74 = .ok (.if_icmp .ne 9, 3) := by decide +kernel
theorem dX12_work_77 : decode cX12_work 77 = .ok (.sipush 237, 3) := by decide +kernel
theorem dX12_work_80 : decode cX12_work 80 = .ok (.goto 54, 3) := by decide +kernel
theorem dX12_work_83 : decode cX12_work 83 = .ok (.iload_n 1, 1) := by decide +kernel
theorem dX12_work_84 : decode cX12_work 84 = .ok (.bipush 6, 2) := by decide +kernel
theorem dX12_work_86 : decode cX12_work 86 = .ok (.if_icmp .ne 9, 3) := by decide +kernel
theorem dX12_work_89 : decode cX12_work 89 = .ok (.sipush 235, 3) := by decide +kernel
theorem dX12_work_92 : decode cX12_work 92 = .ok (.goto 42, 3) := by decide +kernel
theorem dX12_work_95 : decode cX12_work 95 = .ok (.iload_n 1, 1) := by decide +kernel
theorem dX12_work_96 : decode cX12_work 96 = .ok (.bipush 7, 2) := by decide +kernel
theorem dX12_work_98 : decode cX12_work 98 = .ok (.if_icmp .ne 9, 3) := by decide +kernel
theorem dX12_work_101 : decode cX12_work 101 = .ok (.sipush 236, 3) := by decide +kernel
theorem dX12_work_104 : decode cX12_work 104 = .ok (.goto 30, 3) := by decide +kernel
theorem dX12_work_107 : decode cX12_work 107 = .ok (.iload_n 1, 1) := by decide +kernel
theorem dX12_work_108 : decode cX12_work 108 = .ok (.bipush 8, 2) := by decide +kernel
theorem dX12_work_110 : decode cX12_work 110 = .ok (.if_icmp .ne 9, 3) := by decide +kernel
theorem dX12_work_113 : decode cX12_work 113 = .ok (.sipush 221, 3) := by decide +kernel
theorem dX12_work_116 : decode cX12_work 116 = .ok (.goto 18, 3) := by decide +kernel
theorem dX12_work_119 : decode cX12_work 119 = .ok (.iload_n 1, 1) := by decide +kernel
theorem dX12_work_120 : decode cX12_work 120 = .ok (.bipush 9, 2) := by decide +kernel
theorem dX12_work_122 : decode cX12_work 122 = .ok (.if_icmp .ne 9, 3) := by decide +kernel
theorem dX12_work_125 : decode cX12_work 125 = .ok (.sipush 222, 3) := by decide +kernel
theorem dX12_work_128 : decode cX12_work 128 = .ok (.goto 6, 3) := by decide +kernel
theorem dX12_work_131 : decode cX12_work 131 = .ok (.sipush 203, 3) := by decide +kernel
theorem dX12_work_134 : decode cX12_work 134 = .ok (.istore 8, 2) := by decide +kernel
theorem dX12_work_136 : decode cX12_work 136 = .ok (.iload_n 2, 1) := by decide +kernel
theorem dX12_work_137 : decode cX12_work 137 = .ok (.lload 4, 2) := by decide +kernel
theorem dX12_work_139 : decode cX12_work 139 = .ok (.invokestatic 170, 3) := by decide +kernel
theorem dX12_work_142 : decode cX12_work 142 = .ok (.lstore 9, 2) := by decide +kernel
theorem dX12_work_144 : decode cX12_work 144 = .ok (.iload_n 3, 1) := by decide +kernel
theorem dX12_work_145 : decode cX12_work 145 = .ok (.lload 6, 2) := by decide +kernel
theorem dX12_work_147 : decode cX12_work 147 = .ok (.invokestatic 170, 3) := by decide +kernel
theorem dX12_work_150 : decode cX12_work 150 = .ok (.lstore 11, 2) := by decide +kernel
theorem dX12_work_152 : decode cX12_work 152 = .ok (.iload_n 1, 1) := by decide +kernel
theorem dX12_work_153 : decode cX12_work 153 = .ok (.iconst 3, 1) := by decide +kernel
theorem dX12_work_154 : decode cX12_work 154 = .ok (.if_icmp .eq 8, 3) := by decide +kernel
theorem dX12_work_157 : decode cX12_work 157 = .ok (.iload_n 1, 1) := by decide +kernel
theorem dX12_work_158 : decode cX12_work 158 = .ok (.iconst 4, 1) := by decide +kernel
theorem dX12_work_159 : decode cX12_work 159 = .ok (.if_icmp .ne 15, 3) := by decide +kernel
theorem dX12_work_162 : decode cX12_work 162 = .ok (.lload 11, 2) := by decide +kernel
theorem dX12_work_164 : decode cX12_work 164 = .ok (.lconst 0, 1) := by decide +kernel
theorem dX12_work_165 : decode cX12_work 165 = .ok (.lcmp, 1) := by decide +kernel
theorem dX12_work_166 : decode cX12_work 166 = .ok (.ifCond .ne 8, 3) := by decide +kernel
theorem dX12_work_169 : decode cX12_work 169 = .ok (.aload_n 0, 1) := by decide +kernel
theorem dX12_work_170 : decode cX12_work 170 = .ok (.iconst 2, 1) := by decide +kernel
theorem dX12_work_171 : decode cX12_work 171 = .ok (.putfield 1, 3) := by decide +kernel
theorem dX12_work_174 : decode cX12_work 174 = .ok (.iload_n 2, 1) := by decide +kernel
theorem dX12_work_175 : decode cX12_work 175 = .ok (.iconst 4, 1) := by decide +kernel
theorem dX12_work_176 : decode cX12_work 176 = .ok (.if_icmp .eq 14, 3) := by decide +kernel
theorem dX12_work_179 : decode cX12_work 179 = .ok (.iload_n 1, 1) := by decide +kernel
theorem dX12_work_180 : decode cX12_work 180 = .ok (.bipush 8, 2) := by decide +kernel
theorem dX12_work_182 : decode cX12_work 182 = .ok (.if_icmp .ge 12, 3) := by decide +kernel
theorem dX12_work_185 : decode cX12_work 185 = .ok (.iload_n 3, 1) := by decide +kernel
theorem dX12_work_186 : decode cX12_work 186 = .ok (.iconst 4, 1) := by decide +kernel
theorem dX12_work_187 : decode cX12_work 187 = .ok (.if_icmp .ne 7, 3) := by decide +kernel
theorem dX12_work_190 : decode cX12_work 190 = .ok (.iconst 1, 1) := by decide +kernel
theorem dX12_work_191 : decode cX12_work 191 = .ok (.goto 4, 3) := by decide +kernel
theorem dX12_work_194 : decode cX12_work 194 = .ok (.iconst 0, 1) := by decide +kernel
theorem dX12_work_195 : decode cX12_work 195 = .ok (.istore 13, 2) := by decide +kernel
theorem dX12_work_197 : decode cX12_work 197 = .ok (.aload_n 0, 1) := by decide +kernel
theorem dX12_work_198 : decode cX12_work 198 = .ok (.getfield 1, 3) := by decide +kernel
theorem dX12_work_201 : decode cX12_work 201 = .ok (.ifCond .le 7, 3) := by decide +kernel
theorem dX12_work_204 : decode cX12_work 204 = .ok (.lconst 0, 1) := by decide +kernel
theorem dX12_work_205 : decode cX12_work 205 = .ok (.goto 18, 3) := by decide +kernel
theorem dX12_work_208 : decode cX12_work 208 = .ok (.iload_n 2, 1) := by decide +kernel
theorem dX12_work_209 : decode cX12_work 209 = .ok (.iload 8, 2) := by decide +kernel
theorem dX12_work_211 : decode cX12_work 211 = .ok (.iload 13, 2) := by decide +kernel
theorem dX12_work_213 : decode cX12_work 213 = .ok (.lload 9, 2) := by decide +kernel
theorem dX12_work_215 : decode cX12_work 215 = .ok (.lload 11, 2) := by decide +kernel
theorem dX12_work_217 : decode cX12_work 217 = .ok (.invokestatic 610, 3) := by decide +kernel
theorem dX12_work_220 : decode cX12_work 220 = .ok (.invokestatic 170, 3) := by decide +kernel
theorem dX12_work_223 : decode cX12_work 223 = .ok (.lreturn, 1) := by decide +kernel
abbrev cX12_tell : ByteArray := prog_14_method_128_code
def yX12_tell : MethodName := ⟨RX12, "tell", "(IIIJJ)J"⟩
theorem dX12_tell_0 : decode cX12_tell 0 = .ok (.aload_n 0, 1) := by decide +kernel
theorem dX12_tell_1 : decode cX12_tell 1 = .ok (.iload_n 2, 1) := by decide +kernel
theorem dX12_tell_2 : decode cX12_tell 2 = .ok (.iload_n 3, 1) := by decide +kernel
theorem dX12_tell_3 : decode cX12_tell 3 = .ok (.iload_n 1, 1) := by decide +kernel
theorem dX12_tell_4 : decode cX12_tell 4 = .ok (.iconst 0, 1) := by decide +kernel
theorem dX12_tell_5 : decode cX12_tell 5 = .ok (.bipush 16, 2) := by decide +kernel
theorem dX12_tell_7 : decode cX12_tell 7 = .ok (.invokestatic 732, 3) := by decide +kernel
theorem dX12_tell_10 : decode cX12_tell 10 = .ok (.invokevirtual 751, 3) := by decide +kernel
theorem dX12_tell_13 : decode cX12_tell 13 = .ok (.ifCond .ne 5, 3) := by decide +kernel
theorem dX12_tell_16 : decode cX12_tell 16 = .ok (.lconst 0, 1) := by decide +kernel
theorem dX12_tell_17 : decode cX12_tell 17 = .ok (.lreturn, 1) := by decide +kernel
theorem dX12_tell_18 : decode cX12_tell 18 = .ok (.iload_n 2, 1) := by decide +kernel
theorem dX12_tell_19 : decode cX12_tell 19 = .ok (.lload 4, 2) := by decide +kernel
theorem dX12_tell_21 : decode cX12_tell 21 = .ok (.invokestatic 170, 3) := by decide +kernel
theorem dX12_tell_24 : decode cX12_tell 24 = .ok (.lstore 8, 2) := by decide +kernel
theorem dX12_tell_26 : decode cX12_tell 26 = .ok (.iload_n 3, 1) := by decide +kernel
theorem dX12_tell_27 : decode cX12_tell 27 = .ok (.lload 6, 2) := by decide +kernel
theorem dX12_tell_29 : decode cX12_tell 29 = .ok (.invokestatic 170, 3) := by decide +kernel
theorem dX12_tell_32 : decode cX12_tell 32 = .ok (.lstore 10, 2) := by decide +kernel
theorem dX12_tell_34 : decode cX12_tell 34 = .ok (.iload_n 2, 1) := by decide +kernel
theorem dX12_tell_35 : decode cX12_tell 35 = .ok (.iconst 4, 1) := by decide +kernel
theorem dX12_tell_36 : decode cX12_tell 36 = .ok (.if_icmp .ne 7, 3) := by decide +kernel
theorem dX12_tell_39 : decode cX12_tell 39 = .ok (.iconst 1, 1) := by decide +kernel
theorem dX12_tell_40 : decode cX12_tell 40 = .ok (.goto 4, 3) := by decide +kernel
theorem dX12_tell_43 : decode cX12_tell 43 = .ok (.iconst 0, 1) := by decide +kernel
theorem dX12_tell_44 : decode cX12_tell 44 = .ok (.istore 12, 2) := by decide +kernel
theorem dX12_tell_46 : decode cX12_tell 46 = .ok (.iload_n 1, 1) := by decide +kernel
theorem dX12_tell_47 : decode cX12_tell 47 = .ok (.bipush 6, 2) := by decide +kernel
theorem dX12_tell_49 : decode cX12_tell 49 = .ok (.if_icmp .ge 69, 3) := by decide +kernel
theorem dX12_tell_52 : decode cX12_tell 52 = .ok (.iload_n 1, 1) := by decide +kernel
theorem dX12_tell_53 : decode cX12_tell 53 = .ok (.ifCond .ne 9, 3) := by decide +kernel
theorem dX12_tell_56 : decode cX12_tell 56 = .ok (.sipush 217, 3) := by decide +kernel
theorem dX12_tell_59 : decode cX12_tell 59 = .ok (.goto 50, 3) := by decide +kernel
theorem dX12_tell_62 : decode cX12_tell 62 = .ok (.iload_n 1, 1) := by decide +kernel
theorem dX12_tell_63 : decode cX12_tell 63 = .ok (.iconst 1, 1) := by decide +kernel
theorem dX12_tell_64 : decode cX12_tell 64 = .ok (.if_icmp .ne 9, 3) := by decide +kernel
theorem dX12_tell_67 : decode cX12_tell 67 = .ok (.sipush 218, 3) := by decide +kernel
theorem dX12_tell_70 : decode cX12_tell 70 = .ok (.goto 39, 3) := by decide +kernel
theorem dX12_tell_73 : decode cX12_tell 73 = .ok (.iload_n 1, 1) := by decide +kernel
theorem dX12_tell_74 : decode cX12_tell 74 = .ok (.iconst 2, 1) := by decide +kernel
theorem dX12_tell_75 : decode cX12_tell 75 = .ok (.if_icmp .ne 9, 3) := by decide +kernel
theorem dX12_tell_78 : decode cX12_tell 78 = .ok (.sipush 238, 3) := by decide +kernel
theorem dX12_tell_81 : decode cX12_tell 81 = .ok (.goto 28, 3) := by decide +kernel
theorem dX12_tell_84 : decode cX12_tell 84 = .ok (.iload_n 1, 1) := by decide +kernel
theorem dX12_tell_85 : decode cX12_tell 85 = .ok (.iconst 3, 1) := by decide +kernel
theorem dX12_tell_86 : decode cX12_tell 86 = .ok (.if_icmp .ne 9, 3) := by decide +kernel
theorem dX12_tell_89 : decode cX12_tell 89 = .ok (.sipush 219, 3) := by decide +kernel
theorem dX12_tell_92 : decode cX12_tell 92 = .ok (.goto 17, 3) := by decide +kernel
theorem dX12_tell_95 : decode cX12_tell 95 = .ok (.iload_n 1, 1) := by decide +kernel
theorem dX12_tell_96 : decode cX12_tell 96 = .ok (.iconst 4, 1) := by decide +kernel
theorem dX12_tell_97 : decode cX12_tell 97 = .ok (.if_icmp .ne 9, 3) := by decide +kernel
theorem dX12_tell_100 : decode cX12_tell 100 = .ok (.sipush 239, 3) := by decide +kernel
theorem dX12_tell_103 : decode cX12_tell 103 = .ok (.goto 6, 3) := by decide +kernel
theorem dX12_tell_106 : decode cX12_tell 106 = .ok (.sipush 220, 3) := by decide +kernel
theorem dX12_tell_109 : decode cX12_tell 109 = .ok (.iconst 1, 1) := by decide +kernel
theorem dX12_tell_110 : decode cX12_tell 110 = .ok (.lload 8, 2) := by decide +kernel
theorem dX12_tell_112 : decode cX12_tell 112 = .ok (.lload 10, 2) := by decide +kernel
theorem dX12_tell_114 : decode cX12_tell 114 = .ok (.invokestatic 610, 3) := by decide +kernel
theorem dX12_tell_117 : decode cX12_tell 117 = .ok (.lreturn, 1) := by decide +kernel
theorem dX12_tell_118 : decode cX12_tell 118 = .ok (.iload_n 1, 1) := by decide +kernel
theorem dX12_tell_119 : decode cX12_tell 119 = .ok (.bipush 8, 2) := by decide +kernel
theorem dX12_tell_121 : decode cX12_tell 121 = .ok (.if_icmp .ge 15, 3) := by decide +kernel
theorem dX12_tell_124 : decode cX12_tell 124 = .ok (.iload_n 1, 1) := by decide +kernel
theorem dX12_tell_125 : decode cX12_tell 125 = .ok (.iconst 5, 1) := by decide +kernel
theorem dX12_tell_126 : decode cX12_tell 126 = .ok (.isub, 1) := by decide +kernel
theorem dX12_tell_127 : decode cX12_tell 127 = .ok (.iconst 1, 1) := by decide +kernel
theorem dX12_tell_128 : decode cX12_tell 128 = .ok (.lload 8, 2) := by decide +kernel
theorem dX12_tell_130 : decode cX12_tell 130 = .ok (.lload 10, 2) := by decide +kernel
theorem dX12_tell_132 : decode cX12_tell 132 = .ok (.invokestatic 614, 3) := by decide +kernel
theorem dX12_tell_135 : decode cX12_tell 135 = .ok (.lreturn, 1) := by decide +kernel
theorem dX12_tell_136 : decode cX12_tell 136 = .ok (.iload_n 1, 1) := by decide +kernel
theorem dX12_tell_137 : decode cX12_tell 137 = .ok (.bipush 10, 2) := by decide +kernel
theorem dX12_tell_139 : decode cX12_tell 139 = .ok (.if_icmp .ge 16, 3) := by decide +kernel
theorem dX12_tell_142 : decode cX12_tell 142 = .ok (.iload_n 1, 1) := by decide +kernel
theorem dX12_tell_143 : decode cX12_tell 143 = .ok (.iconst 5, 1) := by decide +kernel
theorem dX12_tell_144 : decode cX12_tell 144 = .ok (.isub, 1) := by decide +kernel
theorem dX12_tell_145 : decode cX12_tell 145 = .ok (.iload 12, 2) := by decide +kernel
theorem dX12_tell_147 : decode cX12_tell 147 = .ok (.lload 8, 2) := by decide +kernel
theorem dX12_tell_149 : decode cX12_tell 149 = .ok (.lload 10, 2) := by decide +kernel
theorem dX12_tell_151 : decode cX12_tell 151 = .ok (.invokestatic 614, 3) := by decide +kernel
theorem dX12_tell_154 : decode cX12_tell 154 = .ok (.lreturn, 1) := by decide +kernel
theorem dX12_tell_155 : decode cX12_tell 155 = .ok (.iload_n 1, 1) := by decide +kernel
theorem dX12_tell_156 : decode cX12_tell 156 = .ok (.bipush 10, 2) := by decide +kernel
theorem dX12_tell_158 : decode cX12_tell 158 = .ok (.if_icmp .ne 13, 3) := by decide +kernel
theorem dX12_tell_161 : decode cX12_tell 161 = .ok (.iconst 0, 1) := by decide +kernel
theorem dX12_tell_162 : decode cX12_tell 162 = .ok (.iload 12, 2) := by decide +kernel
theorem dX12_tell_164 : decode cX12_tell 164 = .ok (.lload 8, 2) := by decide +kernel
theorem dX12_tell_166 : decode cX12_tell 166 = .ok (.lconst 0, 1) := by decide +kernel
theorem dX12_tell_167 : decode cX12_tell 167 = .ok (.invokestatic 614, 3) := by decide +kernel
theorem dX12_tell_170 : decode cX12_tell 170 = .ok (.lreturn, 1) := by decide +kernel
theorem dX12_tell_171 : decode cX12_tell 171 = .ok (.iload_n 1, 1) := by decide +kernel
theorem dX12_tell_172 : decode cX12_tell 172 = .ok (.bipush 14, 2) := by decide +kernel
theorem dX12_tell_174 : decode cX12_tell 174 = .ok (.if_icmp .ge 16, 3) := by decide +kernel
theorem dX12_tell_177 : decode cX12_tell 177 = .ok (.iload_n 1, 1) := by decide +kernel
theorem dX12_tell_178 : decode cX12_tell 178 = .ok (.bipush 6, 2) := by decide +kernel
theorem dX12_tell_180 : decode cX12_tell 180 = .ok (.isub, 1) := by decide +kernel
theorem dX12_tell_181 : decode cX12_tell 181 = .ok (.iload 12, 2) := by decide +kernel
theorem dX12_tell_183 : decode cX12_tell 183 = .ok (.lload 8, 2) := by decide +kernel
theorem dX12_tell_185 : decode cX12_tell 185 = .ok (.lconst 0, 1) := by decide +kernel
theorem dX12_tell_186 : decode cX12_tell 186 = .ok (.invokestatic 614, 3) := by decide +kernel
theorem dX12_tell_189 : decode cX12_tell 189 = .ok (.lreturn, 1) := by decide +kernel
theorem dX12_tell_190 : decode cX12_tell 190 = .ok (.iload_n 1, 1) := by decide +kernel
theorem dX12_tell_191 : decode cX12_tell 191 = .ok (.bipush 14, 2) := by decide +kernel
theorem dX12_tell_193 : decode cX12_tell 193 = .ok (.if_icmp .ne 14, 3) := by decide +kernel
theorem dX12_tell_196 : decode cX12_tell 196 = .ok (.iload 12, 2) := by decide +kernel
theorem dX12_tell_198 : decode cX12_tell 198 = .ok (.lload 8, 2) := by decide +kernel
theorem dX12_tell_200 : decode cX12_tell 200 = .ok (.lneg, 1) := by decide +kernel
theorem dX12_tell_201 : decode cX12_tell 201 = .ok (.invokestatic 225, 3) := by decide +kernel
theorem dX12_tell_204 : decode cX12_tell 204 = .ok (.goto 30, 3) := by decide +kernel
theorem dX12_tell_207 : decode cX12_tell 207 = .ok (.iload_n 1, 1) := by decide +kernel
theorem dX12_tell_208 : decode cX12_tell 208 = .ok (.bipush 15, 2) := by decide +kernel
theorem dX12_tell_210 : decode cX12_tell 210 = .ok (.if_icmp .ne 12, 3) := by decide +kernel
theorem dX12_tell_213 : decode cX12_tell 213 = .ok (.lload 8, 2) := by decide +kernel
theorem dX12_tell_215 : decode cX12_tell 215 = .ok (.ldc2_w 541, 3) := by decide +kernel
theorem dX12_tell_218 : decode cX12_tell 218 = .ok (.lxor, 1) := by decide +kernel
theorem dX12_tell_219 : decode cX12_tell 219 = .ok (.goto 15, 3) := by decide +kernel
theorem dX12_tell_222 : decode cX12_tell 222 = .ok (.lload 8, 2) := by decide +kernel
theorem dX12_tell_224 : decode cX12_tell 224 = .ok (.lconst 0, 1) := by decide +kernel
theorem dX12_tell_225 : decode cX12_tell 225 = .ok (.lcmp, 1) := by decide +kernel
theorem dX12_tell_226 : decode cX12_tell 226 = .ok (.ifCond .ne 7, 3) := by decide +kernel
theorem dX12_tell_229 : decode cX12_tell 229 = .ok (.lconst 1, 1) := by decide +kernel
theorem dX12_tell_230 : decode cX12_tell 230 = .ok (.goto 4, 3) := by decide +kernel
theorem dX12_tell_233 : decode cX12_tell 233 = .ok (.lconst 0, 1) := by decide +kernel
theorem dX12_tell_234 : decode cX12_tell 234 = .ok (.lreturn, 1) := by decide +kernel
abbrev cX12_feed : ByteArray := prog_14_method_95_code
def yX12_feed : MethodName := ⟨RX12, "feed", "(IIIII)Z"⟩
theorem dX12_feed_0 : decode cX12_feed 0 = .ok (.aload_n 0, 1) := by decide +kernel
theorem dX12_feed_1 : decode cX12_feed 1 = .ok (.iconst 0, 1) := by decide +kernel
theorem dX12_feed_2 : decode cX12_feed 2 = .ok (.putfield 1, 3) := by decide +kernel
theorem dX12_feed_5 : decode cX12_feed 5 = .ok (.aload_n 0, 1) := by decide +kernel
theorem dX12_feed_6 : decode cX12_feed 6 = .ok (.getfield 7, 3) := by decide +kernel
theorem dX12_feed_9 : decode cX12_feed 9 = .ok (.bipush 20, 2) := by decide +kernel
theorem dX12_feed_11 : decode cX12_feed 11 = .ok (.iadd, 1) := by decide +kernel
theorem dX12_feed_12 : decode cX12_feed 12 = .ok (.sipush 6000, 3) := by decide +kernel
theorem dX12_feed_15 : decode cX12_feed 15 = .ok (.if_icmp .le 5, 3) := by decide +kernel
theorem dX12_feed_18 : decode cX12_feed 18 = .ok (.iconst 0, 1) := by decide +kernel
theorem dX12_feed_19 : decode cX12_feed 19 = .ok (.ireturn, 1) := by decide +kernel
theorem dX12_feed_20 : decode cX12_feed 20 = .ok (.iconst 0, 1) := by decide +kernel
theorem dX12_feed_21 : decode cX12_feed 21 = .ok (.istore 6, 2) := by decide +kernel
theorem dX12_feed_23 : decode cX12_feed 23 = .ok (.iload 6, 2) := by decide +kernel
theorem dX12_feed_25 : decode cX12_feed 25 = .ok (.iconst 5, 1) := by decide +kernel
theorem dX12_feed_26 : decode cX12_feed 26 = .ok (.if_icmp .ge 93, 3) := by decide +kernel
theorem dX12_feed_29 : decode cX12_feed 29 = .ok (.iload 6, 2) := by decide +kernel
theorem dX12_feed_31 : decode cX12_feed 31 = .ok (.ifCond .ne 7, 3) := by decide +kernel
theorem dX12_feed_34 : decode cX12_feed 34 = .ok (.iload_n 1, 1) := by decide +kernel
theorem dX12_feed_35 : decode cX12_feed 35 = .ok (.goto 36, 3) := by decide +kernel
theorem dX12_feed_38 : decode cX12_feed 38 = .ok (.iload 6, 2) := by decide +kernel
theorem dX12_feed_40 : decode cX12_feed 40 = .ok (.iconst 1, 1) := by decide +kernel
theorem dX12_feed_41 : decode cX12_feed 41 = .ok (.if_icmp .ne 7, 3) := by decide +kernel
theorem dX12_feed_44 : decode cX12_feed 44 = .ok (.iload_n 2, 1) := by decide +kernel
theorem dX12_feed_45 : decode cX12_feed 45 = .ok (.goto 26, 3) := by decide +kernel
theorem dX12_feed_48 : decode cX12_feed 48 = .ok (.iload 6, 2) := by decide +kernel
theorem dX12_feed_50 : decode cX12_feed 50 = .ok (.iconst 2, 1) := by decide +kernel
theorem dX12_feed_51 : decode cX12_feed 51 = .ok (.if_icmp .ne 7, 3) := by decide +kernel
theorem dX12_feed_54 : decode cX12_feed 54 = .ok (.iload_n 3, 1) := by decide +kernel
theorem dX12_feed_55 : decode cX12_feed 55 = .ok (.goto 16, 3) := by decide +kernel
theorem dX12_feed_58 : decode cX12_feed 58 = .ok (.iload 6, 2) := by decide +kernel
theorem dX12_feed_60 : decode cX12_feed 60 = .ok (.iconst 3, 1) := by decide +kernel
theorem dX12_feed_61 : decode cX12_feed 61 = .ok (.if_icmp .ne 8, 3) := by decide +kernel
theorem dX12_feed_64 : decode cX12_feed 64 = .ok (.iload 4, 2) := by decide +kernel
theorem dX12_feed_66 : decode cX12_feed 66 = .ok (.goto 5, 3) := by decide +kernel
theorem dX12_feed_69 : decode cX12_feed 69 = .ok (.iload 5, 2) := by decide +kernel
theorem dX12_feed_71 : decode cX12_feed 71 = .ok (.istore 7, 2) := by decide +kernel
theorem dX12_feed_73 : decode cX12_feed 73 = .ok (.bipush 24, 2) := by decide +kernel
theorem dX12_feed_75 : decode cX12_feed 75 = .ok (.istore 8, 2) := by decide +kernel
theorem dX12_feed_77 : decode cX12_feed 77 = .ok (.iload 8, 2) := by decide +kernel
theorem dX12_feed_79 : decode cX12_feed 79 = .ok (.ifCond .lt 34, 3) := by decide +kernel
theorem dX12_feed_82 : decode cX12_feed 82 = .ok (.aload_n 0, 1) := by decide +kernel
theorem dX12_feed_83 : decode cX12_feed 83 = .ok (.getfield 10, 3) := by decide +kernel
theorem dX12_feed_86 : decode cX12_feed 86 = .ok (.aload_n 0, 1) := by decide +kernel
theorem dX12_feed_87 : decode cX12_feed 87 = .ok (.dup, 1) := by decide +kernel
theorem dX12_feed_88 : decode cX12_feed 88 = .ok (.getfield 7, 3) := by decide +kernel
theorem dX12_feed_91 : decode cX12_feed 91 = .ok (.dup_x1, 1) := by decide +kernel
theorem dX12_feed_92 : decode cX12_feed 92 = .ok (.iconst 1, 1) := by decide +kernel
theorem dX12_feed_93 : decode cX12_feed 93 = .ok (.iadd, 1) := by decide +kernel
theorem dX12_feed_94 : decode cX12_feed 94 = .ok (.putfield 7, 3) := by decide +kernel
theorem dX12_feed_97 : decode cX12_feed 97 = .ok (.iload 7, 2) := by decide +kernel
theorem dX12_feed_99 : decode cX12_feed 99 = .ok (.iload 8, 2) := by decide +kernel
theorem dX12_feed_101 : decode cX12_feed 101 = .ok (.ishr, 1) := by decide +kernel
theorem dX12_feed_102 : decode cX12_feed 102 = .ok (.sipush 255, 3) := by decide +kernel
theorem dX12_feed_105 : decode cX12_feed 105 = .ok (.iand, 1) := by decide +kernel
theorem dX12_feed_106 : decode cX12_feed 106 = .ok (.iastore, 1) := by decide +kernel
theorem dX12_feed_107 : decode cX12_feed 107 = .ok (.iinc 8 (-8), 3) := by decide +kernel
theorem dX12_feed_110 : decode cX12_feed 110 = .ok (.goto (-33), 3) := by decide +kernel
theorem dX12_feed_113 : decode cX12_feed 113 = .ok (.iinc 6 1, 3) := by decide +kernel
theorem dX12_feed_116 : decode cX12_feed 116 = .ok (.goto (-93), 3) := by decide +kernel
theorem dX12_feed_119 : decode cX12_feed 119 = .ok (.iconst 1, 1) := by decide +kernel
theorem dX12_feed_120 : decode cX12_feed 120 = .ok (.ireturn, 1) := by decide +kernel
abbrev cX12_end : ByteArray := prog_14_method_96_code
def yX12_end : MethodName := ⟨RX12, "end", "(I)Z"⟩
theorem dX12_end_0 : decode cX12_end 0 = .ok (.aload_n 0, 1) := by decide +kernel
theorem dX12_end_1 : decode cX12_end 1 = .ok (.iconst 0, 1) := by decide +kernel
theorem dX12_end_2 : decode cX12_end 2 = .ok (.putfield 1, 3) := by decide +kernel
theorem dX12_end_5 : decode cX12_end 5 = .ok (.iload_n 1, 1) := by decide +kernel
theorem dX12_end_6 : decode cX12_end 6 = .ok (.ifCond .lt 11, 3) := by decide +kernel
theorem dX12_end_9 : decode cX12_end 9 = .ok (.iload_n 1, 1) := by decide +kernel
theorem dX12_end_10 : decode cX12_end 10 = .ok (.aload_n 0, 1) := by decide +kernel
theorem dX12_end_11 : decode cX12_end 11 = .ok (.getfield 7, 3) := by decide +kernel
theorem dX12_end_14 : decode cX12_end 14 = .ok (.if_icmp .le 5, 3) := by decide +kernel
theorem dX12_end_17 : decode cX12_end 17 = .ok (.iconst 0, 1) := by decide +kernel
theorem dX12_end_18 : decode cX12_end 18 = .ok (.ireturn, 1) := by decide +kernel
theorem dX12_end_19 : decode cX12_end 19 = .ok (.aload_n 0, 1) := by decide +kernel
theorem dX12_end_20 : decode cX12_end 20 = .ok (.iload_n 1, 1) := by decide +kernel
theorem dX12_end_21 : decode cX12_end 21 = .ok (.putfield 7, 3) := by decide +kernel
theorem dX12_end_24 : decode cX12_end 24 = .ok (.iconst 1, 1) := by decide +kernel
theorem dX12_end_25 : decode cX12_end 25 = .ok (.ireturn, 1) := by decide +kernel
abbrev cX12_place : ByteArray := prog_14_method_103_code
def yX12_place : MethodName := ⟨RX12, "place", "()I"⟩
theorem dX12_place_0 : decode cX12_place 0 = .ok (.aload_n 0, 1) := by decide +kernel
theorem dX12_place_1 : decode cX12_place 1 = .ok (.iconst 0, 1) := by decide +kernel
theorem dX12_place_2 : decode cX12_place 2 = .ok (.putfield 1, 3) := by decide +kernel
theorem dX12_place_5 : decode cX12_place 5 = .ok (.aload_n 0, 1) := by decide +kernel
theorem dX12_place_6 : decode cX12_place 6 = .ok (.getfield 706, 3) := by decide +kernel
theorem dX12_place_9 : decode cX12_place 9 = .ok (.ireturn, 1) := by decide +kernel
theorem gs_11_13 : Cond.selects "SoftControllerModel" ⟨"SoftControllerModel", "accept", "(Z)V"⟩ ⟨"SoftControllerModel", "accept", "(Z)V"⟩ ∈ GW := gw_s (List.mem_map.mpr ⟨_, pin_11 _ (List.mem_of_getElem? (i := 13) rfl), rfl⟩) rfl
theorem gs_11_14 : Cond.selects "SoftControllerModel" ⟨"SoftControllerModel", "anew", "()V"⟩ ⟨"SoftControllerModel", "anew", "()V"⟩ ∈ GW := gw_s (List.mem_map.mpr ⟨_, pin_11 _ (List.mem_of_getElem? (i := 14) rfl), rfl⟩) rfl
theorem gs_11_15 : Cond.selects "SoftControllerModel" ⟨"SoftControllerModel", "begin", "()V"⟩ ⟨"SoftControllerModel", "begin", "()V"⟩ ∈ GW := gw_s (List.mem_map.mpr ⟨_, pin_11 _ (List.mem_of_getElem? (i := 15) rfl), rfl⟩) rfl
theorem gs_12_11 : Cond.selects "SoftControllerModel" ⟨"SoftControllerModel", "hasByte", "(II)Z"⟩ ⟨"SoftControllerModel", "hasByte", "(II)Z"⟩ ∈ GW := gw_s (List.mem_map.mpr ⟨_, pin_12 _ (List.mem_of_getElem? (i := 11) rfl), rfl⟩) rfl
theorem gs_12_12 : Cond.selects "SoftControllerModel" ⟨"SoftControllerModel", "hasTask", "(I)Z"⟩ ⟨"SoftControllerModel", "hasTask", "(I)Z"⟩ ∈ GW := gw_s (List.mem_map.mpr ⟨_, pin_12 _ (List.mem_of_getElem? (i := 12) rfl), rfl⟩) rfl
theorem gs_12_13 : Cond.selects "SoftControllerModel" ⟨"SoftControllerModel", "hasPlace", "(II)Z"⟩ ⟨"SoftControllerModel", "hasPlace", "(II)Z"⟩ ∈ GW := gw_s (List.mem_map.mpr ⟨_, pin_12 _ (List.mem_of_getElem? (i := 13) rfl), rfl⟩) rfl
theorem gs_12_14 : Cond.selects "SoftControllerModel" ⟨"SoftControllerModel", "hasVariable", "(I)Z"⟩ ⟨"SoftControllerModel", "hasVariable", "(I)Z"⟩ ∈ GW := gw_s (List.mem_map.mpr ⟨_, pin_12 _ (List.mem_of_getElem? (i := 14) rfl), rfl⟩) rfl
theorem gs_12_15 : Cond.selects "SoftControllerModel" ⟨"SoftControllerModel", "areKinds", "(IIZ)Z"⟩ ⟨"SoftControllerModel", "areKinds", "(IIZ)Z"⟩ ∈ GW := gw_s (List.mem_map.mpr ⟨_, pin_12 _ (List.mem_of_getElem? (i := 15) rfl), rfl⟩) rfl
theorem gw_2585 : (Jvm.Cond.methodLink "SoftControllerModel" (721 : Nat) ({ cls := "SoftControllerModel", name := "accept", desc := "(Z)V" } : Jvm.MethodName)) ∈ GW := gw_t (tin_11 _ (List.mem_of_getElem? (i := 185) rfl)) rfl
theorem gw_2587 : (Jvm.Cond.instanceMethod ({ cls := "SoftControllerModel", name := "accept", desc := "(Z)V" } : Jvm.MethodName)) ∈ GW := gw_t (tin_11 _ (List.mem_of_getElem? (i := 187) rfl)) rfl
theorem gw_2588 : (Jvm.Cond.code ({ cls := "SoftControllerModel", name := "accept", desc := "(Z)V" } : Jvm.MethodName) prog_14_method_100_code (5 : Nat) (Option.none : Option Jvm.ClassFile.FieldType)) ∈ GW := gw_t (tin_11 _ (List.mem_of_getElem? (i := 188) rfl)) rfl
theorem gw_2589 : (Jvm.Cond.methodLink "SoftControllerModel" (726 : Nat) ({ cls := "SoftControllerModel", name := "anew", desc := "()V" } : Jvm.MethodName)) ∈ GW := gw_t (tin_11 _ (List.mem_of_getElem? (i := 189) rfl)) rfl
theorem gw_2591 : (Jvm.Cond.instanceMethod ({ cls := "SoftControllerModel", name := "anew", desc := "()V" } : Jvm.MethodName)) ∈ GW := gw_t (tin_11 _ (List.mem_of_getElem? (i := 191) rfl)) rfl
theorem gw_2592 : (Jvm.Cond.code ({ cls := "SoftControllerModel", name := "anew", desc := "()V" } : Jvm.MethodName) prog_14_method_101_code (5 : Nat) (Option.none : Option Jvm.ClassFile.FieldType)) ∈ GW := gw_t (tin_11 _ (List.mem_of_getElem? (i := 192) rfl)) rfl
theorem gw_2593 : (Jvm.Cond.methodLink "SoftControllerModel" (729 : Nat) ({ cls := "SoftControllerModel", name := "begin", desc := "()V" } : Jvm.MethodName)) ∈ GW := gw_t (tin_11 _ (List.mem_of_getElem? (i := 193) rfl)) rfl
theorem gw_2595 : (Jvm.Cond.instanceMethod ({ cls := "SoftControllerModel", name := "begin", desc := "()V" } : Jvm.MethodName)) ∈ GW := gw_t (tin_11 _ (List.mem_of_getElem? (i := 195) rfl)) rfl
theorem gw_2596 : (Jvm.Cond.code ({ cls := "SoftControllerModel", name := "begin", desc := "()V" } : Jvm.MethodName) prog_14_method_102_code (2 : Nat) (Option.none : Option Jvm.ClassFile.FieldType)) ∈ GW := gw_t (tin_11 _ (List.mem_of_getElem? (i := 196) rfl)) rfl
theorem gw_2605 : (Jvm.Cond.methodLink "SoftControllerModel" (732 : Nat) ({ cls := "SoftControllerModel", name := "in", desc := "(III)Z" } : Jvm.MethodName)) ∈ GW := gw_t (tin_11 _ (List.mem_of_getElem? (i := 205) rfl)) rfl
theorem gw_2606 : (Jvm.Cond.static ({ cls := "SoftControllerModel", name := "in", desc := "(III)Z" } : Jvm.MethodName)) ∈ GW := gw_t (tin_11 _ (List.mem_of_getElem? (i := 206) rfl)) rfl
theorem gw_2641 : (Jvm.Cond.constantLong "SoftControllerModel" (545 : Nat) (31 : Int64)) ∈ GW := gw_t (tin_12 _ (List.mem_of_getElem? (i := 1) rfl)) rfl
theorem gw_2672 : (Jvm.Cond.methodLink "SoftControllerModel" (739 : Nat) ({ cls := "SoftControllerModel", name := "hasByte", desc := "(II)Z" } : Jvm.MethodName)) ∈ GW := gw_t (tin_12 _ (List.mem_of_getElem? (i := 32) rfl)) rfl
theorem gw_2674 : (Jvm.Cond.instanceMethod ({ cls := "SoftControllerModel", name := "hasByte", desc := "(II)Z" } : Jvm.MethodName)) ∈ GW := gw_t (tin_12 _ (List.mem_of_getElem? (i := 34) rfl)) rfl
theorem gw_2675 : (Jvm.Cond.code ({ cls := "SoftControllerModel", name := "hasByte", desc := "(II)Z" } : Jvm.MethodName) prog_14_method_106_code (3 : Nat) (Option.some Jvm.ClassFile.FieldType.boolean)) ∈ GW := gw_t (tin_12 _ (List.mem_of_getElem? (i := 35) rfl)) rfl
theorem gw_2692 : (Jvm.Cond.methodLink "SoftControllerModel" (742 : Nat) ({ cls := "SoftControllerModel", name := "hasTask", desc := "(I)Z" } : Jvm.MethodName)) ∈ GW := gw_t (tin_12 _ (List.mem_of_getElem? (i := 52) rfl)) rfl
theorem gw_2694 : (Jvm.Cond.instanceMethod ({ cls := "SoftControllerModel", name := "hasTask", desc := "(I)Z" } : Jvm.MethodName)) ∈ GW := gw_t (tin_12 _ (List.mem_of_getElem? (i := 54) rfl)) rfl
theorem gw_2695 : (Jvm.Cond.code ({ cls := "SoftControllerModel", name := "hasTask", desc := "(I)Z" } : Jvm.MethodName) prog_14_method_111_code (2 : Nat) (Option.some Jvm.ClassFile.FieldType.boolean)) ∈ GW := gw_t (tin_12 _ (List.mem_of_getElem? (i := 55) rfl)) rfl
theorem gw_2704 : (Jvm.Cond.methodLink "SoftControllerModel" (748 : Nat) ({ cls := "SoftControllerModel", name := "hasPlace", desc := "(II)Z" } : Jvm.MethodName)) ∈ GW := gw_t (tin_12 _ (List.mem_of_getElem? (i := 64) rfl)) rfl
theorem gw_2706 : (Jvm.Cond.instanceMethod ({ cls := "SoftControllerModel", name := "hasPlace", desc := "(II)Z" } : Jvm.MethodName)) ∈ GW := gw_t (tin_12 _ (List.mem_of_getElem? (i := 66) rfl)) rfl
theorem gw_2707 : (Jvm.Cond.code ({ cls := "SoftControllerModel", name := "hasPlace", desc := "(II)Z" } : Jvm.MethodName) prog_14_method_115_code (3 : Nat) (Option.some Jvm.ClassFile.FieldType.boolean)) ∈ GW := gw_t (tin_12 _ (List.mem_of_getElem? (i := 67) rfl)) rfl
theorem gw_2708 : (Jvm.Cond.methodLink "SoftControllerModel" (745 : Nat) ({ cls := "SoftControllerModel", name := "hasVariable", desc := "(I)Z" } : Jvm.MethodName)) ∈ GW := gw_t (tin_12 _ (List.mem_of_getElem? (i := 68) rfl)) rfl
theorem gw_2710 : (Jvm.Cond.instanceMethod ({ cls := "SoftControllerModel", name := "hasVariable", desc := "(I)Z" } : Jvm.MethodName)) ∈ GW := gw_t (tin_12 _ (List.mem_of_getElem? (i := 70) rfl)) rfl
theorem gw_2711 : (Jvm.Cond.code ({ cls := "SoftControllerModel", name := "hasVariable", desc := "(I)Z" } : Jvm.MethodName) prog_14_method_114_code (2 : Nat) (Option.some Jvm.ClassFile.FieldType.boolean)) ∈ GW := gw_t (tin_12 _ (List.mem_of_getElem? (i := 71) rfl)) rfl
theorem gw_2748 : (Jvm.Cond.methodLink "SoftControllerModel" (751 : Nat) ({ cls := "SoftControllerModel", name := "areKinds", desc := "(IIZ)Z" } : Jvm.MethodName)) ∈ GW := gw_t (tin_12 _ (List.mem_of_getElem? (i := 108) rfl)) rfl
theorem gw_2750 : (Jvm.Cond.instanceMethod ({ cls := "SoftControllerModel", name := "areKinds", desc := "(IIZ)Z" } : Jvm.MethodName)) ∈ GW := gw_t (tin_12 _ (List.mem_of_getElem? (i := 110) rfl)) rfl
theorem gw_2751 : (Jvm.Cond.code ({ cls := "SoftControllerModel", name := "areKinds", desc := "(IIZ)Z" } : Jvm.MethodName) prog_14_method_125_code (4 : Nat) (Option.some Jvm.ClassFile.FieldType.boolean)) ∈ GW := gw_t (tin_12 _ (List.mem_of_getElem? (i := 111) rfl)) rfl
theorem gwp_X12_in : ∀ w ∈ wsX12_in, w ∈ GW := gwl [2607] (by decide +kernel) (by decide +kernel)
section CallsRows
variable {p : Program} {l : Launch} {e : Env} {R : Room} {s : State} {m : MethodId} {args : Array Value} {below : List Frame} {meth : Method} {c : Code} {H : Heap} {locs : List Loc} {Q : State → Prop}
variable {ls : Array Slot} {D : va_G} {kA : Nat → ClassId} {V Z : Nat → Nat} {A : Nat → Prop} {N d : Nat} {w : RSt}
def B_anew_81 (N : Nat) (R_8 : Int32 × RSt → Option (Int32 × RSt)) (R_52 : Int32 × Int32 × Int32 × RSt → Option (Int32 × RSt)) (R_81 : Int32 × Int32 × Int32 × Int32 × RSt → Option (Int32 × RSt)) (l1 : Int32) (l2 : Int32) (l3 : Int32) (l4 : Int32) (u : RSt) : Option (Int32 × RSt) := rd (u.2.2.1 21) 320 l3 fun v_1 => if v_1 ≤ l4 then (R_52 (l1, l2, (l3 + 1), u)) else (rd (u.2.2.1 39) 48 l1 fun v_4 => rd (u.2.2.1 23) 320 l3 fun v_6 => rd (u.2.2.2 24) 320 l3 fun v_8 => wr 3000 ((v_4 + v_6) + l4) (sB u 82 ((v_4 + v_6) + l4).toNatClampNeg v_8) fun u_10 => R_81 (l1, l2, l3, (l4 + 1), u_10))
set_option maxHeartbeats 4000000 in
theorem b_anew_81 {r : Int32} (X : RC p s m args c cX12_anew 5 (Cond.code yX12_anew cX12_anew 5 none) D kA V A) (hE : REv p l e R s m args below meth c cX12_anew D kA Z A Q w) (hF : 0 ≤ R.frames) (hL : 0 ≤ R.locals) {R_8 : Int32 × RSt → Option (Int32 × RSt)} {R_52 : Int32 × Int32 × Int32 × RSt → Option (Int32 × RSt)} {R_81 : Int32 × Int32 × Int32 × Int32 × RSt → Option (Int32 × RSt)} {l1 : Int32} {l2 : Int32} {l3 : Int32} {l4 : Int32} (hR_8 : ∀ (l1 : Int32) (u : RSt), R_8 (l1, u) = some (r, w) → ∀ (H : Heap) (locs : List Loc) (ls : Array Slot), RS D kA Z A s u H locs → lv_has ls 5 [(0, .ref (Z 200)), (1, .int l1)] → W p l e R s m args below meth c H locs 0 0 Q (F0 m 8 ls [])) (hR_52 : ∀ (l1 : Int32) (l2 : Int32) (l3 : Int32) (u : RSt), R_52 (l1, l2, l3, u) = some (r, w) → ∀ (H : Heap) (locs : List Loc) (ls : Array Slot), RS D kA Z A s u H locs → lv_has ls 5 [(0, .ref (Z 200)), (1, .int l1), (2, .int l2), (3, .int l3)] → W p l e R s m args below meth c H locs 0 0 Q (F0 m 52 ls [])) (hR_81 : ∀ (l1 : Int32) (l2 : Int32) (l3 : Int32) (l4 : Int32) (u : RSt), R_81 (l1, l2, l3, l4, u) = some (r, w) → ∀ (H : Heap) (locs : List Loc) (ls : Array Slot), RS D kA Z A s u H locs → lv_has ls 5 [(0, .ref (Z 200)), (1, .int l1), (2, .int l2), (3, .int l3), (4, .int l4)] → W p l e R s m args below meth c H locs 0 0 Q (F0 m 81 ls [])) {u : RSt} (h : B_anew_81 N R_8 R_52 R_81 l1 l2 l3 l4 u = some (r, w)) (hS : RS D kA Z A s u H locs) (hl : lv_has ls 5 [(0, .ref (Z 200)), (1, .int l1), (2, .int l2), (3, .int l3), (4, .int l4)]) : W p l e R s m args below meth c H locs 0 0 Q (F0 m 81 ls []) := by
  obtain ⟨⟨hx, hb, hml, hown, hts⟩, hK, hEV, hA⟩ := id X
  have hG : ∀ w ∈ GW, w.before args s = true := fun w h => hts w (List.mem_cons_of_mem _ h)
  unfold B_anew_81 at h
  refine lv_iload hx hb dX12_anew_81 (lv_at hl 4 rfl) ?_
  refine lv_aload_n hx hb dX12_anew_83 rfl (lv_at hl 0 rfl) ?_
  refine rg_21 X hS dX12_anew_84 ?_
  refine lv_iload_n hx hb dX12_anew_87 rfl (lv_at hl 3 rfl) ?_
  obtain ⟨v_1, e_v_1, i_2, h⟩ := rd_of h
  refine ra_21 X hS i_2 e_v_1 dX12_anew_88 ?_
  refine lv_icmp_ge (tgt := 125) hx hb dX12_anew_89 (by decide) (fun c_3 => ?_) (fun c_3 => ?_)
  · have h := ip (c_3) h
    refine lv_iinc (v := l3 + 1) (lv' := [(3, .int (l3 + 1)), (0, .ref (Z 200)), (1, .int l1), (2, .int l2), (4, .int l4)]) hx hb dX12_anew_125 hl (k := 3) rfl rfl (by decide) rfl (fun ls hl => ?_)
    refine lv_goto (tgt := 52) hx hb dX12_anew_128 (by decide) ?_
    exact hR_52 _ _ _ _ h _ _ _ hS (lv_sub hl [1, 2, 3, 0] rfl)
  · have h := im (c_3) h
    refine lv_aload_n hx hb dX12_anew_92 rfl (lv_at hl 0 rfl) ?_
    refine rg_82 X hS dX12_anew_93 ?_
    refine lv_aload_n hx hb dX12_anew_96 rfl (lv_at hl 0 rfl) ?_
    refine rg_39 X hS dX12_anew_97 ?_
    refine lv_iload_n hx hb dX12_anew_100 rfl (lv_at hl 1 rfl) ?_
    obtain ⟨v_4, e_v_4, i_5, h⟩ := rd_of h
    refine ra_39 X hS i_5 e_v_4 dX12_anew_101 ?_
    refine lv_aload_n hx hb dX12_anew_102 rfl (lv_at hl 0 rfl) ?_
    refine rg_23 X hS dX12_anew_103 ?_
    refine lv_iload_n hx hb dX12_anew_106 rfl (lv_at hl 3 rfl) ?_
    obtain ⟨v_6, e_v_6, i_7, h⟩ := rd_of h
    refine ra_23 X hS i_7 e_v_6 dX12_anew_107 ?_
    refine lv_iadd hx hb dX12_anew_108 ?_
    refine lv_iload hx hb dX12_anew_109 (lv_at hl 4 rfl) ?_
    refine lv_iadd hx hb dX12_anew_111 ?_
    refine lv_aload_n hx hb dX12_anew_112 rfl (lv_at hl 0 rfl) ?_
    refine rg_24 X hS dX12_anew_113 ?_
    refine lv_iload_n hx hb dX12_anew_116 rfl (lv_at hl 3 rfl) ?_
    obtain ⟨v_8, e_v_8, i_9, h⟩ := rd_of h
    refine ra_24 X hS i_9 e_v_8 dX12_anew_117 ?_
    obtain ⟨u_10, e_u_10, i_11, h⟩ := wr_of h
    refine rs_82 X hS i_11 e_u_10 dX12_anew_118 (fun H locs hS => ?_)
    refine lv_iinc (v := l4 + 1) (lv' := [(4, .int (l4 + 1)), (0, .ref (Z 200)), (1, .int l1), (2, .int l2), (3, .int l3)]) hx hb dX12_anew_119 hl (k := 4) rfl rfl (by decide) rfl (fun ls hl => ?_)
    refine lv_goto (tgt := 81) hx hb dX12_anew_122 (by decide) ?_
    exact hR_81 _ _ _ _ _ h _ _ _ hS (lv_sub hl [1, 2, 3, 4, 0] rfl)
def LP_anew_81 (N : Nat) (R_8 : Int32 × RSt → Option (Int32 × RSt)) (R_52 : Int32 × Int32 × Int32 × RSt → Option (Int32 × RSt)) : Nat → Int32 × Int32 × Int32 × Int32 × RSt → Option (Int32 × RSt) := lp (fun R a => B_anew_81 N R_8 R_52 R a.1 a.2.1 a.2.2.1 a.2.2.2.1 a.2.2.2.2)
theorem bl_anew_81 {r : Int32} (X : RC p s m args c cX12_anew 5 (Cond.code yX12_anew cX12_anew 5 none) D kA V A) (hE : REv p l e R s m args below meth c cX12_anew D kA Z A Q w) (hF : 0 ≤ R.frames) (hL : 0 ≤ R.locals) {R_8 : Int32 × RSt → Option (Int32 × RSt)} {R_52 : Int32 × Int32 × Int32 × RSt → Option (Int32 × RSt)} (hR_8 : ∀ (l1 : Int32) (u : RSt), R_8 (l1, u) = some (r, w) → ∀ (H : Heap) (locs : List Loc) (ls : Array Slot), RS D kA Z A s u H locs → lv_has ls 5 [(0, .ref (Z 200)), (1, .int l1)] → W p l e R s m args below meth c H locs 0 0 Q (F0 m 8 ls [])) (hR_52 : ∀ (l1 : Int32) (l2 : Int32) (l3 : Int32) (u : RSt), R_52 (l1, l2, l3, u) = some (r, w) → ∀ (H : Heap) (locs : List Loc) (ls : Array Slot), RS D kA Z A s u H locs → lv_has ls 5 [(0, .ref (Z 200)), (1, .int l1), (2, .int l2), (3, .int l3)] → W p l e R s m args below meth c H locs 0 0 Q (F0 m 52 ls [])) : ∀ (n : Nat) (l1 : Int32) (l2 : Int32) (l3 : Int32) (l4 : Int32) (u : RSt), LP_anew_81 N R_8 R_52 n (l1, l2, l3, l4, u) = some (r, w) → ∀ (H : Heap) (locs : List Loc) (ls : Array Slot), RS D kA Z A s u H locs → lv_has ls 5 [(0, .ref (Z 200)), (1, .int l1), (2, .int l2), (3, .int l3), (4, .int l4)] → W p l e R s m args below meth c H locs 0 0 Q (F0 m 81 ls []) := by
  intro n
  induction n with
  | zero => intro l1 l2 l3 l4 u h; exact nomatch h
  | succ n ih => intro l1 l2 l3 l4 u h H locs ls hS hl; exact b_anew_81 (N := N) (R_81 := LP_anew_81 N R_8 R_52 n) X hE hF hL hR_8 hR_52 ih h hS hl
def B_anew_52 (N : Nat) (R_8 : Int32 × RSt → Option (Int32 × RSt)) (R_52 : Int32 × Int32 × Int32 × RSt → Option (Int32 × RSt)) (l1 : Int32) (l2 : Int32) (l3 : Int32) (u : RSt) : Option (Int32 × RSt) := rd (u.2.2.1 28) 48 l2 fun v_12 => rd (u.2.2.1 29) 48 l2 fun v_14 => if (((160 * (u.1 55)) + v_12) + v_14) ≤ l3 then (R_8 ((l1 + 1), u)) else (LP_anew_81 N R_8 R_52 N (l1, l2, l3, 0, u))
set_option maxHeartbeats 4000000 in
theorem b_anew_52 {r : Int32} (X : RC p s m args c cX12_anew 5 (Cond.code yX12_anew cX12_anew 5 none) D kA V A) (hE : REv p l e R s m args below meth c cX12_anew D kA Z A Q w) (hF : 0 ≤ R.frames) (hL : 0 ≤ R.locals) {R_8 : Int32 × RSt → Option (Int32 × RSt)} {R_52 : Int32 × Int32 × Int32 × RSt → Option (Int32 × RSt)} {l1 : Int32} {l2 : Int32} {l3 : Int32} (hR_8 : ∀ (l1 : Int32) (u : RSt), R_8 (l1, u) = some (r, w) → ∀ (H : Heap) (locs : List Loc) (ls : Array Slot), RS D kA Z A s u H locs → lv_has ls 5 [(0, .ref (Z 200)), (1, .int l1)] → W p l e R s m args below meth c H locs 0 0 Q (F0 m 8 ls [])) (hR_52 : ∀ (l1 : Int32) (l2 : Int32) (l3 : Int32) (u : RSt), R_52 (l1, l2, l3, u) = some (r, w) → ∀ (H : Heap) (locs : List Loc) (ls : Array Slot), RS D kA Z A s u H locs → lv_has ls 5 [(0, .ref (Z 200)), (1, .int l1), (2, .int l2), (3, .int l3)] → W p l e R s m args below meth c H locs 0 0 Q (F0 m 52 ls [])) {u : RSt} (h : B_anew_52 N R_8 R_52 l1 l2 l3 u = some (r, w)) (hS : RS D kA Z A s u H locs) (hl : lv_has ls 5 [(0, .ref (Z 200)), (1, .int l1), (2, .int l2), (3, .int l3)]) : W p l e R s m args below meth c H locs 0 0 Q (F0 m 52 ls []) := by
  obtain ⟨⟨hx, hb, hml, hown, hts⟩, hK, hEV, hA⟩ := id X
  have hG : ∀ w ∈ GW, w.before args s = true := fun w h => hts w (List.mem_cons_of_mem _ h)
  unfold B_anew_52 at h
  refine lv_iload_n hx hb dX12_anew_52 rfl (lv_at hl 3 rfl) ?_
  refine lv_sipush (v := 160) hx hb dX12_anew_53 (by decide) ?_
  refine lv_aload_n hx hb dX12_anew_56 rfl (lv_at hl 0 rfl) ?_
  refine rg_55 X hS dX12_anew_57 ?_
  refine lv_imul hx hb dX12_anew_60 ?_
  refine lv_aload_n hx hb dX12_anew_61 rfl (lv_at hl 0 rfl) ?_
  refine rg_28 X hS dX12_anew_62 ?_
  refine lv_iload_n hx hb dX12_anew_65 rfl (lv_at hl 2 rfl) ?_
  obtain ⟨v_12, e_v_12, i_13, h⟩ := rd_of h
  refine ra_28 X hS i_13 e_v_12 dX12_anew_66 ?_
  refine lv_iadd hx hb dX12_anew_67 ?_
  refine lv_aload_n hx hb dX12_anew_68 rfl (lv_at hl 0 rfl) ?_
  refine rg_29 X hS dX12_anew_69 ?_
  refine lv_iload_n hx hb dX12_anew_72 rfl (lv_at hl 2 rfl) ?_
  obtain ⟨v_14, e_v_14, i_15, h⟩ := rd_of h
  refine ra_29 X hS i_15 e_v_14 dX12_anew_73 ?_
  refine lv_iadd hx hb dX12_anew_74 ?_
  refine lv_icmp_ge (tgt := 131) hx hb dX12_anew_75 (by decide) (fun c_16 => ?_) (fun c_16 => ?_)
  · have h := ip (c_16) h
    refine lv_iinc (v := l1 + 1) (lv' := [(1, .int (l1 + 1)), (0, .ref (Z 200)), (2, .int l2), (3, .int l3)]) hx hb dX12_anew_131 hl (k := 1) rfl rfl (by decide) rfl (fun ls hl => ?_)
    refine lv_goto (tgt := 8) hx hb dX12_anew_134 (by decide) ?_
    exact hR_8 _ _ h _ _ _ hS (lv_sub hl [1, 0] rfl)
  · have h := im (c_16) h
    refine lv_iconst (v := 0) hx hb dX12_anew_78 (by decide) ?_
    refine lv_istore (lv' := [(4, .int 0), (0, .ref (Z 200)), (1, .int l1), (2, .int l2), (3, .int l3)]) hx hb dX12_anew_79 hl (by decide) rfl (fun ls hl => ?_)
    exact bl_anew_81 X hE hF hL hR_8 hR_52 _ _ _ _ _ _ h _ _ _ hS (lv_sub hl [1, 2, 3, 4, 0] rfl)
def LP_anew_52 (N : Nat) (R_8 : Int32 × RSt → Option (Int32 × RSt)) : Nat → Int32 × Int32 × Int32 × RSt → Option (Int32 × RSt) := lp (fun R a => B_anew_52 N R_8 R a.1 a.2.1 a.2.2.1 a.2.2.2)
theorem bl_anew_52 {r : Int32} (X : RC p s m args c cX12_anew 5 (Cond.code yX12_anew cX12_anew 5 none) D kA V A) (hE : REv p l e R s m args below meth c cX12_anew D kA Z A Q w) (hF : 0 ≤ R.frames) (hL : 0 ≤ R.locals) {R_8 : Int32 × RSt → Option (Int32 × RSt)} (hR_8 : ∀ (l1 : Int32) (u : RSt), R_8 (l1, u) = some (r, w) → ∀ (H : Heap) (locs : List Loc) (ls : Array Slot), RS D kA Z A s u H locs → lv_has ls 5 [(0, .ref (Z 200)), (1, .int l1)] → W p l e R s m args below meth c H locs 0 0 Q (F0 m 8 ls [])) : ∀ (n : Nat) (l1 : Int32) (l2 : Int32) (l3 : Int32) (u : RSt), LP_anew_52 N R_8 n (l1, l2, l3, u) = some (r, w) → ∀ (H : Heap) (locs : List Loc) (ls : Array Slot), RS D kA Z A s u H locs → lv_has ls 5 [(0, .ref (Z 200)), (1, .int l1), (2, .int l2), (3, .int l3)] → W p l e R s m args below meth c H locs 0 0 Q (F0 m 52 ls []) := by
  intro n
  induction n with
  | zero => intro l1 l2 l3 u h; exact nomatch h
  | succ n ih => intro l1 l2 l3 u h H locs ls hS hl; exact b_anew_52 (N := N) (R_52 := LP_anew_52 N R_8 n) X hE hF hL hR_8 ih h hS hl
def B_anew_139 (N : Nat) (R_139 : Int32 × RSt → Option (Int32 × RSt)) (l1 : Int32) (u : RSt) : Option (Int32 × RSt) := if (8 : Int32) ≤ l1 then (some (0, u)) else (wr 8 l1 (sA u 88 l1.toNatClampNeg (vp_nar .boolean 0)) fun u_18 => R_139 ((l1 + 1), u_18))
set_option maxHeartbeats 4000000 in
theorem b_anew_139 {r : Int32} (X : RC p s m args c cX12_anew 5 (Cond.code yX12_anew cX12_anew 5 none) D kA V A) (hE : REv p l e R s m args below meth c cX12_anew D kA Z A Q w) (hF : 0 ≤ R.frames) (hL : 0 ≤ R.locals) {R_139 : Int32 × RSt → Option (Int32 × RSt)} {l1 : Int32} (hR_139 : ∀ (l1 : Int32) (u : RSt), R_139 (l1, u) = some (r, w) → ∀ (H : Heap) (locs : List Loc) (ls : Array Slot), RS D kA Z A s u H locs → lv_has ls 5 [(0, .ref (Z 200)), (1, .int l1)] → W p l e R s m args below meth c H locs 0 0 Q (F0 m 139 ls [])) {u : RSt} (h : B_anew_139 N R_139 l1 u = some (r, w)) (hS : RS D kA Z A s u H locs) (hl : lv_has ls 5 [(0, .ref (Z 200)), (1, .int l1)]) : W p l e R s m args below meth c H locs 0 0 Q (F0 m 139 ls []) := by
  obtain ⟨⟨hx, hb, hml, hown, hts⟩, hK, hEV, hA⟩ := id X
  have hG : ∀ w ∈ GW, w.before args s = true := fun w h => hts w (List.mem_cons_of_mem _ h)
  unfold B_anew_139 at h
  refine lv_iload_n hx hb dX12_anew_139 rfl (lv_at hl 1 rfl) ?_
  refine lv_bipush (v := 8) hx hb dX12_anew_140 (by decide) ?_
  refine lv_icmp_ge (tgt := 158) hx hb dX12_anew_142 (by decide) (fun c_17 => ?_) (fun c_17 => ?_)
  · have h := ip (c_17) h
    obtain ⟨-, rfl⟩ := so h
    exact hE _ _ _ _ hS dX12_anew_158
  · have h := im (c_17) h
    refine lv_aload_n hx hb dX12_anew_145 rfl (lv_at hl 0 rfl) ?_
    refine rg_88 X hS dX12_anew_146 ?_
    refine lv_iload_n hx hb dX12_anew_149 rfl (lv_at hl 1 rfl) ?_
    refine lv_iconst (v := 0) hx hb dX12_anew_150 (by decide) ?_
    obtain ⟨u_18, e_u_18, i_19, h⟩ := wr_of h
    refine rs_88 X hS i_19 e_u_18 dX12_anew_151 (fun H locs hS => ?_)
    refine lv_iinc (v := l1 + 1) (lv' := [(1, .int (l1 + 1)), (0, .ref (Z 200))]) hx hb dX12_anew_152 hl (k := 1) rfl rfl (by decide) rfl (fun ls hl => ?_)
    refine lv_goto (tgt := 139) hx hb dX12_anew_155 (by decide) ?_
    exact hR_139 _ _ h _ _ _ hS (lv_sub hl [1, 0] rfl)
def LP_anew_139 (N : Nat) : Nat → Int32 × RSt → Option (Int32 × RSt) := lp (fun R a => B_anew_139 N R a.1 a.2)
theorem bl_anew_139 {r : Int32} (X : RC p s m args c cX12_anew 5 (Cond.code yX12_anew cX12_anew 5 none) D kA V A) (hE : REv p l e R s m args below meth c cX12_anew D kA Z A Q w) (hF : 0 ≤ R.frames) (hL : 0 ≤ R.locals)  : ∀ (n : Nat) (l1 : Int32) (u : RSt), LP_anew_139 N n (l1, u) = some (r, w) → ∀ (H : Heap) (locs : List Loc) (ls : Array Slot), RS D kA Z A s u H locs → lv_has ls 5 [(0, .ref (Z 200)), (1, .int l1)] → W p l e R s m args below meth c H locs 0 0 Q (F0 m 139 ls []) := by
  intro n
  induction n with
  | zero => intro l1 u h; exact nomatch h
  | succ n ih => intro l1 u h H locs ls hS hl; exact b_anew_139 (N := N) (R_139 := LP_anew_139 N n) X hE hF hL  ih h hS hl
def B_anew_8 (N : Nat) (R_8 : Int32 × RSt → Option (Int32 × RSt)) (l1 : Int32) (u : RSt) : Option (Int32 × RSt) := rd (u.2.2.1 42) 2 (u.1 55) fun v_20 => if ((24 * (u.1 55)) + v_20) ≤ l1 then (LP_anew_139 N N (0, u)) else (rd (u.2.2.1 38) 48 l1 fun v_23 => rd (u.2.2.1 28) 48 v_23 fun v_25 => LP_anew_52 N R_8 N (l1, v_23, ((160 * (u.1 55)) + v_25), u))
set_option maxHeartbeats 4000000 in
theorem b_anew_8 {r : Int32} (X : RC p s m args c cX12_anew 5 (Cond.code yX12_anew cX12_anew 5 none) D kA V A) (hE : REv p l e R s m args below meth c cX12_anew D kA Z A Q w) (hF : 0 ≤ R.frames) (hL : 0 ≤ R.locals) {R_8 : Int32 × RSt → Option (Int32 × RSt)} {l1 : Int32} (hR_8 : ∀ (l1 : Int32) (u : RSt), R_8 (l1, u) = some (r, w) → ∀ (H : Heap) (locs : List Loc) (ls : Array Slot), RS D kA Z A s u H locs → lv_has ls 5 [(0, .ref (Z 200)), (1, .int l1)] → W p l e R s m args below meth c H locs 0 0 Q (F0 m 8 ls [])) {u : RSt} (h : B_anew_8 N R_8 l1 u = some (r, w)) (hS : RS D kA Z A s u H locs) (hl : lv_has ls 5 [(0, .ref (Z 200)), (1, .int l1)]) : W p l e R s m args below meth c H locs 0 0 Q (F0 m 8 ls []) := by
  obtain ⟨⟨hx, hb, hml, hown, hts⟩, hK, hEV, hA⟩ := id X
  have hG : ∀ w ∈ GW, w.before args s = true := fun w h => hts w (List.mem_cons_of_mem _ h)
  unfold B_anew_8 at h
  refine lv_iload_n hx hb dX12_anew_8 rfl (lv_at hl 1 rfl) ?_
  refine lv_bipush (v := 24) hx hb dX12_anew_9 (by decide) ?_
  refine lv_aload_n hx hb dX12_anew_11 rfl (lv_at hl 0 rfl) ?_
  refine rg_55 X hS dX12_anew_12 ?_
  refine lv_imul hx hb dX12_anew_15 ?_
  refine lv_aload_n hx hb dX12_anew_16 rfl (lv_at hl 0 rfl) ?_
  refine rg_42 X hS dX12_anew_17 ?_
  refine lv_aload_n hx hb dX12_anew_20 rfl (lv_at hl 0 rfl) ?_
  refine rg_55 X hS dX12_anew_21 ?_
  obtain ⟨v_20, e_v_20, i_21, h⟩ := rd_of h
  refine ra_42 X hS i_21 e_v_20 dX12_anew_24 ?_
  refine lv_iadd hx hb dX12_anew_25 ?_
  refine lv_icmp_ge (tgt := 137) hx hb dX12_anew_26 (by decide) (fun c_22 => ?_) (fun c_22 => ?_)
  · have h := ip (c_22) h
    refine lv_iconst (v := 0) hx hb dX12_anew_137 (by decide) ?_
    refine lv_istore_n (lv' := [(1, .int 0), (0, .ref (Z 200))]) hx hb dX12_anew_138 rfl hl (by decide) rfl (fun ls hl => ?_)
    exact bl_anew_139 X hE hF hL  _ _ _ h _ _ _ hS (lv_sub hl [1, 0] rfl)
  · have h := im (c_22) h
    refine lv_aload_n hx hb dX12_anew_29 rfl (lv_at hl 0 rfl) ?_
    refine rg_38 X hS dX12_anew_30 ?_
    refine lv_iload_n hx hb dX12_anew_33 rfl (lv_at hl 1 rfl) ?_
    obtain ⟨v_23, e_v_23, i_24, h⟩ := rd_of h
    refine ra_38 X hS i_24 e_v_23 dX12_anew_34 ?_
    refine lv_istore_n (lv' := [(2, .int v_23), (0, .ref (Z 200)), (1, .int l1)]) hx hb dX12_anew_35 rfl hl (by decide) rfl (fun ls hl => ?_)
    refine lv_sipush (v := 160) hx hb dX12_anew_36 (by decide) ?_
    refine lv_aload_n hx hb dX12_anew_39 rfl (lv_at hl 1 rfl) ?_
    refine rg_55 X hS dX12_anew_40 ?_
    refine lv_imul hx hb dX12_anew_43 ?_
    refine lv_aload_n hx hb dX12_anew_44 rfl (lv_at hl 1 rfl) ?_
    refine rg_28 X hS dX12_anew_45 ?_
    refine lv_iload_n hx hb dX12_anew_48 rfl (lv_at hl 0 rfl) ?_
    obtain ⟨v_25, e_v_25, i_26, h⟩ := rd_of h
    refine ra_28 X hS i_26 e_v_25 dX12_anew_49 ?_
    refine lv_iadd hx hb dX12_anew_50 ?_
    refine lv_istore_n (lv' := [(3, .int ((160 * (u.1 55)) + v_25)), (2, .int v_23), (0, .ref (Z 200)), (1, .int l1)]) hx hb dX12_anew_51 rfl hl (by decide) rfl (fun ls hl => ?_)
    exact bl_anew_52 X hE hF hL hR_8 _ _ _ _ _ h _ _ _ hS (lv_sub hl [2, 3, 1, 0] rfl)
def LP_anew_8 (N : Nat) : Nat → Int32 × RSt → Option (Int32 × RSt) := lp (fun R a => B_anew_8 N R a.1 a.2)
theorem bl_anew_8 {r : Int32} (X : RC p s m args c cX12_anew 5 (Cond.code yX12_anew cX12_anew 5 none) D kA V A) (hE : REv p l e R s m args below meth c cX12_anew D kA Z A Q w) (hF : 0 ≤ R.frames) (hL : 0 ≤ R.locals)  : ∀ (n : Nat) (l1 : Int32) (u : RSt), LP_anew_8 N n (l1, u) = some (r, w) → ∀ (H : Heap) (locs : List Loc) (ls : Array Slot), RS D kA Z A s u H locs → lv_has ls 5 [(0, .ref (Z 200)), (1, .int l1)] → W p l e R s m args below meth c H locs 0 0 Q (F0 m 8 ls []) := by
  intro n
  induction n with
  | zero => intro l1 u h; exact nomatch h
  | succ n ih => intro l1 u h H locs ls hS hl; exact b_anew_8 (N := N) (R_8 := LP_anew_8 N n) X hE hF hL  ih h hS hl
def B_anew_0 (N : Nat) (u : RSt) : Option (Int32 × RSt) := LP_anew_8 N N ((24 * (u.1 55)), u)
set_option maxHeartbeats 4000000 in
theorem b_anew_0 {r : Int32} (X : RC p s m args c cX12_anew 5 (Cond.code yX12_anew cX12_anew 5 none) D kA V A) (hE : REv p l e R s m args below meth c cX12_anew D kA Z A Q w) (hF : 0 ≤ R.frames) (hL : 0 ≤ R.locals)  {u : RSt} (h : B_anew_0 N u = some (r, w)) (hS : RS D kA Z A s u H locs) (hl : lv_has ls 5 [(0, .ref (Z 200))]) : W p l e R s m args below meth c H locs 0 0 Q (F0 m 0 ls []) := by
  obtain ⟨⟨hx, hb, hml, hown, hts⟩, hK, hEV, hA⟩ := id X
  have hG : ∀ w ∈ GW, w.before args s = true := fun w h => hts w (List.mem_cons_of_mem _ h)
  unfold B_anew_0 at h
  refine lv_bipush (v := 24) hx hb dX12_anew_0 (by decide) ?_
  refine lv_aload_n hx hb dX12_anew_2 rfl (lv_at hl 0 rfl) ?_
  refine rg_55 X hS dX12_anew_3 ?_
  refine lv_imul hx hb dX12_anew_6 ?_
  refine lv_istore_n (lv' := [(1, .int (24 * (u.1 55))), (0, .ref (Z 200))]) hx hb dX12_anew_7 rfl hl (by decide) rfl (fun ls hl => ?_)
  exact bl_anew_8 X hE hF hL  _ _ _ h _ _ _ hS (lv_sub hl [1, 0] rfl)
def F_anew (N : Nat) (u : RSt) : Option (Int32 × RSt) := B_anew_0 N u
set_option maxHeartbeats 4000000 in
theorem k_anew (l : Launch) (D : va_G) (kA : Nat → ClassId) (V Z : Nat → Nat) (N : Nat) (u : RSt) (sz : Nat) {r : Int32} {w : RSt} (h : F_anew N u = some (r, w)) : Met l yX12_anew (Cond.code yX12_anew cX12_anew 5 none :: GW) { frames := 0, cells := 0, slots := 0, locals := 0 } (rPc D kA V Z [] u sz) (rQv D kA Z u sz w) 0 0 (va_A (RW kA Z u) sz) := by
  refine Met.ofW (cc := cX12_anew) (maxL := 5) (ret := none) (by decide) rfl ?_
  intro p e s m args below meth c s₁ Bd hml hv
  obtain ⟨rfl, hsz, hP, hK, hD0, hE⟩ := hv
  have hts := atoms_spec (ws := Cond.code yX12_anew cX12_anew 5 none :: GW) Bd.pre
  have hl := lv_entry (.ref (Z 200) :: []) (n := 5) (Nat.le_of_ble_eq_true rfl)
  rw [lg_entry_eq]
  generalize (lg_sl (.ref (Z 200) :: []) ++ List.replicate (5 - (lg_sl (.ref (Z 200) :: [])).length) Slot.unset).toArray = ls at hl ⊢
  have hl : lv_has ls 5 [(0, .ref (Z 200))] := hl
  subst hsz
  have X : RC p s m (.ref (Z 200) :: []).toArray c cX12_anew 5 (Cond.code yX12_anew cX12_anew 5 none) D kA V (va_A (RW kA Z u) s.heap.size) := ⟨⟨Bd.exec, Bd.bytes, hml, findClass_of_methodNamed Bd.named, hts⟩, hK, hE, fun q h => Or.inr h⟩
  exact b_anew_0 X (rend_v (cy := cX12_anew) X Bd.returns Bd.notSynchronized) (Nat.le_refl _) (Nat.le_refl _) h ⟨hP, hD0.self, va_S.rf⟩ (lv_sub hl [0] rfl)
theorem kc_anew {r : Int32} {cc : ByteArray} {pc nL : Nat} {c0 : Cond} {rest : List Value} {u : RSt} (X : RC p s m args c cc nL c0 D kA V A) (hS : RS D kA Z A s u H locs) (h : F_anew N u = some (r, w)) (hF : 0 + 1 ≤ R.frames) (hL : 8 + (5 + 11) + 0 ≤ R.locals) (hl : ls.size = nL) (hc : (rest.map fun v => v.category).sum ≤ 8) (hdg : decode cc pc = .ok (.invokevirtual 726, 3)) (kk : ∀ H locs, RS D kA Z A s w H locs → W p l e R s m args below meth c H locs 0 0 Q (F0 m (pc + 3) ls (rest))) : W p l e R s m args below meth c H locs 0 0 Q (F0 m pc ls (.ref (Z 200) :: rest)) :=
  rcall_v (n := 0) X hS (k_anew l D kA V Z N  u H.size h) (gw_V gw_2589 gw_2591 gs_11_14 gw_16 gw_2592) (by decide +kernel) hF hL rfl hl hc rfl hdg kk
def B_begin_7 (N : Nat) (R_7 : Int32 × RSt → Option (Int32 × RSt)) (l1 : Int32) (u : RSt) : Option (Int32 × RSt) := if (128 : Int32) ≤ l1 then (some (0, u)) else (wr 128 l1 (sA u 85 l1.toNatClampNeg 0) fun u_2 => R_7 ((l1 + 1), u_2))
set_option maxHeartbeats 4000000 in
theorem b_begin_7 {r : Int32} (X : RC p s m args c cX12_begin 2 (Cond.code yX12_begin cX12_begin 2 none) D kA V A) (hE : REv p l e R s m args below meth c cX12_begin D kA Z A Q w) (hF : 0 ≤ R.frames) (hL : 0 ≤ R.locals) {R_7 : Int32 × RSt → Option (Int32 × RSt)} {l1 : Int32} (hR_7 : ∀ (l1 : Int32) (u : RSt), R_7 (l1, u) = some (r, w) → ∀ (H : Heap) (locs : List Loc) (ls : Array Slot), RS D kA Z A s u H locs → lv_has ls 2 [(0, .ref (Z 200)), (1, .int l1)] → W p l e R s m args below meth c H locs 0 0 Q (F0 m 7 ls [])) {u : RSt} (h : B_begin_7 N R_7 l1 u = some (r, w)) (hS : RS D kA Z A s u H locs) (hl : lv_has ls 2 [(0, .ref (Z 200)), (1, .int l1)]) : W p l e R s m args below meth c H locs 0 0 Q (F0 m 7 ls []) := by
  obtain ⟨⟨hx, hb, hml, hown, hts⟩, hK, hEV, hA⟩ := id X
  have hG : ∀ w ∈ GW, w.before args s = true := fun w h => hts w (List.mem_cons_of_mem _ h)
  unfold B_begin_7 at h
  refine lv_iload_n hx hb dX12_begin_7 rfl (lv_at hl 1 rfl) ?_
  refine lv_sipush (v := 128) hx hb dX12_begin_8 (by decide) ?_
  refine lv_icmp_ge (tgt := 27) hx hb dX12_begin_11 (by decide) (fun c_1 => ?_) (fun c_1 => ?_)
  · have h := ip (c_1) h
    obtain ⟨-, rfl⟩ := so h
    exact hE _ _ _ _ hS dX12_begin_27
  · have h := im (c_1) h
    refine lv_aload_n hx hb dX12_begin_14 rfl (lv_at hl 0 rfl) ?_
    refine rg_85 X hS dX12_begin_15 ?_
    refine lv_iload_n hx hb dX12_begin_18 rfl (lv_at hl 1 rfl) ?_
    refine lv_iconst (v := 0) hx hb dX12_begin_19 (by decide) ?_
    obtain ⟨u_2, e_u_2, i_3, h⟩ := wr_of h
    refine rs_85 X hS i_3 e_u_2 dX12_begin_20 (fun H locs hS => ?_)
    refine lv_iinc (v := l1 + 1) (lv' := [(1, .int (l1 + 1)), (0, .ref (Z 200))]) hx hb dX12_begin_21 hl (k := 1) rfl rfl (by decide) rfl (fun ls hl => ?_)
    refine lv_goto (tgt := 7) hx hb dX12_begin_24 (by decide) ?_
    exact hR_7 _ _ h _ _ _ hS (lv_sub hl [1, 0] rfl)
def LP_begin_7 (N : Nat) : Nat → Int32 × RSt → Option (Int32 × RSt) := lp (fun R a => B_begin_7 N R a.1 a.2)
theorem bl_begin_7 {r : Int32} (X : RC p s m args c cX12_begin 2 (Cond.code yX12_begin cX12_begin 2 none) D kA V A) (hE : REv p l e R s m args below meth c cX12_begin D kA Z A Q w) (hF : 0 ≤ R.frames) (hL : 0 ≤ R.locals)  : ∀ (n : Nat) (l1 : Int32) (u : RSt), LP_begin_7 N n (l1, u) = some (r, w) → ∀ (H : Heap) (locs : List Loc) (ls : Array Slot), RS D kA Z A s u H locs → lv_has ls 2 [(0, .ref (Z 200)), (1, .int l1)] → W p l e R s m args below meth c H locs 0 0 Q (F0 m 7 ls []) := by
  intro n
  induction n with
  | zero => intro l1 u h; exact nomatch h
  | succ n ih => intro l1 u h H locs ls hS hl; exact b_begin_7 (N := N) (R_7 := LP_begin_7 N n) X hE hF hL  ih h hS hl
def B_begin_0 (N : Nat) (u : RSt) : Option (Int32 × RSt) := pu (sI u 104 0) fun u_4 => LP_begin_7 N N (0, u_4)
set_option maxHeartbeats 4000000 in
theorem b_begin_0 {r : Int32} (X : RC p s m args c cX12_begin 2 (Cond.code yX12_begin cX12_begin 2 none) D kA V A) (hE : REv p l e R s m args below meth c cX12_begin D kA Z A Q w) (hF : 0 ≤ R.frames) (hL : 0 ≤ R.locals)  {u : RSt} (h : B_begin_0 N u = some (r, w)) (hS : RS D kA Z A s u H locs) (hl : lv_has ls 2 [(0, .ref (Z 200))]) : W p l e R s m args below meth c H locs 0 0 Q (F0 m 0 ls []) := by
  obtain ⟨⟨hx, hb, hml, hown, hts⟩, hK, hEV, hA⟩ := id X
  have hG : ∀ w ∈ GW, w.before args s = true := fun w h => hts w (List.mem_cons_of_mem _ h)
  unfold B_begin_0 at h
  refine lv_aload_n hx hb dX12_begin_0 rfl (lv_at hl 0 rfl) ?_
  refine lv_iconst (v := 0) hx hb dX12_begin_1 (by decide) ?_
  obtain ⟨u_4, e_u_4, h⟩ := pu_of h
  refine rp_104 X hS e_u_4 dX12_begin_2 (fun H locs hS => ?_)
  refine lv_iconst (v := 0) hx hb dX12_begin_5 (by decide) ?_
  refine lv_istore_n (lv' := [(1, .int 0), (0, .ref (Z 200))]) hx hb dX12_begin_6 rfl hl (by decide) rfl (fun ls hl => ?_)
  exact bl_begin_7 X hE hF hL  _ _ _ h _ _ _ hS (lv_sub hl [1, 0] rfl)
def F_begin (N : Nat) (u : RSt) : Option (Int32 × RSt) := B_begin_0 N u
set_option maxHeartbeats 4000000 in
theorem k_begin (l : Launch) (D : va_G) (kA : Nat → ClassId) (V Z : Nat → Nat) (N : Nat) (u : RSt) (sz : Nat) {r : Int32} {w : RSt} (h : F_begin N u = some (r, w)) : Met l yX12_begin (Cond.code yX12_begin cX12_begin 2 none :: GW) { frames := 0, cells := 0, slots := 0, locals := 0 } (rPc D kA V Z [] u sz) (rQv D kA Z u sz w) 0 0 (va_A (RW kA Z u) sz) := by
  refine Met.ofW (cc := cX12_begin) (maxL := 2) (ret := none) (by decide) rfl ?_
  intro p e s m args below meth c s₁ Bd hml hv
  obtain ⟨rfl, hsz, hP, hK, hD0, hE⟩ := hv
  have hts := atoms_spec (ws := Cond.code yX12_begin cX12_begin 2 none :: GW) Bd.pre
  have hl := lv_entry (.ref (Z 200) :: []) (n := 2) (Nat.le_of_ble_eq_true rfl)
  rw [lg_entry_eq]
  generalize (lg_sl (.ref (Z 200) :: []) ++ List.replicate (2 - (lg_sl (.ref (Z 200) :: [])).length) Slot.unset).toArray = ls at hl ⊢
  have hl : lv_has ls 2 [(0, .ref (Z 200))] := hl
  subst hsz
  have X : RC p s m (.ref (Z 200) :: []).toArray c cX12_begin 2 (Cond.code yX12_begin cX12_begin 2 none) D kA V (va_A (RW kA Z u) s.heap.size) := ⟨⟨Bd.exec, Bd.bytes, hml, findClass_of_methodNamed Bd.named, hts⟩, hK, hE, fun q h => Or.inr h⟩
  exact b_begin_0 X (rend_v (cy := cX12_begin) X Bd.returns Bd.notSynchronized) (Nat.le_refl _) (Nat.le_refl _) h ⟨hP, hD0.self, va_S.rf⟩ (lv_sub hl [0] rfl)
theorem kc_begin {r : Int32} {cc : ByteArray} {pc nL : Nat} {c0 : Cond} {rest : List Value} {u : RSt} (X : RC p s m args c cc nL c0 D kA V A) (hS : RS D kA Z A s u H locs) (h : F_begin N u = some (r, w)) (hF : 0 + 1 ≤ R.frames) (hL : 8 + (2 + 11) + 0 ≤ R.locals) (hl : ls.size = nL) (hc : (rest.map fun v => v.category).sum ≤ 8) (hdg : decode cc pc = .ok (.invokevirtual 729, 3)) (kk : ∀ H locs, RS D kA Z A s w H locs → W p l e R s m args below meth c H locs 0 0 Q (F0 m (pc + 3) ls (rest))) : W p l e R s m args below meth c H locs 0 0 Q (F0 m pc ls (.ref (Z 200) :: rest)) :=
  rcall_v (n := 0) X hS (k_begin l D kA V Z N  u H.size h) (gw_V gw_2593 gw_2595 gs_11_15 gw_16 gw_2596) (by decide +kernel) hF hL rfl hl hc rfl hdg kk
def B_accept_229 (N : Nat) (R_9 : Int32 × Int32 × RSt → Option (Int32 × RSt)) (R_90 : Int32 × Int32 × Int32 × RSt → Option (Int32 × RSt)) (l1 : Int32) (l2 : Int32) (l3 : Int32) (u : RSt) : Option (Int32 × RSt) := R_90 (l1, l2, (l3 + 1), u)
set_option maxHeartbeats 4000000 in
theorem b_accept_229 {r : Int32} (X : RC p s m args c cX12_accept 5 (Cond.code yX12_accept cX12_accept 5 none) D kA V A) (hE : REv p l e R s m args below meth c cX12_accept D kA Z A Q w) (hF : 1 ≤ R.frames) (hL : 24 ≤ R.locals) {R_9 : Int32 × Int32 × RSt → Option (Int32 × RSt)} {R_90 : Int32 × Int32 × Int32 × RSt → Option (Int32 × RSt)} {l1 : Int32} {l2 : Int32} {l3 : Int32} (hR_9 : ∀ (l1 : Int32) (l2 : Int32) (u : RSt), R_9 (l1, l2, u) = some (r, w) → ∀ (H : Heap) (locs : List Loc) (ls : Array Slot), RS D kA Z A s u H locs → lv_has ls 5 [(0, .ref (Z 200)), (1, .int l1), (2, .int l2)] → W p l e R s m args below meth c H locs 0 0 Q (F0 m 9 ls [])) (hR_90 : ∀ (l1 : Int32) (l2 : Int32) (l3 : Int32) (u : RSt), R_90 (l1, l2, l3, u) = some (r, w) → ∀ (H : Heap) (locs : List Loc) (ls : Array Slot), RS D kA Z A s u H locs → lv_has ls 5 [(0, .ref (Z 200)), (1, .int l1), (2, .int l2), (3, .int l3)] → W p l e R s m args below meth c H locs 0 0 Q (F0 m 90 ls [])) {u : RSt} (h : B_accept_229 N R_9 R_90 l1 l2 l3 u = some (r, w)) (hS : RS D kA Z A s u H locs) (hl : lv_has ls 5 [(0, .ref (Z 200)), (1, .int l1), (2, .int l2), (3, .int l3)]) : W p l e R s m args below meth c H locs 0 0 Q (F0 m 229 ls []) := by
  obtain ⟨⟨hx, hb, hml, hown, hts⟩, hK, hEV, hA⟩ := id X
  have hG : ∀ w ∈ GW, w.before args s = true := fun w h => hts w (List.mem_cons_of_mem _ h)
  unfold B_accept_229 at h
  refine lv_iinc (v := l3 + 1) (lv' := [(3, .int (l3 + 1)), (0, .ref (Z 200)), (1, .int l1), (2, .int l2)]) hx hb dX12_accept_229 hl (k := 3) rfl rfl (by decide) rfl (fun ls hl => ?_)
  refine lv_goto (tgt := 90) hx hb dX12_accept_232 (by decide) ?_
  exact hR_90 _ _ _ _ h _ _ _ hS (lv_sub hl [1, 2, 3, 0] rfl)
def B_accept_164 (N : Nat) (R_9 : Int32 × Int32 × RSt → Option (Int32 × RSt)) (R_90 : Int32 × Int32 × Int32 × RSt → Option (Int32 × RSt)) (R_164 : Int32 × Int32 × Int32 × Int32 × RSt → Option (Int32 × RSt)) (l1 : Int32) (l2 : Int32) (l3 : Int32) (l4 : Int32) (u : RSt) : Option (Int32 × RSt) := rd (u.2.2.1 11) 320 l2 fun v_1 => if v_1 ≤ l4 then (B_accept_229 N R_9 R_90 l1 l2 l3 u) else (rd (u.2.2.1 11) 320 l3 fun v_4 => if v_4 ≤ l4 then (B_accept_229 N R_9 R_90 l1 l2 l3 u) else (rd (u.2.2.1 15) 320 l2 fun v_7 => rd (u.2.2.1 10) 320 l2 fun v_9 => rd (u.2.2.1 15) 320 l3 fun v_11 => rd (u.2.2.2 82) 3000 (v_11 + l4) fun v_13 => wr 3000 (v_7 + l4) (sB u 83 (v_7 + l4).toNatClampNeg (r_cut v_9 v_13)) fun u_17 => R_164 (l1, l2, l3, (l4 + 1), u_17)))
set_option maxHeartbeats 4000000 in
theorem b_accept_164 {r : Int32} (X : RC p s m args c cX12_accept 5 (Cond.code yX12_accept cX12_accept 5 none) D kA V A) (hE : REv p l e R s m args below meth c cX12_accept D kA Z A Q w) (hF : 1 ≤ R.frames) (hL : 24 ≤ R.locals) {R_9 : Int32 × Int32 × RSt → Option (Int32 × RSt)} {R_90 : Int32 × Int32 × Int32 × RSt → Option (Int32 × RSt)} {R_164 : Int32 × Int32 × Int32 × Int32 × RSt → Option (Int32 × RSt)} {l1 : Int32} {l2 : Int32} {l3 : Int32} {l4 : Int32} (hR_9 : ∀ (l1 : Int32) (l2 : Int32) (u : RSt), R_9 (l1, l2, u) = some (r, w) → ∀ (H : Heap) (locs : List Loc) (ls : Array Slot), RS D kA Z A s u H locs → lv_has ls 5 [(0, .ref (Z 200)), (1, .int l1), (2, .int l2)] → W p l e R s m args below meth c H locs 0 0 Q (F0 m 9 ls [])) (hR_90 : ∀ (l1 : Int32) (l2 : Int32) (l3 : Int32) (u : RSt), R_90 (l1, l2, l3, u) = some (r, w) → ∀ (H : Heap) (locs : List Loc) (ls : Array Slot), RS D kA Z A s u H locs → lv_has ls 5 [(0, .ref (Z 200)), (1, .int l1), (2, .int l2), (3, .int l3)] → W p l e R s m args below meth c H locs 0 0 Q (F0 m 90 ls [])) (hR_164 : ∀ (l1 : Int32) (l2 : Int32) (l3 : Int32) (l4 : Int32) (u : RSt), R_164 (l1, l2, l3, l4, u) = some (r, w) → ∀ (H : Heap) (locs : List Loc) (ls : Array Slot), RS D kA Z A s u H locs → lv_has ls 5 [(0, .ref (Z 200)), (1, .int l1), (2, .int l2), (3, .int l3), (4, .int l4)] → W p l e R s m args below meth c H locs 0 0 Q (F0 m 164 ls [])) {u : RSt} (h : B_accept_164 N R_9 R_90 R_164 l1 l2 l3 l4 u = some (r, w)) (hS : RS D kA Z A s u H locs) (hl : lv_has ls 5 [(0, .ref (Z 200)), (1, .int l1), (2, .int l2), (3, .int l3), (4, .int l4)]) : W p l e R s m args below meth c H locs 0 0 Q (F0 m 164 ls []) := by
  obtain ⟨⟨hx, hb, hml, hown, hts⟩, hK, hEV, hA⟩ := id X
  have hG : ∀ w ∈ GW, w.before args s = true := fun w h => hts w (List.mem_cons_of_mem _ h)
  unfold B_accept_164 at h
  refine lv_iload hx hb dX12_accept_164 (lv_at hl 4 rfl) ?_
  refine lv_aload_n hx hb dX12_accept_166 rfl (lv_at hl 0 rfl) ?_
  refine rg_11 X hS dX12_accept_167 ?_
  refine lv_iload_n hx hb dX12_accept_170 rfl (lv_at hl 2 rfl) ?_
  obtain ⟨v_1, e_v_1, i_2, h⟩ := rd_of h
  refine ra_11 X hS i_2 e_v_1 dX12_accept_171 ?_
  refine lv_icmp_ge (tgt := 229) hx hb dX12_accept_172 (by decide) (fun c_3 => ?_) (fun c_3 => ?_)
  · have h := ip (c_3) h
    exact b_accept_229 X hE hF hL hR_9 hR_90 h hS (lv_sub hl [0, 1, 2, 3] rfl)
  · have h := im (c_3) h
    refine lv_iload hx hb dX12_accept_175 (lv_at hl 4 rfl) ?_
    refine lv_aload_n hx hb dX12_accept_177 rfl (lv_at hl 0 rfl) ?_
    refine rg_11 X hS dX12_accept_178 ?_
    refine lv_iload_n hx hb dX12_accept_181 rfl (lv_at hl 3 rfl) ?_
    obtain ⟨v_4, e_v_4, i_5, h⟩ := rd_of h
    refine ra_11 X hS i_5 e_v_4 dX12_accept_182 ?_
    refine lv_icmp_ge (tgt := 229) hx hb dX12_accept_183 (by decide) (fun c_6 => ?_) (fun c_6 => ?_)
    · have h := ip (c_6) h
      exact b_accept_229 X hE hF hL hR_9 hR_90 h hS (lv_sub hl [0, 1, 2, 3] rfl)
    · have h := im (c_6) h
      refine lv_aload_n hx hb dX12_accept_186 rfl (lv_at hl 0 rfl) ?_
      refine rg_83 X hS dX12_accept_187 ?_
      refine lv_aload_n hx hb dX12_accept_190 rfl (lv_at hl 0 rfl) ?_
      refine rg_15 X hS dX12_accept_191 ?_
      refine lv_iload_n hx hb dX12_accept_194 rfl (lv_at hl 2 rfl) ?_
      obtain ⟨v_7, e_v_7, i_8, h⟩ := rd_of h
      refine ra_15 X hS i_8 e_v_7 dX12_accept_195 ?_
      refine lv_iload hx hb dX12_accept_196 (lv_at hl 4 rfl) ?_
      refine lv_iadd hx hb dX12_accept_198 ?_
      refine lv_aload_n hx hb dX12_accept_199 rfl (lv_at hl 0 rfl) ?_
      refine rg_10 X hS dX12_accept_200 ?_
      refine lv_iload_n hx hb dX12_accept_203 rfl (lv_at hl 2 rfl) ?_
      obtain ⟨v_9, e_v_9, i_10, h⟩ := rd_of h
      refine ra_10 X hS i_10 e_v_9 dX12_accept_204 ?_
      refine lv_aload_n hx hb dX12_accept_205 rfl (lv_at hl 0 rfl) ?_
      refine rg_82 X hS dX12_accept_206 ?_
      refine lv_aload_n hx hb dX12_accept_209 rfl (lv_at hl 0 rfl) ?_
      refine rg_15 X hS dX12_accept_210 ?_
      refine lv_iload_n hx hb dX12_accept_213 rfl (lv_at hl 3 rfl) ?_
      obtain ⟨v_11, e_v_11, i_12, h⟩ := rd_of h
      refine ra_15 X hS i_12 e_v_11 dX12_accept_214 ?_
      refine lv_iload hx hb dX12_accept_215 (lv_at hl 4 rfl) ?_
      refine lv_iadd hx hb dX12_accept_217 ?_
      obtain ⟨v_13, e_v_13, i_14, h⟩ := rd_of h
      refine ra_82 X hS i_14 e_v_13 dX12_accept_218 ?_
      refine vp_callSl (W.runS (As := [.int v_9, .long v_13]) (rest := [.int (v_7 + l4), .ref (Z 83)]) X.1 (c_X12_cutTo l v_9 v_13) (va_cwS 2 hts (gw_P gw_2399 gw_2400 gw_16 gwp_X12_cutTo) rfl rfl rfl (by decide +kernel) ⟨Nat.le_trans (Nat.le_of_ble_eq_true rfl) hF, Nat.le_trans (Nat.le_of_ble_eq_true rfl) hL⟩) ⟨fun _ _ _ _ q => q, fun _ _ _ => ⟨rfl, trivial⟩⟩ rfl rfl hl.1 rfl (lv_room (Nat.le_of_ble_eq_true rfl)) dX12_accept_219 ⟨Nat.zero_le _, Nat.zero_le _⟩) (fun r_15 q_16 => ?_)
      subst q_16
      obtain ⟨u_17, e_u_17, i_18, h⟩ := wr_of h
      refine rs_83 X hS i_18 e_u_17 dX12_accept_222 (fun H locs hS => ?_)
      refine lv_iinc (v := l4 + 1) (lv' := [(4, .int (l4 + 1)), (0, .ref (Z 200)), (1, .int l1), (2, .int l2), (3, .int l3)]) hx hb dX12_accept_223 hl (k := 4) rfl rfl (by decide) rfl (fun ls hl => ?_)
      refine lv_goto (tgt := 164) hx hb dX12_accept_226 (by decide) ?_
      exact hR_164 _ _ _ _ _ h _ _ _ hS (lv_sub hl [1, 2, 3, 4, 0] rfl)
def LP_accept_164 (N : Nat) (R_9 : Int32 × Int32 × RSt → Option (Int32 × RSt)) (R_90 : Int32 × Int32 × Int32 × RSt → Option (Int32 × RSt)) : Nat → Int32 × Int32 × Int32 × Int32 × RSt → Option (Int32 × RSt) := lp (fun R a => B_accept_164 N R_9 R_90 R a.1 a.2.1 a.2.2.1 a.2.2.2.1 a.2.2.2.2)
theorem bl_accept_164 {r : Int32} (X : RC p s m args c cX12_accept 5 (Cond.code yX12_accept cX12_accept 5 none) D kA V A) (hE : REv p l e R s m args below meth c cX12_accept D kA Z A Q w) (hF : 1 ≤ R.frames) (hL : 24 ≤ R.locals) {R_9 : Int32 × Int32 × RSt → Option (Int32 × RSt)} {R_90 : Int32 × Int32 × Int32 × RSt → Option (Int32 × RSt)} (hR_9 : ∀ (l1 : Int32) (l2 : Int32) (u : RSt), R_9 (l1, l2, u) = some (r, w) → ∀ (H : Heap) (locs : List Loc) (ls : Array Slot), RS D kA Z A s u H locs → lv_has ls 5 [(0, .ref (Z 200)), (1, .int l1), (2, .int l2)] → W p l e R s m args below meth c H locs 0 0 Q (F0 m 9 ls [])) (hR_90 : ∀ (l1 : Int32) (l2 : Int32) (l3 : Int32) (u : RSt), R_90 (l1, l2, l3, u) = some (r, w) → ∀ (H : Heap) (locs : List Loc) (ls : Array Slot), RS D kA Z A s u H locs → lv_has ls 5 [(0, .ref (Z 200)), (1, .int l1), (2, .int l2), (3, .int l3)] → W p l e R s m args below meth c H locs 0 0 Q (F0 m 90 ls [])) : ∀ (n : Nat) (l1 : Int32) (l2 : Int32) (l3 : Int32) (l4 : Int32) (u : RSt), LP_accept_164 N R_9 R_90 n (l1, l2, l3, l4, u) = some (r, w) → ∀ (H : Heap) (locs : List Loc) (ls : Array Slot), RS D kA Z A s u H locs → lv_has ls 5 [(0, .ref (Z 200)), (1, .int l1), (2, .int l2), (3, .int l3), (4, .int l4)] → W p l e R s m args below meth c H locs 0 0 Q (F0 m 164 ls []) := by
  intro n
  induction n with
  | zero => intro l1 l2 l3 l4 u h; exact nomatch h
  | succ n ih => intro l1 l2 l3 l4 u h H locs ls hS hl; exact b_accept_164 (N := N) (R_164 := LP_accept_164 N R_9 R_90 n) X hE hF hL hR_9 hR_90 ih h hS hl
def B_accept_235 (N : Nat) (R_9 : Int32 × Int32 × RSt → Option (Int32 × RSt)) (l1 : Int32) (l2 : Int32) (u : RSt) : Option (Int32 × RSt) := R_9 (l1, (l2 + 1), u)
set_option maxHeartbeats 4000000 in
theorem b_accept_235 {r : Int32} (X : RC p s m args c cX12_accept 5 (Cond.code yX12_accept cX12_accept 5 none) D kA V A) (hE : REv p l e R s m args below meth c cX12_accept D kA Z A Q w) (hF : 1 ≤ R.frames) (hL : 24 ≤ R.locals) {R_9 : Int32 × Int32 × RSt → Option (Int32 × RSt)} {l1 : Int32} {l2 : Int32} (hR_9 : ∀ (l1 : Int32) (l2 : Int32) (u : RSt), R_9 (l1, l2, u) = some (r, w) → ∀ (H : Heap) (locs : List Loc) (ls : Array Slot), RS D kA Z A s u H locs → lv_has ls 5 [(0, .ref (Z 200)), (1, .int l1), (2, .int l2)] → W p l e R s m args below meth c H locs 0 0 Q (F0 m 9 ls [])) {u : RSt} (h : B_accept_235 N R_9 l1 l2 u = some (r, w)) (hS : RS D kA Z A s u H locs) (hl : lv_has ls 5 [(0, .ref (Z 200)), (1, .int l1), (2, .int l2)]) : W p l e R s m args below meth c H locs 0 0 Q (F0 m 235 ls []) := by
  obtain ⟨⟨hx, hb, hml, hown, hts⟩, hK, hEV, hA⟩ := id X
  have hG : ∀ w ∈ GW, w.before args s = true := fun w h => hts w (List.mem_cons_of_mem _ h)
  unfold B_accept_235 at h
  refine lv_iinc (v := l2 + 1) (lv' := [(2, .int (l2 + 1)), (0, .ref (Z 200)), (1, .int l1)]) hx hb dX12_accept_235 hl (k := 2) rfl rfl (by decide) rfl (fun ls hl => ?_)
  refine lv_goto (tgt := 9) hx hb dX12_accept_238 (by decide) ?_
  exact hR_9 _ _ _ h _ _ _ hS (lv_sub hl [1, 2, 0] rfl)
def B_accept_90 (N : Nat) (R_9 : Int32 × Int32 × RSt → Option (Int32 × RSt)) (R_90 : Int32 × Int32 × Int32 × RSt → Option (Int32 × RSt)) (l1 : Int32) (l2 : Int32) (l3 : Int32) (u : RSt) : Option (Int32 × RSt) := if l1 = (0 : Int32) then (B_accept_235 N R_9 l1 l2 u) else (rd (u.2.2.1 19) 2 (u.1 55) fun v_20 => if ((160 * (u.1 55)) + v_20) ≤ l3 then (B_accept_235 N R_9 l1 l2 u) else (rd (u.2.2.1 12) 320 l3 fun v_23 => if (1 : Int32) < v_23 then (B_accept_229 N R_9 R_90 l1 l2 l3 u) else (rd (u.2.2.2 17) 320 l3 fun v_26 => rd (u.2.2.2 17) 320 l2 fun v_28 => if v_26 = v_28 then (rd (u.2.2.2 18) 320 l3 fun v_31 => rd (u.2.2.2 18) 320 l2 fun v_33 => if v_31 = v_33 then (LP_accept_164 N R_9 R_90 N (l1, l2, l3, 0, u)) else (B_accept_229 N R_9 R_90 l1 l2 l3 u)) else (B_accept_229 N R_9 R_90 l1 l2 l3 u))))
set_option maxHeartbeats 4000000 in
theorem b_accept_90 {r : Int32} (X : RC p s m args c cX12_accept 5 (Cond.code yX12_accept cX12_accept 5 none) D kA V A) (hE : REv p l e R s m args below meth c cX12_accept D kA Z A Q w) (hF : 1 ≤ R.frames) (hL : 24 ≤ R.locals) {R_9 : Int32 × Int32 × RSt → Option (Int32 × RSt)} {R_90 : Int32 × Int32 × Int32 × RSt → Option (Int32 × RSt)} {l1 : Int32} {l2 : Int32} {l3 : Int32} (hR_9 : ∀ (l1 : Int32) (l2 : Int32) (u : RSt), R_9 (l1, l2, u) = some (r, w) → ∀ (H : Heap) (locs : List Loc) (ls : Array Slot), RS D kA Z A s u H locs → lv_has ls 5 [(0, .ref (Z 200)), (1, .int l1), (2, .int l2)] → W p l e R s m args below meth c H locs 0 0 Q (F0 m 9 ls [])) (hR_90 : ∀ (l1 : Int32) (l2 : Int32) (l3 : Int32) (u : RSt), R_90 (l1, l2, l3, u) = some (r, w) → ∀ (H : Heap) (locs : List Loc) (ls : Array Slot), RS D kA Z A s u H locs → lv_has ls 5 [(0, .ref (Z 200)), (1, .int l1), (2, .int l2), (3, .int l3)] → W p l e R s m args below meth c H locs 0 0 Q (F0 m 90 ls [])) {u : RSt} (h : B_accept_90 N R_9 R_90 l1 l2 l3 u = some (r, w)) (hS : RS D kA Z A s u H locs) (hl : lv_has ls 5 [(0, .ref (Z 200)), (1, .int l1), (2, .int l2), (3, .int l3)]) : W p l e R s m args below meth c H locs 0 0 Q (F0 m 90 ls []) := by
  obtain ⟨⟨hx, hb, hml, hown, hts⟩, hK, hEV, hA⟩ := id X
  have hG : ∀ w ∈ GW, w.before args s = true := fun w h => hts w (List.mem_cons_of_mem _ h)
  unfold B_accept_90 at h
  refine lv_iload_n hx hb dX12_accept_90 rfl (lv_at hl 1 rfl) ?_
  refine lv_if_eq (tgt := 235) hx hb dX12_accept_91 (by decide) (fun c_19 => ?_) (fun c_19 => ?_)
  · have h := ip (c_19) h
    exact b_accept_235 X hE hF hL hR_9 h hS (lv_sub hl [0, 1, 2] rfl)
  · have h := im (c_19) h
    refine lv_iload_n hx hb dX12_accept_94 rfl (lv_at hl 3 rfl) ?_
    refine lv_sipush (v := 160) hx hb dX12_accept_95 (by decide) ?_
    refine lv_aload_n hx hb dX12_accept_98 rfl (lv_at hl 0 rfl) ?_
    refine rg_55 X hS dX12_accept_99 ?_
    refine lv_imul hx hb dX12_accept_102 ?_
    refine lv_aload_n hx hb dX12_accept_103 rfl (lv_at hl 0 rfl) ?_
    refine rg_19 X hS dX12_accept_104 ?_
    refine lv_aload_n hx hb dX12_accept_107 rfl (lv_at hl 0 rfl) ?_
    refine rg_55 X hS dX12_accept_108 ?_
    obtain ⟨v_20, e_v_20, i_21, h⟩ := rd_of h
    refine ra_19 X hS i_21 e_v_20 dX12_accept_111 ?_
    refine lv_iadd hx hb dX12_accept_112 ?_
    refine lv_icmp_ge (tgt := 235) hx hb dX12_accept_113 (by decide) (fun c_22 => ?_) (fun c_22 => ?_)
    · have h := ip (c_22) h
      exact b_accept_235 X hE hF hL hR_9 h hS (lv_sub hl [0, 1, 2] rfl)
    · have h := im (c_22) h
      refine lv_aload_n hx hb dX12_accept_116 rfl (lv_at hl 0 rfl) ?_
      refine rg_12 X hS dX12_accept_117 ?_
      refine lv_iload_n hx hb dX12_accept_120 rfl (lv_at hl 3 rfl) ?_
      obtain ⟨v_23, e_v_23, i_24, h⟩ := rd_of h
      refine ra_12 X hS i_24 e_v_23 dX12_accept_121 ?_
      refine lv_iconst (v := 1) hx hb dX12_accept_122 (by decide) ?_
      refine lv_icmp_gt (tgt := 229) hx hb dX12_accept_123 (by decide) (fun c_25 => ?_) (fun c_25 => ?_)
      · have h := ip (c_25) h
        exact b_accept_229 X hE hF hL hR_9 hR_90 h hS (lv_sub hl [0, 1, 2, 3] rfl)
      · have h := im (c_25) h
        refine lv_aload_n hx hb dX12_accept_126 rfl (lv_at hl 0 rfl) ?_
        refine rg_17 X hS dX12_accept_127 ?_
        refine lv_iload_n hx hb dX12_accept_130 rfl (lv_at hl 3 rfl) ?_
        obtain ⟨v_26, e_v_26, i_27, h⟩ := rd_of h
        refine ra_17 X hS i_27 e_v_26 dX12_accept_131 ?_
        refine lv_aload_n hx hb dX12_accept_132 rfl (lv_at hl 0 rfl) ?_
        refine rg_17 X hS dX12_accept_133 ?_
        refine lv_iload_n hx hb dX12_accept_136 rfl (lv_at hl 2 rfl) ?_
        obtain ⟨v_28, e_v_28, i_29, h⟩ := rd_of h
        refine ra_17 X hS i_29 e_v_28 dX12_accept_137 ?_
        refine W.lcmp hx hb dX12_accept_138 ?_
        refine lv_if_ne (tgt := 229) hx hb dX12_accept_139 (by decide) (fun c_30 => ?_) (fun c_30 => ?_)
        · have h := im (mt (lg_cmp_eq _ _).mpr c_30) h
          exact b_accept_229 X hE hF hL hR_9 hR_90 h hS (lv_sub hl [0, 1, 2, 3] rfl)
        · have h := ip ((lg_cmp_eq _ _).mp c_30) h
          refine lv_aload_n hx hb dX12_accept_142 rfl (lv_at hl 0 rfl) ?_
          refine rg_18 X hS dX12_accept_143 ?_
          refine lv_iload_n hx hb dX12_accept_146 rfl (lv_at hl 3 rfl) ?_
          obtain ⟨v_31, e_v_31, i_32, h⟩ := rd_of h
          refine ra_18 X hS i_32 e_v_31 dX12_accept_147 ?_
          refine lv_aload_n hx hb dX12_accept_148 rfl (lv_at hl 0 rfl) ?_
          refine rg_18 X hS dX12_accept_149 ?_
          refine lv_iload_n hx hb dX12_accept_152 rfl (lv_at hl 2 rfl) ?_
          obtain ⟨v_33, e_v_33, i_34, h⟩ := rd_of h
          refine ra_18 X hS i_34 e_v_33 dX12_accept_153 ?_
          refine W.lcmp hx hb dX12_accept_154 ?_
          refine lv_if_eq (tgt := 161) hx hb dX12_accept_155 (by decide) (fun c_35 => ?_) (fun c_35 => ?_)
          · have h := ip ((lg_cmp_eq _ _).mp c_35) h
            refine lv_iconst (v := 0) hx hb dX12_accept_161 (by decide) ?_
            refine lv_istore (lv' := [(4, .int 0), (0, .ref (Z 200)), (1, .int l1), (2, .int l2), (3, .int l3)]) hx hb dX12_accept_162 hl (by decide) rfl (fun ls hl => ?_)
            exact bl_accept_164 X hE hF hL hR_9 hR_90 _ _ _ _ _ _ h _ _ _ hS (lv_sub hl [1, 2, 3, 4, 0] rfl)
          · have h := im (mt (lg_cmp_eq _ _).mpr c_35) h
            refine lv_goto (tgt := 229) hx hb dX12_accept_158 (by decide) ?_
            exact b_accept_229 X hE hF hL hR_9 hR_90 h hS (lv_sub hl [0, 1, 2, 3] rfl)
def LP_accept_90 (N : Nat) (R_9 : Int32 × Int32 × RSt → Option (Int32 × RSt)) : Nat → Int32 × Int32 × Int32 × RSt → Option (Int32 × RSt) := lp (fun R a => B_accept_90 N R_9 R a.1 a.2.1 a.2.2.1 a.2.2.2)
theorem bl_accept_90 {r : Int32} (X : RC p s m args c cX12_accept 5 (Cond.code yX12_accept cX12_accept 5 none) D kA V A) (hE : REv p l e R s m args below meth c cX12_accept D kA Z A Q w) (hF : 1 ≤ R.frames) (hL : 24 ≤ R.locals) {R_9 : Int32 × Int32 × RSt → Option (Int32 × RSt)} (hR_9 : ∀ (l1 : Int32) (l2 : Int32) (u : RSt), R_9 (l1, l2, u) = some (r, w) → ∀ (H : Heap) (locs : List Loc) (ls : Array Slot), RS D kA Z A s u H locs → lv_has ls 5 [(0, .ref (Z 200)), (1, .int l1), (2, .int l2)] → W p l e R s m args below meth c H locs 0 0 Q (F0 m 9 ls [])) : ∀ (n : Nat) (l1 : Int32) (l2 : Int32) (l3 : Int32) (u : RSt), LP_accept_90 N R_9 n (l1, l2, l3, u) = some (r, w) → ∀ (H : Heap) (locs : List Loc) (ls : Array Slot), RS D kA Z A s u H locs → lv_has ls 5 [(0, .ref (Z 200)), (1, .int l1), (2, .int l2), (3, .int l3)] → W p l e R s m args below meth c H locs 0 0 Q (F0 m 90 ls []) := by
  intro n
  induction n with
  | zero => intro l1 l2 l3 u h; exact nomatch h
  | succ n ih => intro l1 l2 l3 u h H locs ls hS hl; exact b_accept_90 (N := N) (R_90 := LP_accept_90 N R_9 n) X hE hF hL hR_9 ih h hS hl
def B_accept_46 (N : Nat) (R_9 : Int32 × Int32 × RSt → Option (Int32 × RSt)) (R_46 : Int32 × Int32 × Int32 × RSt → Option (Int32 × RSt)) (l1 : Int32) (l2 : Int32) (l3 : Int32) (u : RSt) : Option (Int32 × RSt) := rd (u.2.2.1 11) 320 l2 fun v_36 => if v_36 ≤ l3 then (LP_accept_90 N R_9 N (l1, l2, (160 * (u.1 55)), u)) else (rd (u.2.2.1 15) 320 l2 fun v_39 => rd (u.2.2.2 16) 320 l2 fun v_41 => wr 3000 (v_39 + l3) (sB u 83 (v_39 + l3).toNatClampNeg v_41) fun u_43 => R_46 (l1, l2, (l3 + 1), u_43))
set_option maxHeartbeats 4000000 in
theorem b_accept_46 {r : Int32} (X : RC p s m args c cX12_accept 5 (Cond.code yX12_accept cX12_accept 5 none) D kA V A) (hE : REv p l e R s m args below meth c cX12_accept D kA Z A Q w) (hF : 1 ≤ R.frames) (hL : 24 ≤ R.locals) {R_9 : Int32 × Int32 × RSt → Option (Int32 × RSt)} {R_46 : Int32 × Int32 × Int32 × RSt → Option (Int32 × RSt)} {l1 : Int32} {l2 : Int32} {l3 : Int32} (hR_9 : ∀ (l1 : Int32) (l2 : Int32) (u : RSt), R_9 (l1, l2, u) = some (r, w) → ∀ (H : Heap) (locs : List Loc) (ls : Array Slot), RS D kA Z A s u H locs → lv_has ls 5 [(0, .ref (Z 200)), (1, .int l1), (2, .int l2)] → W p l e R s m args below meth c H locs 0 0 Q (F0 m 9 ls [])) (hR_46 : ∀ (l1 : Int32) (l2 : Int32) (l3 : Int32) (u : RSt), R_46 (l1, l2, l3, u) = some (r, w) → ∀ (H : Heap) (locs : List Loc) (ls : Array Slot), RS D kA Z A s u H locs → lv_has ls 5 [(0, .ref (Z 200)), (1, .int l1), (2, .int l2), (3, .int l3)] → W p l e R s m args below meth c H locs 0 0 Q (F0 m 46 ls [])) {u : RSt} (h : B_accept_46 N R_9 R_46 l1 l2 l3 u = some (r, w)) (hS : RS D kA Z A s u H locs) (hl : lv_has ls 5 [(0, .ref (Z 200)), (1, .int l1), (2, .int l2), (3, .int l3)]) : W p l e R s m args below meth c H locs 0 0 Q (F0 m 46 ls []) := by
  obtain ⟨⟨hx, hb, hml, hown, hts⟩, hK, hEV, hA⟩ := id X
  have hG : ∀ w ∈ GW, w.before args s = true := fun w h => hts w (List.mem_cons_of_mem _ h)
  unfold B_accept_46 at h
  refine lv_iload_n hx hb dX12_accept_46 rfl (lv_at hl 3 rfl) ?_
  refine lv_aload_n hx hb dX12_accept_47 rfl (lv_at hl 0 rfl) ?_
  refine rg_11 X hS dX12_accept_48 ?_
  refine lv_iload_n hx hb dX12_accept_51 rfl (lv_at hl 2 rfl) ?_
  obtain ⟨v_36, e_v_36, i_37, h⟩ := rd_of h
  refine ra_11 X hS i_37 e_v_36 dX12_accept_52 ?_
  refine lv_icmp_ge (tgt := 81) hx hb dX12_accept_53 (by decide) (fun c_38 => ?_) (fun c_38 => ?_)
  · have h := ip (c_38) h
    refine lv_sipush (v := 160) hx hb dX12_accept_81 (by decide) ?_
    refine lv_aload_n hx hb dX12_accept_84 rfl (lv_at hl 0 rfl) ?_
    refine rg_55 X hS dX12_accept_85 ?_
    refine lv_imul hx hb dX12_accept_88 ?_
    refine lv_istore_n (lv' := [(3, .int (160 * (u.1 55))), (0, .ref (Z 200)), (1, .int l1), (2, .int l2)]) hx hb dX12_accept_89 rfl hl (by decide) rfl (fun ls hl => ?_)
    exact bl_accept_90 X hE hF hL hR_9 _ _ _ _ _ h _ _ _ hS (lv_sub hl [1, 2, 3, 0] rfl)
  · have h := im (c_38) h
    refine lv_aload_n hx hb dX12_accept_56 rfl (lv_at hl 0 rfl) ?_
    refine rg_83 X hS dX12_accept_57 ?_
    refine lv_aload_n hx hb dX12_accept_60 rfl (lv_at hl 0 rfl) ?_
    refine rg_15 X hS dX12_accept_61 ?_
    refine lv_iload_n hx hb dX12_accept_64 rfl (lv_at hl 2 rfl) ?_
    obtain ⟨v_39, e_v_39, i_40, h⟩ := rd_of h
    refine ra_15 X hS i_40 e_v_39 dX12_accept_65 ?_
    refine lv_iload_n hx hb dX12_accept_66 rfl (lv_at hl 3 rfl) ?_
    refine lv_iadd hx hb dX12_accept_67 ?_
    refine lv_aload_n hx hb dX12_accept_68 rfl (lv_at hl 0 rfl) ?_
    refine rg_16 X hS dX12_accept_69 ?_
    refine lv_iload_n hx hb dX12_accept_72 rfl (lv_at hl 2 rfl) ?_
    obtain ⟨v_41, e_v_41, i_42, h⟩ := rd_of h
    refine ra_16 X hS i_42 e_v_41 dX12_accept_73 ?_
    obtain ⟨u_43, e_u_43, i_44, h⟩ := wr_of h
    refine rs_83 X hS i_44 e_u_43 dX12_accept_74 (fun H locs hS => ?_)
    refine lv_iinc (v := l3 + 1) (lv' := [(3, .int (l3 + 1)), (0, .ref (Z 200)), (1, .int l1), (2, .int l2)]) hx hb dX12_accept_75 hl (k := 3) rfl rfl (by decide) rfl (fun ls hl => ?_)
    refine lv_goto (tgt := 46) hx hb dX12_accept_78 (by decide) ?_
    exact hR_46 _ _ _ _ h _ _ _ hS (lv_sub hl [1, 2, 3, 0] rfl)
def LP_accept_46 (N : Nat) (R_9 : Int32 × Int32 × RSt → Option (Int32 × RSt)) : Nat → Int32 × Int32 × Int32 × RSt → Option (Int32 × RSt) := lp (fun R a => B_accept_46 N R_9 R a.1 a.2.1 a.2.2.1 a.2.2.2)
theorem bl_accept_46 {r : Int32} (X : RC p s m args c cX12_accept 5 (Cond.code yX12_accept cX12_accept 5 none) D kA V A) (hE : REv p l e R s m args below meth c cX12_accept D kA Z A Q w) (hF : 1 ≤ R.frames) (hL : 24 ≤ R.locals) {R_9 : Int32 × Int32 × RSt → Option (Int32 × RSt)} (hR_9 : ∀ (l1 : Int32) (l2 : Int32) (u : RSt), R_9 (l1, l2, u) = some (r, w) → ∀ (H : Heap) (locs : List Loc) (ls : Array Slot), RS D kA Z A s u H locs → lv_has ls 5 [(0, .ref (Z 200)), (1, .int l1), (2, .int l2)] → W p l e R s m args below meth c H locs 0 0 Q (F0 m 9 ls [])) : ∀ (n : Nat) (l1 : Int32) (l2 : Int32) (l3 : Int32) (u : RSt), LP_accept_46 N R_9 n (l1, l2, l3, u) = some (r, w) → ∀ (H : Heap) (locs : List Loc) (ls : Array Slot), RS D kA Z A s u H locs → lv_has ls 5 [(0, .ref (Z 200)), (1, .int l1), (2, .int l2), (3, .int l3)] → W p l e R s m args below meth c H locs 0 0 Q (F0 m 46 ls []) := by
  intro n
  induction n with
  | zero => intro l1 l2 l3 u h; exact nomatch h
  | succ n ih => intro l1 l2 l3 u h H locs ls hS hl; exact b_accept_46 (N := N) (R_46 := LP_accept_46 N R_9 n) X hE hF hL hR_9 ih h hS hl
def B_accept_283 (N : Nat) (R_283 : Int32 × Int32 × RSt → Option (Int32 × RSt)) (l1 : Int32) (l2 : Int32) (u : RSt) : Option (Int32 × RSt) := if (8 : Int32) ≤ l2 then (pu (sI u 98 0) fun u_46 => pu (sI u_46 103 0) fun u_47 => if l1 = (0 : Int32) then (bn (F_begin N u_47) fun _ u_49 => some (0, u_49)) else (some (0, u_47))) else (wr 8 l2 (sA u 89 l2.toNatClampNeg 0) fun u_50 => wr 8 l2 (sA u_50 90 l2.toNatClampNeg 0) fun u_52 => wr 8 l2 (sA u_52 91 l2.toNatClampNeg 0) fun u_54 => wr 8 l2 (sA u_54 92 l2.toNatClampNeg 0) fun u_56 => wr 8 l2 (sA u_56 93 l2.toNatClampNeg 0) fun u_58 => wr 8 l2 (sA u_58 94 l2.toNatClampNeg 0) fun u_60 => R_283 (l1, (l2 + 1), u_60))
set_option maxHeartbeats 4000000 in
theorem b_accept_283 {r : Int32} (X : RC p s m args c cX12_accept 5 (Cond.code yX12_accept cX12_accept 5 none) D kA V A) (hE : REv p l e R s m args below meth c cX12_accept D kA Z A Q w) (hF : 1 ≤ R.frames) (hL : 24 ≤ R.locals) {R_283 : Int32 × Int32 × RSt → Option (Int32 × RSt)} {l1 : Int32} {l2 : Int32} (hR_283 : ∀ (l1 : Int32) (l2 : Int32) (u : RSt), R_283 (l1, l2, u) = some (r, w) → ∀ (H : Heap) (locs : List Loc) (ls : Array Slot), RS D kA Z A s u H locs → lv_has ls 5 [(0, .ref (Z 200)), (1, .int l1), (2, .int l2)] → W p l e R s m args below meth c H locs 0 0 Q (F0 m 283 ls [])) {u : RSt} (h : B_accept_283 N R_283 l1 l2 u = some (r, w)) (hS : RS D kA Z A s u H locs) (hl : lv_has ls 5 [(0, .ref (Z 200)), (1, .int l1), (2, .int l2)]) : W p l e R s m args below meth c H locs 0 0 Q (F0 m 283 ls []) := by
  obtain ⟨⟨hx, hb, hml, hown, hts⟩, hK, hEV, hA⟩ := id X
  have hG : ∀ w ∈ GW, w.before args s = true := fun w h => hts w (List.mem_cons_of_mem _ h)
  unfold B_accept_283 at h
  refine lv_iload_n hx hb dX12_accept_283 rfl (lv_at hl 2 rfl) ?_
  refine lv_bipush (v := 8) hx hb dX12_accept_284 (by decide) ?_
  refine lv_icmp_ge (tgt := 337) hx hb dX12_accept_286 (by decide) (fun c_45 => ?_) (fun c_45 => ?_)
  · have h := ip (c_45) h
    refine lv_aload_n hx hb dX12_accept_337 rfl (lv_at hl 0 rfl) ?_
    refine lv_iconst (v := 0) hx hb dX12_accept_338 (by decide) ?_
    obtain ⟨u_46, e_u_46, h⟩ := pu_of h
    refine rp_98 X hS e_u_46 dX12_accept_339 (fun H locs hS => ?_)
    refine lv_aload_n hx hb dX12_accept_342 rfl (lv_at hl 0 rfl) ?_
    refine lv_iconst (v := 0) hx hb dX12_accept_343 (by decide) ?_
    obtain ⟨u_47, e_u_47, h⟩ := pu_of h
    refine rp_103 X hS e_u_47 dX12_accept_344 (fun H locs hS => ?_)
    refine lv_iload_n hx hb dX12_accept_347 rfl (lv_at hl 1 rfl) ?_
    refine lv_if_ne (tgt := 355) hx hb dX12_accept_348 (by decide) (fun c_48 => ?_) (fun c_48 => ?_)
    · have h := im (c_48) h
      obtain ⟨-, rfl⟩ := so h
      exact hE _ _ _ _ hS dX12_accept_355
    · have h := ip (c_48) h
      refine lv_aload_n hx hb dX12_accept_351 rfl (lv_at hl 0 rfl) ?_
      obtain ⟨r_u_49, u_49, h_u_49, h⟩ := bn_of h
      refine kc_begin X hS h_u_49 (Nat.le_trans (Nat.le_of_ble_eq_true rfl) hF) (Nat.le_trans (Nat.le_of_ble_eq_true rfl) hL) hl.1 (Nat.le_of_ble_eq_true rfl) dX12_accept_352 (fun H locs hS => ?_)
      obtain ⟨-, rfl⟩ := so h
      exact hE _ _ _ _ hS dX12_accept_355
  · have h := im (c_45) h
    refine lv_aload_n hx hb dX12_accept_289 rfl (lv_at hl 0 rfl) ?_
    refine rg_89 X hS dX12_accept_290 ?_
    refine lv_iload_n hx hb dX12_accept_293 rfl (lv_at hl 2 rfl) ?_
    refine lv_iconst (v := 0) hx hb dX12_accept_294 (by decide) ?_
    obtain ⟨u_50, e_u_50, i_51, h⟩ := wr_of h
    refine rs_89 X hS i_51 e_u_50 dX12_accept_295 (fun H locs hS => ?_)
    refine lv_aload_n hx hb dX12_accept_296 rfl (lv_at hl 0 rfl) ?_
    refine rg_90 X hS dX12_accept_297 ?_
    refine lv_iload_n hx hb dX12_accept_300 rfl (lv_at hl 2 rfl) ?_
    refine lv_iconst (v := 0) hx hb dX12_accept_301 (by decide) ?_
    obtain ⟨u_52, e_u_52, i_53, h⟩ := wr_of h
    refine rs_90 X hS i_53 e_u_52 dX12_accept_302 (fun H locs hS => ?_)
    refine lv_aload_n hx hb dX12_accept_303 rfl (lv_at hl 0 rfl) ?_
    refine rg_91 X hS dX12_accept_304 ?_
    refine lv_iload_n hx hb dX12_accept_307 rfl (lv_at hl 2 rfl) ?_
    refine lv_iconst (v := 0) hx hb dX12_accept_308 (by decide) ?_
    obtain ⟨u_54, e_u_54, i_55, h⟩ := wr_of h
    refine rs_91 X hS i_55 e_u_54 dX12_accept_309 (fun H locs hS => ?_)
    refine lv_aload_n hx hb dX12_accept_310 rfl (lv_at hl 0 rfl) ?_
    refine rg_92 X hS dX12_accept_311 ?_
    refine lv_iload_n hx hb dX12_accept_314 rfl (lv_at hl 2 rfl) ?_
    refine lv_iconst (v := 0) hx hb dX12_accept_315 (by decide) ?_
    obtain ⟨u_56, e_u_56, i_57, h⟩ := wr_of h
    refine rs_92 X hS i_57 e_u_56 dX12_accept_316 (fun H locs hS => ?_)
    refine lv_aload_n hx hb dX12_accept_317 rfl (lv_at hl 0 rfl) ?_
    refine rg_93 X hS dX12_accept_318 ?_
    refine lv_iload_n hx hb dX12_accept_321 rfl (lv_at hl 2 rfl) ?_
    refine lv_iconst (v := 0) hx hb dX12_accept_322 (by decide) ?_
    obtain ⟨u_58, e_u_58, i_59, h⟩ := wr_of h
    refine rs_93 X hS i_59 e_u_58 dX12_accept_323 (fun H locs hS => ?_)
    refine lv_aload_n hx hb dX12_accept_324 rfl (lv_at hl 0 rfl) ?_
    refine rg_94 X hS dX12_accept_325 ?_
    refine lv_iload_n hx hb dX12_accept_328 rfl (lv_at hl 2 rfl) ?_
    refine lv_iconst (v := 0) hx hb dX12_accept_329 (by decide) ?_
    obtain ⟨u_60, e_u_60, i_61, h⟩ := wr_of h
    refine rs_94 X hS i_61 e_u_60 dX12_accept_330 (fun H locs hS => ?_)
    refine lv_iinc (v := l2 + 1) (lv' := [(2, .int (l2 + 1)), (0, .ref (Z 200)), (1, .int l1)]) hx hb dX12_accept_331 hl (k := 2) rfl rfl (by decide) rfl (fun ls hl => ?_)
    refine lv_goto (tgt := 283) hx hb dX12_accept_334 (by decide) ?_
    exact hR_283 _ _ _ h _ _ _ hS (lv_sub hl [1, 2, 0] rfl)
def LP_accept_283 (N : Nat) : Nat → Int32 × Int32 × RSt → Option (Int32 × RSt) := lp (fun R a => B_accept_283 N R a.1 a.2.1 a.2.2)
theorem bl_accept_283 {r : Int32} (X : RC p s m args c cX12_accept 5 (Cond.code yX12_accept cX12_accept 5 none) D kA V A) (hE : REv p l e R s m args below meth c cX12_accept D kA Z A Q w) (hF : 1 ≤ R.frames) (hL : 24 ≤ R.locals)  : ∀ (n : Nat) (l1 : Int32) (l2 : Int32) (u : RSt), LP_accept_283 N n (l1, l2, u) = some (r, w) → ∀ (H : Heap) (locs : List Loc) (ls : Array Slot), RS D kA Z A s u H locs → lv_has ls 5 [(0, .ref (Z 200)), (1, .int l1), (2, .int l2)] → W p l e R s m args below meth c H locs 0 0 Q (F0 m 283 ls []) := by
  intro n
  induction n with
  | zero => intro l1 l2 u h; exact nomatch h
  | succ n ih => intro l1 l2 u h H locs ls hS hl; exact b_accept_283 (N := N) (R_283 := LP_accept_283 N n) X hE hF hL  ih h hS hl
def B_accept_243 (N : Nat) (R_243 : Int32 × Int32 × RSt → Option (Int32 × RSt)) (l1 : Int32) (l2 : Int32) (u : RSt) : Option (Int32 × RSt) := if (u.1 63) ≤ l2 then (pu (sI u 55 (u.1 56)) fun u_63 => bn (F_anew N u_63) fun _ u_64 => LP_accept_283 N N (l1, 0, u_64)) else (rd (u.2.2.2 83) 3000 l2 fun v_65 => wr 3000 l2 (sB u 82 l2.toNatClampNeg v_65) fun u_67 => R_243 (l1, (l2 + 1), u_67))
set_option maxHeartbeats 4000000 in
theorem b_accept_243 {r : Int32} (X : RC p s m args c cX12_accept 5 (Cond.code yX12_accept cX12_accept 5 none) D kA V A) (hE : REv p l e R s m args below meth c cX12_accept D kA Z A Q w) (hF : 1 ≤ R.frames) (hL : 24 ≤ R.locals) {R_243 : Int32 × Int32 × RSt → Option (Int32 × RSt)} {l1 : Int32} {l2 : Int32} (hR_243 : ∀ (l1 : Int32) (l2 : Int32) (u : RSt), R_243 (l1, l2, u) = some (r, w) → ∀ (H : Heap) (locs : List Loc) (ls : Array Slot), RS D kA Z A s u H locs → lv_has ls 5 [(0, .ref (Z 200)), (1, .int l1), (2, .int l2)] → W p l e R s m args below meth c H locs 0 0 Q (F0 m 243 ls [])) {u : RSt} (h : B_accept_243 N R_243 l1 l2 u = some (r, w)) (hS : RS D kA Z A s u H locs) (hl : lv_has ls 5 [(0, .ref (Z 200)), (1, .int l1), (2, .int l2)]) : W p l e R s m args below meth c H locs 0 0 Q (F0 m 243 ls []) := by
  obtain ⟨⟨hx, hb, hml, hown, hts⟩, hK, hEV, hA⟩ := id X
  have hG : ∀ w ∈ GW, w.before args s = true := fun w h => hts w (List.mem_cons_of_mem _ h)
  unfold B_accept_243 at h
  refine lv_iload_n hx hb dX12_accept_243 rfl (lv_at hl 2 rfl) ?_
  refine lv_aload_n hx hb dX12_accept_244 rfl (lv_at hl 0 rfl) ?_
  refine rg_63 X hS dX12_accept_245 ?_
  refine lv_icmp_ge (tgt := 269) hx hb dX12_accept_248 (by decide) (fun c_62 => ?_) (fun c_62 => ?_)
  · have h := ip (c_62) h
    refine lv_aload_n hx hb dX12_accept_269 rfl (lv_at hl 0 rfl) ?_
    refine lv_aload_n hx hb dX12_accept_270 rfl (lv_at hl 0 rfl) ?_
    refine rg_56 X hS dX12_accept_271 ?_
    obtain ⟨u_63, e_u_63, h⟩ := pu_of h
    refine rp_55 X hS e_u_63 dX12_accept_274 (fun H locs hS => ?_)
    refine lv_aload_n hx hb dX12_accept_277 rfl (lv_at hl 0 rfl) ?_
    obtain ⟨r_u_64, u_64, h_u_64, h⟩ := bn_of h
    refine kc_anew X hS h_u_64 (Nat.le_trans (Nat.le_of_ble_eq_true rfl) hF) (Nat.le_trans (Nat.le_of_ble_eq_true rfl) hL) hl.1 (Nat.le_of_ble_eq_true rfl) dX12_accept_278 (fun H locs hS => ?_)
    refine lv_iconst (v := 0) hx hb dX12_accept_281 (by decide) ?_
    refine lv_istore_n (lv' := [(2, .int 0), (0, .ref (Z 200)), (1, .int l1)]) hx hb dX12_accept_282 rfl hl (by decide) rfl (fun ls hl => ?_)
    exact bl_accept_283 X hE hF hL  _ _ _ _ h _ _ _ hS (lv_sub hl [1, 2, 0] rfl)
  · have h := im (c_62) h
    refine lv_aload_n hx hb dX12_accept_251 rfl (lv_at hl 0 rfl) ?_
    refine rg_82 X hS dX12_accept_252 ?_
    refine lv_iload_n hx hb dX12_accept_255 rfl (lv_at hl 2 rfl) ?_
    refine lv_aload_n hx hb dX12_accept_256 rfl (lv_at hl 0 rfl) ?_
    refine rg_83 X hS dX12_accept_257 ?_
    refine lv_iload_n hx hb dX12_accept_260 rfl (lv_at hl 2 rfl) ?_
    obtain ⟨v_65, e_v_65, i_66, h⟩ := rd_of h
    refine ra_83 X hS i_66 e_v_65 dX12_accept_261 ?_
    obtain ⟨u_67, e_u_67, i_68, h⟩ := wr_of h
    refine rs_82 X hS i_68 e_u_67 dX12_accept_262 (fun H locs hS => ?_)
    refine lv_iinc (v := l2 + 1) (lv' := [(2, .int (l2 + 1)), (0, .ref (Z 200)), (1, .int l1)]) hx hb dX12_accept_263 hl (k := 2) rfl rfl (by decide) rfl (fun ls hl => ?_)
    refine lv_goto (tgt := 243) hx hb dX12_accept_266 (by decide) ?_
    exact hR_243 _ _ _ h _ _ _ hS (lv_sub hl [1, 2, 0] rfl)
def LP_accept_243 (N : Nat) : Nat → Int32 × Int32 × RSt → Option (Int32 × RSt) := lp (fun R a => B_accept_243 N R a.1 a.2.1 a.2.2)
theorem bl_accept_243 {r : Int32} (X : RC p s m args c cX12_accept 5 (Cond.code yX12_accept cX12_accept 5 none) D kA V A) (hE : REv p l e R s m args below meth c cX12_accept D kA Z A Q w) (hF : 1 ≤ R.frames) (hL : 24 ≤ R.locals)  : ∀ (n : Nat) (l1 : Int32) (l2 : Int32) (u : RSt), LP_accept_243 N n (l1, l2, u) = some (r, w) → ∀ (H : Heap) (locs : List Loc) (ls : Array Slot), RS D kA Z A s u H locs → lv_has ls 5 [(0, .ref (Z 200)), (1, .int l1), (2, .int l2)] → W p l e R s m args below meth c H locs 0 0 Q (F0 m 243 ls []) := by
  intro n
  induction n with
  | zero => intro l1 l2 u h; exact nomatch h
  | succ n ih => intro l1 l2 u h H locs ls hS hl; exact b_accept_243 (N := N) (R_243 := LP_accept_243 N n) X hE hF hL  ih h hS hl
def B_accept_9 (N : Nat) (R_9 : Int32 × Int32 × RSt → Option (Int32 × RSt)) (l1 : Int32) (l2 : Int32) (u : RSt) : Option (Int32 × RSt) := rd (u.2.2.1 19) 2 (u.1 56) fun v_69 => if ((160 * (u.1 56)) + v_69) ≤ l2 then (LP_accept_243 N N (l1, 0, u)) else (rd (u.2.2.1 12) 320 l2 fun v_72 => if v_72 ≤ (1 : Int32) then (LP_accept_46 N R_9 N (l1, l2, 0, u)) else (B_accept_235 N R_9 l1 l2 u))
set_option maxHeartbeats 4000000 in
theorem b_accept_9 {r : Int32} (X : RC p s m args c cX12_accept 5 (Cond.code yX12_accept cX12_accept 5 none) D kA V A) (hE : REv p l e R s m args below meth c cX12_accept D kA Z A Q w) (hF : 1 ≤ R.frames) (hL : 24 ≤ R.locals) {R_9 : Int32 × Int32 × RSt → Option (Int32 × RSt)} {l1 : Int32} {l2 : Int32} (hR_9 : ∀ (l1 : Int32) (l2 : Int32) (u : RSt), R_9 (l1, l2, u) = some (r, w) → ∀ (H : Heap) (locs : List Loc) (ls : Array Slot), RS D kA Z A s u H locs → lv_has ls 5 [(0, .ref (Z 200)), (1, .int l1), (2, .int l2)] → W p l e R s m args below meth c H locs 0 0 Q (F0 m 9 ls [])) {u : RSt} (h : B_accept_9 N R_9 l1 l2 u = some (r, w)) (hS : RS D kA Z A s u H locs) (hl : lv_has ls 5 [(0, .ref (Z 200)), (1, .int l1), (2, .int l2)]) : W p l e R s m args below meth c H locs 0 0 Q (F0 m 9 ls []) := by
  obtain ⟨⟨hx, hb, hml, hown, hts⟩, hK, hEV, hA⟩ := id X
  have hG : ∀ w ∈ GW, w.before args s = true := fun w h => hts w (List.mem_cons_of_mem _ h)
  unfold B_accept_9 at h
  refine lv_iload_n hx hb dX12_accept_9 rfl (lv_at hl 2 rfl) ?_
  refine lv_sipush (v := 160) hx hb dX12_accept_10 (by decide) ?_
  refine lv_aload_n hx hb dX12_accept_13 rfl (lv_at hl 0 rfl) ?_
  refine rg_56 X hS dX12_accept_14 ?_
  refine lv_imul hx hb dX12_accept_17 ?_
  refine lv_aload_n hx hb dX12_accept_18 rfl (lv_at hl 0 rfl) ?_
  refine rg_19 X hS dX12_accept_19 ?_
  refine lv_aload_n hx hb dX12_accept_22 rfl (lv_at hl 0 rfl) ?_
  refine rg_56 X hS dX12_accept_23 ?_
  obtain ⟨v_69, e_v_69, i_70, h⟩ := rd_of h
  refine ra_19 X hS i_70 e_v_69 dX12_accept_26 ?_
  refine lv_iadd hx hb dX12_accept_27 ?_
  refine lv_icmp_ge (tgt := 241) hx hb dX12_accept_28 (by decide) (fun c_71 => ?_) (fun c_71 => ?_)
  · have h := ip (c_71) h
    refine lv_iconst (v := 0) hx hb dX12_accept_241 (by decide) ?_
    refine lv_istore_n (lv' := [(2, .int 0), (0, .ref (Z 200)), (1, .int l1)]) hx hb dX12_accept_242 rfl hl (by decide) rfl (fun ls hl => ?_)
    exact bl_accept_243 X hE hF hL  _ _ _ _ h _ _ _ hS (lv_sub hl [1, 2, 0] rfl)
  · have h := im (c_71) h
    refine lv_aload_n hx hb dX12_accept_31 rfl (lv_at hl 0 rfl) ?_
    refine rg_12 X hS dX12_accept_32 ?_
    refine lv_iload_n hx hb dX12_accept_35 rfl (lv_at hl 2 rfl) ?_
    obtain ⟨v_72, e_v_72, i_73, h⟩ := rd_of h
    refine ra_12 X hS i_73 e_v_72 dX12_accept_36 ?_
    refine lv_iconst (v := 1) hx hb dX12_accept_37 (by decide) ?_
    refine lv_icmp_le (tgt := 44) hx hb dX12_accept_38 (by decide) (fun c_74 => ?_) (fun c_74 => ?_)
    · have h := ip (c_74) h
      refine lv_iconst (v := 0) hx hb dX12_accept_44 (by decide) ?_
      refine lv_istore_n (lv' := [(3, .int 0), (0, .ref (Z 200)), (1, .int l1), (2, .int l2)]) hx hb dX12_accept_45 rfl hl (by decide) rfl (fun ls hl => ?_)
      exact bl_accept_46 X hE hF hL hR_9 _ _ _ _ _ h _ _ _ hS (lv_sub hl [1, 2, 3, 0] rfl)
    · have h := im (c_74) h
      refine lv_goto (tgt := 235) hx hb dX12_accept_41 (by decide) ?_
      exact b_accept_235 X hE hF hL hR_9 h hS (lv_sub hl [0, 1, 2] rfl)
def LP_accept_9 (N : Nat) : Nat → Int32 × Int32 × RSt → Option (Int32 × RSt) := lp (fun R a => B_accept_9 N R a.1 a.2.1 a.2.2)
theorem bl_accept_9 {r : Int32} (X : RC p s m args c cX12_accept 5 (Cond.code yX12_accept cX12_accept 5 none) D kA V A) (hE : REv p l e R s m args below meth c cX12_accept D kA Z A Q w) (hF : 1 ≤ R.frames) (hL : 24 ≤ R.locals)  : ∀ (n : Nat) (l1 : Int32) (l2 : Int32) (u : RSt), LP_accept_9 N n (l1, l2, u) = some (r, w) → ∀ (H : Heap) (locs : List Loc) (ls : Array Slot), RS D kA Z A s u H locs → lv_has ls 5 [(0, .ref (Z 200)), (1, .int l1), (2, .int l2)] → W p l e R s m args below meth c H locs 0 0 Q (F0 m 9 ls []) := by
  intro n
  induction n with
  | zero => intro l1 l2 u h; exact nomatch h
  | succ n ih => intro l1 l2 u h H locs ls hS hl; exact b_accept_9 (N := N) (R_9 := LP_accept_9 N n) X hE hF hL  ih h hS hl
def B_accept_0 (N : Nat) (l1 : Int32) (u : RSt) : Option (Int32 × RSt) := LP_accept_9 N N (l1, (160 * (u.1 56)), u)
set_option maxHeartbeats 4000000 in
theorem b_accept_0 {r : Int32} (X : RC p s m args c cX12_accept 5 (Cond.code yX12_accept cX12_accept 5 none) D kA V A) (hE : REv p l e R s m args below meth c cX12_accept D kA Z A Q w) (hF : 1 ≤ R.frames) (hL : 24 ≤ R.locals) {l1 : Int32}  {u : RSt} (h : B_accept_0 N l1 u = some (r, w)) (hS : RS D kA Z A s u H locs) (hl : lv_has ls 5 [(0, .ref (Z 200)), (1, .int l1)]) : W p l e R s m args below meth c H locs 0 0 Q (F0 m 0 ls []) := by
  obtain ⟨⟨hx, hb, hml, hown, hts⟩, hK, hEV, hA⟩ := id X
  have hG : ∀ w ∈ GW, w.before args s = true := fun w h => hts w (List.mem_cons_of_mem _ h)
  unfold B_accept_0 at h
  refine lv_sipush (v := 160) hx hb dX12_accept_0 (by decide) ?_
  refine lv_aload_n hx hb dX12_accept_3 rfl (lv_at hl 0 rfl) ?_
  refine rg_56 X hS dX12_accept_4 ?_
  refine lv_imul hx hb dX12_accept_7 ?_
  refine lv_istore_n (lv' := [(2, .int (160 * (u.1 56))), (0, .ref (Z 200)), (1, .int l1)]) hx hb dX12_accept_8 rfl hl (by decide) rfl (fun ls hl => ?_)
  exact bl_accept_9 X hE hF hL  _ _ _ _ h _ _ _ hS (lv_sub hl [1, 2, 0] rfl)
def F_accept (N : Nat) (l1 : Int32) (u : RSt) : Option (Int32 × RSt) := B_accept_0 N l1 u
set_option maxHeartbeats 4000000 in
theorem k_accept (l : Launch) (D : va_G) (kA : Nat → ClassId) (V Z : Nat → Nat) (N : Nat) (l1 : Int32) (u : RSt) (sz : Nat) {r : Int32} {w : RSt} (h : F_accept N l1 u = some (r, w)) : Met l yX12_accept (Cond.code yX12_accept cX12_accept 5 none :: GW) { frames := 1, cells := 0, slots := 0, locals := 24 } (rPc D kA V Z [.int l1] u sz) (rQv D kA Z u sz w) 0 0 (va_A (RW kA Z u) sz) := by
  refine Met.ofW (cc := cX12_accept) (maxL := 5) (ret := none) (by decide) rfl ?_
  intro p e s m args below meth c s₁ Bd hml hv
  obtain ⟨rfl, hsz, hP, hK, hD0, hE⟩ := hv
  have hts := atoms_spec (ws := Cond.code yX12_accept cX12_accept 5 none :: GW) Bd.pre
  have hl := lv_entry (.ref (Z 200) :: [.int l1]) (n := 5) (Nat.le_of_ble_eq_true rfl)
  rw [lg_entry_eq]
  generalize (lg_sl (.ref (Z 200) :: [.int l1]) ++ List.replicate (5 - (lg_sl (.ref (Z 200) :: [.int l1])).length) Slot.unset).toArray = ls at hl ⊢
  have hl : lv_has ls 5 [(0, .ref (Z 200)), (1, .int l1)] := hl
  subst hsz
  have X : RC p s m (.ref (Z 200) :: [.int l1]).toArray c cX12_accept 5 (Cond.code yX12_accept cX12_accept 5 none) D kA V (va_A (RW kA Z u) s.heap.size) := ⟨⟨Bd.exec, Bd.bytes, hml, findClass_of_methodNamed Bd.named, hts⟩, hK, hE, fun q h => Or.inr h⟩
  exact b_accept_0 X (rend_v (cy := cX12_accept) X Bd.returns Bd.notSynchronized) (Nat.le_refl _) (Nat.le_refl _) h ⟨hP, hD0.self, va_S.rf⟩ (lv_sub hl [0, 1] rfl)
theorem kc_accept {r : Int32} {cc : ByteArray} {pc nL : Nat} {c0 : Cond} {rest : List Value} {l1 : Int32} {u : RSt} (X : RC p s m args c cc nL c0 D kA V A) (hS : RS D kA Z A s u H locs) (h : F_accept N l1 u = some (r, w)) (hF : 1 + 1 ≤ R.frames) (hL : 8 + (5 + 11) + 24 ≤ R.locals) (hl : ls.size = nL) (hc : (rest.map fun v => v.category).sum ≤ 8) (hdg : decode cc pc = .ok (.invokevirtual 721, 3)) (kk : ∀ H locs, RS D kA Z A s w H locs → W p l e R s m args below meth c H locs 0 0 Q (F0 m (pc + 3) ls (rest))) : W p l e R s m args below meth c H locs 0 0 Q (F0 m pc ls (.int l1 :: .ref (Z 200) :: rest)) :=
  rcall_v (n := 1) X hS (k_accept l D kA V Z N l1 u H.size h) (gw_V gw_2585 gw_2587 gs_11_13 gw_16 gw_2588) (by decide +kernel) hF hL rfl hl hc rfl hdg kk
def B_scan_23 (N : Nat) (R_23 : Int32 × Int32 × Int32 × RSt → Option (Int32 × RSt)) (l1 : Int32) (l2 : Int32) (l3 : Int32) (u : RSt) : Option (Int32 × RSt) := if l1 ≤ l3 then (some (l2, u)) else (if (u.1 9) = (0 : Int32) then (bn (F_ticks N u) fun r_4 u_3 => R_23 (l1, (l2 + r_4), (l3 + 1), u_3)) else (some (l2, u)))
set_option maxHeartbeats 4000000 in
theorem b_scan_23 {r : Int32} (X : RC p s m args c cX12_scan 4 (Cond.code yX12_scan cX12_scan 4 (some .int)) D kA V A) (hE : REi p l e R s m args below meth c cX12_scan D kA Z A Q r w) (hF : 6 ≤ R.frames) (hL : 152 ≤ R.locals) {R_23 : Int32 × Int32 × Int32 × RSt → Option (Int32 × RSt)} {l1 : Int32} {l2 : Int32} {l3 : Int32} (hR_23 : ∀ (l1 : Int32) (l2 : Int32) (l3 : Int32) (u : RSt), R_23 (l1, l2, l3, u) = some (r, w) → ∀ (H : Heap) (locs : List Loc) (ls : Array Slot), RS D kA Z A s u H locs → lv_has ls 4 [(0, .ref (Z 200)), (1, .int l1), (2, .int l2), (3, .int l3)] → W p l e R s m args below meth c H locs 0 0 Q (F0 m 23 ls [])) {u : RSt} (h : B_scan_23 N R_23 l1 l2 l3 u = some (r, w)) (hS : RS D kA Z A s u H locs) (hl : lv_has ls 4 [(0, .ref (Z 200)), (1, .int l1), (2, .int l2), (3, .int l3)]) : W p l e R s m args below meth c H locs 0 0 Q (F0 m 23 ls []) := by
  obtain ⟨⟨hx, hb, hml, hown, hts⟩, hK, hEV, hA⟩ := id X
  have hG : ∀ w ∈ GW, w.before args s = true := fun w h => hts w (List.mem_cons_of_mem _ h)
  unfold B_scan_23 at h
  refine lv_iload_n hx hb dX12_scan_23 rfl (lv_at hl 3 rfl) ?_
  refine lv_iload_n hx hb dX12_scan_24 rfl (lv_at hl 1 rfl) ?_
  refine lv_icmp_ge (tgt := 48) hx hb dX12_scan_25 (by decide) (fun c_1 => ?_) (fun c_1 => ?_)
  · have h := ip (c_1) h
    refine lv_iload_n hx hb dX12_scan_48 rfl (lv_at hl 2 rfl) ?_
    obtain ⟨rfl, rfl⟩ := so h
    exact hE _ _ _ _ hS dX12_scan_49
  · have h := im (c_1) h
    refine lv_aload_n hx hb dX12_scan_28 rfl (lv_at hl 0 rfl) ?_
    refine rg_9 X hS dX12_scan_29 ?_
    refine lv_if_ne (tgt := 48) hx hb dX12_scan_32 (by decide) (fun c_2 => ?_) (fun c_2 => ?_)
    · have h := im (c_2) h
      refine lv_iload_n hx hb dX12_scan_48 rfl (lv_at hl 2 rfl) ?_
      obtain ⟨rfl, rfl⟩ := so h
      exact hE _ _ _ _ hS dX12_scan_49
    · have h := ip (c_2) h
      refine lv_iload_n hx hb dX12_scan_35 rfl (lv_at hl 2 rfl) ?_
      refine lv_aload_n hx hb dX12_scan_36 rfl (lv_at hl 0 rfl) ?_
      obtain ⟨r_4, u_3, h_u_3, h⟩ := bn_of h
      refine kc_ticks X hS h_u_3 (Nat.le_trans (Nat.le_of_ble_eq_true rfl) hF) (Nat.le_trans (Nat.le_of_ble_eq_true rfl) hL) hl.1 (Nat.le_of_ble_eq_true rfl) dX12_scan_37 (fun H locs hS => ?_)
      refine lv_iadd hx hb dX12_scan_40 ?_
      refine lv_istore_n (lv' := [(2, .int (l2 + r_4)), (0, .ref (Z 200)), (1, .int l1), (3, .int l3)]) hx hb dX12_scan_41 rfl hl (by decide) rfl (fun ls hl => ?_)
      refine lv_iinc (v := l3 + 1) (lv' := [(3, .int (l3 + 1)), (2, .int (l2 + r_4)), (0, .ref (Z 200)), (1, .int l1)]) hx hb dX12_scan_42 hl (k := 3) rfl rfl (by decide) rfl (fun ls hl => ?_)
      refine lv_goto (tgt := 23) hx hb dX12_scan_45 (by decide) ?_
      exact hR_23 _ _ _ _ h _ _ _ hS (lv_sub hl [2, 3, 1, 0] rfl)
def LP_scan_23 (N : Nat) : Nat → Int32 × Int32 × Int32 × RSt → Option (Int32 × RSt) := lp (fun R a => B_scan_23 N R a.1 a.2.1 a.2.2.1 a.2.2.2)
theorem bl_scan_23 {r : Int32} (X : RC p s m args c cX12_scan 4 (Cond.code yX12_scan cX12_scan 4 (some .int)) D kA V A) (hE : REi p l e R s m args below meth c cX12_scan D kA Z A Q r w) (hF : 6 ≤ R.frames) (hL : 152 ≤ R.locals)  : ∀ (n : Nat) (l1 : Int32) (l2 : Int32) (l3 : Int32) (u : RSt), LP_scan_23 N n (l1, l2, l3, u) = some (r, w) → ∀ (H : Heap) (locs : List Loc) (ls : Array Slot), RS D kA Z A s u H locs → lv_has ls 4 [(0, .ref (Z 200)), (1, .int l1), (2, .int l2), (3, .int l3)] → W p l e R s m args below meth c H locs 0 0 Q (F0 m 23 ls []) := by
  intro n
  induction n with
  | zero => intro l1 l2 l3 u h; exact nomatch h
  | succ n ih => intro l1 l2 l3 u h H locs ls hS hl; exact b_scan_23 (N := N) (R_23 := LP_scan_23 N n) X hE hF hL  ih h hS hl
def B_scan_16 (N : Nat) (l1 : Int32) (s1 : Int32) (u : RSt) : Option (Int32 × RSt) := pu (sI u 9 s1) fun u_5 => LP_scan_23 N N (l1, 0, 0, u_5)
set_option maxHeartbeats 4000000 in
theorem b_scan_16 {r : Int32} (X : RC p s m args c cX12_scan 4 (Cond.code yX12_scan cX12_scan 4 (some .int)) D kA V A) (hE : REi p l e R s m args below meth c cX12_scan D kA Z A Q r w) (hF : 6 ≤ R.frames) (hL : 152 ≤ R.locals) {l1 : Int32} {s1 : Int32}  {u : RSt} (h : B_scan_16 N l1 s1 u = some (r, w)) (hS : RS D kA Z A s u H locs) (hl : lv_has ls 4 [(0, .ref (Z 200)), (1, .int l1)]) : W p l e R s m args below meth c H locs 0 0 Q (F0 m 16 ls [.int s1, .ref (Z 200)]) := by
  obtain ⟨⟨hx, hb, hml, hown, hts⟩, hK, hEV, hA⟩ := id X
  have hG : ∀ w ∈ GW, w.before args s = true := fun w h => hts w (List.mem_cons_of_mem _ h)
  unfold B_scan_16 at h
  obtain ⟨u_5, e_u_5, h⟩ := pu_of h
  refine rp_9 X hS e_u_5 dX12_scan_16 (fun H locs hS => ?_)
  refine lv_iconst (v := 0) hx hb dX12_scan_19 (by decide) ?_
  refine lv_istore_n (lv' := [(2, .int 0), (0, .ref (Z 200)), (1, .int l1)]) hx hb dX12_scan_20 rfl hl (by decide) rfl (fun ls hl => ?_)
  refine lv_iconst (v := 0) hx hb dX12_scan_21 (by decide) ?_
  refine lv_istore_n (lv' := [(3, .int 0), (2, .int 0), (0, .ref (Z 200)), (1, .int l1)]) hx hb dX12_scan_22 rfl hl (by decide) rfl (fun ls hl => ?_)
  exact bl_scan_23 X hE hF hL  _ _ _ _ _ h _ _ _ hS (lv_sub hl [2, 3, 1, 0] rfl)
def B_scan_0 (N : Nat) (l1 : Int32) (u : RSt) : Option (Int32 × RSt) := if (r_in l1 1 50) = (0 : Int32) then (B_scan_16 N l1 1 u) else (B_scan_16 N l1 0 u)
set_option maxHeartbeats 4000000 in
theorem b_scan_0 {r : Int32} (X : RC p s m args c cX12_scan 4 (Cond.code yX12_scan cX12_scan 4 (some .int)) D kA V A) (hE : REi p l e R s m args below meth c cX12_scan D kA Z A Q r w) (hF : 6 ≤ R.frames) (hL : 152 ≤ R.locals) {l1 : Int32}  {u : RSt} (h : B_scan_0 N l1 u = some (r, w)) (hS : RS D kA Z A s u H locs) (hl : lv_has ls 4 [(0, .ref (Z 200)), (1, .int l1)]) : W p l e R s m args below meth c H locs 0 0 Q (F0 m 0 ls []) := by
  obtain ⟨⟨hx, hb, hml, hown, hts⟩, hK, hEV, hA⟩ := id X
  have hG : ∀ w ∈ GW, w.before args s = true := fun w h => hts w (List.mem_cons_of_mem _ h)
  unfold B_scan_0 at h
  refine lv_aload_n hx hb dX12_scan_0 rfl (lv_at hl 0 rfl) ?_
  refine lv_iload_n hx hb dX12_scan_1 rfl (lv_at hl 1 rfl) ?_
  refine lv_iconst (v := 1) hx hb dX12_scan_2 (by decide) ?_
  refine lv_bipush (v := 50) hx hb dX12_scan_3 (by decide) ?_
  refine vp_callSi (W.runS (As := [.int l1, .int 1, .int 50]) (rest := [.ref (Z 200)]) X.1 (c_X12_in l l1 1 50) (va_cwS 3 hts (gw_P gw_2605 gw_2606 gw_16 gwp_X12_in) rfl rfl rfl (by decide +kernel) ⟨Nat.le_trans (Nat.le_of_ble_eq_true rfl) hF, Nat.le_trans (Nat.le_of_ble_eq_true rfl) hL⟩) ⟨fun _ _ _ _ q => q, fun _ _ _ => ⟨rfl, trivial⟩⟩ rfl rfl hl.1 rfl (lv_room (Nat.le_of_ble_eq_true rfl)) dX12_scan_5 ⟨Nat.zero_le _, Nat.zero_le _⟩) (fun r_6 q_7 => ?_)
  subst q_7
  refine lv_if_eq (tgt := 15) hx hb dX12_scan_8 (by decide) (fun c_8 => ?_) (fun c_8 => ?_)
  · have h := ip (c_8) h
    refine lv_iconst (v := 1) hx hb dX12_scan_15 (by decide) ?_
    exact b_scan_16 X hE hF hL  h hS (lv_sub hl [0, 1] rfl)
  · have h := im (c_8) h
    refine lv_iconst (v := 0) hx hb dX12_scan_11 (by decide) ?_
    refine lv_goto (tgt := 16) hx hb dX12_scan_12 (by decide) ?_
    exact b_scan_16 X hE hF hL  h hS (lv_sub hl [0, 1] rfl)
def F_scan (N : Nat) (l1 : Int32) (u : RSt) : Option (Int32 × RSt) := B_scan_0 N l1 u
set_option maxHeartbeats 4000000 in
theorem k_scan (l : Launch) (D : va_G) (kA : Nat → ClassId) (V Z : Nat → Nat) (N : Nat) (l1 : Int32) (u : RSt) (sz : Nat) {r : Int32} {w : RSt} (h : F_scan N l1 u = some (r, w)) : Met l yX12_scan (Cond.code yX12_scan cX12_scan 4 (some .int) :: GW) { frames := 6, cells := 0, slots := 0, locals := 152 } (rPc D kA V Z [.int l1] u sz) (rQi D kA Z u sz r w) 0 0 (va_A (RW kA Z u) sz) := by
  refine Met.ofW (cc := cX12_scan) (maxL := 4) (ret := (some .int)) (by decide) rfl ?_
  intro p e s m args below meth c s₁ Bd hml hv
  obtain ⟨rfl, hsz, hP, hK, hD0, hE⟩ := hv
  have hts := atoms_spec (ws := Cond.code yX12_scan cX12_scan 4 (some .int) :: GW) Bd.pre
  have hl := lv_entry (.ref (Z 200) :: [.int l1]) (n := 4) (Nat.le_of_ble_eq_true rfl)
  rw [lg_entry_eq]
  generalize (lg_sl (.ref (Z 200) :: [.int l1]) ++ List.replicate (4 - (lg_sl (.ref (Z 200) :: [.int l1])).length) Slot.unset).toArray = ls at hl ⊢
  have hl : lv_has ls 4 [(0, .ref (Z 200)), (1, .int l1)] := hl
  subst hsz
  have X : RC p s m (.ref (Z 200) :: [.int l1]).toArray c cX12_scan 4 (Cond.code yX12_scan cX12_scan 4 (some .int)) D kA V (va_A (RW kA Z u) s.heap.size) := ⟨⟨Bd.exec, Bd.bytes, hml, findClass_of_methodNamed Bd.named, hts⟩, hK, hE, fun q h => Or.inr h⟩
  exact b_scan_0 X (rend_i (cy := cX12_scan) X Bd.returns Bd.notSynchronized) (Nat.le_refl _) (Nat.le_refl _) h ⟨hP, hD0.self, va_S.rf⟩ (lv_sub hl [0, 1] rfl)
def B_power_82 (N : Nat) (R_14 : Int32 × RSt → Option (Int32 × RSt)) (l1 : Int32) (u : RSt) : Option (Int32 × RSt) := R_14 ((l1 + 1), u)
set_option maxHeartbeats 4000000 in
theorem b_power_82 {r : Int32} (X : RC p s m args c cX12_power 3 (Cond.code yX12_power cX12_power 3 none) D kA V A) (hE : REv p l e R s m args below meth c cX12_power D kA Z A Q w) (hF : 1 ≤ R.frames) (hL : 24 ≤ R.locals) {R_14 : Int32 × RSt → Option (Int32 × RSt)} {l1 : Int32} (hR_14 : ∀ (l1 : Int32) (u : RSt), R_14 (l1, u) = some (r, w) → ∀ (H : Heap) (locs : List Loc) (ls : Array Slot), RS D kA Z A s u H locs → lv_has ls 3 [(0, .ref (Z 200)), (1, .int l1)] → W p l e R s m args below meth c H locs 0 0 Q (F0 m 14 ls [])) {u : RSt} (h : B_power_82 N R_14 l1 u = some (r, w)) (hS : RS D kA Z A s u H locs) (hl : lv_has ls 3 [(0, .ref (Z 200)), (1, .int l1)]) : W p l e R s m args below meth c H locs 0 0 Q (F0 m 82 ls []) := by
  obtain ⟨⟨hx, hb, hml, hown, hts⟩, hK, hEV, hA⟩ := id X
  have hG : ∀ w ∈ GW, w.before args s = true := fun w h => hts w (List.mem_cons_of_mem _ h)
  unfold B_power_82 at h
  refine lv_iinc (v := l1 + 1) (lv' := [(1, .int (l1 + 1)), (0, .ref (Z 200))]) hx hb dX12_power_82 hl (k := 1) rfl rfl (by decide) rfl (fun ls hl => ?_)
  refine lv_goto (tgt := 14) hx hb dX12_power_85 (by decide) ?_
  exact hR_14 _ _ h _ _ _ hS (lv_sub hl [1, 0] rfl)
def B_power_38 (N : Nat) (R_14 : Int32 × RSt → Option (Int32 × RSt)) (R_38 : Int32 × Int32 × RSt → Option (Int32 × RSt)) (l1 : Int32) (l2 : Int32) (u : RSt) : Option (Int32 × RSt) := rd (u.2.2.1 11) 320 l1 fun v_1 => if v_1 ≤ l2 then (B_power_82 N R_14 l1 u) else (rd (u.2.2.1 12) 320 l1 fun v_4 => if v_4 = (0 : Int32) then (rd (u.2.2.1 15) 320 l1 fun v_7 => rd (u.2.2.2 16) 320 l1 fun v_9 => wr 3000 (v_7 + l2) (sB u 82 (v_7 + l2).toNatClampNeg v_9) fun u_11 => R_38 (l1, (l2 + 1), u_11)) else (B_power_82 N R_14 l1 u))
set_option maxHeartbeats 4000000 in
theorem b_power_38 {r : Int32} (X : RC p s m args c cX12_power 3 (Cond.code yX12_power cX12_power 3 none) D kA V A) (hE : REv p l e R s m args below meth c cX12_power D kA Z A Q w) (hF : 1 ≤ R.frames) (hL : 24 ≤ R.locals) {R_14 : Int32 × RSt → Option (Int32 × RSt)} {R_38 : Int32 × Int32 × RSt → Option (Int32 × RSt)} {l1 : Int32} {l2 : Int32} (hR_14 : ∀ (l1 : Int32) (u : RSt), R_14 (l1, u) = some (r, w) → ∀ (H : Heap) (locs : List Loc) (ls : Array Slot), RS D kA Z A s u H locs → lv_has ls 3 [(0, .ref (Z 200)), (1, .int l1)] → W p l e R s m args below meth c H locs 0 0 Q (F0 m 14 ls [])) (hR_38 : ∀ (l1 : Int32) (l2 : Int32) (u : RSt), R_38 (l1, l2, u) = some (r, w) → ∀ (H : Heap) (locs : List Loc) (ls : Array Slot), RS D kA Z A s u H locs → lv_has ls 3 [(0, .ref (Z 200)), (1, .int l1), (2, .int l2)] → W p l e R s m args below meth c H locs 0 0 Q (F0 m 38 ls [])) {u : RSt} (h : B_power_38 N R_14 R_38 l1 l2 u = some (r, w)) (hS : RS D kA Z A s u H locs) (hl : lv_has ls 3 [(0, .ref (Z 200)), (1, .int l1), (2, .int l2)]) : W p l e R s m args below meth c H locs 0 0 Q (F0 m 38 ls []) := by
  obtain ⟨⟨hx, hb, hml, hown, hts⟩, hK, hEV, hA⟩ := id X
  have hG : ∀ w ∈ GW, w.before args s = true := fun w h => hts w (List.mem_cons_of_mem _ h)
  unfold B_power_38 at h
  refine lv_iload_n hx hb dX12_power_38 rfl (lv_at hl 2 rfl) ?_
  refine lv_aload_n hx hb dX12_power_39 rfl (lv_at hl 0 rfl) ?_
  refine rg_11 X hS dX12_power_40 ?_
  refine lv_iload_n hx hb dX12_power_43 rfl (lv_at hl 1 rfl) ?_
  obtain ⟨v_1, e_v_1, i_2, h⟩ := rd_of h
  refine ra_11 X hS i_2 e_v_1 dX12_power_44 ?_
  refine lv_icmp_ge (tgt := 82) hx hb dX12_power_45 (by decide) (fun c_3 => ?_) (fun c_3 => ?_)
  · have h := ip (c_3) h
    exact b_power_82 X hE hF hL hR_14 h hS (lv_sub hl [0, 1] rfl)
  · have h := im (c_3) h
    refine lv_aload_n hx hb dX12_power_48 rfl (lv_at hl 0 rfl) ?_
    refine rg_12 X hS dX12_power_49 ?_
    refine lv_iload_n hx hb dX12_power_52 rfl (lv_at hl 1 rfl) ?_
    obtain ⟨v_4, e_v_4, i_5, h⟩ := rd_of h
    refine ra_12 X hS i_5 e_v_4 dX12_power_53 ?_
    refine lv_if_ne (tgt := 82) hx hb dX12_power_54 (by decide) (fun c_6 => ?_) (fun c_6 => ?_)
    · have h := im (c_6) h
      exact b_power_82 X hE hF hL hR_14 h hS (lv_sub hl [0, 1] rfl)
    · have h := ip (c_6) h
      refine lv_aload_n hx hb dX12_power_57 rfl (lv_at hl 0 rfl) ?_
      refine rg_82 X hS dX12_power_58 ?_
      refine lv_aload_n hx hb dX12_power_61 rfl (lv_at hl 0 rfl) ?_
      refine rg_15 X hS dX12_power_62 ?_
      refine lv_iload_n hx hb dX12_power_65 rfl (lv_at hl 1 rfl) ?_
      obtain ⟨v_7, e_v_7, i_8, h⟩ := rd_of h
      refine ra_15 X hS i_8 e_v_7 dX12_power_66 ?_
      refine lv_iload_n hx hb dX12_power_67 rfl (lv_at hl 2 rfl) ?_
      refine lv_iadd hx hb dX12_power_68 ?_
      refine lv_aload_n hx hb dX12_power_69 rfl (lv_at hl 0 rfl) ?_
      refine rg_16 X hS dX12_power_70 ?_
      refine lv_iload_n hx hb dX12_power_73 rfl (lv_at hl 1 rfl) ?_
      obtain ⟨v_9, e_v_9, i_10, h⟩ := rd_of h
      refine ra_16 X hS i_10 e_v_9 dX12_power_74 ?_
      obtain ⟨u_11, e_u_11, i_12, h⟩ := wr_of h
      refine rs_82 X hS i_12 e_u_11 dX12_power_75 (fun H locs hS => ?_)
      refine lv_iinc (v := l2 + 1) (lv' := [(2, .int (l2 + 1)), (0, .ref (Z 200)), (1, .int l1)]) hx hb dX12_power_76 hl (k := 2) rfl rfl (by decide) rfl (fun ls hl => ?_)
      refine lv_goto (tgt := 38) hx hb dX12_power_79 (by decide) ?_
      exact hR_38 _ _ _ h _ _ _ hS (lv_sub hl [1, 2, 0] rfl)
def LP_power_38 (N : Nat) (R_14 : Int32 × RSt → Option (Int32 × RSt)) : Nat → Int32 × Int32 × RSt → Option (Int32 × RSt) := lp (fun R a => B_power_38 N R_14 R a.1 a.2.1 a.2.2)
theorem bl_power_38 {r : Int32} (X : RC p s m args c cX12_power 3 (Cond.code yX12_power cX12_power 3 none) D kA V A) (hE : REv p l e R s m args below meth c cX12_power D kA Z A Q w) (hF : 1 ≤ R.frames) (hL : 24 ≤ R.locals) {R_14 : Int32 × RSt → Option (Int32 × RSt)} (hR_14 : ∀ (l1 : Int32) (u : RSt), R_14 (l1, u) = some (r, w) → ∀ (H : Heap) (locs : List Loc) (ls : Array Slot), RS D kA Z A s u H locs → lv_has ls 3 [(0, .ref (Z 200)), (1, .int l1)] → W p l e R s m args below meth c H locs 0 0 Q (F0 m 14 ls [])) : ∀ (n : Nat) (l1 : Int32) (l2 : Int32) (u : RSt), LP_power_38 N R_14 n (l1, l2, u) = some (r, w) → ∀ (H : Heap) (locs : List Loc) (ls : Array Slot), RS D kA Z A s u H locs → lv_has ls 3 [(0, .ref (Z 200)), (1, .int l1), (2, .int l2)] → W p l e R s m args below meth c H locs 0 0 Q (F0 m 38 ls []) := by
  intro n
  induction n with
  | zero => intro l1 l2 u h; exact nomatch h
  | succ n ih => intro l1 l2 u h H locs ls hS hl; exact b_power_38 (N := N) (R_38 := LP_power_38 N R_14 n) X hE hF hL hR_14 ih h hS hl
def B_power_14 (N : Nat) (R_14 : Int32 × RSt → Option (Int32 × RSt)) (l1 : Int32) (u : RSt) : Option (Int32 × RSt) := rd (u.2.2.1 19) 2 (u.1 55) fun v_13 => if ((160 * (u.1 55)) + v_13) ≤ l1 then (bn (F_anew N u) fun _ u_16 => bn (F_begin N u_16) fun _ u_17 => some (0, u_17)) else (LP_power_38 N R_14 N (l1, 0, u))
set_option maxHeartbeats 4000000 in
theorem b_power_14 {r : Int32} (X : RC p s m args c cX12_power 3 (Cond.code yX12_power cX12_power 3 none) D kA V A) (hE : REv p l e R s m args below meth c cX12_power D kA Z A Q w) (hF : 1 ≤ R.frames) (hL : 24 ≤ R.locals) {R_14 : Int32 × RSt → Option (Int32 × RSt)} {l1 : Int32} (hR_14 : ∀ (l1 : Int32) (u : RSt), R_14 (l1, u) = some (r, w) → ∀ (H : Heap) (locs : List Loc) (ls : Array Slot), RS D kA Z A s u H locs → lv_has ls 3 [(0, .ref (Z 200)), (1, .int l1)] → W p l e R s m args below meth c H locs 0 0 Q (F0 m 14 ls [])) {u : RSt} (h : B_power_14 N R_14 l1 u = some (r, w)) (hS : RS D kA Z A s u H locs) (hl : lv_has ls 3 [(0, .ref (Z 200)), (1, .int l1)]) : W p l e R s m args below meth c H locs 0 0 Q (F0 m 14 ls []) := by
  obtain ⟨⟨hx, hb, hml, hown, hts⟩, hK, hEV, hA⟩ := id X
  have hG : ∀ w ∈ GW, w.before args s = true := fun w h => hts w (List.mem_cons_of_mem _ h)
  unfold B_power_14 at h
  refine lv_iload_n hx hb dX12_power_14 rfl (lv_at hl 1 rfl) ?_
  refine lv_sipush (v := 160) hx hb dX12_power_15 (by decide) ?_
  refine lv_aload_n hx hb dX12_power_18 rfl (lv_at hl 0 rfl) ?_
  refine rg_55 X hS dX12_power_19 ?_
  refine lv_imul hx hb dX12_power_22 ?_
  refine lv_aload_n hx hb dX12_power_23 rfl (lv_at hl 0 rfl) ?_
  refine rg_19 X hS dX12_power_24 ?_
  refine lv_aload_n hx hb dX12_power_27 rfl (lv_at hl 0 rfl) ?_
  refine rg_55 X hS dX12_power_28 ?_
  obtain ⟨v_13, e_v_13, i_14, h⟩ := rd_of h
  refine ra_19 X hS i_14 e_v_13 dX12_power_31 ?_
  refine lv_iadd hx hb dX12_power_32 ?_
  refine lv_icmp_ge (tgt := 88) hx hb dX12_power_33 (by decide) (fun c_15 => ?_) (fun c_15 => ?_)
  · have h := ip (c_15) h
    refine lv_aload_n hx hb dX12_power_88 rfl (lv_at hl 0 rfl) ?_
    obtain ⟨r_u_16, u_16, h_u_16, h⟩ := bn_of h
    refine kc_anew X hS h_u_16 (Nat.le_trans (Nat.le_of_ble_eq_true rfl) hF) (Nat.le_trans (Nat.le_of_ble_eq_true rfl) hL) hl.1 (Nat.le_of_ble_eq_true rfl) dX12_power_89 (fun H locs hS => ?_)
    refine lv_aload_n hx hb dX12_power_92 rfl (lv_at hl 0 rfl) ?_
    obtain ⟨r_u_17, u_17, h_u_17, h⟩ := bn_of h
    refine kc_begin X hS h_u_17 (Nat.le_trans (Nat.le_of_ble_eq_true rfl) hF) (Nat.le_trans (Nat.le_of_ble_eq_true rfl) hL) hl.1 (Nat.le_of_ble_eq_true rfl) dX12_power_93 (fun H locs hS => ?_)
    obtain ⟨-, rfl⟩ := so h
    exact hE _ _ _ _ hS dX12_power_96
  · have h := im (c_15) h
    refine lv_iconst (v := 0) hx hb dX12_power_36 (by decide) ?_
    refine lv_istore_n (lv' := [(2, .int 0), (0, .ref (Z 200)), (1, .int l1)]) hx hb dX12_power_37 rfl hl (by decide) rfl (fun ls hl => ?_)
    exact bl_power_38 X hE hF hL hR_14 _ _ _ _ h _ _ _ hS (lv_sub hl [1, 2, 0] rfl)
def LP_power_14 (N : Nat) : Nat → Int32 × RSt → Option (Int32 × RSt) := lp (fun R a => B_power_14 N R a.1 a.2)
theorem bl_power_14 {r : Int32} (X : RC p s m args c cX12_power 3 (Cond.code yX12_power cX12_power 3 none) D kA V A) (hE : REv p l e R s m args below meth c cX12_power D kA Z A Q w) (hF : 1 ≤ R.frames) (hL : 24 ≤ R.locals)  : ∀ (n : Nat) (l1 : Int32) (u : RSt), LP_power_14 N n (l1, u) = some (r, w) → ∀ (H : Heap) (locs : List Loc) (ls : Array Slot), RS D kA Z A s u H locs → lv_has ls 3 [(0, .ref (Z 200)), (1, .int l1)] → W p l e R s m args below meth c H locs 0 0 Q (F0 m 14 ls []) := by
  intro n
  induction n with
  | zero => intro l1 u h; exact nomatch h
  | succ n ih => intro l1 u h H locs ls hS hl; exact b_power_14 (N := N) (R_14 := LP_power_14 N n) X hE hF hL  ih h hS hl
def B_power_0 (N : Nat) (u : RSt) : Option (Int32 × RSt) := pu (sI u 9 0) fun u_18 => LP_power_14 N N ((160 * (u_18.1 55)), u_18)
set_option maxHeartbeats 4000000 in
theorem b_power_0 {r : Int32} (X : RC p s m args c cX12_power 3 (Cond.code yX12_power cX12_power 3 none) D kA V A) (hE : REv p l e R s m args below meth c cX12_power D kA Z A Q w) (hF : 1 ≤ R.frames) (hL : 24 ≤ R.locals)  {u : RSt} (h : B_power_0 N u = some (r, w)) (hS : RS D kA Z A s u H locs) (hl : lv_has ls 3 [(0, .ref (Z 200))]) : W p l e R s m args below meth c H locs 0 0 Q (F0 m 0 ls []) := by
  obtain ⟨⟨hx, hb, hml, hown, hts⟩, hK, hEV, hA⟩ := id X
  have hG : ∀ w ∈ GW, w.before args s = true := fun w h => hts w (List.mem_cons_of_mem _ h)
  unfold B_power_0 at h
  refine lv_aload_n hx hb dX12_power_0 rfl (lv_at hl 0 rfl) ?_
  refine lv_iconst (v := 0) hx hb dX12_power_1 (by decide) ?_
  obtain ⟨u_18, e_u_18, h⟩ := pu_of h
  refine rp_9 X hS e_u_18 dX12_power_2 (fun H locs hS => ?_)
  refine lv_sipush (v := 160) hx hb dX12_power_5 (by decide) ?_
  refine lv_aload_n hx hb dX12_power_8 rfl (lv_at hl 0 rfl) ?_
  refine rg_55 X hS dX12_power_9 ?_
  refine lv_imul hx hb dX12_power_12 ?_
  refine lv_istore_n (lv' := [(1, .int (160 * (u_18.1 55))), (0, .ref (Z 200))]) hx hb dX12_power_13 rfl hl (by decide) rfl (fun ls hl => ?_)
  exact bl_power_14 X hE hF hL  _ _ _ h _ _ _ hS (lv_sub hl [1, 0] rfl)
def F_power (N : Nat) (u : RSt) : Option (Int32 × RSt) := B_power_0 N u
set_option maxHeartbeats 4000000 in
theorem k_power (l : Launch) (D : va_G) (kA : Nat → ClassId) (V Z : Nat → Nat) (N : Nat) (u : RSt) (sz : Nat) {r : Int32} {w : RSt} (h : F_power N u = some (r, w)) : Met l yX12_power (Cond.code yX12_power cX12_power 3 none :: GW) { frames := 1, cells := 0, slots := 0, locals := 24 } (rPc D kA V Z [] u sz) (rQv D kA Z u sz w) 0 0 (va_A (RW kA Z u) sz) := by
  refine Met.ofW (cc := cX12_power) (maxL := 3) (ret := none) (by decide) rfl ?_
  intro p e s m args below meth c s₁ Bd hml hv
  obtain ⟨rfl, hsz, hP, hK, hD0, hE⟩ := hv
  have hts := atoms_spec (ws := Cond.code yX12_power cX12_power 3 none :: GW) Bd.pre
  have hl := lv_entry (.ref (Z 200) :: []) (n := 3) (Nat.le_of_ble_eq_true rfl)
  rw [lg_entry_eq]
  generalize (lg_sl (.ref (Z 200) :: []) ++ List.replicate (3 - (lg_sl (.ref (Z 200) :: [])).length) Slot.unset).toArray = ls at hl ⊢
  have hl : lv_has ls 3 [(0, .ref (Z 200))] := hl
  subst hsz
  have X : RC p s m (.ref (Z 200) :: []).toArray c cX12_power 3 (Cond.code yX12_power cX12_power 3 none) D kA V (va_A (RW kA Z u) s.heap.size) := ⟨⟨Bd.exec, Bd.bytes, hml, findClass_of_methodNamed Bd.named, hts⟩, hK, hE, fun q h => Or.inr h⟩
  exact b_power_0 X (rend_v (cy := cX12_power) X Bd.returns Bd.notSynchronized) (Nat.le_refl _) (Nat.le_refl _) h ⟨hP, hD0.self, va_S.rf⟩ (lv_sub hl [0] rfl)
def B_hasByte_16 (N : Nat) (s1 : Int32) (u : RSt) : Option (Int32 × RSt) := pu (sI u 9 s1) fun u_1 => if (u_1.1 9) = (0 : Int32) then (some (1, u_1)) else (some (0, u_1))
set_option maxHeartbeats 4000000 in
theorem b_hasByte_16 {r : Int32} (X : RC p s m args c cX12_hasByte 3 (Cond.code yX12_hasByte cX12_hasByte 3 (some .boolean)) D kA V A) (hE : REz p l e R s m args below meth c cX12_hasByte D kA Z A Q r w) (hF : 1 ≤ R.frames) (hL : 22 ≤ R.locals) {s1 : Int32}  {u : RSt} (h : B_hasByte_16 N s1 u = some (r, w)) (hS : RS D kA Z A s u H locs) (hl : lv_has ls 3 [(0, .ref (Z 200))]) : W p l e R s m args below meth c H locs 0 0 Q (F0 m 16 ls [.int s1, .ref (Z 200)]) := by
  obtain ⟨⟨hx, hb, hml, hown, hts⟩, hK, hEV, hA⟩ := id X
  have hG : ∀ w ∈ GW, w.before args s = true := fun w h => hts w (List.mem_cons_of_mem _ h)
  unfold B_hasByte_16 at h
  obtain ⟨u_1, e_u_1, h⟩ := pu_of h
  refine rp_9 X hS e_u_1 dX12_hasByte_16 (fun H locs hS => ?_)
  refine lv_aload_n hx hb dX12_hasByte_19 rfl (lv_at hl 0 rfl) ?_
  refine rg_9 X hS dX12_hasByte_20 ?_
  refine lv_if_ne (tgt := 30) hx hb dX12_hasByte_23 (by decide) (fun c_2 => ?_) (fun c_2 => ?_)
  · have h := im (c_2) h
    refine lv_iconst (v := 0) hx hb dX12_hasByte_30 (by decide) ?_
    obtain ⟨rfl, rfl⟩ := so h
    exact hE _ _ _ _ hS (Or.inl rfl) dX12_hasByte_31
  · have h := ip (c_2) h
    refine lv_iconst (v := 1) hx hb dX12_hasByte_26 (by decide) ?_
    refine lv_goto (tgt := 31) hx hb dX12_hasByte_27 (by decide) ?_
    obtain ⟨rfl, rfl⟩ := so h
    exact hE _ _ _ _ hS (Or.inr rfl) dX12_hasByte_31
def B_hasByte_0 (N : Nat) (l1 : Int32) (l2 : Int32) (u : RSt) : Option (Int32 × RSt) := if (r_in l1 0 63) = (0 : Int32) then (B_hasByte_16 N l2 u) else (B_hasByte_16 N 0 u)
set_option maxHeartbeats 4000000 in
theorem b_hasByte_0 {r : Int32} (X : RC p s m args c cX12_hasByte 3 (Cond.code yX12_hasByte cX12_hasByte 3 (some .boolean)) D kA V A) (hE : REz p l e R s m args below meth c cX12_hasByte D kA Z A Q r w) (hF : 1 ≤ R.frames) (hL : 22 ≤ R.locals) {l1 : Int32} {l2 : Int32}  {u : RSt} (h : B_hasByte_0 N l1 l2 u = some (r, w)) (hS : RS D kA Z A s u H locs) (hl : lv_has ls 3 [(0, .ref (Z 200)), (1, .int l1), (2, .int l2)]) : W p l e R s m args below meth c H locs 0 0 Q (F0 m 0 ls []) := by
  obtain ⟨⟨hx, hb, hml, hown, hts⟩, hK, hEV, hA⟩ := id X
  have hG : ∀ w ∈ GW, w.before args s = true := fun w h => hts w (List.mem_cons_of_mem _ h)
  unfold B_hasByte_0 at h
  refine lv_aload_n hx hb dX12_hasByte_0 rfl (lv_at hl 0 rfl) ?_
  refine lv_iload_n hx hb dX12_hasByte_1 rfl (lv_at hl 1 rfl) ?_
  refine lv_iconst (v := 0) hx hb dX12_hasByte_2 (by decide) ?_
  refine lv_bipush (v := 63) hx hb dX12_hasByte_3 (by decide) ?_
  refine vp_callSi (W.runS (As := [.int l1, .int 0, .int 63]) (rest := [.ref (Z 200)]) X.1 (c_X12_in l l1 0 63) (va_cwS 3 hts (gw_P gw_2605 gw_2606 gw_16 gwp_X12_in) rfl rfl rfl (by decide +kernel) ⟨Nat.le_trans (Nat.le_of_ble_eq_true rfl) hF, Nat.le_trans (Nat.le_of_ble_eq_true rfl) hL⟩) ⟨fun _ _ _ _ q => q, fun _ _ _ => ⟨rfl, trivial⟩⟩ rfl rfl hl.1 rfl (lv_room (Nat.le_of_ble_eq_true rfl)) dX12_hasByte_5 ⟨Nat.zero_le _, Nat.zero_le _⟩) (fun r_3 q_4 => ?_)
  subst q_4
  refine lv_if_eq (tgt := 15) hx hb dX12_hasByte_8 (by decide) (fun c_5 => ?_) (fun c_5 => ?_)
  · have h := ip (c_5) h
    refine lv_iload_n hx hb dX12_hasByte_15 rfl (lv_at hl 2 rfl) ?_
    exact b_hasByte_16 X hE hF hL  h hS (lv_sub hl [0] rfl)
  · have h := im (c_5) h
    refine lv_iconst (v := 0) hx hb dX12_hasByte_11 (by decide) ?_
    refine lv_goto (tgt := 16) hx hb dX12_hasByte_12 (by decide) ?_
    exact b_hasByte_16 X hE hF hL  h hS (lv_sub hl [0] rfl)
def F_hasByte (N : Nat) (l1 : Int32) (l2 : Int32) (u : RSt) : Option (Int32 × RSt) := B_hasByte_0 N l1 l2 u
set_option maxHeartbeats 4000000 in
theorem k_hasByte (l : Launch) (D : va_G) (kA : Nat → ClassId) (V Z : Nat → Nat) (N : Nat) (l1 : Int32) (l2 : Int32) (u : RSt) (sz : Nat) {r : Int32} {w : RSt} (h : F_hasByte N l1 l2 u = some (r, w)) : Met l yX12_hasByte (Cond.code yX12_hasByte cX12_hasByte 3 (some .boolean) :: GW) { frames := 1, cells := 0, slots := 0, locals := 22 } (rPc D kA V Z [.int l1, .int l2] u sz) (rQi D kA Z u sz r w) 0 0 (va_A (RW kA Z u) sz) := by
  refine Met.ofW (cc := cX12_hasByte) (maxL := 3) (ret := (some .boolean)) (by decide) rfl ?_
  intro p e s m args below meth c s₁ Bd hml hv
  obtain ⟨rfl, hsz, hP, hK, hD0, hE⟩ := hv
  have hts := atoms_spec (ws := Cond.code yX12_hasByte cX12_hasByte 3 (some .boolean) :: GW) Bd.pre
  have hl := lv_entry (.ref (Z 200) :: [.int l1, .int l2]) (n := 3) (Nat.le_of_ble_eq_true rfl)
  rw [lg_entry_eq]
  generalize (lg_sl (.ref (Z 200) :: [.int l1, .int l2]) ++ List.replicate (3 - (lg_sl (.ref (Z 200) :: [.int l1, .int l2])).length) Slot.unset).toArray = ls at hl ⊢
  have hl : lv_has ls 3 [(0, .ref (Z 200)), (1, .int l1), (2, .int l2)] := hl
  subst hsz
  have X : RC p s m (.ref (Z 200) :: [.int l1, .int l2]).toArray c cX12_hasByte 3 (Cond.code yX12_hasByte cX12_hasByte 3 (some .boolean)) D kA V (va_A (RW kA Z u) s.heap.size) := ⟨⟨Bd.exec, Bd.bytes, hml, findClass_of_methodNamed Bd.named, hts⟩, hK, hE, fun q h => Or.inr h⟩
  exact b_hasByte_0 X (rend_z (cy := cX12_hasByte) X Bd.returns Bd.notSynchronized) (Nat.le_refl _) (Nat.le_refl _) h ⟨hP, hD0.self, va_S.rf⟩ (lv_sub hl [0, 1, 2] rfl)
theorem kc_hasByte {r : Int32} {cc : ByteArray} {pc nL : Nat} {c0 : Cond} {rest : List Value} {l1 : Int32} {l2 : Int32} {u : RSt} (X : RC p s m args c cc nL c0 D kA V A) (hS : RS D kA Z A s u H locs) (h : F_hasByte N l1 l2 u = some (r, w)) (hF : 1 + 1 ≤ R.frames) (hL : 8 + (3 + 11) + 22 ≤ R.locals) (hl : ls.size = nL) (hc : (rest.map fun v => v.category).sum ≤ 8) (hdg : decode cc pc = .ok (.invokevirtual 739, 3)) (kk : ∀ H locs, RS D kA Z A s w H locs → W p l e R s m args below meth c H locs 0 0 Q (F0 m (pc + 3) ls (.int r :: rest))) : W p l e R s m args below meth c H locs 0 0 Q (F0 m pc ls (.int l2 :: .int l1 :: .ref (Z 200) :: rest)) :=
  rcall_i (n := 2) X hS (k_hasByte l D kA V Z N l1 l2 u H.size h) (gw_V gw_2672 gw_2674 gs_12_11 gw_16 gw_2675) (by decide +kernel) hF hL rfl hl hc rfl hdg kk
def B_input_0 (N : Nat) (l1 : Int32) (l2 : Int32) (u : RSt) : Option (Int32 × RSt) := bn (F_hasByte N l1 1 u) fun r_2 u_1 => if r_2 = (0 : Int32) then (some (0, u_1)) else (wr 128 l1 (sA u_1 84 l1.toNatClampNeg (l2 &&& 255)) fun u_4 => some (0, u_4))
set_option maxHeartbeats 4000000 in
theorem b_input_0 {r : Int32} (X : RC p s m args c cX12_input 3 (Cond.code yX12_input cX12_input 3 none) D kA V A) (hE : REv p l e R s m args below meth c cX12_input D kA Z A Q w) (hF : 2 ≤ R.frames) (hL : 44 ≤ R.locals) {l1 : Int32} {l2 : Int32}  {u : RSt} (h : B_input_0 N l1 l2 u = some (r, w)) (hS : RS D kA Z A s u H locs) (hl : lv_has ls 3 [(0, .ref (Z 200)), (1, .int l1), (2, .int l2)]) : W p l e R s m args below meth c H locs 0 0 Q (F0 m 0 ls []) := by
  obtain ⟨⟨hx, hb, hml, hown, hts⟩, hK, hEV, hA⟩ := id X
  have hG : ∀ w ∈ GW, w.before args s = true := fun w h => hts w (List.mem_cons_of_mem _ h)
  unfold B_input_0 at h
  refine lv_aload_n hx hb dX12_input_0 rfl (lv_at hl 0 rfl) ?_
  refine lv_iload_n hx hb dX12_input_1 rfl (lv_at hl 1 rfl) ?_
  refine lv_iconst (v := 1) hx hb dX12_input_2 (by decide) ?_
  obtain ⟨r_2, u_1, h_u_1, h⟩ := bn_of h
  refine kc_hasByte X hS h_u_1 (Nat.le_trans (Nat.le_of_ble_eq_true rfl) hF) (Nat.le_trans (Nat.le_of_ble_eq_true rfl) hL) hl.1 (Nat.le_of_ble_eq_true rfl) dX12_input_3 (fun H locs hS => ?_)
  refine lv_if_eq (tgt := 20) hx hb dX12_input_6 (by decide) (fun c_3 => ?_) (fun c_3 => ?_)
  · have h := ip (c_3) h
    obtain ⟨-, rfl⟩ := so h
    exact hE _ _ _ _ hS dX12_input_20
  · have h := im (c_3) h
    refine lv_aload_n hx hb dX12_input_9 rfl (lv_at hl 0 rfl) ?_
    refine rg_84 X hS dX12_input_10 ?_
    refine lv_iload_n hx hb dX12_input_13 rfl (lv_at hl 1 rfl) ?_
    refine lv_iload_n hx hb dX12_input_14 rfl (lv_at hl 2 rfl) ?_
    refine lv_sipush (v := 255) hx hb dX12_input_15 (by decide) ?_
    refine lv_iand hx hb dX12_input_18 ?_
    obtain ⟨u_4, e_u_4, i_5, h⟩ := wr_of h
    refine rs_84 X hS i_5 e_u_4 dX12_input_19 (fun H locs hS => ?_)
    obtain ⟨-, rfl⟩ := so h
    exact hE _ _ _ _ hS dX12_input_20
def F_input (N : Nat) (l1 : Int32) (l2 : Int32) (u : RSt) : Option (Int32 × RSt) := B_input_0 N l1 l2 u
set_option maxHeartbeats 4000000 in
theorem k_input (l : Launch) (D : va_G) (kA : Nat → ClassId) (V Z : Nat → Nat) (N : Nat) (l1 : Int32) (l2 : Int32) (u : RSt) (sz : Nat) {r : Int32} {w : RSt} (h : F_input N l1 l2 u = some (r, w)) : Met l yX12_input (Cond.code yX12_input cX12_input 3 none :: GW) { frames := 2, cells := 0, slots := 0, locals := 44 } (rPc D kA V Z [.int l1, .int l2] u sz) (rQv D kA Z u sz w) 0 0 (va_A (RW kA Z u) sz) := by
  refine Met.ofW (cc := cX12_input) (maxL := 3) (ret := none) (by decide) rfl ?_
  intro p e s m args below meth c s₁ Bd hml hv
  obtain ⟨rfl, hsz, hP, hK, hD0, hE⟩ := hv
  have hts := atoms_spec (ws := Cond.code yX12_input cX12_input 3 none :: GW) Bd.pre
  have hl := lv_entry (.ref (Z 200) :: [.int l1, .int l2]) (n := 3) (Nat.le_of_ble_eq_true rfl)
  rw [lg_entry_eq]
  generalize (lg_sl (.ref (Z 200) :: [.int l1, .int l2]) ++ List.replicate (3 - (lg_sl (.ref (Z 200) :: [.int l1, .int l2])).length) Slot.unset).toArray = ls at hl ⊢
  have hl : lv_has ls 3 [(0, .ref (Z 200)), (1, .int l1), (2, .int l2)] := hl
  subst hsz
  have X : RC p s m (.ref (Z 200) :: [.int l1, .int l2]).toArray c cX12_input 3 (Cond.code yX12_input cX12_input 3 none) D kA V (va_A (RW kA Z u) s.heap.size) := ⟨⟨Bd.exec, Bd.bytes, hml, findClass_of_methodNamed Bd.named, hts⟩, hK, hE, fun q h => Or.inr h⟩
  exact b_input_0 X (rend_v (cy := cX12_input) X Bd.returns Bd.notSynchronized) (Nat.le_refl _) (Nat.le_refl _) h ⟨hP, hD0.self, va_S.rf⟩ (lv_sub hl [0, 1, 2] rfl)
def B_look_51 (N : Nat) (l1 : Int32) (s0 : Int32) (u : RSt) : Option (Int32 × RSt) := if (2 : Int32) ≤ l1 then (if (4 : Int32) ≤ l1 then (if (6 : Int32) ≤ l1 then (rd (u.2.2.1 87) 128 s0 fun v_4 => some (v_4, u)) else (rd (u.2.2.1 86) 128 s0 fun v_6 => some (v_6, u))) else (rd (u.2.2.1 85) 128 s0 fun v_8 => some (v_8, u))) else (rd (u.2.2.1 84) 128 s0 fun v_10 => some (v_10, u))
set_option maxHeartbeats 4000000 in
theorem b_look_51 {r : Int32} (X : RC p s m args c cX12_look 4 (Cond.code yX12_look cX12_look 4 (some .int)) D kA V A) (hE : REi p l e R s m args below meth c cX12_look D kA Z A Q r w) (hF : 2 ≤ R.frames) (hL : 44 ≤ R.locals) {l1 : Int32} {s0 : Int32}  {u : RSt} (h : B_look_51 N l1 s0 u = some (r, w)) (hS : RS D kA Z A s u H locs) (hl : lv_has ls 4 [(0, .ref (Z 200)), (1, .int l1)]) : W p l e R s m args below meth c H locs 0 0 Q (F0 m 51 ls [.int s0]) := by
  obtain ⟨⟨hx, hb, hml, hown, hts⟩, hK, hEV, hA⟩ := id X
  have hG : ∀ w ∈ GW, w.before args s = true := fun w h => hts w (List.mem_cons_of_mem _ h)
  unfold B_look_51 at h
  refine lv_istore_n (lv' := [(3, .int s0), (0, .ref (Z 200)), (1, .int l1)]) hx hb dX12_look_51 rfl hl (by decide) rfl (fun ls hl => ?_)
  refine lv_iload_n hx hb dX12_look_52 rfl (lv_at hl 2 rfl) ?_
  refine lv_iconst (v := 2) hx hb dX12_look_53 (by decide) ?_
  refine lv_icmp_ge (tgt := 66) hx hb dX12_look_54 (by decide) (fun c_1 => ?_) (fun c_1 => ?_)
  · have h := ip (c_1) h
    refine lv_iload_n hx hb dX12_look_66 rfl (lv_at hl 2 rfl) ?_
    refine lv_iconst (v := 4) hx hb dX12_look_67 (by decide) ?_
    refine lv_icmp_ge (tgt := 80) hx hb dX12_look_68 (by decide) (fun c_2 => ?_) (fun c_2 => ?_)
    · have h := ip (c_2) h
      refine lv_iload_n hx hb dX12_look_80 rfl (lv_at hl 2 rfl) ?_
      refine lv_bipush (v := 6) hx hb dX12_look_81 (by decide) ?_
      refine lv_icmp_ge (tgt := 95) hx hb dX12_look_83 (by decide) (fun c_3 => ?_) (fun c_3 => ?_)
      · have h := ip (c_3) h
        refine lv_aload_n hx hb dX12_look_95 rfl (lv_at hl 1 rfl) ?_
        refine rg_87 X hS dX12_look_96 ?_
        refine lv_iload_n hx hb dX12_look_99 rfl (lv_at hl 0 rfl) ?_
        obtain ⟨v_4, e_v_4, i_5, h⟩ := rd_of h
        refine ra_87 X hS i_5 e_v_4 dX12_look_100 ?_
        obtain ⟨rfl, rfl⟩ := so h
        exact hE _ _ _ _ hS dX12_look_101
      · have h := im (c_3) h
        refine lv_aload_n hx hb dX12_look_86 rfl (lv_at hl 1 rfl) ?_
        refine rg_86 X hS dX12_look_87 ?_
        refine lv_iload_n hx hb dX12_look_90 rfl (lv_at hl 0 rfl) ?_
        obtain ⟨v_6, e_v_6, i_7, h⟩ := rd_of h
        refine ra_86 X hS i_7 e_v_6 dX12_look_91 ?_
        refine lv_goto (tgt := 101) hx hb dX12_look_92 (by decide) ?_
        obtain ⟨rfl, rfl⟩ := so h
        exact hE _ _ _ _ hS dX12_look_101
    · have h := im (c_2) h
      refine lv_aload_n hx hb dX12_look_71 rfl (lv_at hl 1 rfl) ?_
      refine rg_85 X hS dX12_look_72 ?_
      refine lv_iload_n hx hb dX12_look_75 rfl (lv_at hl 0 rfl) ?_
      obtain ⟨v_8, e_v_8, i_9, h⟩ := rd_of h
      refine ra_85 X hS i_9 e_v_8 dX12_look_76 ?_
      refine lv_goto (tgt := 101) hx hb dX12_look_77 (by decide) ?_
      obtain ⟨rfl, rfl⟩ := so h
      exact hE _ _ _ _ hS dX12_look_101
  · have h := im (c_1) h
    refine lv_aload_n hx hb dX12_look_57 rfl (lv_at hl 1 rfl) ?_
    refine rg_84 X hS dX12_look_58 ?_
    refine lv_iload_n hx hb dX12_look_61 rfl (lv_at hl 0 rfl) ?_
    obtain ⟨v_10, e_v_10, i_11, h⟩ := rd_of h
    refine ra_84 X hS i_11 e_v_10 dX12_look_62 ?_
    refine lv_goto (tgt := 101) hx hb dX12_look_63 (by decide) ?_
    obtain ⟨rfl, rfl⟩ := so h
    exact hE _ _ _ _ hS dX12_look_101
def B_look_16 (N : Nat) (l1 : Int32) (l2 : Int32) (s1 : Int32) (u : RSt) : Option (Int32 × RSt) := pu (sI u 9 s1) fun u_12 => if (0 : Int32) < (u_12.1 9) then (some (0, u_12)) else (bn (F_hasByte N l2 2 u_12) fun r_15 u_14 => if r_15 = (0 : Int32) then (some (0, u_14)) else (if (l1 - l1 / 2 * 2) = (0 : Int32) then (B_look_51 N l1 l2 u_14) else (B_look_51 N l1 (64 + l2) u_14)))
set_option maxHeartbeats 4000000 in
theorem b_look_16 {r : Int32} (X : RC p s m args c cX12_look 4 (Cond.code yX12_look cX12_look 4 (some .int)) D kA V A) (hE : REi p l e R s m args below meth c cX12_look D kA Z A Q r w) (hF : 2 ≤ R.frames) (hL : 44 ≤ R.locals) {l1 : Int32} {l2 : Int32} {s1 : Int32}  {u : RSt} (h : B_look_16 N l1 l2 s1 u = some (r, w)) (hS : RS D kA Z A s u H locs) (hl : lv_has ls 4 [(0, .ref (Z 200)), (1, .int l1), (2, .int l2)]) : W p l e R s m args below meth c H locs 0 0 Q (F0 m 16 ls [.int s1, .ref (Z 200)]) := by
  obtain ⟨⟨hx, hb, hml, hown, hts⟩, hK, hEV, hA⟩ := id X
  have hG : ∀ w ∈ GW, w.before args s = true := fun w h => hts w (List.mem_cons_of_mem _ h)
  unfold B_look_16 at h
  obtain ⟨u_12, e_u_12, h⟩ := pu_of h
  refine rp_9 X hS e_u_12 dX12_look_16 (fun H locs hS => ?_)
  refine lv_aload_n hx hb dX12_look_19 rfl (lv_at hl 0 rfl) ?_
  refine rg_9 X hS dX12_look_20 ?_
  refine lv_if_gt (tgt := 35) hx hb dX12_look_23 (by decide) (fun c_13 => ?_) (fun c_13 => ?_)
  · have h := ip (c_13) h
    refine lv_iconst (v := 0) hx hb dX12_look_35 (by decide) ?_
    obtain ⟨rfl, rfl⟩ := so h
    exact hE _ _ _ _ hS dX12_look_36
  · have h := im (c_13) h
    refine lv_aload_n hx hb dX12_look_26 rfl (lv_at hl 0 rfl) ?_
    refine lv_iload_n hx hb dX12_look_27 rfl (lv_at hl 2 rfl) ?_
    refine lv_iconst (v := 2) hx hb dX12_look_28 (by decide) ?_
    obtain ⟨r_15, u_14, h_u_14, h⟩ := bn_of h
    refine kc_hasByte X hS h_u_14 (Nat.le_trans (Nat.le_of_ble_eq_true rfl) hF) (Nat.le_trans (Nat.le_of_ble_eq_true rfl) hL) hl.1 (Nat.le_of_ble_eq_true rfl) dX12_look_29 (fun H locs hS => ?_)
    refine lv_if_ne (tgt := 37) hx hb dX12_look_32 (by decide) (fun c_16 => ?_) (fun c_16 => ?_)
    · have h := im (c_16) h
      refine lv_iload_n hx hb dX12_look_37 rfl (lv_at hl 1 rfl) ?_
      refine lv_iconst (v := 2) hx hb dX12_look_38 (by decide) ?_
      refine lv_irem hx hb dX12_look_39 (by decide) ?_
      refine lv_if_ne (tgt := 47) hx hb dX12_look_40 (by decide) (fun c_17 => ?_) (fun c_17 => ?_)
      · have h := im (c_17) h
        refine lv_bipush (v := 64) hx hb dX12_look_47 (by decide) ?_
        refine lv_iload_n hx hb dX12_look_49 rfl (lv_at hl 2 rfl) ?_
        refine lv_iadd hx hb dX12_look_50 ?_
        exact b_look_51 X hE hF hL  h hS (lv_sub hl [0, 1] rfl)
      · have h := ip (c_17) h
        refine lv_iload_n hx hb dX12_look_43 rfl (lv_at hl 2 rfl) ?_
        refine lv_goto (tgt := 51) hx hb dX12_look_44 (by decide) ?_
        exact b_look_51 X hE hF hL  h hS (lv_sub hl [0, 1] rfl)
    · have h := ip (c_16) h
      refine lv_iconst (v := 0) hx hb dX12_look_35 (by decide) ?_
      obtain ⟨rfl, rfl⟩ := so h
      exact hE _ _ _ _ hS dX12_look_36
def B_look_0 (N : Nat) (l1 : Int32) (l2 : Int32) (u : RSt) : Option (Int32 × RSt) := if (r_in l1 0 7) = (0 : Int32) then (B_look_16 N l1 l2 1 u) else (B_look_16 N l1 l2 0 u)
set_option maxHeartbeats 4000000 in
theorem b_look_0 {r : Int32} (X : RC p s m args c cX12_look 4 (Cond.code yX12_look cX12_look 4 (some .int)) D kA V A) (hE : REi p l e R s m args below meth c cX12_look D kA Z A Q r w) (hF : 2 ≤ R.frames) (hL : 44 ≤ R.locals) {l1 : Int32} {l2 : Int32}  {u : RSt} (h : B_look_0 N l1 l2 u = some (r, w)) (hS : RS D kA Z A s u H locs) (hl : lv_has ls 4 [(0, .ref (Z 200)), (1, .int l1), (2, .int l2)]) : W p l e R s m args below meth c H locs 0 0 Q (F0 m 0 ls []) := by
  obtain ⟨⟨hx, hb, hml, hown, hts⟩, hK, hEV, hA⟩ := id X
  have hG : ∀ w ∈ GW, w.before args s = true := fun w h => hts w (List.mem_cons_of_mem _ h)
  unfold B_look_0 at h
  refine lv_aload_n hx hb dX12_look_0 rfl (lv_at hl 0 rfl) ?_
  refine lv_iload_n hx hb dX12_look_1 rfl (lv_at hl 1 rfl) ?_
  refine lv_iconst (v := 0) hx hb dX12_look_2 (by decide) ?_
  refine lv_bipush (v := 7) hx hb dX12_look_3 (by decide) ?_
  refine vp_callSi (W.runS (As := [.int l1, .int 0, .int 7]) (rest := [.ref (Z 200)]) X.1 (c_X12_in l l1 0 7) (va_cwS 3 hts (gw_P gw_2605 gw_2606 gw_16 gwp_X12_in) rfl rfl rfl (by decide +kernel) ⟨Nat.le_trans (Nat.le_of_ble_eq_true rfl) hF, Nat.le_trans (Nat.le_of_ble_eq_true rfl) hL⟩) ⟨fun _ _ _ _ q => q, fun _ _ _ => ⟨rfl, trivial⟩⟩ rfl rfl hl.1 rfl (lv_room (Nat.le_of_ble_eq_true rfl)) dX12_look_5 ⟨Nat.zero_le _, Nat.zero_le _⟩) (fun r_18 q_19 => ?_)
  subst q_19
  refine lv_if_eq (tgt := 15) hx hb dX12_look_8 (by decide) (fun c_20 => ?_) (fun c_20 => ?_)
  · have h := ip (c_20) h
    refine lv_iconst (v := 1) hx hb dX12_look_15 (by decide) ?_
    exact b_look_16 X hE hF hL  h hS (lv_sub hl [0, 1, 2] rfl)
  · have h := im (c_20) h
    refine lv_iconst (v := 0) hx hb dX12_look_11 (by decide) ?_
    refine lv_goto (tgt := 16) hx hb dX12_look_12 (by decide) ?_
    exact b_look_16 X hE hF hL  h hS (lv_sub hl [0, 1, 2] rfl)
def F_look (N : Nat) (l1 : Int32) (l2 : Int32) (u : RSt) : Option (Int32 × RSt) := B_look_0 N l1 l2 u
set_option maxHeartbeats 4000000 in
theorem k_look (l : Launch) (D : va_G) (kA : Nat → ClassId) (V Z : Nat → Nat) (N : Nat) (l1 : Int32) (l2 : Int32) (u : RSt) (sz : Nat) {r : Int32} {w : RSt} (h : F_look N l1 l2 u = some (r, w)) : Met l yX12_look (Cond.code yX12_look cX12_look 4 (some .int) :: GW) { frames := 2, cells := 0, slots := 0, locals := 44 } (rPc D kA V Z [.int l1, .int l2] u sz) (rQi D kA Z u sz r w) 0 0 (va_A (RW kA Z u) sz) := by
  refine Met.ofW (cc := cX12_look) (maxL := 4) (ret := (some .int)) (by decide) rfl ?_
  intro p e s m args below meth c s₁ Bd hml hv
  obtain ⟨rfl, hsz, hP, hK, hD0, hE⟩ := hv
  have hts := atoms_spec (ws := Cond.code yX12_look cX12_look 4 (some .int) :: GW) Bd.pre
  have hl := lv_entry (.ref (Z 200) :: [.int l1, .int l2]) (n := 4) (Nat.le_of_ble_eq_true rfl)
  rw [lg_entry_eq]
  generalize (lg_sl (.ref (Z 200) :: [.int l1, .int l2]) ++ List.replicate (4 - (lg_sl (.ref (Z 200) :: [.int l1, .int l2])).length) Slot.unset).toArray = ls at hl ⊢
  have hl : lv_has ls 4 [(0, .ref (Z 200)), (1, .int l1), (2, .int l2)] := hl
  subst hsz
  have X : RC p s m (.ref (Z 200) :: [.int l1, .int l2]).toArray c cX12_look 4 (Cond.code yX12_look cX12_look 4 (some .int)) D kA V (va_A (RW kA Z u) s.heap.size) := ⟨⟨Bd.exec, Bd.bytes, hml, findClass_of_methodNamed Bd.named, hts⟩, hK, hE, fun q h => Or.inr h⟩
  exact b_look_0 X (rend_i (cy := cX12_look) X Bd.returns Bd.notSynchronized) (Nat.le_refl _) (Nat.le_refl _) h ⟨hP, hD0.self, va_S.rf⟩ (lv_sub hl [0, 1, 2] rfl)
def B_force_22 (N : Nat) (l3 : Int32) (l4 : Int32) (s0 : Int32) (u : RSt) : Option (Int32 × RSt) := wr 128 s0 (sA u 86 s0.toNatClampNeg (l3 &&& 255)) fun u_1 => wr 128 s0 (sA u_1 87 s0.toNatClampNeg ((l3 &&& l4) &&& 255)) fun u_3 => some (0, u_3)
set_option maxHeartbeats 4000000 in
theorem b_force_22 {r : Int32} (X : RC p s m args c cX12_force 6 (Cond.code yX12_force cX12_force 6 none) D kA V A) (hE : REv p l e R s m args below meth c cX12_force D kA Z A Q w) (hF : 2 ≤ R.frames) (hL : 44 ≤ R.locals) {l3 : Int32} {l4 : Int32} {s0 : Int32}  {u : RSt} (h : B_force_22 N l3 l4 s0 u = some (r, w)) (hS : RS D kA Z A s u H locs) (hl : lv_has ls 6 [(0, .ref (Z 200)), (3, .int l3), (4, .int l4)]) : W p l e R s m args below meth c H locs 0 0 Q (F0 m 22 ls [.int s0]) := by
  obtain ⟨⟨hx, hb, hml, hown, hts⟩, hK, hEV, hA⟩ := id X
  have hG : ∀ w ∈ GW, w.before args s = true := fun w h => hts w (List.mem_cons_of_mem _ h)
  unfold B_force_22 at h
  refine lv_istore (lv' := [(5, .int s0), (0, .ref (Z 200)), (3, .int l3), (4, .int l4)]) hx hb dX12_force_22 hl (by decide) rfl (fun ls hl => ?_)
  refine lv_aload_n hx hb dX12_force_24 rfl (lv_at hl 1 rfl) ?_
  refine rg_86 X hS dX12_force_25 ?_
  refine lv_iload hx hb dX12_force_28 (lv_at hl 0 rfl) ?_
  refine lv_iload_n hx hb dX12_force_30 rfl (lv_at hl 2 rfl) ?_
  refine lv_sipush (v := 255) hx hb dX12_force_31 (by decide) ?_
  refine lv_iand hx hb dX12_force_34 ?_
  obtain ⟨u_1, e_u_1, i_2, h⟩ := wr_of h
  refine rs_86 X hS i_2 e_u_1 dX12_force_35 (fun H locs hS => ?_)
  refine lv_aload_n hx hb dX12_force_36 rfl (lv_at hl 1 rfl) ?_
  refine rg_87 X hS dX12_force_37 ?_
  refine lv_iload hx hb dX12_force_40 (lv_at hl 0 rfl) ?_
  refine lv_iload_n hx hb dX12_force_42 rfl (lv_at hl 2 rfl) ?_
  refine lv_iload hx hb dX12_force_43 (lv_at hl 3 rfl) ?_
  refine lv_iand hx hb dX12_force_45 ?_
  refine lv_sipush (v := 255) hx hb dX12_force_46 (by decide) ?_
  refine lv_iand hx hb dX12_force_49 ?_
  obtain ⟨u_3, e_u_3, i_4, h⟩ := wr_of h
  refine rs_87 X hS i_4 e_u_3 dX12_force_50 (fun H locs hS => ?_)
  obtain ⟨-, rfl⟩ := so h
  exact hE _ _ _ _ hS dX12_force_51
def B_force_0 (N : Nat) (l1 : Int32) (l2 : Int32) (l3 : Int32) (l4 : Int32) (u : RSt) : Option (Int32 × RSt) := bn (F_hasByte N l2 1 u) fun r_6 u_5 => if r_6 = (0 : Int32) then (some (0, u_5)) else (if l1 = (0 : Int32) then (B_force_22 N l3 l4 l2 u_5) else (B_force_22 N l3 l4 (64 + l2) u_5))
set_option maxHeartbeats 4000000 in
theorem b_force_0 {r : Int32} (X : RC p s m args c cX12_force 6 (Cond.code yX12_force cX12_force 6 none) D kA V A) (hE : REv p l e R s m args below meth c cX12_force D kA Z A Q w) (hF : 2 ≤ R.frames) (hL : 44 ≤ R.locals) {l1 : Int32} {l2 : Int32} {l3 : Int32} {l4 : Int32}  {u : RSt} (h : B_force_0 N l1 l2 l3 l4 u = some (r, w)) (hS : RS D kA Z A s u H locs) (hl : lv_has ls 6 [(0, .ref (Z 200)), (1, .int l1), (2, .int l2), (3, .int l3), (4, .int l4)]) : W p l e R s m args below meth c H locs 0 0 Q (F0 m 0 ls []) := by
  obtain ⟨⟨hx, hb, hml, hown, hts⟩, hK, hEV, hA⟩ := id X
  have hG : ∀ w ∈ GW, w.before args s = true := fun w h => hts w (List.mem_cons_of_mem _ h)
  unfold B_force_0 at h
  refine lv_aload_n hx hb dX12_force_0 rfl (lv_at hl 0 rfl) ?_
  refine lv_iload_n hx hb dX12_force_1 rfl (lv_at hl 2 rfl) ?_
  refine lv_iconst (v := 1) hx hb dX12_force_2 (by decide) ?_
  obtain ⟨r_6, u_5, h_u_5, h⟩ := bn_of h
  refine kc_hasByte X hS h_u_5 (Nat.le_trans (Nat.le_of_ble_eq_true rfl) hF) (Nat.le_trans (Nat.le_of_ble_eq_true rfl) hL) hl.1 (Nat.le_of_ble_eq_true rfl) dX12_force_3 (fun H locs hS => ?_)
  refine lv_if_ne (tgt := 10) hx hb dX12_force_6 (by decide) (fun c_7 => ?_) (fun c_7 => ?_)
  · have h := im (c_7) h
    refine lv_iload_n hx hb dX12_force_10 rfl (lv_at hl 1 rfl) ?_
    refine lv_if_eq (tgt := 21) hx hb dX12_force_11 (by decide) (fun c_8 => ?_) (fun c_8 => ?_)
    · have h := ip (c_8) h
      refine lv_iload_n hx hb dX12_force_21 rfl (lv_at hl 2 rfl) ?_
      exact b_force_22 X hE hF hL  h hS (lv_sub hl [0, 3, 4] rfl)
    · have h := im (c_8) h
      refine lv_bipush (v := 64) hx hb dX12_force_14 (by decide) ?_
      refine lv_iload_n hx hb dX12_force_16 rfl (lv_at hl 2 rfl) ?_
      refine lv_iadd hx hb dX12_force_17 ?_
      refine lv_goto (tgt := 22) hx hb dX12_force_18 (by decide) ?_
      exact b_force_22 X hE hF hL  h hS (lv_sub hl [0, 3, 4] rfl)
  · have h := ip (c_7) h
    obtain ⟨-, rfl⟩ := so h
    exact hE _ _ _ _ hS dX12_force_9
def F_force (N : Nat) (l1 : Int32) (l2 : Int32) (l3 : Int32) (l4 : Int32) (u : RSt) : Option (Int32 × RSt) := B_force_0 N l1 l2 l3 l4 u
set_option maxHeartbeats 4000000 in
theorem k_force (l : Launch) (D : va_G) (kA : Nat → ClassId) (V Z : Nat → Nat) (N : Nat) (l1 : Int32) (l2 : Int32) (l3 : Int32) (l4 : Int32) (u : RSt) (sz : Nat) {r : Int32} {w : RSt} (h : F_force N l1 l2 l3 l4 u = some (r, w)) : Met l yX12_force (Cond.code yX12_force cX12_force 6 none :: GW) { frames := 2, cells := 0, slots := 0, locals := 44 } (rPc D kA V Z [.int l1, .int l2, .int l3, .int l4] u sz) (rQv D kA Z u sz w) 0 0 (va_A (RW kA Z u) sz) := by
  refine Met.ofW (cc := cX12_force) (maxL := 6) (ret := none) (by decide) rfl ?_
  intro p e s m args below meth c s₁ Bd hml hv
  obtain ⟨rfl, hsz, hP, hK, hD0, hE⟩ := hv
  have hts := atoms_spec (ws := Cond.code yX12_force cX12_force 6 none :: GW) Bd.pre
  have hl := lv_entry (.ref (Z 200) :: [.int l1, .int l2, .int l3, .int l4]) (n := 6) (Nat.le_of_ble_eq_true rfl)
  rw [lg_entry_eq]
  generalize (lg_sl (.ref (Z 200) :: [.int l1, .int l2, .int l3, .int l4]) ++ List.replicate (6 - (lg_sl (.ref (Z 200) :: [.int l1, .int l2, .int l3, .int l4])).length) Slot.unset).toArray = ls at hl ⊢
  have hl : lv_has ls 6 [(0, .ref (Z 200)), (1, .int l1), (2, .int l2), (3, .int l3), (4, .int l4)] := hl
  subst hsz
  have X : RC p s m (.ref (Z 200) :: [.int l1, .int l2, .int l3, .int l4]).toArray c cX12_force 6 (Cond.code yX12_force cX12_force 6 none) D kA V (va_A (RW kA Z u) s.heap.size) := ⟨⟨Bd.exec, Bd.bytes, hml, findClass_of_methodNamed Bd.named, hts⟩, hK, hE, fun q h => Or.inr h⟩
  exact b_force_0 X (rend_v (cy := cX12_force) X Bd.returns Bd.notSynchronized) (Nat.le_refl _) (Nat.le_refl _) h ⟨hP, hD0.self, va_S.rf⟩ (lv_sub hl [0, 1, 2, 3, 4] rfl)
def B_watchdog_17 (N : Nat) (l1 : Int32) (s1 : Int32) (u : RSt) : Option (Int32 × RSt) := pu (sI u 9 s1) fun u_1 => if (u_1.1 9) = (0 : Int32) then (pu (sI u_1 105 l1) fun u_3 => some (0, u_3)) else (some (0, u_1))
set_option maxHeartbeats 4000000 in
theorem b_watchdog_17 {r : Int32} (X : RC p s m args c cX12_watchdog 2 (Cond.code yX12_watchdog cX12_watchdog 2 none) D kA V A) (hE : REv p l e R s m args below meth c cX12_watchdog D kA Z A Q w) (hF : 1 ≤ R.frames) (hL : 22 ≤ R.locals) {l1 : Int32} {s1 : Int32}  {u : RSt} (h : B_watchdog_17 N l1 s1 u = some (r, w)) (hS : RS D kA Z A s u H locs) (hl : lv_has ls 2 [(0, .ref (Z 200)), (1, .int l1)]) : W p l e R s m args below meth c H locs 0 0 Q (F0 m 17 ls [.int s1, .ref (Z 200)]) := by
  obtain ⟨⟨hx, hb, hml, hown, hts⟩, hK, hEV, hA⟩ := id X
  have hG : ∀ w ∈ GW, w.before args s = true := fun w h => hts w (List.mem_cons_of_mem _ h)
  unfold B_watchdog_17 at h
  obtain ⟨u_1, e_u_1, h⟩ := pu_of h
  refine rp_9 X hS e_u_1 dX12_watchdog_17 (fun H locs hS => ?_)
  refine lv_aload_n hx hb dX12_watchdog_20 rfl (lv_at hl 0 rfl) ?_
  refine rg_9 X hS dX12_watchdog_21 ?_
  refine lv_if_ne (tgt := 32) hx hb dX12_watchdog_24 (by decide) (fun c_2 => ?_) (fun c_2 => ?_)
  · have h := im (c_2) h
    obtain ⟨-, rfl⟩ := so h
    exact hE _ _ _ _ hS dX12_watchdog_32
  · have h := ip (c_2) h
    refine lv_aload_n hx hb dX12_watchdog_27 rfl (lv_at hl 0 rfl) ?_
    refine lv_iload_n hx hb dX12_watchdog_28 rfl (lv_at hl 1 rfl) ?_
    obtain ⟨u_3, e_u_3, h⟩ := pu_of h
    refine rp_105 X hS e_u_3 dX12_watchdog_29 (fun H locs hS => ?_)
    obtain ⟨-, rfl⟩ := so h
    exact hE _ _ _ _ hS dX12_watchdog_32
def B_watchdog_0 (N : Nat) (l1 : Int32) (u : RSt) : Option (Int32 × RSt) := if (r_in l1 1 5000) = (0 : Int32) then (B_watchdog_17 N l1 1 u) else (B_watchdog_17 N l1 0 u)
set_option maxHeartbeats 4000000 in
theorem b_watchdog_0 {r : Int32} (X : RC p s m args c cX12_watchdog 2 (Cond.code yX12_watchdog cX12_watchdog 2 none) D kA V A) (hE : REv p l e R s m args below meth c cX12_watchdog D kA Z A Q w) (hF : 1 ≤ R.frames) (hL : 22 ≤ R.locals) {l1 : Int32}  {u : RSt} (h : B_watchdog_0 N l1 u = some (r, w)) (hS : RS D kA Z A s u H locs) (hl : lv_has ls 2 [(0, .ref (Z 200)), (1, .int l1)]) : W p l e R s m args below meth c H locs 0 0 Q (F0 m 0 ls []) := by
  obtain ⟨⟨hx, hb, hml, hown, hts⟩, hK, hEV, hA⟩ := id X
  have hG : ∀ w ∈ GW, w.before args s = true := fun w h => hts w (List.mem_cons_of_mem _ h)
  unfold B_watchdog_0 at h
  refine lv_aload_n hx hb dX12_watchdog_0 rfl (lv_at hl 0 rfl) ?_
  refine lv_iload_n hx hb dX12_watchdog_1 rfl (lv_at hl 1 rfl) ?_
  refine lv_iconst (v := 1) hx hb dX12_watchdog_2 (by decide) ?_
  refine lv_sipush (v := 5000) hx hb dX12_watchdog_3 (by decide) ?_
  refine vp_callSi (W.runS (As := [.int l1, .int 1, .int 5000]) (rest := [.ref (Z 200)]) X.1 (c_X12_in l l1 1 5000) (va_cwS 3 hts (gw_P gw_2605 gw_2606 gw_16 gwp_X12_in) rfl rfl rfl (by decide +kernel) ⟨Nat.le_trans (Nat.le_of_ble_eq_true rfl) hF, Nat.le_trans (Nat.le_of_ble_eq_true rfl) hL⟩) ⟨fun _ _ _ _ q => q, fun _ _ _ => ⟨rfl, trivial⟩⟩ rfl rfl hl.1 rfl (lv_room (Nat.le_of_ble_eq_true rfl)) dX12_watchdog_6 ⟨Nat.zero_le _, Nat.zero_le _⟩) (fun r_4 q_5 => ?_)
  subst q_5
  refine lv_if_eq (tgt := 16) hx hb dX12_watchdog_9 (by decide) (fun c_6 => ?_) (fun c_6 => ?_)
  · have h := ip (c_6) h
    refine lv_iconst (v := 1) hx hb dX12_watchdog_16 (by decide) ?_
    exact b_watchdog_17 X hE hF hL  h hS (lv_sub hl [0, 1] rfl)
  · have h := im (c_6) h
    refine lv_iconst (v := 0) hx hb dX12_watchdog_12 (by decide) ?_
    refine lv_goto (tgt := 17) hx hb dX12_watchdog_13 (by decide) ?_
    exact b_watchdog_17 X hE hF hL  h hS (lv_sub hl [0, 1] rfl)
def F_watchdog (N : Nat) (l1 : Int32) (u : RSt) : Option (Int32 × RSt) := B_watchdog_0 N l1 u
set_option maxHeartbeats 4000000 in
theorem k_watchdog (l : Launch) (D : va_G) (kA : Nat → ClassId) (V Z : Nat → Nat) (N : Nat) (l1 : Int32) (u : RSt) (sz : Nat) {r : Int32} {w : RSt} (h : F_watchdog N l1 u = some (r, w)) : Met l yX12_watchdog (Cond.code yX12_watchdog cX12_watchdog 2 none :: GW) { frames := 1, cells := 0, slots := 0, locals := 22 } (rPc D kA V Z [.int l1] u sz) (rQv D kA Z u sz w) 0 0 (va_A (RW kA Z u) sz) := by
  refine Met.ofW (cc := cX12_watchdog) (maxL := 2) (ret := none) (by decide) rfl ?_
  intro p e s m args below meth c s₁ Bd hml hv
  obtain ⟨rfl, hsz, hP, hK, hD0, hE⟩ := hv
  have hts := atoms_spec (ws := Cond.code yX12_watchdog cX12_watchdog 2 none :: GW) Bd.pre
  have hl := lv_entry (.ref (Z 200) :: [.int l1]) (n := 2) (Nat.le_of_ble_eq_true rfl)
  rw [lg_entry_eq]
  generalize (lg_sl (.ref (Z 200) :: [.int l1]) ++ List.replicate (2 - (lg_sl (.ref (Z 200) :: [.int l1])).length) Slot.unset).toArray = ls at hl ⊢
  have hl : lv_has ls 2 [(0, .ref (Z 200)), (1, .int l1)] := hl
  subst hsz
  have X : RC p s m (.ref (Z 200) :: [.int l1]).toArray c cX12_watchdog 2 (Cond.code yX12_watchdog cX12_watchdog 2 none) D kA V (va_A (RW kA Z u) s.heap.size) := ⟨⟨Bd.exec, Bd.bytes, hml, findClass_of_methodNamed Bd.named, hts⟩, hK, hE, fun q h => Or.inr h⟩
  exact b_watchdog_0 X (rend_v (cy := cX12_watchdog) X Bd.returns Bd.notSynchronized) (Nat.le_refl _) (Nat.le_refl _) h ⟨hP, hD0.self, va_S.rf⟩ (lv_sub hl [0, 1] rfl)
def B_hasTask_25 (N : Nat) (s1 : Int32) (u : RSt) : Option (Int32 × RSt) := pu (sI u 9 s1) fun u_1 => if (u_1.1 9) = (0 : Int32) then (some (1, u_1)) else (some (0, u_1))
set_option maxHeartbeats 4000000 in
theorem b_hasTask_25 {r : Int32} (X : RC p s m args c cX12_hasTask 2 (Cond.code yX12_hasTask cX12_hasTask 2 (some .boolean)) D kA V A) (hE : REz p l e R s m args below meth c cX12_hasTask D kA Z A Q r w) (hF : 1 ≤ R.frames) (hL : 22 ≤ R.locals) {s1 : Int32}  {u : RSt} (h : B_hasTask_25 N s1 u = some (r, w)) (hS : RS D kA Z A s u H locs) (hl : lv_has ls 2 [(0, .ref (Z 200))]) : W p l e R s m args below meth c H locs 0 0 Q (F0 m 25 ls [.int s1, .ref (Z 200)]) := by
  obtain ⟨⟨hx, hb, hml, hown, hts⟩, hK, hEV, hA⟩ := id X
  have hG : ∀ w ∈ GW, w.before args s = true := fun w h => hts w (List.mem_cons_of_mem _ h)
  unfold B_hasTask_25 at h
  obtain ⟨u_1, e_u_1, h⟩ := pu_of h
  refine rp_9 X hS e_u_1 dX12_hasTask_25 (fun H locs hS => ?_)
  refine lv_aload_n hx hb dX12_hasTask_28 rfl (lv_at hl 0 rfl) ?_
  refine rg_9 X hS dX12_hasTask_29 ?_
  refine lv_if_ne (tgt := 39) hx hb dX12_hasTask_32 (by decide) (fun c_2 => ?_) (fun c_2 => ?_)
  · have h := im (c_2) h
    refine lv_iconst (v := 0) hx hb dX12_hasTask_39 (by decide) ?_
    obtain ⟨rfl, rfl⟩ := so h
    exact hE _ _ _ _ hS (Or.inl rfl) dX12_hasTask_40
  · have h := ip (c_2) h
    refine lv_iconst (v := 1) hx hb dX12_hasTask_35 (by decide) ?_
    refine lv_goto (tgt := 40) hx hb dX12_hasTask_36 (by decide) ?_
    obtain ⟨rfl, rfl⟩ := so h
    exact hE _ _ _ _ hS (Or.inr rfl) dX12_hasTask_40
def B_hasTask_0 (N : Nat) (l1 : Int32) (u : RSt) : Option (Int32 × RSt) := rd (u.2.2.1 48) 2 (u.1 55) fun v_3 => if (r_in l1 0 (v_3 - 1)) = (0 : Int32) then (B_hasTask_25 N 1 u) else (B_hasTask_25 N 0 u)
set_option maxHeartbeats 4000000 in
theorem b_hasTask_0 {r : Int32} (X : RC p s m args c cX12_hasTask 2 (Cond.code yX12_hasTask cX12_hasTask 2 (some .boolean)) D kA V A) (hE : REz p l e R s m args below meth c cX12_hasTask D kA Z A Q r w) (hF : 1 ≤ R.frames) (hL : 22 ≤ R.locals) {l1 : Int32}  {u : RSt} (h : B_hasTask_0 N l1 u = some (r, w)) (hS : RS D kA Z A s u H locs) (hl : lv_has ls 2 [(0, .ref (Z 200)), (1, .int l1)]) : W p l e R s m args below meth c H locs 0 0 Q (F0 m 0 ls []) := by
  obtain ⟨⟨hx, hb, hml, hown, hts⟩, hK, hEV, hA⟩ := id X
  have hG : ∀ w ∈ GW, w.before args s = true := fun w h => hts w (List.mem_cons_of_mem _ h)
  unfold B_hasTask_0 at h
  refine lv_aload_n hx hb dX12_hasTask_0 rfl (lv_at hl 0 rfl) ?_
  refine lv_iload_n hx hb dX12_hasTask_1 rfl (lv_at hl 1 rfl) ?_
  refine lv_iconst (v := 0) hx hb dX12_hasTask_2 (by decide) ?_
  refine lv_aload_n hx hb dX12_hasTask_3 rfl (lv_at hl 0 rfl) ?_
  refine rg_48 X hS dX12_hasTask_4 ?_
  refine lv_aload_n hx hb dX12_hasTask_7 rfl (lv_at hl 0 rfl) ?_
  refine rg_55 X hS dX12_hasTask_8 ?_
  obtain ⟨v_3, e_v_3, i_4, h⟩ := rd_of h
  refine ra_48 X hS i_4 e_v_3 dX12_hasTask_11 ?_
  refine lv_iconst (v := 1) hx hb dX12_hasTask_12 (by decide) ?_
  refine lv_isub hx hb dX12_hasTask_13 ?_
  refine vp_callSi (W.runS (As := [.int l1, .int 0, .int (v_3 - 1)]) (rest := [.ref (Z 200)]) X.1 (c_X12_in l l1 0 (v_3 - 1)) (va_cwS 3 hts (gw_P gw_2605 gw_2606 gw_16 gwp_X12_in) rfl rfl rfl (by decide +kernel) ⟨Nat.le_trans (Nat.le_of_ble_eq_true rfl) hF, Nat.le_trans (Nat.le_of_ble_eq_true rfl) hL⟩) ⟨fun _ _ _ _ q => q, fun _ _ _ => ⟨rfl, trivial⟩⟩ rfl rfl hl.1 rfl (lv_room (Nat.le_of_ble_eq_true rfl)) dX12_hasTask_14 ⟨Nat.zero_le _, Nat.zero_le _⟩) (fun r_5 q_6 => ?_)
  subst q_6
  refine lv_if_eq (tgt := 24) hx hb dX12_hasTask_17 (by decide) (fun c_7 => ?_) (fun c_7 => ?_)
  · have h := ip (c_7) h
    refine lv_iconst (v := 1) hx hb dX12_hasTask_24 (by decide) ?_
    exact b_hasTask_25 X hE hF hL  h hS (lv_sub hl [0] rfl)
  · have h := im (c_7) h
    refine lv_iconst (v := 0) hx hb dX12_hasTask_20 (by decide) ?_
    refine lv_goto (tgt := 25) hx hb dX12_hasTask_21 (by decide) ?_
    exact b_hasTask_25 X hE hF hL  h hS (lv_sub hl [0] rfl)
def F_hasTask (N : Nat) (l1 : Int32) (u : RSt) : Option (Int32 × RSt) := B_hasTask_0 N l1 u
set_option maxHeartbeats 4000000 in
theorem k_hasTask (l : Launch) (D : va_G) (kA : Nat → ClassId) (V Z : Nat → Nat) (N : Nat) (l1 : Int32) (u : RSt) (sz : Nat) {r : Int32} {w : RSt} (h : F_hasTask N l1 u = some (r, w)) : Met l yX12_hasTask (Cond.code yX12_hasTask cX12_hasTask 2 (some .boolean) :: GW) { frames := 1, cells := 0, slots := 0, locals := 22 } (rPc D kA V Z [.int l1] u sz) (rQi D kA Z u sz r w) 0 0 (va_A (RW kA Z u) sz) := by
  refine Met.ofW (cc := cX12_hasTask) (maxL := 2) (ret := (some .boolean)) (by decide) rfl ?_
  intro p e s m args below meth c s₁ Bd hml hv
  obtain ⟨rfl, hsz, hP, hK, hD0, hE⟩ := hv
  have hts := atoms_spec (ws := Cond.code yX12_hasTask cX12_hasTask 2 (some .boolean) :: GW) Bd.pre
  have hl := lv_entry (.ref (Z 200) :: [.int l1]) (n := 2) (Nat.le_of_ble_eq_true rfl)
  rw [lg_entry_eq]
  generalize (lg_sl (.ref (Z 200) :: [.int l1]) ++ List.replicate (2 - (lg_sl (.ref (Z 200) :: [.int l1])).length) Slot.unset).toArray = ls at hl ⊢
  have hl : lv_has ls 2 [(0, .ref (Z 200)), (1, .int l1)] := hl
  subst hsz
  have X : RC p s m (.ref (Z 200) :: [.int l1]).toArray c cX12_hasTask 2 (Cond.code yX12_hasTask cX12_hasTask 2 (some .boolean)) D kA V (va_A (RW kA Z u) s.heap.size) := ⟨⟨Bd.exec, Bd.bytes, hml, findClass_of_methodNamed Bd.named, hts⟩, hK, hE, fun q h => Or.inr h⟩
  exact b_hasTask_0 X (rend_z (cy := cX12_hasTask) X Bd.returns Bd.notSynchronized) (Nat.le_refl _) (Nat.le_refl _) h ⟨hP, hD0.self, va_S.rf⟩ (lv_sub hl [0, 1] rfl)
theorem kc_hasTask {r : Int32} {cc : ByteArray} {pc nL : Nat} {c0 : Cond} {rest : List Value} {l1 : Int32} {u : RSt} (X : RC p s m args c cc nL c0 D kA V A) (hS : RS D kA Z A s u H locs) (h : F_hasTask N l1 u = some (r, w)) (hF : 1 + 1 ≤ R.frames) (hL : 8 + (2 + 11) + 22 ≤ R.locals) (hl : ls.size = nL) (hc : (rest.map fun v => v.category).sum ≤ 8) (hdg : decode cc pc = .ok (.invokevirtual 742, 3)) (kk : ∀ H locs, RS D kA Z A s w H locs → W p l e R s m args below meth c H locs 0 0 Q (F0 m (pc + 3) ls (.int r :: rest))) : W p l e R s m args below meth c H locs 0 0 Q (F0 m pc ls (.int l1 :: .ref (Z 200) :: rest)) :=
  rcall_i (n := 1) X hS (k_hasTask l D kA V Z N l1 u H.size h) (gw_V gw_2692 gw_2694 gs_12_12 gw_16 gw_2695) (by decide +kernel) hF hL rfl hl hc rfl hdg kk
def B_clear_0 (N : Nat) (l1 : Int32) (u : RSt) : Option (Int32 × RSt) := bn (F_hasTask N l1 u) fun r_2 u_1 => if r_2 = (0 : Int32) then (some (0, u_1)) else (rd (u_1.2.2.1 88) 8 l1 fun v_4 => wr 8 l1 (sA u_1 88 l1.toNatClampNeg (vp_nar .boolean 0)) fun u_6 => zr v_4 <| some (v_4, u_6))
set_option maxHeartbeats 4000000 in
theorem b_clear_0 {r : Int32} (X : RC p s m args c cX12_clear 3 (Cond.code yX12_clear cX12_clear 3 (some .boolean)) D kA V A) (hE : REz p l e R s m args below meth c cX12_clear D kA Z A Q r w) (hF : 2 ≤ R.frames) (hL : 43 ≤ R.locals) {l1 : Int32}  {u : RSt} (h : B_clear_0 N l1 u = some (r, w)) (hS : RS D kA Z A s u H locs) (hl : lv_has ls 3 [(0, .ref (Z 200)), (1, .int l1)]) : W p l e R s m args below meth c H locs 0 0 Q (F0 m 0 ls []) := by
  obtain ⟨⟨hx, hb, hml, hown, hts⟩, hK, hEV, hA⟩ := id X
  have hG : ∀ w ∈ GW, w.before args s = true := fun w h => hts w (List.mem_cons_of_mem _ h)
  unfold B_clear_0 at h
  refine lv_aload_n hx hb dX12_clear_0 rfl (lv_at hl 0 rfl) ?_
  refine lv_iload_n hx hb dX12_clear_1 rfl (lv_at hl 1 rfl) ?_
  obtain ⟨r_2, u_1, h_u_1, h⟩ := bn_of h
  refine kc_hasTask X hS h_u_1 (Nat.le_trans (Nat.le_of_ble_eq_true rfl) hF) (Nat.le_trans (Nat.le_of_ble_eq_true rfl) hL) hl.1 (Nat.le_of_ble_eq_true rfl) dX12_clear_2 (fun H locs hS => ?_)
  refine lv_if_ne (tgt := 10) hx hb dX12_clear_5 (by decide) (fun c_3 => ?_) (fun c_3 => ?_)
  · have h := im (c_3) h
    refine lv_aload_n hx hb dX12_clear_10 rfl (lv_at hl 0 rfl) ?_
    refine rg_88 X hS dX12_clear_11 ?_
    refine lv_iload_n hx hb dX12_clear_14 rfl (lv_at hl 1 rfl) ?_
    obtain ⟨v_4, e_v_4, i_5, h⟩ := rd_of h
    refine ra_88 X hS i_5 e_v_4 dX12_clear_15 ?_
    refine lv_istore_n (lv' := [(2, .int v_4), (0, .ref (Z 200)), (1, .int l1)]) hx hb dX12_clear_16 rfl hl (by decide) rfl (fun ls hl => ?_)
    refine lv_aload_n hx hb dX12_clear_17 rfl (lv_at hl 1 rfl) ?_
    refine rg_88 X hS dX12_clear_18 ?_
    refine lv_iload_n hx hb dX12_clear_21 rfl (lv_at hl 2 rfl) ?_
    refine lv_iconst (v := 0) hx hb dX12_clear_22 (by decide) ?_
    obtain ⟨u_6, e_u_6, i_7, h⟩ := wr_of h
    refine rs_88 X hS i_7 e_u_6 dX12_clear_23 (fun H locs hS => ?_)
    refine lv_iload_n hx hb dX12_clear_24 rfl (lv_at hl 0 rfl) ?_
    obtain ⟨hz, h⟩ := zr_of h
    obtain ⟨rfl, rfl⟩ := so h
    exact hE _ _ _ _ hS hz dX12_clear_25
  · have h := ip (c_3) h
    refine lv_iconst (v := 0) hx hb dX12_clear_8 (by decide) ?_
    obtain ⟨rfl, rfl⟩ := so h
    exact hE _ _ _ _ hS (Or.inl rfl) dX12_clear_9
def F_clear (N : Nat) (l1 : Int32) (u : RSt) : Option (Int32 × RSt) := B_clear_0 N l1 u
set_option maxHeartbeats 4000000 in
theorem k_clear (l : Launch) (D : va_G) (kA : Nat → ClassId) (V Z : Nat → Nat) (N : Nat) (l1 : Int32) (u : RSt) (sz : Nat) {r : Int32} {w : RSt} (h : F_clear N l1 u = some (r, w)) : Met l yX12_clear (Cond.code yX12_clear cX12_clear 3 (some .boolean) :: GW) { frames := 2, cells := 0, slots := 0, locals := 43 } (rPc D kA V Z [.int l1] u sz) (rQi D kA Z u sz r w) 0 0 (va_A (RW kA Z u) sz) := by
  refine Met.ofW (cc := cX12_clear) (maxL := 3) (ret := (some .boolean)) (by decide) rfl ?_
  intro p e s m args below meth c s₁ Bd hml hv
  obtain ⟨rfl, hsz, hP, hK, hD0, hE⟩ := hv
  have hts := atoms_spec (ws := Cond.code yX12_clear cX12_clear 3 (some .boolean) :: GW) Bd.pre
  have hl := lv_entry (.ref (Z 200) :: [.int l1]) (n := 3) (Nat.le_of_ble_eq_true rfl)
  rw [lg_entry_eq]
  generalize (lg_sl (.ref (Z 200) :: [.int l1]) ++ List.replicate (3 - (lg_sl (.ref (Z 200) :: [.int l1])).length) Slot.unset).toArray = ls at hl ⊢
  have hl : lv_has ls 3 [(0, .ref (Z 200)), (1, .int l1)] := hl
  subst hsz
  have X : RC p s m (.ref (Z 200) :: [.int l1]).toArray c cX12_clear 3 (Cond.code yX12_clear cX12_clear 3 (some .boolean)) D kA V (va_A (RW kA Z u) s.heap.size) := ⟨⟨Bd.exec, Bd.bytes, hml, findClass_of_methodNamed Bd.named, hts⟩, hK, hE, fun q h => Or.inr h⟩
  exact b_clear_0 X (rend_z (cy := cX12_clear) X Bd.returns Bd.notSynchronized) (Nat.le_refl _) (Nat.le_refl _) h ⟨hP, hD0.self, va_S.rf⟩ (lv_sub hl [0, 1] rfl)
def B_task_0 (N : Nat) (l1 : Int32) (l2 : Int32) (u : RSt) : Option (Int32 × RSt) := bn (F_hasTask N l1 u) fun r_2 u_1 => if r_2 = (0 : Int32) then (some (0, u_1)) else (if l2 = 0 then (rd (u_1.2.2.1 43) 16 ((8 * (u_1.1 55)) + l1) fun v_5 => some (v_5, u_1)) else (if l2 = 1 then (rd (u_1.2.2.1 44) 16 ((8 * (u_1.1 55)) + l1) fun v_8 => some (v_8, u_1)) else (if l2 = 2 then (rd (u_1.2.2.1 88) 8 l1 fun v_11 => if v_11 = (0 : Int32) then (some (0, u_1)) else (some (1, u_1))) else (if l2 = 3 then (rd (u_1.2.2.1 89) 8 l1 fun v_15 => some (v_15, u_1)) else (if l2 = 4 then (rd (u_1.2.2.1 90) 8 l1 fun v_18 => some (v_18, u_1)) else (if l2 = 5 then (rd (u_1.2.2.1 91) 8 l1 fun v_21 => some (v_21, u_1)) else (if l2 = 6 then (rd (u_1.2.2.1 92) 8 l1 fun v_24 => some (v_24, u_1)) else (if l2 = 7 then (rd (u_1.2.2.1 93) 8 l1 fun v_27 => some (v_27, u_1)) else (if l2 = 8 then (rd (u_1.2.2.1 94) 8 l1 fun v_30 => some (v_30, u_1)) else (pu (sI u_1 9 2) fun u_32 => some (0, u_32)))))))))))
set_option maxHeartbeats 4000000 in
theorem b_task_0 {r : Int32} (X : RC p s m args c cX12_task 3 (Cond.code yX12_task cX12_task 3 (some .int)) D kA V A) (hE : REi p l e R s m args below meth c cX12_task D kA Z A Q r w) (hF : 2 ≤ R.frames) (hL : 43 ≤ R.locals) {l1 : Int32} {l2 : Int32}  {u : RSt} (h : B_task_0 N l1 l2 u = some (r, w)) (hS : RS D kA Z A s u H locs) (hl : lv_has ls 3 [(0, .ref (Z 200)), (1, .int l1), (2, .int l2)]) : W p l e R s m args below meth c H locs 0 0 Q (F0 m 0 ls []) := by
  obtain ⟨⟨hx, hb, hml, hown, hts⟩, hK, hEV, hA⟩ := id X
  have hG : ∀ w ∈ GW, w.before args s = true := fun w h => hts w (List.mem_cons_of_mem _ h)
  unfold B_task_0 at h
  refine lv_aload_n hx hb dX12_task_0 rfl (lv_at hl 0 rfl) ?_
  refine lv_iload_n hx hb dX12_task_1 rfl (lv_at hl 1 rfl) ?_
  obtain ⟨r_2, u_1, h_u_1, h⟩ := bn_of h
  refine kc_hasTask X hS h_u_1 (Nat.le_trans (Nat.le_of_ble_eq_true rfl) hF) (Nat.le_trans (Nat.le_of_ble_eq_true rfl) hL) hl.1 (Nat.le_of_ble_eq_true rfl) dX12_task_2 (fun H locs hS => ?_)
  refine lv_if_ne (tgt := 10) hx hb dX12_task_5 (by decide) (fun c_3 => ?_) (fun c_3 => ?_)
  · have h := im (c_3) h
    refine lv_iload_n hx hb dX12_task_10 rfl (lv_at hl 2 rfl) ?_
    by_cases e_4 : l2 = 0
    · have h := ip e_4 h
      refine lv_tableIn (off := 49) (tgt := 60) hx hb dX12_task_11 (by rw [e_4]; decide) (by rw [e_4]; decide) (by rw [e_4]; rfl) (by decide) ?_
      refine lv_aload_n hx hb dX12_task_60 rfl (lv_at hl 0 rfl) ?_
      refine rg_43 X hS dX12_task_61 ?_
      refine lv_bipush (v := 8) hx hb dX12_task_64 (by decide) ?_
      refine lv_aload_n hx hb dX12_task_66 rfl (lv_at hl 0 rfl) ?_
      refine rg_55 X hS dX12_task_67 ?_
      refine lv_imul hx hb dX12_task_70 ?_
      refine lv_iload_n hx hb dX12_task_71 rfl (lv_at hl 1 rfl) ?_
      refine lv_iadd hx hb dX12_task_72 ?_
      obtain ⟨v_5, e_v_5, i_6, h⟩ := rd_of h
      refine ra_43 X hS i_6 e_v_5 dX12_task_73 ?_
      obtain ⟨rfl, rfl⟩ := so h
      exact hE _ _ _ _ hS dX12_task_74
    have h := im e_4 h
    by_cases e_7 : l2 = 1
    · have h := ip e_7 h
      refine lv_tableIn (off := 64) (tgt := 75) hx hb dX12_task_11 (by rw [e_7]; decide) (by rw [e_7]; decide) (by rw [e_7]; rfl) (by decide) ?_
      refine lv_aload_n hx hb dX12_task_75 rfl (lv_at hl 0 rfl) ?_
      refine rg_44 X hS dX12_task_76 ?_
      refine lv_bipush (v := 8) hx hb dX12_task_79 (by decide) ?_
      refine lv_aload_n hx hb dX12_task_81 rfl (lv_at hl 0 rfl) ?_
      refine rg_55 X hS dX12_task_82 ?_
      refine lv_imul hx hb dX12_task_85 ?_
      refine lv_iload_n hx hb dX12_task_86 rfl (lv_at hl 1 rfl) ?_
      refine lv_iadd hx hb dX12_task_87 ?_
      obtain ⟨v_8, e_v_8, i_9, h⟩ := rd_of h
      refine ra_44 X hS i_9 e_v_8 dX12_task_88 ?_
      obtain ⟨rfl, rfl⟩ := so h
      exact hE _ _ _ _ hS dX12_task_89
    have h := im e_7 h
    by_cases e_10 : l2 = 2
    · have h := ip e_10 h
      refine lv_tableIn (off := 79) (tgt := 90) hx hb dX12_task_11 (by rw [e_10]; decide) (by rw [e_10]; decide) (by rw [e_10]; rfl) (by decide) ?_
      refine lv_aload_n hx hb dX12_task_90 rfl (lv_at hl 0 rfl) ?_
      refine rg_88 X hS dX12_task_91 ?_
      refine lv_iload_n hx hb dX12_task_94 rfl (lv_at hl 1 rfl) ?_
      obtain ⟨v_11, e_v_11, i_12, h⟩ := rd_of h
      refine ra_88 X hS i_12 e_v_11 dX12_task_95 ?_
      refine lv_if_eq (tgt := 103) hx hb dX12_task_96 (by decide) (fun c_13 => ?_) (fun c_13 => ?_)
      · have h := ip (c_13) h
        refine lv_iconst (v := 0) hx hb dX12_task_103 (by decide) ?_
        obtain ⟨rfl, rfl⟩ := so h
        exact hE _ _ _ _ hS dX12_task_104
      · have h := im (c_13) h
        refine lv_iconst (v := 1) hx hb dX12_task_99 (by decide) ?_
        refine lv_goto (tgt := 104) hx hb dX12_task_100 (by decide) ?_
        obtain ⟨rfl, rfl⟩ := so h
        exact hE _ _ _ _ hS dX12_task_104
    have h := im e_10 h
    by_cases e_14 : l2 = 3
    · have h := ip e_14 h
      refine lv_tableIn (off := 94) (tgt := 105) hx hb dX12_task_11 (by rw [e_14]; decide) (by rw [e_14]; decide) (by rw [e_14]; rfl) (by decide) ?_
      refine lv_aload_n hx hb dX12_task_105 rfl (lv_at hl 0 rfl) ?_
      refine rg_89 X hS dX12_task_106 ?_
      refine lv_iload_n hx hb dX12_task_109 rfl (lv_at hl 1 rfl) ?_
      obtain ⟨v_15, e_v_15, i_16, h⟩ := rd_of h
      refine ra_89 X hS i_16 e_v_15 dX12_task_110 ?_
      obtain ⟨rfl, rfl⟩ := so h
      exact hE _ _ _ _ hS dX12_task_111
    have h := im e_14 h
    by_cases e_17 : l2 = 4
    · have h := ip e_17 h
      refine lv_tableIn (off := 101) (tgt := 112) hx hb dX12_task_11 (by rw [e_17]; decide) (by rw [e_17]; decide) (by rw [e_17]; rfl) (by decide) ?_
      refine lv_aload_n hx hb dX12_task_112 rfl (lv_at hl 0 rfl) ?_
      refine rg_90 X hS dX12_task_113 ?_
      refine lv_iload_n hx hb dX12_task_116 rfl (lv_at hl 1 rfl) ?_
      obtain ⟨v_18, e_v_18, i_19, h⟩ := rd_of h
      refine ra_90 X hS i_19 e_v_18 dX12_task_117 ?_
      obtain ⟨rfl, rfl⟩ := so h
      exact hE _ _ _ _ hS dX12_task_118
    have h := im e_17 h
    by_cases e_20 : l2 = 5
    · have h := ip e_20 h
      refine lv_tableIn (off := 108) (tgt := 119) hx hb dX12_task_11 (by rw [e_20]; decide) (by rw [e_20]; decide) (by rw [e_20]; rfl) (by decide) ?_
      refine lv_aload_n hx hb dX12_task_119 rfl (lv_at hl 0 rfl) ?_
      refine rg_91 X hS dX12_task_120 ?_
      refine lv_iload_n hx hb dX12_task_123 rfl (lv_at hl 1 rfl) ?_
      obtain ⟨v_21, e_v_21, i_22, h⟩ := rd_of h
      refine ra_91 X hS i_22 e_v_21 dX12_task_124 ?_
      obtain ⟨rfl, rfl⟩ := so h
      exact hE _ _ _ _ hS dX12_task_125
    have h := im e_20 h
    by_cases e_23 : l2 = 6
    · have h := ip e_23 h
      refine lv_tableIn (off := 115) (tgt := 126) hx hb dX12_task_11 (by rw [e_23]; decide) (by rw [e_23]; decide) (by rw [e_23]; rfl) (by decide) ?_
      refine lv_aload_n hx hb dX12_task_126 rfl (lv_at hl 0 rfl) ?_
      refine rg_92 X hS dX12_task_127 ?_
      refine lv_iload_n hx hb dX12_task_130 rfl (lv_at hl 1 rfl) ?_
      obtain ⟨v_24, e_v_24, i_25, h⟩ := rd_of h
      refine ra_92 X hS i_25 e_v_24 dX12_task_131 ?_
      obtain ⟨rfl, rfl⟩ := so h
      exact hE _ _ _ _ hS dX12_task_132
    have h := im e_23 h
    by_cases e_26 : l2 = 7
    · have h := ip e_26 h
      refine lv_tableIn (off := 122) (tgt := 133) hx hb dX12_task_11 (by rw [e_26]; decide) (by rw [e_26]; decide) (by rw [e_26]; rfl) (by decide) ?_
      refine lv_aload_n hx hb dX12_task_133 rfl (lv_at hl 0 rfl) ?_
      refine rg_93 X hS dX12_task_134 ?_
      refine lv_iload_n hx hb dX12_task_137 rfl (lv_at hl 1 rfl) ?_
      obtain ⟨v_27, e_v_27, i_28, h⟩ := rd_of h
      refine ra_93 X hS i_28 e_v_27 dX12_task_138 ?_
      obtain ⟨rfl, rfl⟩ := so h
      exact hE _ _ _ _ hS dX12_task_139
    have h := im e_26 h
    by_cases e_29 : l2 = 8
    · have h := ip e_29 h
      refine lv_tableIn (off := 129) (tgt := 140) hx hb dX12_task_11 (by rw [e_29]; decide) (by rw [e_29]; decide) (by rw [e_29]; rfl) (by decide) ?_
      refine lv_aload_n hx hb dX12_task_140 rfl (lv_at hl 0 rfl) ?_
      refine rg_94 X hS dX12_task_141 ?_
      refine lv_iload_n hx hb dX12_task_144 rfl (lv_at hl 1 rfl) ?_
      obtain ⟨v_30, e_v_30, i_31, h⟩ := rd_of h
      refine ra_94 X hS i_31 e_v_30 dX12_task_145 ?_
      obtain ⟨rfl, rfl⟩ := so h
      exact hE _ _ _ _ hS dX12_task_146
    have h := im e_29 h
    refine lv_tableDef (tgt := 147) hx hb dX12_task_11 (by decide) (fun off h1 h2 ho => by
      have hI : (l2).toInt = 0 ∨ (l2).toInt = 1 ∨ (l2).toInt = 2 ∨ (l2).toInt = 3 ∨ (l2).toInt = 4 ∨ (l2).toInt = 5 ∨ (l2).toInt = 6 ∨ (l2).toInt = 7 ∨ (l2).toInt = 8 := by omega
      rcases hI with q | q | q | q | q | q | q | q | q
      · exact absurd (Int32.toInt_inj.mp (q.trans (by decide))) e_4
      · exact absurd (Int32.toInt_inj.mp (q.trans (by decide))) e_7
      · exact absurd (Int32.toInt_inj.mp (q.trans (by decide))) e_10
      · exact absurd (Int32.toInt_inj.mp (q.trans (by decide))) e_14
      · exact absurd (Int32.toInt_inj.mp (q.trans (by decide))) e_17
      · exact absurd (Int32.toInt_inj.mp (q.trans (by decide))) e_20
      · exact absurd (Int32.toInt_inj.mp (q.trans (by decide))) e_23
      · exact absurd (Int32.toInt_inj.mp (q.trans (by decide))) e_26
      · exact absurd (Int32.toInt_inj.mp (q.trans (by decide))) e_29) (by decide) ?_
    refine lv_aload_n hx hb dX12_task_147 rfl (lv_at hl 0 rfl) ?_
    refine lv_iconst (v := 2) hx hb dX12_task_148 (by decide) ?_
    obtain ⟨u_32, e_u_32, h⟩ := pu_of h
    refine rp_9 X hS e_u_32 dX12_task_149 (fun H locs hS => ?_)
    refine lv_iconst (v := 0) hx hb dX12_task_152 (by decide) ?_
    obtain ⟨rfl, rfl⟩ := so h
    exact hE _ _ _ _ hS dX12_task_153
  · have h := ip (c_3) h
    refine lv_iconst (v := 0) hx hb dX12_task_8 (by decide) ?_
    obtain ⟨rfl, rfl⟩ := so h
    exact hE _ _ _ _ hS dX12_task_9
def F_task (N : Nat) (l1 : Int32) (l2 : Int32) (u : RSt) : Option (Int32 × RSt) := B_task_0 N l1 l2 u
set_option maxHeartbeats 4000000 in
theorem k_task (l : Launch) (D : va_G) (kA : Nat → ClassId) (V Z : Nat → Nat) (N : Nat) (l1 : Int32) (l2 : Int32) (u : RSt) (sz : Nat) {r : Int32} {w : RSt} (h : F_task N l1 l2 u = some (r, w)) : Met l yX12_task (Cond.code yX12_task cX12_task 3 (some .int) :: GW) { frames := 2, cells := 0, slots := 0, locals := 43 } (rPc D kA V Z [.int l1, .int l2] u sz) (rQi D kA Z u sz r w) 0 0 (va_A (RW kA Z u) sz) := by
  refine Met.ofW (cc := cX12_task) (maxL := 3) (ret := (some .int)) (by decide) rfl ?_
  intro p e s m args below meth c s₁ Bd hml hv
  obtain ⟨rfl, hsz, hP, hK, hD0, hE⟩ := hv
  have hts := atoms_spec (ws := Cond.code yX12_task cX12_task 3 (some .int) :: GW) Bd.pre
  have hl := lv_entry (.ref (Z 200) :: [.int l1, .int l2]) (n := 3) (Nat.le_of_ble_eq_true rfl)
  rw [lg_entry_eq]
  generalize (lg_sl (.ref (Z 200) :: [.int l1, .int l2]) ++ List.replicate (3 - (lg_sl (.ref (Z 200) :: [.int l1, .int l2])).length) Slot.unset).toArray = ls at hl ⊢
  have hl : lv_has ls 3 [(0, .ref (Z 200)), (1, .int l1), (2, .int l2)] := hl
  subst hsz
  have X : RC p s m (.ref (Z 200) :: [.int l1, .int l2]).toArray c cX12_task 3 (Cond.code yX12_task cX12_task 3 (some .int)) D kA V (va_A (RW kA Z u) s.heap.size) := ⟨⟨Bd.exec, Bd.bytes, hml, findClass_of_methodNamed Bd.named, hts⟩, hK, hE, fun q h => Or.inr h⟩
  exact b_task_0 X (rend_i (cy := cX12_task) X Bd.returns Bd.notSynchronized) (Nat.le_refl _) (Nat.le_refl _) h ⟨hP, hD0.self, va_S.rf⟩ (lv_sub hl [0, 1, 2] rfl)
def B_hasVariable_25 (N : Nat) (s1 : Int32) (u : RSt) : Option (Int32 × RSt) := pu (sI u 9 s1) fun u_1 => if (u_1.1 9) = (0 : Int32) then (some (1, u_1)) else (some (0, u_1))
set_option maxHeartbeats 4000000 in
theorem b_hasVariable_25 {r : Int32} (X : RC p s m args c cX12_hasVariable 2 (Cond.code yX12_hasVariable cX12_hasVariable 2 (some .boolean)) D kA V A) (hE : REz p l e R s m args below meth c cX12_hasVariable D kA Z A Q r w) (hF : 1 ≤ R.frames) (hL : 22 ≤ R.locals) {s1 : Int32}  {u : RSt} (h : B_hasVariable_25 N s1 u = some (r, w)) (hS : RS D kA Z A s u H locs) (hl : lv_has ls 2 [(0, .ref (Z 200))]) : W p l e R s m args below meth c H locs 0 0 Q (F0 m 25 ls [.int s1, .ref (Z 200)]) := by
  obtain ⟨⟨hx, hb, hml, hown, hts⟩, hK, hEV, hA⟩ := id X
  have hG : ∀ w ∈ GW, w.before args s = true := fun w h => hts w (List.mem_cons_of_mem _ h)
  unfold B_hasVariable_25 at h
  obtain ⟨u_1, e_u_1, h⟩ := pu_of h
  refine rp_9 X hS e_u_1 dX12_hasVariable_25 (fun H locs hS => ?_)
  refine lv_aload_n hx hb dX12_hasVariable_28 rfl (lv_at hl 0 rfl) ?_
  refine rg_9 X hS dX12_hasVariable_29 ?_
  refine lv_if_ne (tgt := 39) hx hb dX12_hasVariable_32 (by decide) (fun c_2 => ?_) (fun c_2 => ?_)
  · have h := im (c_2) h
    refine lv_iconst (v := 0) hx hb dX12_hasVariable_39 (by decide) ?_
    obtain ⟨rfl, rfl⟩ := so h
    exact hE _ _ _ _ hS (Or.inl rfl) dX12_hasVariable_40
  · have h := ip (c_2) h
    refine lv_iconst (v := 1) hx hb dX12_hasVariable_35 (by decide) ?_
    refine lv_goto (tgt := 40) hx hb dX12_hasVariable_36 (by decide) ?_
    obtain ⟨rfl, rfl⟩ := so h
    exact hE _ _ _ _ hS (Or.inr rfl) dX12_hasVariable_40
def B_hasVariable_0 (N : Nat) (l1 : Int32) (u : RSt) : Option (Int32 × RSt) := rd (u.2.2.1 19) 2 (u.1 55) fun v_3 => if (r_in l1 0 (v_3 - 1)) = (0 : Int32) then (B_hasVariable_25 N 1 u) else (B_hasVariable_25 N 0 u)
set_option maxHeartbeats 4000000 in
theorem b_hasVariable_0 {r : Int32} (X : RC p s m args c cX12_hasVariable 2 (Cond.code yX12_hasVariable cX12_hasVariable 2 (some .boolean)) D kA V A) (hE : REz p l e R s m args below meth c cX12_hasVariable D kA Z A Q r w) (hF : 1 ≤ R.frames) (hL : 22 ≤ R.locals) {l1 : Int32}  {u : RSt} (h : B_hasVariable_0 N l1 u = some (r, w)) (hS : RS D kA Z A s u H locs) (hl : lv_has ls 2 [(0, .ref (Z 200)), (1, .int l1)]) : W p l e R s m args below meth c H locs 0 0 Q (F0 m 0 ls []) := by
  obtain ⟨⟨hx, hb, hml, hown, hts⟩, hK, hEV, hA⟩ := id X
  have hG : ∀ w ∈ GW, w.before args s = true := fun w h => hts w (List.mem_cons_of_mem _ h)
  unfold B_hasVariable_0 at h
  refine lv_aload_n hx hb dX12_hasVariable_0 rfl (lv_at hl 0 rfl) ?_
  refine lv_iload_n hx hb dX12_hasVariable_1 rfl (lv_at hl 1 rfl) ?_
  refine lv_iconst (v := 0) hx hb dX12_hasVariable_2 (by decide) ?_
  refine lv_aload_n hx hb dX12_hasVariable_3 rfl (lv_at hl 0 rfl) ?_
  refine rg_19 X hS dX12_hasVariable_4 ?_
  refine lv_aload_n hx hb dX12_hasVariable_7 rfl (lv_at hl 0 rfl) ?_
  refine rg_55 X hS dX12_hasVariable_8 ?_
  obtain ⟨v_3, e_v_3, i_4, h⟩ := rd_of h
  refine ra_19 X hS i_4 e_v_3 dX12_hasVariable_11 ?_
  refine lv_iconst (v := 1) hx hb dX12_hasVariable_12 (by decide) ?_
  refine lv_isub hx hb dX12_hasVariable_13 ?_
  refine vp_callSi (W.runS (As := [.int l1, .int 0, .int (v_3 - 1)]) (rest := [.ref (Z 200)]) X.1 (c_X12_in l l1 0 (v_3 - 1)) (va_cwS 3 hts (gw_P gw_2605 gw_2606 gw_16 gwp_X12_in) rfl rfl rfl (by decide +kernel) ⟨Nat.le_trans (Nat.le_of_ble_eq_true rfl) hF, Nat.le_trans (Nat.le_of_ble_eq_true rfl) hL⟩) ⟨fun _ _ _ _ q => q, fun _ _ _ => ⟨rfl, trivial⟩⟩ rfl rfl hl.1 rfl (lv_room (Nat.le_of_ble_eq_true rfl)) dX12_hasVariable_14 ⟨Nat.zero_le _, Nat.zero_le _⟩) (fun r_5 q_6 => ?_)
  subst q_6
  refine lv_if_eq (tgt := 24) hx hb dX12_hasVariable_17 (by decide) (fun c_7 => ?_) (fun c_7 => ?_)
  · have h := ip (c_7) h
    refine lv_iconst (v := 1) hx hb dX12_hasVariable_24 (by decide) ?_
    exact b_hasVariable_25 X hE hF hL  h hS (lv_sub hl [0] rfl)
  · have h := im (c_7) h
    refine lv_iconst (v := 0) hx hb dX12_hasVariable_20 (by decide) ?_
    refine lv_goto (tgt := 25) hx hb dX12_hasVariable_21 (by decide) ?_
    exact b_hasVariable_25 X hE hF hL  h hS (lv_sub hl [0] rfl)
def F_hasVariable (N : Nat) (l1 : Int32) (u : RSt) : Option (Int32 × RSt) := B_hasVariable_0 N l1 u
set_option maxHeartbeats 4000000 in
theorem k_hasVariable (l : Launch) (D : va_G) (kA : Nat → ClassId) (V Z : Nat → Nat) (N : Nat) (l1 : Int32) (u : RSt) (sz : Nat) {r : Int32} {w : RSt} (h : F_hasVariable N l1 u = some (r, w)) : Met l yX12_hasVariable (Cond.code yX12_hasVariable cX12_hasVariable 2 (some .boolean) :: GW) { frames := 1, cells := 0, slots := 0, locals := 22 } (rPc D kA V Z [.int l1] u sz) (rQi D kA Z u sz r w) 0 0 (va_A (RW kA Z u) sz) := by
  refine Met.ofW (cc := cX12_hasVariable) (maxL := 2) (ret := (some .boolean)) (by decide) rfl ?_
  intro p e s m args below meth c s₁ Bd hml hv
  obtain ⟨rfl, hsz, hP, hK, hD0, hE⟩ := hv
  have hts := atoms_spec (ws := Cond.code yX12_hasVariable cX12_hasVariable 2 (some .boolean) :: GW) Bd.pre
  have hl := lv_entry (.ref (Z 200) :: [.int l1]) (n := 2) (Nat.le_of_ble_eq_true rfl)
  rw [lg_entry_eq]
  generalize (lg_sl (.ref (Z 200) :: [.int l1]) ++ List.replicate (2 - (lg_sl (.ref (Z 200) :: [.int l1])).length) Slot.unset).toArray = ls at hl ⊢
  have hl : lv_has ls 2 [(0, .ref (Z 200)), (1, .int l1)] := hl
  subst hsz
  have X : RC p s m (.ref (Z 200) :: [.int l1]).toArray c cX12_hasVariable 2 (Cond.code yX12_hasVariable cX12_hasVariable 2 (some .boolean)) D kA V (va_A (RW kA Z u) s.heap.size) := ⟨⟨Bd.exec, Bd.bytes, hml, findClass_of_methodNamed Bd.named, hts⟩, hK, hE, fun q h => Or.inr h⟩
  exact b_hasVariable_0 X (rend_z (cy := cX12_hasVariable) X Bd.returns Bd.notSynchronized) (Nat.le_refl _) (Nat.le_refl _) h ⟨hP, hD0.self, va_S.rf⟩ (lv_sub hl [0, 1] rfl)
theorem kc_hasVariable {r : Int32} {cc : ByteArray} {pc nL : Nat} {c0 : Cond} {rest : List Value} {l1 : Int32} {u : RSt} (X : RC p s m args c cc nL c0 D kA V A) (hS : RS D kA Z A s u H locs) (h : F_hasVariable N l1 u = some (r, w)) (hF : 1 + 1 ≤ R.frames) (hL : 8 + (2 + 11) + 22 ≤ R.locals) (hl : ls.size = nL) (hc : (rest.map fun v => v.category).sum ≤ 8) (hdg : decode cc pc = .ok (.invokevirtual 745, 3)) (kk : ∀ H locs, RS D kA Z A s w H locs → W p l e R s m args below meth c H locs 0 0 Q (F0 m (pc + 3) ls (.int r :: rest))) : W p l e R s m args below meth c H locs 0 0 Q (F0 m pc ls (.int l1 :: .ref (Z 200) :: rest)) :=
  rcall_i (n := 1) X hS (k_hasVariable l D kA V Z N l1 u H.size h) (gw_V gw_2708 gw_2710 gs_12_14 gw_16 gw_2711) (by decide +kernel) hF hL rfl hl hc rfl hdg kk
def B_hasPlace_38 (N : Nat) (u : RSt) : Option (Int32 × RSt) := if (u.1 9) = (0 : Int32) then (some (1, u)) else (some (0, u))
set_option maxHeartbeats 4000000 in
theorem b_hasPlace_38 {r : Int32} (X : RC p s m args c cX12_hasPlace 3 (Cond.code yX12_hasPlace cX12_hasPlace 3 (some .boolean)) D kA V A) (hE : REz p l e R s m args below meth c cX12_hasPlace D kA Z A Q r w) (hF : 2 ≤ R.frames) (hL : 43 ≤ R.locals)  {u : RSt} (h : B_hasPlace_38 N u = some (r, w)) (hS : RS D kA Z A s u H locs) (hl : lv_has ls 3 [(0, .ref (Z 200))]) : W p l e R s m args below meth c H locs 0 0 Q (F0 m 38 ls []) := by
  obtain ⟨⟨hx, hb, hml, hown, hts⟩, hK, hEV, hA⟩ := id X
  have hG : ∀ w ∈ GW, w.before args s = true := fun w h => hts w (List.mem_cons_of_mem _ h)
  unfold B_hasPlace_38 at h
  refine lv_aload_n hx hb dX12_hasPlace_38 rfl (lv_at hl 0 rfl) ?_
  refine rg_9 X hS dX12_hasPlace_39 ?_
  refine lv_if_ne (tgt := 49) hx hb dX12_hasPlace_42 (by decide) (fun c_1 => ?_) (fun c_1 => ?_)
  · have h := im (c_1) h
    refine lv_iconst (v := 0) hx hb dX12_hasPlace_49 (by decide) ?_
    obtain ⟨rfl, rfl⟩ := so h
    exact hE _ _ _ _ hS (Or.inl rfl) dX12_hasPlace_50
  · have h := ip (c_1) h
    refine lv_iconst (v := 1) hx hb dX12_hasPlace_45 (by decide) ?_
    refine lv_goto (tgt := 50) hx hb dX12_hasPlace_46 (by decide) ?_
    obtain ⟨rfl, rfl⟩ := so h
    exact hE _ _ _ _ hS (Or.inr rfl) dX12_hasPlace_50
def B_hasPlace_0 (N : Nat) (l1 : Int32) (l2 : Int32) (u : RSt) : Option (Int32 × RSt) := bn (F_hasVariable N l1 u) fun r_3 u_2 => if r_3 = (0 : Int32) then (B_hasPlace_38 N u_2) else (rd (u_2.2.2.1 11) 320 ((160 * (u_2.1 55)) + l1) fun v_5 => if (r_in l2 0 (v_5 - 1)) = (0 : Int32) then (pu (sI u_2 9 1) fun u_10 => B_hasPlace_38 N u_10) else (B_hasPlace_38 N u_2))
set_option maxHeartbeats 4000000 in
theorem b_hasPlace_0 {r : Int32} (X : RC p s m args c cX12_hasPlace 3 (Cond.code yX12_hasPlace cX12_hasPlace 3 (some .boolean)) D kA V A) (hE : REz p l e R s m args below meth c cX12_hasPlace D kA Z A Q r w) (hF : 2 ≤ R.frames) (hL : 43 ≤ R.locals) {l1 : Int32} {l2 : Int32}  {u : RSt} (h : B_hasPlace_0 N l1 l2 u = some (r, w)) (hS : RS D kA Z A s u H locs) (hl : lv_has ls 3 [(0, .ref (Z 200)), (1, .int l1), (2, .int l2)]) : W p l e R s m args below meth c H locs 0 0 Q (F0 m 0 ls []) := by
  obtain ⟨⟨hx, hb, hml, hown, hts⟩, hK, hEV, hA⟩ := id X
  have hG : ∀ w ∈ GW, w.before args s = true := fun w h => hts w (List.mem_cons_of_mem _ h)
  unfold B_hasPlace_0 at h
  refine lv_aload_n hx hb dX12_hasPlace_0 rfl (lv_at hl 0 rfl) ?_
  refine lv_iload_n hx hb dX12_hasPlace_1 rfl (lv_at hl 1 rfl) ?_
  obtain ⟨r_3, u_2, h_u_2, h⟩ := bn_of h
  refine kc_hasVariable X hS h_u_2 (Nat.le_trans (Nat.le_of_ble_eq_true rfl) hF) (Nat.le_trans (Nat.le_of_ble_eq_true rfl) hL) hl.1 (Nat.le_of_ble_eq_true rfl) dX12_hasPlace_2 (fun H locs hS => ?_)
  refine lv_if_eq (tgt := 38) hx hb dX12_hasPlace_5 (by decide) (fun c_4 => ?_) (fun c_4 => ?_)
  · have h := ip (c_4) h
    exact b_hasPlace_38 X hE hF hL  h hS (lv_sub hl [0] rfl)
  · have h := im (c_4) h
    refine lv_iload_n hx hb dX12_hasPlace_8 rfl (lv_at hl 2 rfl) ?_
    refine lv_iconst (v := 0) hx hb dX12_hasPlace_9 (by decide) ?_
    refine lv_aload_n hx hb dX12_hasPlace_10 rfl (lv_at hl 0 rfl) ?_
    refine rg_11 X hS dX12_hasPlace_11 ?_
    refine lv_sipush (v := 160) hx hb dX12_hasPlace_14 (by decide) ?_
    refine lv_aload_n hx hb dX12_hasPlace_17 rfl (lv_at hl 0 rfl) ?_
    refine rg_55 X hS dX12_hasPlace_18 ?_
    refine lv_imul hx hb dX12_hasPlace_21 ?_
    refine lv_iload_n hx hb dX12_hasPlace_22 rfl (lv_at hl 1 rfl) ?_
    refine lv_iadd hx hb dX12_hasPlace_23 ?_
    obtain ⟨v_5, e_v_5, i_6, h⟩ := rd_of h
    refine ra_11 X hS i_6 e_v_5 dX12_hasPlace_24 ?_
    refine lv_iconst (v := 1) hx hb dX12_hasPlace_25 (by decide) ?_
    refine lv_isub hx hb dX12_hasPlace_26 ?_
    refine vp_callSi (W.runS (As := [.int l2, .int 0, .int (v_5 - 1)]) (rest := []) X.1 (c_X12_in l l2 0 (v_5 - 1)) (va_cwS 3 hts (gw_P gw_2605 gw_2606 gw_16 gwp_X12_in) rfl rfl rfl (by decide +kernel) ⟨Nat.le_trans (Nat.le_of_ble_eq_true rfl) hF, Nat.le_trans (Nat.le_of_ble_eq_true rfl) hL⟩) ⟨fun _ _ _ _ q => q, fun _ _ _ => ⟨rfl, trivial⟩⟩ rfl rfl hl.1 rfl (lv_room (Nat.le_of_ble_eq_true rfl)) dX12_hasPlace_27 ⟨Nat.zero_le _, Nat.zero_le _⟩) (fun r_7 q_8 => ?_)
    subst q_8
    refine lv_if_ne (tgt := 38) hx hb dX12_hasPlace_30 (by decide) (fun c_9 => ?_) (fun c_9 => ?_)
    · have h := im (c_9) h
      exact b_hasPlace_38 X hE hF hL  h hS (lv_sub hl [0] rfl)
    · have h := ip (c_9) h
      refine lv_aload_n hx hb dX12_hasPlace_33 rfl (lv_at hl 0 rfl) ?_
      refine lv_iconst (v := 1) hx hb dX12_hasPlace_34 (by decide) ?_
      obtain ⟨u_10, e_u_10, h⟩ := pu_of h
      refine rp_9 X hS e_u_10 dX12_hasPlace_35 (fun H locs hS => ?_)
      exact b_hasPlace_38 X hE hF hL  h hS (lv_sub hl [0] rfl)
def F_hasPlace (N : Nat) (l1 : Int32) (l2 : Int32) (u : RSt) : Option (Int32 × RSt) := B_hasPlace_0 N l1 l2 u
set_option maxHeartbeats 4000000 in
theorem k_hasPlace (l : Launch) (D : va_G) (kA : Nat → ClassId) (V Z : Nat → Nat) (N : Nat) (l1 : Int32) (l2 : Int32) (u : RSt) (sz : Nat) {r : Int32} {w : RSt} (h : F_hasPlace N l1 l2 u = some (r, w)) : Met l yX12_hasPlace (Cond.code yX12_hasPlace cX12_hasPlace 3 (some .boolean) :: GW) { frames := 2, cells := 0, slots := 0, locals := 43 } (rPc D kA V Z [.int l1, .int l2] u sz) (rQi D kA Z u sz r w) 0 0 (va_A (RW kA Z u) sz) := by
  refine Met.ofW (cc := cX12_hasPlace) (maxL := 3) (ret := (some .boolean)) (by decide) rfl ?_
  intro p e s m args below meth c s₁ Bd hml hv
  obtain ⟨rfl, hsz, hP, hK, hD0, hE⟩ := hv
  have hts := atoms_spec (ws := Cond.code yX12_hasPlace cX12_hasPlace 3 (some .boolean) :: GW) Bd.pre
  have hl := lv_entry (.ref (Z 200) :: [.int l1, .int l2]) (n := 3) (Nat.le_of_ble_eq_true rfl)
  rw [lg_entry_eq]
  generalize (lg_sl (.ref (Z 200) :: [.int l1, .int l2]) ++ List.replicate (3 - (lg_sl (.ref (Z 200) :: [.int l1, .int l2])).length) Slot.unset).toArray = ls at hl ⊢
  have hl : lv_has ls 3 [(0, .ref (Z 200)), (1, .int l1), (2, .int l2)] := hl
  subst hsz
  have X : RC p s m (.ref (Z 200) :: [.int l1, .int l2]).toArray c cX12_hasPlace 3 (Cond.code yX12_hasPlace cX12_hasPlace 3 (some .boolean)) D kA V (va_A (RW kA Z u) s.heap.size) := ⟨⟨Bd.exec, Bd.bytes, hml, findClass_of_methodNamed Bd.named, hts⟩, hK, hE, fun q h => Or.inr h⟩
  exact b_hasPlace_0 X (rend_z (cy := cX12_hasPlace) X Bd.returns Bd.notSynchronized) (Nat.le_refl _) (Nat.le_refl _) h ⟨hP, hD0.self, va_S.rf⟩ (lv_sub hl [0, 1, 2] rfl)
theorem kc_hasPlace {r : Int32} {cc : ByteArray} {pc nL : Nat} {c0 : Cond} {rest : List Value} {l1 : Int32} {l2 : Int32} {u : RSt} (X : RC p s m args c cc nL c0 D kA V A) (hS : RS D kA Z A s u H locs) (h : F_hasPlace N l1 l2 u = some (r, w)) (hF : 2 + 1 ≤ R.frames) (hL : 8 + (3 + 11) + 43 ≤ R.locals) (hl : ls.size = nL) (hc : (rest.map fun v => v.category).sum ≤ 8) (hdg : decode cc pc = .ok (.invokevirtual 748, 3)) (kk : ∀ H locs, RS D kA Z A s w H locs → W p l e R s m args below meth c H locs 0 0 Q (F0 m (pc + 3) ls (.int r :: rest))) : W p l e R s m args below meth c H locs 0 0 Q (F0 m pc ls (.int l2 :: .int l1 :: .ref (Z 200) :: rest)) :=
  rcall_i (n := 2) X hS (k_hasPlace l D kA V Z N l1 l2 u H.size h) (gw_V gw_2704 gw_2706 gs_12_13 gw_16 gw_2707) (by decide +kernel) hF hL rfl hl hc rfl hdg kk
def B_value_0 (N : Nat) (l1 : Int32) (l2 : Int32) (u : RSt) : Option (Int64 × RSt) := bn (F_hasPlace N l1 l2 u) fun r_2 u_1 => if r_2 = (0 : Int32) then (some (0, u_1)) else (bn (F_numberOf N l1 l2 u_1) fun r_5 u_4 => some (r_5, u_4))
set_option maxHeartbeats 4000000 in
theorem b_value_0 {r : Int64} (X : RC p s m args c cX12_value 3 (Cond.code yX12_value cX12_value 3 (some .long)) D kA V A) (hE : REl p l e R s m args below meth c cX12_value D kA Z A Q r w) (hF : 3 ≤ R.frames) (hL : 71 ≤ R.locals) {l1 : Int32} {l2 : Int32}  {u : RSt} (h : B_value_0 N l1 l2 u = some (r, w)) (hS : RS D kA Z A s u H locs) (hl : lv_has ls 3 [(0, .ref (Z 200)), (1, .int l1), (2, .int l2)]) : W p l e R s m args below meth c H locs 0 0 Q (F0 m 0 ls []) := by
  obtain ⟨⟨hx, hb, hml, hown, hts⟩, hK, hEV, hA⟩ := id X
  have hG : ∀ w ∈ GW, w.before args s = true := fun w h => hts w (List.mem_cons_of_mem _ h)
  unfold B_value_0 at h
  refine lv_aload_n hx hb dX12_value_0 rfl (lv_at hl 0 rfl) ?_
  refine lv_iload_n hx hb dX12_value_1 rfl (lv_at hl 1 rfl) ?_
  refine lv_iload_n hx hb dX12_value_2 rfl (lv_at hl 2 rfl) ?_
  obtain ⟨r_2, u_1, h_u_1, h⟩ := bn_of h
  refine kc_hasPlace X hS h_u_1 (Nat.le_trans (Nat.le_of_ble_eq_true rfl) hF) (Nat.le_trans (Nat.le_of_ble_eq_true rfl) hL) hl.1 (Nat.le_of_ble_eq_true rfl) dX12_value_3 (fun H locs hS => ?_)
  refine lv_if_eq (tgt := 18) hx hb dX12_value_6 (by decide) (fun c_3 => ?_) (fun c_3 => ?_)
  · have h := ip (c_3) h
    refine lv_lconst (v := 0) hx hb dX12_value_18 (by decide) ?_
    obtain ⟨rfl, rfl⟩ := so h
    exact hE _ _ _ _ hS dX12_value_19
  · have h := im (c_3) h
    refine lv_aload_n hx hb dX12_value_9 rfl (lv_at hl 0 rfl) ?_
    refine lv_iload_n hx hb dX12_value_10 rfl (lv_at hl 1 rfl) ?_
    refine lv_iload_n hx hb dX12_value_11 rfl (lv_at hl 2 rfl) ?_
    obtain ⟨r_5, u_4, h_u_4, h⟩ := bn_of h
    refine kc_numberOf X hS h_u_4 (Nat.le_trans (Nat.le_of_ble_eq_true rfl) hF) (Nat.le_trans (Nat.le_of_ble_eq_true rfl) hL) hl.1 (Nat.le_of_ble_eq_true rfl) dX12_value_12 (fun H locs hS => ?_)
    refine lv_goto (tgt := 19) hx hb dX12_value_15 (by decide) ?_
    obtain ⟨rfl, rfl⟩ := so h
    exact hE _ _ _ _ hS dX12_value_19
def F_value (N : Nat) (l1 : Int32) (l2 : Int32) (u : RSt) : Option (Int64 × RSt) := B_value_0 N l1 l2 u
set_option maxHeartbeats 4000000 in
theorem k_value (l : Launch) (D : va_G) (kA : Nat → ClassId) (V Z : Nat → Nat) (N : Nat) (l1 : Int32) (l2 : Int32) (u : RSt) (sz : Nat) {r : Int64} {w : RSt} (h : F_value N l1 l2 u = some (r, w)) : Met l yX12_value (Cond.code yX12_value cX12_value 3 (some .long) :: GW) { frames := 3, cells := 0, slots := 0, locals := 71 } (rPc D kA V Z [.int l1, .int l2] u sz) (rQl D kA Z u sz r w) 0 0 (va_A (RW kA Z u) sz) := by
  refine Met.ofW (cc := cX12_value) (maxL := 3) (ret := (some .long)) (by decide) rfl ?_
  intro p e s m args below meth c s₁ Bd hml hv
  obtain ⟨rfl, hsz, hP, hK, hD0, hE⟩ := hv
  have hts := atoms_spec (ws := Cond.code yX12_value cX12_value 3 (some .long) :: GW) Bd.pre
  have hl := lv_entry (.ref (Z 200) :: [.int l1, .int l2]) (n := 3) (Nat.le_of_ble_eq_true rfl)
  rw [lg_entry_eq]
  generalize (lg_sl (.ref (Z 200) :: [.int l1, .int l2]) ++ List.replicate (3 - (lg_sl (.ref (Z 200) :: [.int l1, .int l2])).length) Slot.unset).toArray = ls at hl ⊢
  have hl : lv_has ls 3 [(0, .ref (Z 200)), (1, .int l1), (2, .int l2)] := hl
  subst hsz
  have X : RC p s m (.ref (Z 200) :: [.int l1, .int l2]).toArray c cX12_value 3 (Cond.code yX12_value cX12_value 3 (some .long)) D kA V (va_A (RW kA Z u) s.heap.size) := ⟨⟨Bd.exec, Bd.bytes, hml, findClass_of_methodNamed Bd.named, hts⟩, hK, hE, fun q h => Or.inr h⟩
  exact b_value_0 X (rend_l (cy := cX12_value) X Bd.returns Bd.notSynchronized) (Nat.le_refl _) (Nat.le_refl _) h ⟨hP, hD0.self, va_S.rf⟩ (lv_sub hl [0, 1, 2] rfl)
def B_poke_39 (N : Nat) (l1 : Int32) (l2 : Int32) (l3 : Int64) (l5 : Int32) (u : RSt) : Option (Int64 × RSt) := if (u.1 9) ≤ (0 : Int32) then (rd (u.2.2.1 15) 320 l5 fun v_2 => rd (u.2.2.1 10) 320 l5 fun v_4 => bn (F_write N (v_2 + l2) v_4 l3 u) fun _ u_6 => bn (F_numberOf N l1 l2 u_6) fun r_8 u_7 => some (r_8, u_7)) else (some (0, u))
set_option maxHeartbeats 4000000 in
theorem b_poke_39 {r : Int64} (X : RC p s m args c cX12_poke 6 (Cond.code yX12_poke cX12_poke 6 (some .long)) D kA V A) (hE : REl p l e R s m args below meth c cX12_poke D kA Z A Q r w) (hF : 3 ≤ R.frames) (hL : 71 ≤ R.locals) {l1 : Int32} {l2 : Int32} {l3 : Int64} {l5 : Int32}  {u : RSt} (h : B_poke_39 N l1 l2 l3 l5 u = some (r, w)) (hS : RS D kA Z A s u H locs) (hl : lv_has ls 6 [(0, .ref (Z 200)), (1, .int l1), (2, .int l2), (3, .long l3), (5, .int l5)]) : W p l e R s m args below meth c H locs 0 0 Q (F0 m 39 ls []) := by
  obtain ⟨⟨hx, hb, hml, hown, hts⟩, hK, hEV, hA⟩ := id X
  have hG : ∀ w ∈ GW, w.before args s = true := fun w h => hts w (List.mem_cons_of_mem _ h)
  unfold B_poke_39 at h
  refine lv_aload_n hx hb dX12_poke_39 rfl (lv_at hl 0 rfl) ?_
  refine rg_9 X hS dX12_poke_40 ?_
  refine lv_if_le (tgt := 48) hx hb dX12_poke_43 (by decide) (fun c_1 => ?_) (fun c_1 => ?_)
  · have h := ip (c_1) h
    refine lv_aload_n hx hb dX12_poke_48 rfl (lv_at hl 0 rfl) ?_
    refine lv_aload_n hx hb dX12_poke_49 rfl (lv_at hl 0 rfl) ?_
    refine rg_15 X hS dX12_poke_50 ?_
    refine lv_iload hx hb dX12_poke_53 (lv_at hl 4 rfl) ?_
    obtain ⟨v_2, e_v_2, i_3, h⟩ := rd_of h
    refine ra_15 X hS i_3 e_v_2 dX12_poke_55 ?_
    refine lv_iload_n hx hb dX12_poke_56 rfl (lv_at hl 2 rfl) ?_
    refine lv_iadd hx hb dX12_poke_57 ?_
    refine lv_aload_n hx hb dX12_poke_58 rfl (lv_at hl 0 rfl) ?_
    refine rg_10 X hS dX12_poke_59 ?_
    refine lv_iload hx hb dX12_poke_62 (lv_at hl 4 rfl) ?_
    obtain ⟨v_4, e_v_4, i_5, h⟩ := rd_of h
    refine ra_10 X hS i_5 e_v_4 dX12_poke_64 ?_
    refine lv_lload_n hx hb dX12_poke_65 rfl (lv_at hl 3 rfl) ?_
    obtain ⟨r_u_6, u_6, h_u_6, h⟩ := bn_of h
    refine kc_write X hS h_u_6 (Nat.le_trans (Nat.le_of_ble_eq_true rfl) hF) (Nat.le_trans (Nat.le_of_ble_eq_true rfl) hL) hl.1 (Nat.le_of_ble_eq_true rfl) dX12_poke_66 (fun H locs hS => ?_)
    refine lv_aload_n hx hb dX12_poke_69 rfl (lv_at hl 0 rfl) ?_
    refine lv_iload_n hx hb dX12_poke_70 rfl (lv_at hl 1 rfl) ?_
    refine lv_iload_n hx hb dX12_poke_71 rfl (lv_at hl 2 rfl) ?_
    obtain ⟨r_8, u_7, h_u_7, h⟩ := bn_of h
    refine kc_numberOf X hS h_u_7 (Nat.le_trans (Nat.le_of_ble_eq_true rfl) hF) (Nat.le_trans (Nat.le_of_ble_eq_true rfl) hL) hl.1 (Nat.le_of_ble_eq_true rfl) dX12_poke_72 (fun H locs hS => ?_)
    obtain ⟨rfl, rfl⟩ := so h
    exact hE _ _ _ _ hS dX12_poke_75
  · have h := im (c_1) h
    refine lv_lconst (v := 0) hx hb dX12_poke_46 (by decide) ?_
    obtain ⟨rfl, rfl⟩ := so h
    exact hE _ _ _ _ hS dX12_poke_47
def B_poke_0 (N : Nat) (l1 : Int32) (l2 : Int32) (l3 : Int64) (u : RSt) : Option (Int64 × RSt) := bn (F_hasPlace N l1 l2 u) fun r_10 u_9 => if r_10 = (0 : Int32) then (some (0, u_9)) else (rd (u_9.2.2.1 12) 320 ((160 * (u_9.1 55)) + l1) fun v_12 => if v_12 = (2 : Int32) then (pu (sI u_9 9 2) fun u_15 => B_poke_39 N l1 l2 l3 ((160 * (u_9.1 55)) + l1) u_15) else (B_poke_39 N l1 l2 l3 ((160 * (u_9.1 55)) + l1) u_9))
set_option maxHeartbeats 4000000 in
theorem b_poke_0 {r : Int64} (X : RC p s m args c cX12_poke 6 (Cond.code yX12_poke cX12_poke 6 (some .long)) D kA V A) (hE : REl p l e R s m args below meth c cX12_poke D kA Z A Q r w) (hF : 3 ≤ R.frames) (hL : 71 ≤ R.locals) {l1 : Int32} {l2 : Int32} {l3 : Int64}  {u : RSt} (h : B_poke_0 N l1 l2 l3 u = some (r, w)) (hS : RS D kA Z A s u H locs) (hl : lv_has ls 6 [(0, .ref (Z 200)), (1, .int l1), (2, .int l2), (3, .long l3)]) : W p l e R s m args below meth c H locs 0 0 Q (F0 m 0 ls []) := by
  obtain ⟨⟨hx, hb, hml, hown, hts⟩, hK, hEV, hA⟩ := id X
  have hG : ∀ w ∈ GW, w.before args s = true := fun w h => hts w (List.mem_cons_of_mem _ h)
  unfold B_poke_0 at h
  refine lv_aload_n hx hb dX12_poke_0 rfl (lv_at hl 0 rfl) ?_
  refine lv_iload_n hx hb dX12_poke_1 rfl (lv_at hl 1 rfl) ?_
  refine lv_iload_n hx hb dX12_poke_2 rfl (lv_at hl 2 rfl) ?_
  obtain ⟨r_10, u_9, h_u_9, h⟩ := bn_of h
  refine kc_hasPlace X hS h_u_9 (Nat.le_trans (Nat.le_of_ble_eq_true rfl) hF) (Nat.le_trans (Nat.le_of_ble_eq_true rfl) hL) hl.1 (Nat.le_of_ble_eq_true rfl) dX12_poke_3 (fun H locs hS => ?_)
  refine lv_if_ne (tgt := 11) hx hb dX12_poke_6 (by decide) (fun c_11 => ?_) (fun c_11 => ?_)
  · have h := im (c_11) h
    refine lv_sipush (v := 160) hx hb dX12_poke_11 (by decide) ?_
    refine lv_aload_n hx hb dX12_poke_14 rfl (lv_at hl 0 rfl) ?_
    refine rg_55 X hS dX12_poke_15 ?_
    refine lv_imul hx hb dX12_poke_18 ?_
    refine lv_iload_n hx hb dX12_poke_19 rfl (lv_at hl 1 rfl) ?_
    refine lv_iadd hx hb dX12_poke_20 ?_
    refine lv_istore (lv' := [(5, .int ((160 * (u_9.1 55)) + l1)), (0, .ref (Z 200)), (1, .int l1), (2, .int l2), (3, .long l3)]) hx hb dX12_poke_21 hl (by decide) rfl (fun ls hl => ?_)
    refine lv_aload_n hx hb dX12_poke_23 rfl (lv_at hl 1 rfl) ?_
    refine rg_12 X hS dX12_poke_24 ?_
    refine lv_iload hx hb dX12_poke_27 (lv_at hl 0 rfl) ?_
    obtain ⟨v_12, e_v_12, i_13, h⟩ := rd_of h
    refine ra_12 X hS i_13 e_v_12 dX12_poke_29 ?_
    refine lv_iconst (v := 2) hx hb dX12_poke_30 (by decide) ?_
    refine lv_icmp_ne (tgt := 39) hx hb dX12_poke_31 (by decide) (fun c_14 => ?_) (fun c_14 => ?_)
    · have h := im (c_14) h
      exact b_poke_39 X hE hF hL  h hS (lv_sub hl [1, 2, 3, 4, 0] rfl)
    · have h := ip (c_14) h
      refine lv_aload_n hx hb dX12_poke_34 rfl (lv_at hl 1 rfl) ?_
      refine lv_iconst (v := 2) hx hb dX12_poke_35 (by decide) ?_
      obtain ⟨u_15, e_u_15, h⟩ := pu_of h
      refine rp_9 X hS e_u_15 dX12_poke_36 (fun H locs hS => ?_)
      exact b_poke_39 X hE hF hL  h hS (lv_sub hl [1, 2, 3, 4, 0] rfl)
  · have h := ip (c_11) h
    refine lv_lconst (v := 0) hx hb dX12_poke_9 (by decide) ?_
    obtain ⟨rfl, rfl⟩ := so h
    exact hE _ _ _ _ hS dX12_poke_10
def F_poke (N : Nat) (l1 : Int32) (l2 : Int32) (l3 : Int64) (u : RSt) : Option (Int64 × RSt) := B_poke_0 N l1 l2 l3 u
set_option maxHeartbeats 4000000 in
theorem k_poke (l : Launch) (D : va_G) (kA : Nat → ClassId) (V Z : Nat → Nat) (N : Nat) (l1 : Int32) (l2 : Int32) (l3 : Int64) (u : RSt) (sz : Nat) {r : Int64} {w : RSt} (h : F_poke N l1 l2 l3 u = some (r, w)) : Met l yX12_poke (Cond.code yX12_poke cX12_poke 6 (some .long) :: GW) { frames := 3, cells := 0, slots := 0, locals := 71 } (rPc D kA V Z [.int l1, .int l2, .long l3] u sz) (rQl D kA Z u sz r w) 0 0 (va_A (RW kA Z u) sz) := by
  refine Met.ofW (cc := cX12_poke) (maxL := 6) (ret := (some .long)) (by decide) rfl ?_
  intro p e s m args below meth c s₁ Bd hml hv
  obtain ⟨rfl, hsz, hP, hK, hD0, hE⟩ := hv
  have hts := atoms_spec (ws := Cond.code yX12_poke cX12_poke 6 (some .long) :: GW) Bd.pre
  have hl := lv_entry (.ref (Z 200) :: [.int l1, .int l2, .long l3]) (n := 6) (Nat.le_of_ble_eq_true rfl)
  rw [lg_entry_eq]
  generalize (lg_sl (.ref (Z 200) :: [.int l1, .int l2, .long l3]) ++ List.replicate (6 - (lg_sl (.ref (Z 200) :: [.int l1, .int l2, .long l3])).length) Slot.unset).toArray = ls at hl ⊢
  have hl : lv_has ls 6 [(0, .ref (Z 200)), (1, .int l1), (2, .int l2), (3, .long l3)] := hl
  subst hsz
  have X : RC p s m (.ref (Z 200) :: [.int l1, .int l2, .long l3]).toArray c cX12_poke 6 (Cond.code yX12_poke cX12_poke 6 (some .long)) D kA V (va_A (RW kA Z u) s.heap.size) := ⟨⟨Bd.exec, Bd.bytes, hml, findClass_of_methodNamed Bd.named, hts⟩, hK, hE, fun q h => Or.inr h⟩
  exact b_poke_0 X (rend_l (cy := cX12_poke) X Bd.returns Bd.notSynchronized) (Nat.le_refl _) (Nat.le_refl _) h ⟨hP, hD0.self, va_S.rf⟩ (lv_sub hl [0, 1, 2, 3] rfl)
def B_variable_0 (N : Nat) (l1 : Int32) (l2 : Int32) (u : RSt) : Option (Int32 × RSt) := bn (F_hasVariable N l1 u) fun r_2 u_1 => if r_2 = (0 : Int32) then (some (0, u_1)) else (if l2 = 0 then (rd (u_1.2.2.1 10) 320 ((160 * (u_1.1 55)) + l1) fun v_5 => some (v_5, u_1)) else (if l2 = 1 then (rd (u_1.2.2.1 11) 320 ((160 * (u_1.1 55)) + l1) fun v_8 => some (v_8, u_1)) else (if l2 = 2 then (rd (u_1.2.2.1 12) 320 ((160 * (u_1.1 55)) + l1) fun v_11 => some (v_11, u_1)) else (if l2 = 3 then (rd (u_1.2.2.1 13) 320 ((160 * (u_1.1 55)) + l1) fun v_14 => if v_14 = (0 : Int32) then (some (0, u_1)) else (some (1, u_1))) else (if l2 = 4 then (rd (u_1.2.2.1 14) 320 ((160 * (u_1.1 55)) + l1) fun v_18 => some (v_18, u_1)) else (pu (sI u_1 9 2) fun u_20 => some (0, u_20)))))))
set_option maxHeartbeats 4000000 in
theorem b_variable_0 {r : Int32} (X : RC p s m args c cX12_variable 4 (Cond.code yX12_variable cX12_variable 4 (some .int)) D kA V A) (hE : REi p l e R s m args below meth c cX12_variable D kA Z A Q r w) (hF : 2 ≤ R.frames) (hL : 43 ≤ R.locals) {l1 : Int32} {l2 : Int32}  {u : RSt} (h : B_variable_0 N l1 l2 u = some (r, w)) (hS : RS D kA Z A s u H locs) (hl : lv_has ls 4 [(0, .ref (Z 200)), (1, .int l1), (2, .int l2)]) : W p l e R s m args below meth c H locs 0 0 Q (F0 m 0 ls []) := by
  obtain ⟨⟨hx, hb, hml, hown, hts⟩, hK, hEV, hA⟩ := id X
  have hG : ∀ w ∈ GW, w.before args s = true := fun w h => hts w (List.mem_cons_of_mem _ h)
  unfold B_variable_0 at h
  refine lv_aload_n hx hb dX12_variable_0 rfl (lv_at hl 0 rfl) ?_
  refine lv_iload_n hx hb dX12_variable_1 rfl (lv_at hl 1 rfl) ?_
  obtain ⟨r_2, u_1, h_u_1, h⟩ := bn_of h
  refine kc_hasVariable X hS h_u_1 (Nat.le_trans (Nat.le_of_ble_eq_true rfl) hF) (Nat.le_trans (Nat.le_of_ble_eq_true rfl) hL) hl.1 (Nat.le_of_ble_eq_true rfl) dX12_variable_2 (fun H locs hS => ?_)
  refine lv_if_ne (tgt := 10) hx hb dX12_variable_5 (by decide) (fun c_3 => ?_) (fun c_3 => ?_)
  · have h := im (c_3) h
    refine lv_sipush (v := 160) hx hb dX12_variable_10 (by decide) ?_
    refine lv_aload_n hx hb dX12_variable_13 rfl (lv_at hl 0 rfl) ?_
    refine rg_55 X hS dX12_variable_14 ?_
    refine lv_imul hx hb dX12_variable_17 ?_
    refine lv_iload_n hx hb dX12_variable_18 rfl (lv_at hl 1 rfl) ?_
    refine lv_iadd hx hb dX12_variable_19 ?_
    refine lv_istore_n (lv' := [(3, .int ((160 * (u_1.1 55)) + l1)), (0, .ref (Z 200)), (1, .int l1), (2, .int l2)]) hx hb dX12_variable_20 rfl hl (by decide) rfl (fun ls hl => ?_)
    refine lv_iload_n hx hb dX12_variable_21 rfl (lv_at hl 3 rfl) ?_
    by_cases e_4 : l2 = 0
    · have h := ip e_4 h
      refine lv_tableIn (off := 34) (tgt := 56) hx hb dX12_variable_22 (by rw [e_4]; decide) (by rw [e_4]; decide) (by rw [e_4]; rfl) (by decide) ?_
      refine lv_aload_n hx hb dX12_variable_56 rfl (lv_at hl 1 rfl) ?_
      refine rg_10 X hS dX12_variable_57 ?_
      refine lv_iload_n hx hb dX12_variable_60 rfl (lv_at hl 0 rfl) ?_
      obtain ⟨v_5, e_v_5, i_6, h⟩ := rd_of h
      refine ra_10 X hS i_6 e_v_5 dX12_variable_61 ?_
      obtain ⟨rfl, rfl⟩ := so h
      exact hE _ _ _ _ hS dX12_variable_62
    have h := im e_4 h
    by_cases e_7 : l2 = 1
    · have h := ip e_7 h
      refine lv_tableIn (off := 41) (tgt := 63) hx hb dX12_variable_22 (by rw [e_7]; decide) (by rw [e_7]; decide) (by rw [e_7]; rfl) (by decide) ?_
      refine lv_aload_n hx hb dX12_variable_63 rfl (lv_at hl 1 rfl) ?_
      refine rg_11 X hS dX12_variable_64 ?_
      refine lv_iload_n hx hb dX12_variable_67 rfl (lv_at hl 0 rfl) ?_
      obtain ⟨v_8, e_v_8, i_9, h⟩ := rd_of h
      refine ra_11 X hS i_9 e_v_8 dX12_variable_68 ?_
      obtain ⟨rfl, rfl⟩ := so h
      exact hE _ _ _ _ hS dX12_variable_69
    have h := im e_7 h
    by_cases e_10 : l2 = 2
    · have h := ip e_10 h
      refine lv_tableIn (off := 48) (tgt := 70) hx hb dX12_variable_22 (by rw [e_10]; decide) (by rw [e_10]; decide) (by rw [e_10]; rfl) (by decide) ?_
      refine lv_aload_n hx hb dX12_variable_70 rfl (lv_at hl 1 rfl) ?_
      refine rg_12 X hS dX12_variable_71 ?_
      refine lv_iload_n hx hb dX12_variable_74 rfl (lv_at hl 0 rfl) ?_
      obtain ⟨v_11, e_v_11, i_12, h⟩ := rd_of h
      refine ra_12 X hS i_12 e_v_11 dX12_variable_75 ?_
      obtain ⟨rfl, rfl⟩ := so h
      exact hE _ _ _ _ hS dX12_variable_76
    have h := im e_10 h
    by_cases e_13 : l2 = 3
    · have h := ip e_13 h
      refine lv_tableIn (off := 55) (tgt := 77) hx hb dX12_variable_22 (by rw [e_13]; decide) (by rw [e_13]; decide) (by rw [e_13]; rfl) (by decide) ?_
      refine lv_aload_n hx hb dX12_variable_77 rfl (lv_at hl 1 rfl) ?_
      refine rg_13 X hS dX12_variable_78 ?_
      refine lv_iload_n hx hb dX12_variable_81 rfl (lv_at hl 0 rfl) ?_
      obtain ⟨v_14, e_v_14, i_15, h⟩ := rd_of h
      refine ra_13 X hS i_15 e_v_14 dX12_variable_82 ?_
      refine lv_if_eq (tgt := 90) hx hb dX12_variable_83 (by decide) (fun c_16 => ?_) (fun c_16 => ?_)
      · have h := ip (c_16) h
        refine lv_iconst (v := 0) hx hb dX12_variable_90 (by decide) ?_
        obtain ⟨rfl, rfl⟩ := so h
        exact hE _ _ _ _ hS dX12_variable_91
      · have h := im (c_16) h
        refine lv_iconst (v := 1) hx hb dX12_variable_86 (by decide) ?_
        refine lv_goto (tgt := 91) hx hb dX12_variable_87 (by decide) ?_
        obtain ⟨rfl, rfl⟩ := so h
        exact hE _ _ _ _ hS dX12_variable_91
    have h := im e_13 h
    by_cases e_17 : l2 = 4
    · have h := ip e_17 h
      refine lv_tableIn (off := 70) (tgt := 92) hx hb dX12_variable_22 (by rw [e_17]; decide) (by rw [e_17]; decide) (by rw [e_17]; rfl) (by decide) ?_
      refine lv_aload_n hx hb dX12_variable_92 rfl (lv_at hl 1 rfl) ?_
      refine rg_14 X hS dX12_variable_93 ?_
      refine lv_iload_n hx hb dX12_variable_96 rfl (lv_at hl 0 rfl) ?_
      obtain ⟨v_18, e_v_18, i_19, h⟩ := rd_of h
      refine ra_14 X hS i_19 e_v_18 dX12_variable_97 ?_
      obtain ⟨rfl, rfl⟩ := so h
      exact hE _ _ _ _ hS dX12_variable_98
    have h := im e_17 h
    refine lv_tableDef (tgt := 99) hx hb dX12_variable_22 (by decide) (fun off h1 h2 ho => by
      have hI : (l2).toInt = 0 ∨ (l2).toInt = 1 ∨ (l2).toInt = 2 ∨ (l2).toInt = 3 ∨ (l2).toInt = 4 := by omega
      rcases hI with q | q | q | q | q
      · exact absurd (Int32.toInt_inj.mp (q.trans (by decide))) e_4
      · exact absurd (Int32.toInt_inj.mp (q.trans (by decide))) e_7
      · exact absurd (Int32.toInt_inj.mp (q.trans (by decide))) e_10
      · exact absurd (Int32.toInt_inj.mp (q.trans (by decide))) e_13
      · exact absurd (Int32.toInt_inj.mp (q.trans (by decide))) e_17) (by decide) ?_
    refine lv_aload_n hx hb dX12_variable_99 rfl (lv_at hl 1 rfl) ?_
    refine lv_iconst (v := 2) hx hb dX12_variable_100 (by decide) ?_
    obtain ⟨u_20, e_u_20, h⟩ := pu_of h
    refine rp_9 X hS e_u_20 dX12_variable_101 (fun H locs hS => ?_)
    refine lv_iconst (v := 0) hx hb dX12_variable_104 (by decide) ?_
    obtain ⟨rfl, rfl⟩ := so h
    exact hE _ _ _ _ hS dX12_variable_105
  · have h := ip (c_3) h
    refine lv_iconst (v := 0) hx hb dX12_variable_8 (by decide) ?_
    obtain ⟨rfl, rfl⟩ := so h
    exact hE _ _ _ _ hS dX12_variable_9
def F_variable (N : Nat) (l1 : Int32) (l2 : Int32) (u : RSt) : Option (Int32 × RSt) := B_variable_0 N l1 l2 u
set_option maxHeartbeats 4000000 in
theorem k_variable (l : Launch) (D : va_G) (kA : Nat → ClassId) (V Z : Nat → Nat) (N : Nat) (l1 : Int32) (l2 : Int32) (u : RSt) (sz : Nat) {r : Int32} {w : RSt} (h : F_variable N l1 l2 u = some (r, w)) : Met l yX12_variable (Cond.code yX12_variable cX12_variable 4 (some .int) :: GW) { frames := 2, cells := 0, slots := 0, locals := 43 } (rPc D kA V Z [.int l1, .int l2] u sz) (rQi D kA Z u sz r w) 0 0 (va_A (RW kA Z u) sz) := by
  refine Met.ofW (cc := cX12_variable) (maxL := 4) (ret := (some .int)) (by decide) rfl ?_
  intro p e s m args below meth c s₁ Bd hml hv
  obtain ⟨rfl, hsz, hP, hK, hD0, hE⟩ := hv
  have hts := atoms_spec (ws := Cond.code yX12_variable cX12_variable 4 (some .int) :: GW) Bd.pre
  have hl := lv_entry (.ref (Z 200) :: [.int l1, .int l2]) (n := 4) (Nat.le_of_ble_eq_true rfl)
  rw [lg_entry_eq]
  generalize (lg_sl (.ref (Z 200) :: [.int l1, .int l2]) ++ List.replicate (4 - (lg_sl (.ref (Z 200) :: [.int l1, .int l2])).length) Slot.unset).toArray = ls at hl ⊢
  have hl : lv_has ls 4 [(0, .ref (Z 200)), (1, .int l1), (2, .int l2)] := hl
  subst hsz
  have X : RC p s m (.ref (Z 200) :: [.int l1, .int l2]).toArray c cX12_variable 4 (Cond.code yX12_variable cX12_variable 4 (some .int)) D kA V (va_A (RW kA Z u) s.heap.size) := ⟨⟨Bd.exec, Bd.bytes, hml, findClass_of_methodNamed Bd.named, hts⟩, hK, hE, fun q h => Or.inr h⟩
  exact b_variable_0 X (rend_i (cy := cX12_variable) X Bd.returns Bd.notSynchronized) (Nat.le_refl _) (Nat.le_refl _) h ⟨hP, hD0.self, va_S.rf⟩ (lv_sub hl [0, 1, 2] rfl)
def B_field_0 (N : Nat) (l1 : Int32) (l2 : Int32) (l3 : Int32) (u : RSt) : Option (Int64 × RSt) := pu (sI u 9 1) fun u_1 => rd (u_1.2.2.1 42) 2 (u_1.1 55) fun v_2 => if (r_in l1 0 (v_2 - 1)) = (0 : Int32) then (some (0, u_1)) else (rd (u_1.2.2.1 38) 48 ((24 * (u_1.1 55)) + l1) fun v_7 => rd (u_1.2.2.1 29) 48 v_7 fun v_9 => if (r_in l2 0 (v_9 - 1)) = (0 : Int32) then (some (0, u_1)) else (rd (u_1.2.2.1 28) 48 v_7 fun v_14 => rd (u_1.2.2.1 21) 320 (((160 * (u_1.1 55)) + v_14) + l2) fun v_16 => if (r_in l3 0 (v_16 - 1)) = (0 : Int32) then (some (0, u_1)) else (pu (sI u_1 9 0) fun u_21 => rd (u_21.2.2.1 39) 48 ((24 * (u_1.1 55)) + l1) fun v_22 => rd (u_21.2.2.1 23) 320 (((160 * (u_1.1 55)) + v_14) + l2) fun v_24 => rd (u_21.2.2.2 82) 3000 ((v_22 + v_24) + l3) fun v_26 => some (v_26, u_21))))
set_option maxHeartbeats 4000000 in
theorem b_field_0 {r : Int64} (X : RC p s m args c cX12_field 7 (Cond.code yX12_field cX12_field 7 (some .long)) D kA V A) (hE : REl p l e R s m args below meth c cX12_field D kA Z A Q r w) (hF : 1 ≤ R.frames) (hL : 22 ≤ R.locals) {l1 : Int32} {l2 : Int32} {l3 : Int32}  {u : RSt} (h : B_field_0 N l1 l2 l3 u = some (r, w)) (hS : RS D kA Z A s u H locs) (hl : lv_has ls 7 [(0, .ref (Z 200)), (1, .int l1), (2, .int l2), (3, .int l3)]) : W p l e R s m args below meth c H locs 0 0 Q (F0 m 0 ls []) := by
  obtain ⟨⟨hx, hb, hml, hown, hts⟩, hK, hEV, hA⟩ := id X
  have hG : ∀ w ∈ GW, w.before args s = true := fun w h => hts w (List.mem_cons_of_mem _ h)
  unfold B_field_0 at h
  refine lv_aload_n hx hb dX12_field_0 rfl (lv_at hl 0 rfl) ?_
  refine lv_iconst (v := 1) hx hb dX12_field_1 (by decide) ?_
  obtain ⟨u_1, e_u_1, h⟩ := pu_of h
  refine rp_9 X hS e_u_1 dX12_field_2 (fun H locs hS => ?_)
  refine lv_iload_n hx hb dX12_field_5 rfl (lv_at hl 1 rfl) ?_
  refine lv_iconst (v := 0) hx hb dX12_field_6 (by decide) ?_
  refine lv_aload_n hx hb dX12_field_7 rfl (lv_at hl 0 rfl) ?_
  refine rg_42 X hS dX12_field_8 ?_
  refine lv_aload_n hx hb dX12_field_11 rfl (lv_at hl 0 rfl) ?_
  refine rg_55 X hS dX12_field_12 ?_
  obtain ⟨v_2, e_v_2, i_3, h⟩ := rd_of h
  refine ra_42 X hS i_3 e_v_2 dX12_field_15 ?_
  refine lv_iconst (v := 1) hx hb dX12_field_16 (by decide) ?_
  refine lv_isub hx hb dX12_field_17 ?_
  refine vp_callSi (W.runS (As := [.int l1, .int 0, .int (v_2 - 1)]) (rest := []) X.1 (c_X12_in l l1 0 (v_2 - 1)) (va_cwS 3 hts (gw_P gw_2605 gw_2606 gw_16 gwp_X12_in) rfl rfl rfl (by decide +kernel) ⟨Nat.le_trans (Nat.le_of_ble_eq_true rfl) hF, Nat.le_trans (Nat.le_of_ble_eq_true rfl) hL⟩) ⟨fun _ _ _ _ q => q, fun _ _ _ => ⟨rfl, trivial⟩⟩ rfl rfl hl.1 rfl (lv_room (Nat.le_of_ble_eq_true rfl)) dX12_field_18 ⟨Nat.zero_le _, Nat.zero_le _⟩) (fun r_4 q_5 => ?_)
  subst q_5
  refine lv_if_ne (tgt := 26) hx hb dX12_field_21 (by decide) (fun c_6 => ?_) (fun c_6 => ?_)
  · have h := im (c_6) h
    refine lv_bipush (v := 24) hx hb dX12_field_26 (by decide) ?_
    refine lv_aload_n hx hb dX12_field_28 rfl (lv_at hl 0 rfl) ?_
    refine rg_55 X hS dX12_field_29 ?_
    refine lv_imul hx hb dX12_field_32 ?_
    refine lv_iload_n hx hb dX12_field_33 rfl (lv_at hl 1 rfl) ?_
    refine lv_iadd hx hb dX12_field_34 ?_
    refine lv_istore (lv' := [(4, .int ((24 * (u_1.1 55)) + l1)), (0, .ref (Z 200)), (1, .int l1), (2, .int l2), (3, .int l3)]) hx hb dX12_field_35 hl (by decide) rfl (fun ls hl => ?_)
    refine lv_aload_n hx hb dX12_field_37 rfl (lv_at hl 1 rfl) ?_
    refine rg_38 X hS dX12_field_38 ?_
    refine lv_iload hx hb dX12_field_41 (lv_at hl 0 rfl) ?_
    obtain ⟨v_7, e_v_7, i_8, h⟩ := rd_of h
    refine ra_38 X hS i_8 e_v_7 dX12_field_43 ?_
    refine lv_istore (lv' := [(5, .int v_7), (4, .int ((24 * (u_1.1 55)) + l1)), (0, .ref (Z 200)), (1, .int l1), (2, .int l2), (3, .int l3)]) hx hb dX12_field_44 hl (by decide) rfl (fun ls hl => ?_)
    refine lv_iload_n hx hb dX12_field_46 rfl (lv_at hl 4 rfl) ?_
    refine lv_iconst (v := 0) hx hb dX12_field_47 (by decide) ?_
    refine lv_aload_n hx hb dX12_field_48 rfl (lv_at hl 2 rfl) ?_
    refine rg_29 X hS dX12_field_49 ?_
    refine lv_iload hx hb dX12_field_52 (lv_at hl 0 rfl) ?_
    obtain ⟨v_9, e_v_9, i_10, h⟩ := rd_of h
    refine ra_29 X hS i_10 e_v_9 dX12_field_54 ?_
    refine lv_iconst (v := 1) hx hb dX12_field_55 (by decide) ?_
    refine lv_isub hx hb dX12_field_56 ?_
    refine vp_callSi (W.runS (As := [.int l2, .int 0, .int (v_9 - 1)]) (rest := []) X.1 (c_X12_in l l2 0 (v_9 - 1)) (va_cwS 3 hts (gw_P gw_2605 gw_2606 gw_16 gwp_X12_in) rfl rfl rfl (by decide +kernel) ⟨Nat.le_trans (Nat.le_of_ble_eq_true rfl) hF, Nat.le_trans (Nat.le_of_ble_eq_true rfl) hL⟩) ⟨fun _ _ _ _ q => q, fun _ _ _ => ⟨rfl, trivial⟩⟩ rfl rfl hl.1 rfl (lv_room (Nat.le_of_ble_eq_true rfl)) dX12_field_57 ⟨Nat.zero_le _, Nat.zero_le _⟩) (fun r_11 q_12 => ?_)
    subst q_12
    refine lv_if_ne (tgt := 65) hx hb dX12_field_60 (by decide) (fun c_13 => ?_) (fun c_13 => ?_)
    · have h := im (c_13) h
      refine lv_sipush (v := 160) hx hb dX12_field_65 (by decide) ?_
      refine lv_aload_n hx hb dX12_field_68 rfl (lv_at hl 2 rfl) ?_
      refine rg_55 X hS dX12_field_69 ?_
      refine lv_imul hx hb dX12_field_72 ?_
      refine lv_aload_n hx hb dX12_field_73 rfl (lv_at hl 2 rfl) ?_
      refine rg_28 X hS dX12_field_74 ?_
      refine lv_iload hx hb dX12_field_77 (lv_at hl 0 rfl) ?_
      obtain ⟨v_14, e_v_14, i_15, h⟩ := rd_of h
      refine ra_28 X hS i_15 e_v_14 dX12_field_79 ?_
      refine lv_iadd hx hb dX12_field_80 ?_
      refine lv_iload_n hx hb dX12_field_81 rfl (lv_at hl 4 rfl) ?_
      refine lv_iadd hx hb dX12_field_82 ?_
      refine lv_istore (lv' := [(6, .int (((160 * (u_1.1 55)) + v_14) + l2)), (5, .int v_7), (4, .int ((24 * (u_1.1 55)) + l1)), (0, .ref (Z 200)), (1, .int l1), (2, .int l2), (3, .int l3)]) hx hb dX12_field_83 hl (by decide) rfl (fun ls hl => ?_)
      refine lv_iload_n hx hb dX12_field_85 rfl (lv_at hl 6 rfl) ?_
      refine lv_iconst (v := 0) hx hb dX12_field_86 (by decide) ?_
      refine lv_aload_n hx hb dX12_field_87 rfl (lv_at hl 3 rfl) ?_
      refine rg_21 X hS dX12_field_88 ?_
      refine lv_iload hx hb dX12_field_91 (lv_at hl 0 rfl) ?_
      obtain ⟨v_16, e_v_16, i_17, h⟩ := rd_of h
      refine ra_21 X hS i_17 e_v_16 dX12_field_93 ?_
      refine lv_iconst (v := 1) hx hb dX12_field_94 (by decide) ?_
      refine lv_isub hx hb dX12_field_95 ?_
      refine vp_callSi (W.runS (As := [.int l3, .int 0, .int (v_16 - 1)]) (rest := []) X.1 (c_X12_in l l3 0 (v_16 - 1)) (va_cwS 3 hts (gw_P gw_2605 gw_2606 gw_16 gwp_X12_in) rfl rfl rfl (by decide +kernel) ⟨Nat.le_trans (Nat.le_of_ble_eq_true rfl) hF, Nat.le_trans (Nat.le_of_ble_eq_true rfl) hL⟩) ⟨fun _ _ _ _ q => q, fun _ _ _ => ⟨rfl, trivial⟩⟩ rfl rfl hl.1 rfl (lv_room (Nat.le_of_ble_eq_true rfl)) dX12_field_96 ⟨Nat.zero_le _, Nat.zero_le _⟩) (fun r_18 q_19 => ?_)
      subst q_19
      refine lv_if_ne (tgt := 104) hx hb dX12_field_99 (by decide) (fun c_20 => ?_) (fun c_20 => ?_)
      · have h := im (c_20) h
        refine lv_aload_n hx hb dX12_field_104 rfl (lv_at hl 3 rfl) ?_
        refine lv_iconst (v := 0) hx hb dX12_field_105 (by decide) ?_
        obtain ⟨u_21, e_u_21, h⟩ := pu_of h
        refine rp_9 X hS e_u_21 dX12_field_106 (fun H locs hS => ?_)
        refine lv_aload_n hx hb dX12_field_109 rfl (lv_at hl 3 rfl) ?_
        refine rg_82 X hS dX12_field_110 ?_
        refine lv_aload_n hx hb dX12_field_113 rfl (lv_at hl 3 rfl) ?_
        refine rg_39 X hS dX12_field_114 ?_
        refine lv_iload hx hb dX12_field_117 (lv_at hl 2 rfl) ?_
        obtain ⟨v_22, e_v_22, i_23, h⟩ := rd_of h
        refine ra_39 X hS i_23 e_v_22 dX12_field_119 ?_
        refine lv_aload_n hx hb dX12_field_120 rfl (lv_at hl 3 rfl) ?_
        refine rg_23 X hS dX12_field_121 ?_
        refine lv_iload hx hb dX12_field_124 (lv_at hl 0 rfl) ?_
        obtain ⟨v_24, e_v_24, i_25, h⟩ := rd_of h
        refine ra_23 X hS i_25 e_v_24 dX12_field_126 ?_
        refine lv_iadd hx hb dX12_field_127 ?_
        refine lv_iload_n hx hb dX12_field_128 rfl (lv_at hl 6 rfl) ?_
        refine lv_iadd hx hb dX12_field_129 ?_
        obtain ⟨v_26, e_v_26, i_27, h⟩ := rd_of h
        refine ra_82 X hS i_27 e_v_26 dX12_field_130 ?_
        obtain ⟨rfl, rfl⟩ := so h
        exact hE _ _ _ _ hS dX12_field_131
      · have h := ip (c_20) h
        refine lv_lconst (v := 0) hx hb dX12_field_102 (by decide) ?_
        obtain ⟨rfl, rfl⟩ := so h
        exact hE _ _ _ _ hS dX12_field_103
    · have h := ip (c_13) h
      refine lv_lconst (v := 0) hx hb dX12_field_63 (by decide) ?_
      obtain ⟨rfl, rfl⟩ := so h
      exact hE _ _ _ _ hS dX12_field_64
  · have h := ip (c_6) h
    refine lv_lconst (v := 0) hx hb dX12_field_24 (by decide) ?_
    obtain ⟨rfl, rfl⟩ := so h
    exact hE _ _ _ _ hS dX12_field_25
def F_field (N : Nat) (l1 : Int32) (l2 : Int32) (l3 : Int32) (u : RSt) : Option (Int64 × RSt) := B_field_0 N l1 l2 l3 u
set_option maxHeartbeats 4000000 in
theorem k_field (l : Launch) (D : va_G) (kA : Nat → ClassId) (V Z : Nat → Nat) (N : Nat) (l1 : Int32) (l2 : Int32) (l3 : Int32) (u : RSt) (sz : Nat) {r : Int64} {w : RSt} (h : F_field N l1 l2 l3 u = some (r, w)) : Met l yX12_field (Cond.code yX12_field cX12_field 7 (some .long) :: GW) { frames := 1, cells := 0, slots := 0, locals := 22 } (rPc D kA V Z [.int l1, .int l2, .int l3] u sz) (rQl D kA Z u sz r w) 0 0 (va_A (RW kA Z u) sz) := by
  refine Met.ofW (cc := cX12_field) (maxL := 7) (ret := (some .long)) (by decide) rfl ?_
  intro p e s m args below meth c s₁ Bd hml hv
  obtain ⟨rfl, hsz, hP, hK, hD0, hE⟩ := hv
  have hts := atoms_spec (ws := Cond.code yX12_field cX12_field 7 (some .long) :: GW) Bd.pre
  have hl := lv_entry (.ref (Z 200) :: [.int l1, .int l2, .int l3]) (n := 7) (Nat.le_of_ble_eq_true rfl)
  rw [lg_entry_eq]
  generalize (lg_sl (.ref (Z 200) :: [.int l1, .int l2, .int l3]) ++ List.replicate (7 - (lg_sl (.ref (Z 200) :: [.int l1, .int l2, .int l3])).length) Slot.unset).toArray = ls at hl ⊢
  have hl : lv_has ls 7 [(0, .ref (Z 200)), (1, .int l1), (2, .int l2), (3, .int l3)] := hl
  subst hsz
  have X : RC p s m (.ref (Z 200) :: [.int l1, .int l2, .int l3]).toArray c cX12_field 7 (Cond.code yX12_field cX12_field 7 (some .long)) D kA V (va_A (RW kA Z u) s.heap.size) := ⟨⟨Bd.exec, Bd.bytes, hml, findClass_of_methodNamed Bd.named, hts⟩, hK, hE, fun q h => Or.inr h⟩
  exact b_field_0 X (rend_l (cy := cX12_field) X Bd.returns Bd.notSynchronized) (Nat.le_refl _) (Nat.le_refl _) h ⟨hP, hD0.self, va_S.rf⟩ (lv_sub hl [0, 1, 2, 3] rfl)
def B_trace_45 (N : Nat) (R_14 : Int32 × Int32 × Int32 × Int32 × RSt → Option (Int32 × RSt)) (l1 : Int32) (l2 : Int32) (l3 : Int32) (l4 : Int32) (u : RSt) : Option (Int32 × RSt) := R_14 (l1, l2, l3, (l4 + 1), u)
set_option maxHeartbeats 4000000 in
theorem b_trace_45 {r : Int32} (X : RC p s m args c cX12_trace 7 (Cond.code yX12_trace cX12_trace 7 (some .boolean)) D kA V A) (hE : REz p l e R s m args below meth c cX12_trace D kA Z A Q r w) (hF : 3 ≤ R.frames) (hL : 71 ≤ R.locals) {R_14 : Int32 × Int32 × Int32 × Int32 × RSt → Option (Int32 × RSt)} {l1 : Int32} {l2 : Int32} {l3 : Int32} {l4 : Int32} (hR_14 : ∀ (l1 : Int32) (l2 : Int32) (l3 : Int32) (l4 : Int32) (u : RSt), R_14 (l1, l2, l3, l4, u) = some (r, w) → ∀ (H : Heap) (locs : List Loc) (ls : Array Slot), RS D kA Z A s u H locs → lv_has ls 7 [(0, .ref (Z 200)), (1, .int l1), (2, .int l2), (3, .int l3), (4, .int l4)] → W p l e R s m args below meth c H locs 0 0 Q (F0 m 14 ls [])) {u : RSt} (h : B_trace_45 N R_14 l1 l2 l3 l4 u = some (r, w)) (hS : RS D kA Z A s u H locs) (hl : lv_has ls 7 [(0, .ref (Z 200)), (1, .int l1), (2, .int l2), (3, .int l3), (4, .int l4)]) : W p l e R s m args below meth c H locs 0 0 Q (F0 m 45 ls []) := by
  obtain ⟨⟨hx, hb, hml, hown, hts⟩, hK, hEV, hA⟩ := id X
  have hG : ∀ w ∈ GW, w.before args s = true := fun w h => hts w (List.mem_cons_of_mem _ h)
  unfold B_trace_45 at h
  refine lv_iinc (v := l4 + 1) (lv' := [(4, .int (l4 + 1)), (0, .ref (Z 200)), (1, .int l1), (2, .int l2), (3, .int l3)]) hx hb dX12_trace_45 hl (k := 4) rfl rfl (by decide) rfl (fun ls hl => ?_)
  refine lv_goto (tgt := 14) hx hb dX12_trace_48 (by decide) ?_
  exact hR_14 _ _ _ _ _ h _ _ _ hS (lv_sub hl [1, 2, 3, 4, 0] rfl)
def B_trace_164 (N : Nat) (R_164 : Int32 × RSt → Option (Int32 × RSt)) (l6 : Int32) (u : RSt) : Option (Int32 × RSt) := if (u.1 98) ≤ l6 then (some (1, u)) else (rd (u.2.2.1 95) 16 (l6 + 1) fun v_2 => wr 16 l6 (sA u 95 l6.toNatClampNeg v_2) fun u_4 => rd (u_4.2.2.1 96) 16 (l6 + 1) fun v_6 => wr 16 l6 (sA u_4 96 l6.toNatClampNeg v_6) fun u_8 => rd (u_8.2.2.2 97) 16 (l6 + 1) fun v_10 => wr 16 l6 (sB u_8 97 l6.toNatClampNeg v_10) fun u_12 => R_164 ((l6 + 1), u_12))
set_option maxHeartbeats 4000000 in
theorem b_trace_164 {r : Int32} (X : RC p s m args c cX12_trace 7 (Cond.code yX12_trace cX12_trace 7 (some .boolean)) D kA V A) (hE : REz p l e R s m args below meth c cX12_trace D kA Z A Q r w) (hF : 3 ≤ R.frames) (hL : 71 ≤ R.locals) {R_164 : Int32 × RSt → Option (Int32 × RSt)} {l6 : Int32} (hR_164 : ∀ (l6 : Int32) (u : RSt), R_164 (l6, u) = some (r, w) → ∀ (H : Heap) (locs : List Loc) (ls : Array Slot), RS D kA Z A s u H locs → lv_has ls 7 [(0, .ref (Z 200)), (6, .int l6)] → W p l e R s m args below meth c H locs 0 0 Q (F0 m 164 ls [])) {u : RSt} (h : B_trace_164 N R_164 l6 u = some (r, w)) (hS : RS D kA Z A s u H locs) (hl : lv_has ls 7 [(0, .ref (Z 200)), (6, .int l6)]) : W p l e R s m args below meth c H locs 0 0 Q (F0 m 164 ls []) := by
  obtain ⟨⟨hx, hb, hml, hown, hts⟩, hK, hEV, hA⟩ := id X
  have hG : ∀ w ∈ GW, w.before args s = true := fun w h => hts w (List.mem_cons_of_mem _ h)
  unfold B_trace_164 at h
  refine lv_iload hx hb dX12_trace_164 (lv_at hl 1 rfl) ?_
  refine lv_aload_n hx hb dX12_trace_166 rfl (lv_at hl 0 rfl) ?_
  refine rg_98 X hS dX12_trace_167 ?_
  refine lv_icmp_ge (tgt := 227) hx hb dX12_trace_170 (by decide) (fun c_1 => ?_) (fun c_1 => ?_)
  · have h := ip (c_1) h
    refine lv_iconst (v := 1) hx hb dX12_trace_227 (by decide) ?_
    obtain ⟨rfl, rfl⟩ := so h
    exact hE _ _ _ _ hS (Or.inr rfl) dX12_trace_228
  · have h := im (c_1) h
    refine lv_aload_n hx hb dX12_trace_173 rfl (lv_at hl 0 rfl) ?_
    refine rg_95 X hS dX12_trace_174 ?_
    refine lv_iload hx hb dX12_trace_177 (lv_at hl 1 rfl) ?_
    refine lv_aload_n hx hb dX12_trace_179 rfl (lv_at hl 0 rfl) ?_
    refine rg_95 X hS dX12_trace_180 ?_
    refine lv_iload hx hb dX12_trace_183 (lv_at hl 1 rfl) ?_
    refine lv_iconst (v := 1) hx hb dX12_trace_185 (by decide) ?_
    refine lv_iadd hx hb dX12_trace_186 ?_
    obtain ⟨v_2, e_v_2, i_3, h⟩ := rd_of h
    refine ra_95 X hS i_3 e_v_2 dX12_trace_187 ?_
    obtain ⟨u_4, e_u_4, i_5, h⟩ := wr_of h
    refine rs_95 X hS i_5 e_u_4 dX12_trace_188 (fun H locs hS => ?_)
    refine lv_aload_n hx hb dX12_trace_189 rfl (lv_at hl 0 rfl) ?_
    refine rg_96 X hS dX12_trace_190 ?_
    refine lv_iload hx hb dX12_trace_193 (lv_at hl 1 rfl) ?_
    refine lv_aload_n hx hb dX12_trace_195 rfl (lv_at hl 0 rfl) ?_
    refine rg_96 X hS dX12_trace_196 ?_
    refine lv_iload hx hb dX12_trace_199 (lv_at hl 1 rfl) ?_
    refine lv_iconst (v := 1) hx hb dX12_trace_201 (by decide) ?_
    refine lv_iadd hx hb dX12_trace_202 ?_
    obtain ⟨v_6, e_v_6, i_7, h⟩ := rd_of h
    refine ra_96 X hS i_7 e_v_6 dX12_trace_203 ?_
    obtain ⟨u_8, e_u_8, i_9, h⟩ := wr_of h
    refine rs_96 X hS i_9 e_u_8 dX12_trace_204 (fun H locs hS => ?_)
    refine lv_aload_n hx hb dX12_trace_205 rfl (lv_at hl 0 rfl) ?_
    refine rg_97 X hS dX12_trace_206 ?_
    refine lv_iload hx hb dX12_trace_209 (lv_at hl 1 rfl) ?_
    refine lv_aload_n hx hb dX12_trace_211 rfl (lv_at hl 0 rfl) ?_
    refine rg_97 X hS dX12_trace_212 ?_
    refine lv_iload hx hb dX12_trace_215 (lv_at hl 1 rfl) ?_
    refine lv_iconst (v := 1) hx hb dX12_trace_217 (by decide) ?_
    refine lv_iadd hx hb dX12_trace_218 ?_
    obtain ⟨v_10, e_v_10, i_11, h⟩ := rd_of h
    refine ra_97 X hS i_11 e_v_10 dX12_trace_219 ?_
    obtain ⟨u_12, e_u_12, i_13, h⟩ := wr_of h
    refine rs_97 X hS i_13 e_u_12 dX12_trace_220 (fun H locs hS => ?_)
    refine lv_iinc (v := l6 + 1) (lv' := [(6, .int (l6 + 1)), (0, .ref (Z 200))]) hx hb dX12_trace_221 hl (k := 1) rfl rfl (by decide) rfl (fun ls hl => ?_)
    refine lv_goto (tgt := 164) hx hb dX12_trace_224 (by decide) ?_
    exact hR_164 _ _ h _ _ _ hS (lv_sub hl [1, 0] rfl)
def LP_trace_164 (N : Nat) : Nat → Int32 × RSt → Option (Int32 × RSt) := lp (fun R a => B_trace_164 N R a.1 a.2)
theorem bl_trace_164 {r : Int32} (X : RC p s m args c cX12_trace 7 (Cond.code yX12_trace cX12_trace 7 (some .boolean)) D kA V A) (hE : REz p l e R s m args below meth c cX12_trace D kA Z A Q r w) (hF : 3 ≤ R.frames) (hL : 71 ≤ R.locals)  : ∀ (n : Nat) (l6 : Int32) (u : RSt), LP_trace_164 N n (l6, u) = some (r, w) → ∀ (H : Heap) (locs : List Loc) (ls : Array Slot), RS D kA Z A s u H locs → lv_has ls 7 [(0, .ref (Z 200)), (6, .int l6)] → W p l e R s m args below meth c H locs 0 0 Q (F0 m 164 ls []) := by
  intro n
  induction n with
  | zero => intro l6 u h; exact nomatch h
  | succ n ih => intro l6 u h H locs ls hS hl; exact b_trace_164 (N := N) (R_164 := LP_trace_164 N n) X hE hF hL  ih h hS hl
def B_trace_90 (N : Nat) (l1 : Int32) (l2 : Int32) (l3 : Int32) (l4 : Int32) (l5 : Int32) (u : RSt) : Option (Int32 × RSt) := if (0 : Int32) < (u.1 9) then (some (0, u)) else (if l3 = l5 then (some (0, u)) else (if l3 = (0 : Int32) then (pu (sI u 98 ((u.1 98) - 1)) fun u_17 => LP_trace_164 N N (l4, u_17)) else (wr 16 l4 (sA u 95 l4.toNatClampNeg l1) fun u_18 => wr 16 l4 (sA u_18 96 l4.toNatClampNeg l2) fun u_20 => bn (F_numberOf N l1 l2 u_20) fun r_23 u_22 => wr 16 l4 (sB u_22 97 l4.toNatClampNeg r_23) fun u_24 => pu (sI u_24 98 ((u_24.1 98) + 1)) fun u_26 => some (1, u_26))))
set_option maxHeartbeats 4000000 in
theorem b_trace_90 {r : Int32} (X : RC p s m args c cX12_trace 7 (Cond.code yX12_trace cX12_trace 7 (some .boolean)) D kA V A) (hE : REz p l e R s m args below meth c cX12_trace D kA Z A Q r w) (hF : 3 ≤ R.frames) (hL : 71 ≤ R.locals) {l1 : Int32} {l2 : Int32} {l3 : Int32} {l4 : Int32} {l5 : Int32}  {u : RSt} (h : B_trace_90 N l1 l2 l3 l4 l5 u = some (r, w)) (hS : RS D kA Z A s u H locs) (hl : lv_has ls 7 [(0, .ref (Z 200)), (1, .int l1), (2, .int l2), (3, .int l3), (4, .int l4), (5, .int l5)]) : W p l e R s m args below meth c H locs 0 0 Q (F0 m 90 ls []) := by
  obtain ⟨⟨hx, hb, hml, hown, hts⟩, hK, hEV, hA⟩ := id X
  have hG : ∀ w ∈ GW, w.before args s = true := fun w h => hts w (List.mem_cons_of_mem _ h)
  unfold B_trace_90 at h
  refine lv_aload_n hx hb dX12_trace_90 rfl (lv_at hl 0 rfl) ?_
  refine rg_9 X hS dX12_trace_91 ?_
  refine lv_if_gt (tgt := 103) hx hb dX12_trace_94 (by decide) (fun c_14 => ?_) (fun c_14 => ?_)
  · have h := ip (c_14) h
    refine lv_iconst (v := 0) hx hb dX12_trace_103 (by decide) ?_
    obtain ⟨rfl, rfl⟩ := so h
    exact hE _ _ _ _ hS (Or.inl rfl) dX12_trace_104
  · have h := im (c_14) h
    refine lv_iload_n hx hb dX12_trace_97 rfl (lv_at hl 3 rfl) ?_
    refine lv_iload hx hb dX12_trace_98 (lv_at hl 5 rfl) ?_
    refine lv_icmp_ne (tgt := 105) hx hb dX12_trace_100 (by decide) (fun c_15 => ?_) (fun c_15 => ?_)
    · have h := im (c_15) h
      refine lv_iload_n hx hb dX12_trace_105 rfl (lv_at hl 3 rfl) ?_
      refine lv_if_eq (tgt := 150) hx hb dX12_trace_106 (by decide) (fun c_16 => ?_) (fun c_16 => ?_)
      · have h := ip (c_16) h
        refine lv_aload_n hx hb dX12_trace_150 rfl (lv_at hl 0 rfl) ?_
        refine lv_dup hx hb dX12_trace_151 rfl ?_
        refine rg_98 X hS dX12_trace_152 ?_
        refine lv_iconst (v := 1) hx hb dX12_trace_155 (by decide) ?_
        refine lv_isub hx hb dX12_trace_156 ?_
        obtain ⟨u_17, e_u_17, h⟩ := pu_of h
        refine rp_98 X hS e_u_17 dX12_trace_157 (fun H locs hS => ?_)
        refine lv_iload hx hb dX12_trace_160 (lv_at hl 4 rfl) ?_
        refine lv_istore (lv' := [(6, .int l4), (0, .ref (Z 200)), (1, .int l1), (2, .int l2), (3, .int l3), (4, .int l4), (5, .int l5)]) hx hb dX12_trace_162 hl (by decide) rfl (fun ls hl => ?_)
        exact bl_trace_164 X hE hF hL  _ _ _ h _ _ _ hS (lv_sub hl [1, 0] rfl)
      · have h := im (c_16) h
        refine lv_aload_n hx hb dX12_trace_109 rfl (lv_at hl 0 rfl) ?_
        refine rg_95 X hS dX12_trace_110 ?_
        refine lv_iload hx hb dX12_trace_113 (lv_at hl 4 rfl) ?_
        refine lv_iload_n hx hb dX12_trace_115 rfl (lv_at hl 1 rfl) ?_
        obtain ⟨u_18, e_u_18, i_19, h⟩ := wr_of h
        refine rs_95 X hS i_19 e_u_18 dX12_trace_116 (fun H locs hS => ?_)
        refine lv_aload_n hx hb dX12_trace_117 rfl (lv_at hl 0 rfl) ?_
        refine rg_96 X hS dX12_trace_118 ?_
        refine lv_iload hx hb dX12_trace_121 (lv_at hl 4 rfl) ?_
        refine lv_iload_n hx hb dX12_trace_123 rfl (lv_at hl 2 rfl) ?_
        obtain ⟨u_20, e_u_20, i_21, h⟩ := wr_of h
        refine rs_96 X hS i_21 e_u_20 dX12_trace_124 (fun H locs hS => ?_)
        refine lv_aload_n hx hb dX12_trace_125 rfl (lv_at hl 0 rfl) ?_
        refine rg_97 X hS dX12_trace_126 ?_
        refine lv_iload hx hb dX12_trace_129 (lv_at hl 4 rfl) ?_
        refine lv_aload_n hx hb dX12_trace_131 rfl (lv_at hl 0 rfl) ?_
        refine lv_iload_n hx hb dX12_trace_132 rfl (lv_at hl 1 rfl) ?_
        refine lv_iload_n hx hb dX12_trace_133 rfl (lv_at hl 2 rfl) ?_
        obtain ⟨r_23, u_22, h_u_22, h⟩ := bn_of h
        refine kc_numberOf X hS h_u_22 (Nat.le_trans (Nat.le_of_ble_eq_true rfl) hF) (Nat.le_trans (Nat.le_of_ble_eq_true rfl) hL) hl.1 (Nat.le_of_ble_eq_true rfl) dX12_trace_134 (fun H locs hS => ?_)
        obtain ⟨u_24, e_u_24, i_25, h⟩ := wr_of h
        refine rs_97 X hS i_25 e_u_24 dX12_trace_137 (fun H locs hS => ?_)
        refine lv_aload_n hx hb dX12_trace_138 rfl (lv_at hl 0 rfl) ?_
        refine lv_dup hx hb dX12_trace_139 rfl ?_
        refine rg_98 X hS dX12_trace_140 ?_
        refine lv_iconst (v := 1) hx hb dX12_trace_143 (by decide) ?_
        refine lv_iadd hx hb dX12_trace_144 ?_
        obtain ⟨u_26, e_u_26, h⟩ := pu_of h
        refine rp_98 X hS e_u_26 dX12_trace_145 (fun H locs hS => ?_)
        refine lv_iconst (v := 1) hx hb dX12_trace_148 (by decide) ?_
        obtain ⟨rfl, rfl⟩ := so h
        exact hE _ _ _ _ hS (Or.inr rfl) dX12_trace_149
    · have h := ip (c_15) h
      refine lv_iconst (v := 0) hx hb dX12_trace_103 (by decide) ?_
      obtain ⟨rfl, rfl⟩ := so h
      exact hE _ _ _ _ hS (Or.inl rfl) dX12_trace_104
def B_trace_65 (N : Nat) (l1 : Int32) (l2 : Int32) (l3 : Int32) (l4 : Int32) (s0 : Int32) (u : RSt) : Option (Int32 × RSt) := if l3 = (0 : Int32) then (B_trace_90 N l1 l2 l3 l4 s0 u) else (if s0 = (0 : Int32) then (if (u.1 98) = (16 : Int32) then (pu (sI u 9 2) fun u_30 => B_trace_90 N l1 l2 l3 l4 s0 u_30) else (B_trace_90 N l1 l2 l3 l4 s0 u)) else (B_trace_90 N l1 l2 l3 l4 s0 u))
set_option maxHeartbeats 4000000 in
theorem b_trace_65 {r : Int32} (X : RC p s m args c cX12_trace 7 (Cond.code yX12_trace cX12_trace 7 (some .boolean)) D kA V A) (hE : REz p l e R s m args below meth c cX12_trace D kA Z A Q r w) (hF : 3 ≤ R.frames) (hL : 71 ≤ R.locals) {l1 : Int32} {l2 : Int32} {l3 : Int32} {l4 : Int32} {s0 : Int32}  {u : RSt} (h : B_trace_65 N l1 l2 l3 l4 s0 u = some (r, w)) (hS : RS D kA Z A s u H locs) (hl : lv_has ls 7 [(0, .ref (Z 200)), (1, .int l1), (2, .int l2), (3, .int l3), (4, .int l4)]) : W p l e R s m args below meth c H locs 0 0 Q (F0 m 65 ls [.int s0]) := by
  obtain ⟨⟨hx, hb, hml, hown, hts⟩, hK, hEV, hA⟩ := id X
  have hG : ∀ w ∈ GW, w.before args s = true := fun w h => hts w (List.mem_cons_of_mem _ h)
  unfold B_trace_65 at h
  refine lv_istore (lv' := [(5, .int s0), (0, .ref (Z 200)), (1, .int l1), (2, .int l2), (3, .int l3), (4, .int l4)]) hx hb dX12_trace_65 hl (by decide) rfl (fun ls hl => ?_)
  refine lv_iload_n hx hb dX12_trace_67 rfl (lv_at hl 4 rfl) ?_
  refine lv_if_eq (tgt := 90) hx hb dX12_trace_68 (by decide) (fun c_27 => ?_) (fun c_27 => ?_)
  · have h := ip (c_27) h
    exact b_trace_90 X hE hF hL  h hS (lv_sub hl [1, 2, 3, 4, 5, 0] rfl)
  · have h := im (c_27) h
    refine lv_iload hx hb dX12_trace_71 (lv_at hl 0 rfl) ?_
    refine lv_if_ne (tgt := 90) hx hb dX12_trace_73 (by decide) (fun c_28 => ?_) (fun c_28 => ?_)
    · have h := im (c_28) h
      exact b_trace_90 X hE hF hL  h hS (lv_sub hl [1, 2, 3, 4, 5, 0] rfl)
    · have h := ip (c_28) h
      refine lv_aload_n hx hb dX12_trace_76 rfl (lv_at hl 1 rfl) ?_
      refine rg_98 X hS dX12_trace_77 ?_
      refine lv_bipush (v := 16) hx hb dX12_trace_80 (by decide) ?_
      refine lv_icmp_ne (tgt := 90) hx hb dX12_trace_82 (by decide) (fun c_29 => ?_) (fun c_29 => ?_)
      · have h := im (c_29) h
        exact b_trace_90 X hE hF hL  h hS (lv_sub hl [1, 2, 3, 4, 5, 0] rfl)
      · have h := ip (c_29) h
        refine lv_aload_n hx hb dX12_trace_85 rfl (lv_at hl 1 rfl) ?_
        refine lv_iconst (v := 2) hx hb dX12_trace_86 (by decide) ?_
        obtain ⟨u_30, e_u_30, h⟩ := pu_of h
        refine rp_9 X hS e_u_30 dX12_trace_87 (fun H locs hS => ?_)
        exact b_trace_90 X hE hF hL  h hS (lv_sub hl [1, 2, 3, 4, 5, 0] rfl)
def B_trace_51 (N : Nat) (l1 : Int32) (l2 : Int32) (l3 : Int32) (l4 : Int32) (u : RSt) : Option (Int32 × RSt) := if (u.1 98) ≤ l4 then (B_trace_65 N l1 l2 l3 l4 0 u) else (B_trace_65 N l1 l2 l3 l4 1 u)
set_option maxHeartbeats 4000000 in
theorem b_trace_51 {r : Int32} (X : RC p s m args c cX12_trace 7 (Cond.code yX12_trace cX12_trace 7 (some .boolean)) D kA V A) (hE : REz p l e R s m args below meth c cX12_trace D kA Z A Q r w) (hF : 3 ≤ R.frames) (hL : 71 ≤ R.locals) {l1 : Int32} {l2 : Int32} {l3 : Int32} {l4 : Int32}  {u : RSt} (h : B_trace_51 N l1 l2 l3 l4 u = some (r, w)) (hS : RS D kA Z A s u H locs) (hl : lv_has ls 7 [(0, .ref (Z 200)), (1, .int l1), (2, .int l2), (3, .int l3), (4, .int l4)]) : W p l e R s m args below meth c H locs 0 0 Q (F0 m 51 ls []) := by
  obtain ⟨⟨hx, hb, hml, hown, hts⟩, hK, hEV, hA⟩ := id X
  have hG : ∀ w ∈ GW, w.before args s = true := fun w h => hts w (List.mem_cons_of_mem _ h)
  unfold B_trace_51 at h
  refine lv_iload hx hb dX12_trace_51 (lv_at hl 4 rfl) ?_
  refine lv_aload_n hx hb dX12_trace_53 rfl (lv_at hl 0 rfl) ?_
  refine rg_98 X hS dX12_trace_54 ?_
  refine lv_icmp_ge (tgt := 64) hx hb dX12_trace_57 (by decide) (fun c_31 => ?_) (fun c_31 => ?_)
  · have h := ip (c_31) h
    refine lv_iconst (v := 0) hx hb dX12_trace_64 (by decide) ?_
    exact b_trace_65 X hE hF hL  h hS (lv_sub hl [0, 1, 2, 3, 4] rfl)
  · have h := im (c_31) h
    refine lv_iconst (v := 1) hx hb dX12_trace_60 (by decide) ?_
    refine lv_goto (tgt := 65) hx hb dX12_trace_61 (by decide) ?_
    exact b_trace_65 X hE hF hL  h hS (lv_sub hl [0, 1, 2, 3, 4] rfl)
def B_trace_14 (N : Nat) (R_14 : Int32 × Int32 × Int32 × Int32 × RSt → Option (Int32 × RSt)) (l1 : Int32) (l2 : Int32) (l3 : Int32) (l4 : Int32) (u : RSt) : Option (Int32 × RSt) := if (u.1 98) ≤ l4 then (B_trace_51 N l1 l2 l3 l4 u) else (rd (u.2.2.1 95) 16 l4 fun v_33 => if v_33 = l1 then (rd (u.2.2.1 96) 16 l4 fun v_36 => if v_36 = l2 then (B_trace_51 N l1 l2 l3 l4 u) else (B_trace_45 N R_14 l1 l2 l3 l4 u)) else (B_trace_45 N R_14 l1 l2 l3 l4 u))
set_option maxHeartbeats 4000000 in
theorem b_trace_14 {r : Int32} (X : RC p s m args c cX12_trace 7 (Cond.code yX12_trace cX12_trace 7 (some .boolean)) D kA V A) (hE : REz p l e R s m args below meth c cX12_trace D kA Z A Q r w) (hF : 3 ≤ R.frames) (hL : 71 ≤ R.locals) {R_14 : Int32 × Int32 × Int32 × Int32 × RSt → Option (Int32 × RSt)} {l1 : Int32} {l2 : Int32} {l3 : Int32} {l4 : Int32} (hR_14 : ∀ (l1 : Int32) (l2 : Int32) (l3 : Int32) (l4 : Int32) (u : RSt), R_14 (l1, l2, l3, l4, u) = some (r, w) → ∀ (H : Heap) (locs : List Loc) (ls : Array Slot), RS D kA Z A s u H locs → lv_has ls 7 [(0, .ref (Z 200)), (1, .int l1), (2, .int l2), (3, .int l3), (4, .int l4)] → W p l e R s m args below meth c H locs 0 0 Q (F0 m 14 ls [])) {u : RSt} (h : B_trace_14 N R_14 l1 l2 l3 l4 u = some (r, w)) (hS : RS D kA Z A s u H locs) (hl : lv_has ls 7 [(0, .ref (Z 200)), (1, .int l1), (2, .int l2), (3, .int l3), (4, .int l4)]) : W p l e R s m args below meth c H locs 0 0 Q (F0 m 14 ls []) := by
  obtain ⟨⟨hx, hb, hml, hown, hts⟩, hK, hEV, hA⟩ := id X
  have hG : ∀ w ∈ GW, w.before args s = true := fun w h => hts w (List.mem_cons_of_mem _ h)
  unfold B_trace_14 at h
  refine lv_iload hx hb dX12_trace_14 (lv_at hl 4 rfl) ?_
  refine lv_aload_n hx hb dX12_trace_16 rfl (lv_at hl 0 rfl) ?_
  refine rg_98 X hS dX12_trace_17 ?_
  refine lv_icmp_ge (tgt := 51) hx hb dX12_trace_20 (by decide) (fun c_32 => ?_) (fun c_32 => ?_)
  · have h := ip (c_32) h
    exact b_trace_51 X hE hF hL  h hS (lv_sub hl [0, 1, 2, 3, 4] rfl)
  · have h := im (c_32) h
    refine lv_aload_n hx hb dX12_trace_23 rfl (lv_at hl 0 rfl) ?_
    refine rg_95 X hS dX12_trace_24 ?_
    refine lv_iload hx hb dX12_trace_27 (lv_at hl 4 rfl) ?_
    obtain ⟨v_33, e_v_33, i_34, h⟩ := rd_of h
    refine ra_95 X hS i_34 e_v_33 dX12_trace_29 ?_
    refine lv_iload_n hx hb dX12_trace_30 rfl (lv_at hl 1 rfl) ?_
    refine lv_icmp_ne (tgt := 45) hx hb dX12_trace_31 (by decide) (fun c_35 => ?_) (fun c_35 => ?_)
    · have h := im (c_35) h
      exact b_trace_45 X hE hF hL hR_14 h hS (lv_sub hl [0, 1, 2, 3, 4] rfl)
    · have h := ip (c_35) h
      refine lv_aload_n hx hb dX12_trace_34 rfl (lv_at hl 0 rfl) ?_
      refine rg_96 X hS dX12_trace_35 ?_
      refine lv_iload hx hb dX12_trace_38 (lv_at hl 4 rfl) ?_
      obtain ⟨v_36, e_v_36, i_37, h⟩ := rd_of h
      refine ra_96 X hS i_37 e_v_36 dX12_trace_40 ?_
      refine lv_iload_n hx hb dX12_trace_41 rfl (lv_at hl 2 rfl) ?_
      refine lv_icmp_eq (tgt := 51) hx hb dX12_trace_42 (by decide) (fun c_38 => ?_) (fun c_38 => ?_)
      · have h := ip (c_38) h
        exact b_trace_51 X hE hF hL  h hS (lv_sub hl [0, 1, 2, 3, 4] rfl)
      · have h := im (c_38) h
        exact b_trace_45 X hE hF hL hR_14 h hS (lv_sub hl [0, 1, 2, 3, 4] rfl)
def LP_trace_14 (N : Nat) : Nat → Int32 × Int32 × Int32 × Int32 × RSt → Option (Int32 × RSt) := lp (fun R a => B_trace_14 N R a.1 a.2.1 a.2.2.1 a.2.2.2.1 a.2.2.2.2)
theorem bl_trace_14 {r : Int32} (X : RC p s m args c cX12_trace 7 (Cond.code yX12_trace cX12_trace 7 (some .boolean)) D kA V A) (hE : REz p l e R s m args below meth c cX12_trace D kA Z A Q r w) (hF : 3 ≤ R.frames) (hL : 71 ≤ R.locals)  : ∀ (n : Nat) (l1 : Int32) (l2 : Int32) (l3 : Int32) (l4 : Int32) (u : RSt), LP_trace_14 N n (l1, l2, l3, l4, u) = some (r, w) → ∀ (H : Heap) (locs : List Loc) (ls : Array Slot), RS D kA Z A s u H locs → lv_has ls 7 [(0, .ref (Z 200)), (1, .int l1), (2, .int l2), (3, .int l3), (4, .int l4)] → W p l e R s m args below meth c H locs 0 0 Q (F0 m 14 ls []) := by
  intro n
  induction n with
  | zero => intro l1 l2 l3 l4 u h; exact nomatch h
  | succ n ih => intro l1 l2 l3 l4 u h H locs ls hS hl; exact b_trace_14 (N := N) (R_14 := LP_trace_14 N n) X hE hF hL  ih h hS hl
def B_trace_0 (N : Nat) (l1 : Int32) (l2 : Int32) (l3 : Int32) (u : RSt) : Option (Int32 × RSt) := bn (F_hasPlace N l1 l2 u) fun r_40 u_39 => if r_40 = (0 : Int32) then (some (0, u_39)) else (LP_trace_14 N N (l1, l2, l3, 0, u_39))
set_option maxHeartbeats 4000000 in
theorem b_trace_0 {r : Int32} (X : RC p s m args c cX12_trace 7 (Cond.code yX12_trace cX12_trace 7 (some .boolean)) D kA V A) (hE : REz p l e R s m args below meth c cX12_trace D kA Z A Q r w) (hF : 3 ≤ R.frames) (hL : 71 ≤ R.locals) {l1 : Int32} {l2 : Int32} {l3 : Int32}  {u : RSt} (h : B_trace_0 N l1 l2 l3 u = some (r, w)) (hS : RS D kA Z A s u H locs) (hl : lv_has ls 7 [(0, .ref (Z 200)), (1, .int l1), (2, .int l2), (3, .int l3)]) : W p l e R s m args below meth c H locs 0 0 Q (F0 m 0 ls []) := by
  obtain ⟨⟨hx, hb, hml, hown, hts⟩, hK, hEV, hA⟩ := id X
  have hG : ∀ w ∈ GW, w.before args s = true := fun w h => hts w (List.mem_cons_of_mem _ h)
  unfold B_trace_0 at h
  refine lv_aload_n hx hb dX12_trace_0 rfl (lv_at hl 0 rfl) ?_
  refine lv_iload_n hx hb dX12_trace_1 rfl (lv_at hl 1 rfl) ?_
  refine lv_iload_n hx hb dX12_trace_2 rfl (lv_at hl 2 rfl) ?_
  obtain ⟨r_40, u_39, h_u_39, h⟩ := bn_of h
  refine kc_hasPlace X hS h_u_39 (Nat.le_trans (Nat.le_of_ble_eq_true rfl) hF) (Nat.le_trans (Nat.le_of_ble_eq_true rfl) hL) hl.1 (Nat.le_of_ble_eq_true rfl) dX12_trace_3 (fun H locs hS => ?_)
  refine lv_if_ne (tgt := 11) hx hb dX12_trace_6 (by decide) (fun c_41 => ?_) (fun c_41 => ?_)
  · have h := im (c_41) h
    refine lv_iconst (v := 0) hx hb dX12_trace_11 (by decide) ?_
    refine lv_istore (lv' := [(4, .int 0), (0, .ref (Z 200)), (1, .int l1), (2, .int l2), (3, .int l3)]) hx hb dX12_trace_12 hl (by decide) rfl (fun ls hl => ?_)
    exact bl_trace_14 X hE hF hL  _ _ _ _ _ _ h _ _ _ hS (lv_sub hl [1, 2, 3, 4, 0] rfl)
  · have h := ip (c_41) h
    refine lv_iconst (v := 0) hx hb dX12_trace_9 (by decide) ?_
    obtain ⟨rfl, rfl⟩ := so h
    exact hE _ _ _ _ hS (Or.inl rfl) dX12_trace_10
def F_trace (N : Nat) (l1 : Int32) (l2 : Int32) (l3 : Int32) (u : RSt) : Option (Int32 × RSt) := B_trace_0 N l1 l2 l3 u
set_option maxHeartbeats 4000000 in
theorem k_trace (l : Launch) (D : va_G) (kA : Nat → ClassId) (V Z : Nat → Nat) (N : Nat) (l1 : Int32) (l2 : Int32) (l3 : Int32) (u : RSt) (sz : Nat) {r : Int32} {w : RSt} (h : F_trace N l1 l2 l3 u = some (r, w)) : Met l yX12_trace (Cond.code yX12_trace cX12_trace 7 (some .boolean) :: GW) { frames := 3, cells := 0, slots := 0, locals := 71 } (rPc D kA V Z [.int l1, .int l2, .int l3] u sz) (rQi D kA Z u sz r w) 0 0 (va_A (RW kA Z u) sz) := by
  refine Met.ofW (cc := cX12_trace) (maxL := 7) (ret := (some .boolean)) (by decide) rfl ?_
  intro p e s m args below meth c s₁ Bd hml hv
  obtain ⟨rfl, hsz, hP, hK, hD0, hE⟩ := hv
  have hts := atoms_spec (ws := Cond.code yX12_trace cX12_trace 7 (some .boolean) :: GW) Bd.pre
  have hl := lv_entry (.ref (Z 200) :: [.int l1, .int l2, .int l3]) (n := 7) (Nat.le_of_ble_eq_true rfl)
  rw [lg_entry_eq]
  generalize (lg_sl (.ref (Z 200) :: [.int l1, .int l2, .int l3]) ++ List.replicate (7 - (lg_sl (.ref (Z 200) :: [.int l1, .int l2, .int l3])).length) Slot.unset).toArray = ls at hl ⊢
  have hl : lv_has ls 7 [(0, .ref (Z 200)), (1, .int l1), (2, .int l2), (3, .int l3)] := hl
  subst hsz
  have X : RC p s m (.ref (Z 200) :: [.int l1, .int l2, .int l3]).toArray c cX12_trace 7 (Cond.code yX12_trace cX12_trace 7 (some .boolean)) D kA V (va_A (RW kA Z u) s.heap.size) := ⟨⟨Bd.exec, Bd.bytes, hml, findClass_of_methodNamed Bd.named, hts⟩, hK, hE, fun q h => Or.inr h⟩
  exact b_trace_0 X (rend_z (cy := cX12_trace) X Bd.returns Bd.notSynchronized) (Nat.le_refl _) (Nat.le_refl _) h ⟨hP, hD0.self, va_S.rf⟩ (lv_sub hl [0, 1, 2, 3] rfl)
def B_event_33 (N : Nat) (l1 : Int32) (l2 : Int32) (s1 : Int32) (u : RSt) : Option (Int64 × RSt) := pu (sI u 9 s1) fun u_1 => if (u_1.1 9) ≤ (0 : Int32) then (if l2 = (0 : Int32) then (rd (u_1.2.2.1 99) 100 l1 fun v_12 => some (v_12.toInt64, u_1)) else (if l2 = (1 : Int32) then (rd (u_1.2.2.1 100) 100 l1 fun v_10 => some (v_10.toInt64, u_1)) else (if l2 = (2 : Int32) then (rd (u_1.2.2.1 101) 100 l1 fun v_8 => some (v_8.toInt64, u_1)) else (rd (u_1.2.2.2 102) 100 l1 fun v_6 => some (v_6, u_1))))) else (some (0, u_1))
set_option maxHeartbeats 4000000 in
theorem b_event_33 {r : Int64} (X : RC p s m args c cX12_event 3 (Cond.code yX12_event cX12_event 3 (some .long)) D kA V A) (hE : REl p l e R s m args below meth c cX12_event D kA Z A Q r w) (hF : 1 ≤ R.frames) (hL : 22 ≤ R.locals) {l1 : Int32} {l2 : Int32} {s1 : Int32}  {u : RSt} (h : B_event_33 N l1 l2 s1 u = some (r, w)) (hS : RS D kA Z A s u H locs) (hl : lv_has ls 3 [(0, .ref (Z 200)), (1, .int l1), (2, .int l2)]) : W p l e R s m args below meth c H locs 0 0 Q (F0 m 33 ls [.int s1, .ref (Z 200)]) := by
  obtain ⟨⟨hx, hb, hml, hown, hts⟩, hK, hEV, hA⟩ := id X
  have hG : ∀ w ∈ GW, w.before args s = true := fun w h => hts w (List.mem_cons_of_mem _ h)
  unfold B_event_33 at h
  obtain ⟨u_1, e_u_1, h⟩ := pu_of h
  refine rp_9 X hS e_u_1 dX12_event_33 (fun H locs hS => ?_)
  refine lv_aload_n hx hb dX12_event_36 rfl (lv_at hl 0 rfl) ?_
  refine rg_9 X hS dX12_event_37 ?_
  refine lv_if_le (tgt := 45) hx hb dX12_event_40 (by decide) (fun c_2 => ?_) (fun c_2 => ?_)
  · have h := ip (c_2) h
    refine lv_iload_n hx hb dX12_event_45 rfl (lv_at hl 2 rfl) ?_
    refine lv_if_ne (tgt := 59) hx hb dX12_event_46 (by decide) (fun c_3 => ?_) (fun c_3 => ?_)
    · have h := im (c_3) h
      refine lv_iload_n hx hb dX12_event_59 rfl (lv_at hl 2 rfl) ?_
      refine lv_iconst (v := 1) hx hb dX12_event_60 (by decide) ?_
      refine lv_icmp_ne (tgt := 74) hx hb dX12_event_61 (by decide) (fun c_4 => ?_) (fun c_4 => ?_)
      · have h := im (c_4) h
        refine lv_iload_n hx hb dX12_event_74 rfl (lv_at hl 2 rfl) ?_
        refine lv_iconst (v := 2) hx hb dX12_event_75 (by decide) ?_
        refine lv_icmp_ne (tgt := 89) hx hb dX12_event_76 (by decide) (fun c_5 => ?_) (fun c_5 => ?_)
        · have h := im (c_5) h
          refine lv_aload_n hx hb dX12_event_89 rfl (lv_at hl 0 rfl) ?_
          refine rg_102 X hS dX12_event_90 ?_
          refine lv_iload_n hx hb dX12_event_93 rfl (lv_at hl 1 rfl) ?_
          obtain ⟨v_6, e_v_6, i_7, h⟩ := rd_of h
          refine ra_102 X hS i_7 e_v_6 dX12_event_94 ?_
          obtain ⟨rfl, rfl⟩ := so h
          exact hE _ _ _ _ hS dX12_event_95
        · have h := ip (c_5) h
          refine lv_aload_n hx hb dX12_event_79 rfl (lv_at hl 0 rfl) ?_
          refine rg_101 X hS dX12_event_80 ?_
          refine lv_iload_n hx hb dX12_event_83 rfl (lv_at hl 1 rfl) ?_
          obtain ⟨v_8, e_v_8, i_9, h⟩ := rd_of h
          refine ra_101 X hS i_9 e_v_8 dX12_event_84 ?_
          refine lv_i2l (v := v_8.toInt64) hx hb dX12_event_85 rfl ?_
          refine lv_goto (tgt := 95) hx hb dX12_event_86 (by decide) ?_
          obtain ⟨rfl, rfl⟩ := so h
          exact hE _ _ _ _ hS dX12_event_95
      · have h := ip (c_4) h
        refine lv_aload_n hx hb dX12_event_64 rfl (lv_at hl 0 rfl) ?_
        refine rg_100 X hS dX12_event_65 ?_
        refine lv_iload_n hx hb dX12_event_68 rfl (lv_at hl 1 rfl) ?_
        obtain ⟨v_10, e_v_10, i_11, h⟩ := rd_of h
        refine ra_100 X hS i_11 e_v_10 dX12_event_69 ?_
        refine lv_i2l (v := v_10.toInt64) hx hb dX12_event_70 rfl ?_
        refine lv_goto (tgt := 95) hx hb dX12_event_71 (by decide) ?_
        obtain ⟨rfl, rfl⟩ := so h
        exact hE _ _ _ _ hS dX12_event_95
    · have h := ip (c_3) h
      refine lv_aload_n hx hb dX12_event_49 rfl (lv_at hl 0 rfl) ?_
      refine rg_99 X hS dX12_event_50 ?_
      refine lv_iload_n hx hb dX12_event_53 rfl (lv_at hl 1 rfl) ?_
      obtain ⟨v_12, e_v_12, i_13, h⟩ := rd_of h
      refine ra_99 X hS i_13 e_v_12 dX12_event_54 ?_
      refine lv_i2l (v := v_12.toInt64) hx hb dX12_event_55 rfl ?_
      refine lv_goto (tgt := 95) hx hb dX12_event_56 (by decide) ?_
      obtain ⟨rfl, rfl⟩ := so h
      exact hE _ _ _ _ hS dX12_event_95
  · have h := im (c_2) h
    refine lv_lconst (v := 0) hx hb dX12_event_43 (by decide) ?_
    obtain ⟨rfl, rfl⟩ := so h
    exact hE _ _ _ _ hS dX12_event_44
def B_event_0 (N : Nat) (l1 : Int32) (l2 : Int32) (u : RSt) : Option (Int64 × RSt) := if (r_in l1 0 ((u.1 103) - 1)) = (0 : Int32) then (B_event_33 N l1 l2 1 u) else (if (r_in l2 0 3) = (0 : Int32) then (B_event_33 N l1 l2 2 u) else (B_event_33 N l1 l2 0 u))
set_option maxHeartbeats 4000000 in
theorem b_event_0 {r : Int64} (X : RC p s m args c cX12_event 3 (Cond.code yX12_event cX12_event 3 (some .long)) D kA V A) (hE : REl p l e R s m args below meth c cX12_event D kA Z A Q r w) (hF : 1 ≤ R.frames) (hL : 22 ≤ R.locals) {l1 : Int32} {l2 : Int32}  {u : RSt} (h : B_event_0 N l1 l2 u = some (r, w)) (hS : RS D kA Z A s u H locs) (hl : lv_has ls 3 [(0, .ref (Z 200)), (1, .int l1), (2, .int l2)]) : W p l e R s m args below meth c H locs 0 0 Q (F0 m 0 ls []) := by
  obtain ⟨⟨hx, hb, hml, hown, hts⟩, hK, hEV, hA⟩ := id X
  have hG : ∀ w ∈ GW, w.before args s = true := fun w h => hts w (List.mem_cons_of_mem _ h)
  unfold B_event_0 at h
  refine lv_aload_n hx hb dX12_event_0 rfl (lv_at hl 0 rfl) ?_
  refine lv_iload_n hx hb dX12_event_1 rfl (lv_at hl 1 rfl) ?_
  refine lv_iconst (v := 0) hx hb dX12_event_2 (by decide) ?_
  refine lv_aload_n hx hb dX12_event_3 rfl (lv_at hl 0 rfl) ?_
  refine rg_103 X hS dX12_event_4 ?_
  refine lv_iconst (v := 1) hx hb dX12_event_7 (by decide) ?_
  refine lv_isub hx hb dX12_event_8 ?_
  refine vp_callSi (W.runS (As := [.int l1, .int 0, .int ((u.1 103) - 1)]) (rest := [.ref (Z 200)]) X.1 (c_X12_in l l1 0 ((u.1 103) - 1)) (va_cwS 3 hts (gw_P gw_2605 gw_2606 gw_16 gwp_X12_in) rfl rfl rfl (by decide +kernel) ⟨Nat.le_trans (Nat.le_of_ble_eq_true rfl) hF, Nat.le_trans (Nat.le_of_ble_eq_true rfl) hL⟩) ⟨fun _ _ _ _ q => q, fun _ _ _ => ⟨rfl, trivial⟩⟩ rfl rfl hl.1 rfl (lv_room (Nat.le_of_ble_eq_true rfl)) dX12_event_9 ⟨Nat.zero_le _, Nat.zero_le _⟩) (fun r_14 q_15 => ?_)
  subst q_15
  refine lv_if_ne (tgt := 19) hx hb dX12_event_12 (by decide) (fun c_16 => ?_) (fun c_16 => ?_)
  · have h := im (c_16) h
    refine lv_iload_n hx hb dX12_event_19 rfl (lv_at hl 2 rfl) ?_
    refine lv_iconst (v := 0) hx hb dX12_event_20 (by decide) ?_
    refine lv_iconst (v := 3) hx hb dX12_event_21 (by decide) ?_
    refine vp_callSi (W.runS (As := [.int l2, .int 0, .int 3]) (rest := [.ref (Z 200)]) X.1 (c_X12_in l l2 0 3) (va_cwS 3 hts (gw_P gw_2605 gw_2606 gw_16 gwp_X12_in) rfl rfl rfl (by decide +kernel) ⟨Nat.le_trans (Nat.le_of_ble_eq_true rfl) hF, Nat.le_trans (Nat.le_of_ble_eq_true rfl) hL⟩) ⟨fun _ _ _ _ q => q, fun _ _ _ => ⟨rfl, trivial⟩⟩ rfl rfl hl.1 rfl (lv_room (Nat.le_of_ble_eq_true rfl)) dX12_event_22 ⟨Nat.zero_le _, Nat.zero_le _⟩) (fun r_17 q_18 => ?_)
    subst q_18
    refine lv_if_ne (tgt := 32) hx hb dX12_event_25 (by decide) (fun c_19 => ?_) (fun c_19 => ?_)
    · have h := im (c_19) h
      refine lv_iconst (v := 0) hx hb dX12_event_32 (by decide) ?_
      exact b_event_33 X hE hF hL  h hS (lv_sub hl [0, 1, 2] rfl)
    · have h := ip (c_19) h
      refine lv_iconst (v := 2) hx hb dX12_event_28 (by decide) ?_
      refine lv_goto (tgt := 33) hx hb dX12_event_29 (by decide) ?_
      exact b_event_33 X hE hF hL  h hS (lv_sub hl [0, 1, 2] rfl)
  · have h := ip (c_16) h
    refine lv_iconst (v := 1) hx hb dX12_event_15 (by decide) ?_
    refine lv_goto (tgt := 33) hx hb dX12_event_16 (by decide) ?_
    exact b_event_33 X hE hF hL  h hS (lv_sub hl [0, 1, 2] rfl)
def F_event (N : Nat) (l1 : Int32) (l2 : Int32) (u : RSt) : Option (Int64 × RSt) := B_event_0 N l1 l2 u
set_option maxHeartbeats 4000000 in
theorem k_event (l : Launch) (D : va_G) (kA : Nat → ClassId) (V Z : Nat → Nat) (N : Nat) (l1 : Int32) (l2 : Int32) (u : RSt) (sz : Nat) {r : Int64} {w : RSt} (h : F_event N l1 l2 u = some (r, w)) : Met l yX12_event (Cond.code yX12_event cX12_event 3 (some .long) :: GW) { frames := 1, cells := 0, slots := 0, locals := 22 } (rPc D kA V Z [.int l1, .int l2] u sz) (rQl D kA Z u sz r w) 0 0 (va_A (RW kA Z u) sz) := by
  refine Met.ofW (cc := cX12_event) (maxL := 3) (ret := (some .long)) (by decide) rfl ?_
  intro p e s m args below meth c s₁ Bd hml hv
  obtain ⟨rfl, hsz, hP, hK, hD0, hE⟩ := hv
  have hts := atoms_spec (ws := Cond.code yX12_event cX12_event 3 (some .long) :: GW) Bd.pre
  have hl := lv_entry (.ref (Z 200) :: [.int l1, .int l2]) (n := 3) (Nat.le_of_ble_eq_true rfl)
  rw [lg_entry_eq]
  generalize (lg_sl (.ref (Z 200) :: [.int l1, .int l2]) ++ List.replicate (3 - (lg_sl (.ref (Z 200) :: [.int l1, .int l2])).length) Slot.unset).toArray = ls at hl ⊢
  have hl : lv_has ls 3 [(0, .ref (Z 200)), (1, .int l1), (2, .int l2)] := hl
  subst hsz
  have X : RC p s m (.ref (Z 200) :: [.int l1, .int l2]).toArray c cX12_event 3 (Cond.code yX12_event cX12_event 3 (some .long)) D kA V (va_A (RW kA Z u) s.heap.size) := ⟨⟨Bd.exec, Bd.bytes, hml, findClass_of_methodNamed Bd.named, hts⟩, hK, hE, fun q h => Or.inr h⟩
  exact b_event_0 X (rend_l (cy := cX12_event) X Bd.returns Bd.notSynchronized) (Nat.le_refl _) (Nat.le_refl _) h ⟨hP, hD0.self, va_S.rf⟩ (lv_sub hl [0, 1, 2] rfl)
def B_count_51 (N : Nat) (R_23 : Int32 × Int32 × Int32 × RSt → Option (Int32 × RSt)) (l1 : Int32) (l3 : Int32) (s0 : Int32) (s1 : Int32) (u : RSt) : Option (Int32 × RSt) := R_23 (l1, (s0 + s1), (l3 + 1), u)
set_option maxHeartbeats 4000000 in
theorem b_count_51 {r : Int32} (X : RC p s m args c cX12_count 4 (Cond.code yX12_count cX12_count 4 (some .int)) D kA V A) (hE : REi p l e R s m args below meth c cX12_count D kA Z A Q r w) (hF : 1 ≤ R.frames) (hL : 22 ≤ R.locals) {R_23 : Int32 × Int32 × Int32 × RSt → Option (Int32 × RSt)} {l1 : Int32} {l3 : Int32} {s0 : Int32} {s1 : Int32} (hR_23 : ∀ (l1 : Int32) (l2 : Int32) (l3 : Int32) (u : RSt), R_23 (l1, l2, l3, u) = some (r, w) → ∀ (H : Heap) (locs : List Loc) (ls : Array Slot), RS D kA Z A s u H locs → lv_has ls 4 [(0, .ref (Z 200)), (1, .int l1), (2, .int l2), (3, .int l3)] → W p l e R s m args below meth c H locs 0 0 Q (F0 m 23 ls [])) {u : RSt} (h : B_count_51 N R_23 l1 l3 s0 s1 u = some (r, w)) (hS : RS D kA Z A s u H locs) (hl : lv_has ls 4 [(0, .ref (Z 200)), (1, .int l1), (3, .int l3)]) : W p l e R s m args below meth c H locs 0 0 Q (F0 m 51 ls [.int s1, .int s0]) := by
  obtain ⟨⟨hx, hb, hml, hown, hts⟩, hK, hEV, hA⟩ := id X
  have hG : ∀ w ∈ GW, w.before args s = true := fun w h => hts w (List.mem_cons_of_mem _ h)
  unfold B_count_51 at h
  refine lv_iadd hx hb dX12_count_51 ?_
  refine lv_istore_n (lv' := [(2, .int (s0 + s1)), (0, .ref (Z 200)), (1, .int l1), (3, .int l3)]) hx hb dX12_count_52 rfl hl (by decide) rfl (fun ls hl => ?_)
  refine lv_iinc (v := l3 + 1) (lv' := [(3, .int (l3 + 1)), (2, .int (s0 + s1)), (0, .ref (Z 200)), (1, .int l1)]) hx hb dX12_count_53 hl (k := 3) rfl rfl (by decide) rfl (fun ls hl => ?_)
  refine lv_goto (tgt := 23) hx hb dX12_count_56 (by decide) ?_
  exact hR_23 _ _ _ _ h _ _ _ hS (lv_sub hl [2, 3, 1, 0] rfl)
def B_count_23 (N : Nat) (R_23 : Int32 × Int32 × Int32 × RSt → Option (Int32 × RSt)) (l1 : Int32) (l2 : Int32) (l3 : Int32) (u : RSt) : Option (Int32 × RSt) := rd (u.2.2.1 48) 2 (u.1 55) fun v_1 => if v_1 ≤ l3 then (if l1 = 0 then (rd (u.2.2.1 19) 2 (u.1 55) fun v_5 => some (v_5, u)) else (if l1 = 1 then (rd (u.2.2.1 42) 2 (u.1 55) fun v_8 => some (v_8, u)) else (if l1 = 2 then (rd (u.2.2.1 48) 2 (u.1 55) fun v_11 => some (v_11, u)) else (if l1 = 3 then (rd (u.2.2.1 36) 2 (u.1 55) fun v_14 => some (v_14, u)) else (if l1 = 4 then (rd (u.2.2.1 37) 2 (u.1 55) fun v_17 => some (v_17, u)) else (if l1 = 5 then (some (u.1 104, u)) else (if l1 = 6 then (some (l2, u)) else (if l1 = 7 then (some (u.1 98, u)) else (if l1 = 8 then (some (u.1 103, u)) else (if l1 = 9 then (some (u.1 1, u)) else (if l1 = 10 then (some (u.1 105, u)) else (some (0, u))))))))))))) else (rd (u.2.2.1 88) 8 l3 fun v_25 => if v_25 = (0 : Int32) then (B_count_51 N R_23 l1 l3 l2 0 u) else (B_count_51 N R_23 l1 l3 l2 1 u))
set_option maxHeartbeats 4000000 in
theorem b_count_23 {r : Int32} (X : RC p s m args c cX12_count 4 (Cond.code yX12_count cX12_count 4 (some .int)) D kA V A) (hE : REi p l e R s m args below meth c cX12_count D kA Z A Q r w) (hF : 1 ≤ R.frames) (hL : 22 ≤ R.locals) {R_23 : Int32 × Int32 × Int32 × RSt → Option (Int32 × RSt)} {l1 : Int32} {l2 : Int32} {l3 : Int32} (hR_23 : ∀ (l1 : Int32) (l2 : Int32) (l3 : Int32) (u : RSt), R_23 (l1, l2, l3, u) = some (r, w) → ∀ (H : Heap) (locs : List Loc) (ls : Array Slot), RS D kA Z A s u H locs → lv_has ls 4 [(0, .ref (Z 200)), (1, .int l1), (2, .int l2), (3, .int l3)] → W p l e R s m args below meth c H locs 0 0 Q (F0 m 23 ls [])) {u : RSt} (h : B_count_23 N R_23 l1 l2 l3 u = some (r, w)) (hS : RS D kA Z A s u H locs) (hl : lv_has ls 4 [(0, .ref (Z 200)), (1, .int l1), (2, .int l2), (3, .int l3)]) : W p l e R s m args below meth c H locs 0 0 Q (F0 m 23 ls []) := by
  obtain ⟨⟨hx, hb, hml, hown, hts⟩, hK, hEV, hA⟩ := id X
  have hG : ∀ w ∈ GW, w.before args s = true := fun w h => hts w (List.mem_cons_of_mem _ h)
  unfold B_count_23 at h
  refine lv_iload_n hx hb dX12_count_23 rfl (lv_at hl 3 rfl) ?_
  refine lv_aload_n hx hb dX12_count_24 rfl (lv_at hl 0 rfl) ?_
  refine rg_48 X hS dX12_count_25 ?_
  refine lv_aload_n hx hb dX12_count_28 rfl (lv_at hl 0 rfl) ?_
  refine rg_55 X hS dX12_count_29 ?_
  obtain ⟨v_1, e_v_1, i_2, h⟩ := rd_of h
  refine ra_48 X hS i_2 e_v_1 dX12_count_32 ?_
  refine lv_icmp_ge (tgt := 59) hx hb dX12_count_33 (by decide) (fun c_3 => ?_) (fun c_3 => ?_)
  · have h := ip (c_3) h
    refine lv_iload_n hx hb dX12_count_59 rfl (lv_at hl 1 rfl) ?_
    by_cases e_4 : l1 = 0
    · have h := ip e_4 h
      refine lv_tableIn (off := 60) (tgt := 120) hx hb dX12_count_60 (by rw [e_4]; decide) (by rw [e_4]; decide) (by rw [e_4]; rfl) (by decide) ?_
      refine lv_aload_n hx hb dX12_count_120 rfl (lv_at hl 0 rfl) ?_
      refine rg_19 X hS dX12_count_121 ?_
      refine lv_aload_n hx hb dX12_count_124 rfl (lv_at hl 0 rfl) ?_
      refine rg_55 X hS dX12_count_125 ?_
      obtain ⟨v_5, e_v_5, i_6, h⟩ := rd_of h
      refine ra_19 X hS i_6 e_v_5 dX12_count_128 ?_
      obtain ⟨rfl, rfl⟩ := so h
      exact hE _ _ _ _ hS dX12_count_129
    have h := im e_4 h
    by_cases e_7 : l1 = 1
    · have h := ip e_7 h
      refine lv_tableIn (off := 70) (tgt := 130) hx hb dX12_count_60 (by rw [e_7]; decide) (by rw [e_7]; decide) (by rw [e_7]; rfl) (by decide) ?_
      refine lv_aload_n hx hb dX12_count_130 rfl (lv_at hl 0 rfl) ?_
      refine rg_42 X hS dX12_count_131 ?_
      refine lv_aload_n hx hb dX12_count_134 rfl (lv_at hl 0 rfl) ?_
      refine rg_55 X hS dX12_count_135 ?_
      obtain ⟨v_8, e_v_8, i_9, h⟩ := rd_of h
      refine ra_42 X hS i_9 e_v_8 dX12_count_138 ?_
      obtain ⟨rfl, rfl⟩ := so h
      exact hE _ _ _ _ hS dX12_count_139
    have h := im e_7 h
    by_cases e_10 : l1 = 2
    · have h := ip e_10 h
      refine lv_tableIn (off := 80) (tgt := 140) hx hb dX12_count_60 (by rw [e_10]; decide) (by rw [e_10]; decide) (by rw [e_10]; rfl) (by decide) ?_
      refine lv_aload_n hx hb dX12_count_140 rfl (lv_at hl 0 rfl) ?_
      refine rg_48 X hS dX12_count_141 ?_
      refine lv_aload_n hx hb dX12_count_144 rfl (lv_at hl 0 rfl) ?_
      refine rg_55 X hS dX12_count_145 ?_
      obtain ⟨v_11, e_v_11, i_12, h⟩ := rd_of h
      refine ra_48 X hS i_12 e_v_11 dX12_count_148 ?_
      obtain ⟨rfl, rfl⟩ := so h
      exact hE _ _ _ _ hS dX12_count_149
    have h := im e_10 h
    by_cases e_13 : l1 = 3
    · have h := ip e_13 h
      refine lv_tableIn (off := 90) (tgt := 150) hx hb dX12_count_60 (by rw [e_13]; decide) (by rw [e_13]; decide) (by rw [e_13]; rfl) (by decide) ?_
      refine lv_aload_n hx hb dX12_count_150 rfl (lv_at hl 0 rfl) ?_
      refine rg_36 X hS dX12_count_151 ?_
      refine lv_aload_n hx hb dX12_count_154 rfl (lv_at hl 0 rfl) ?_
      refine rg_55 X hS dX12_count_155 ?_
      obtain ⟨v_14, e_v_14, i_15, h⟩ := rd_of h
      refine ra_36 X hS i_15 e_v_14 dX12_count_158 ?_
      obtain ⟨rfl, rfl⟩ := so h
      exact hE _ _ _ _ hS dX12_count_159
    have h := im e_13 h
    by_cases e_16 : l1 = 4
    · have h := ip e_16 h
      refine lv_tableIn (off := 100) (tgt := 160) hx hb dX12_count_60 (by rw [e_16]; decide) (by rw [e_16]; decide) (by rw [e_16]; rfl) (by decide) ?_
      refine lv_aload_n hx hb dX12_count_160 rfl (lv_at hl 0 rfl) ?_
      refine rg_37 X hS dX12_count_161 ?_
      refine lv_aload_n hx hb dX12_count_164 rfl (lv_at hl 0 rfl) ?_
      refine rg_55 X hS dX12_count_165 ?_
      obtain ⟨v_17, e_v_17, i_18, h⟩ := rd_of h
      refine ra_37 X hS i_18 e_v_17 dX12_count_168 ?_
      obtain ⟨rfl, rfl⟩ := so h
      exact hE _ _ _ _ hS dX12_count_169
    have h := im e_16 h
    by_cases e_19 : l1 = 5
    · have h := ip e_19 h
      refine lv_tableIn (off := 110) (tgt := 170) hx hb dX12_count_60 (by rw [e_19]; decide) (by rw [e_19]; decide) (by rw [e_19]; rfl) (by decide) ?_
      refine lv_aload_n hx hb dX12_count_170 rfl (lv_at hl 0 rfl) ?_
      refine rg_104 X hS dX12_count_171 ?_
      obtain ⟨rfl, rfl⟩ := so h
      exact hE _ _ _ _ hS dX12_count_174
    have h := im e_19 h
    by_cases e_20 : l1 = 6
    · have h := ip e_20 h
      refine lv_tableIn (off := 115) (tgt := 175) hx hb dX12_count_60 (by rw [e_20]; decide) (by rw [e_20]; decide) (by rw [e_20]; rfl) (by decide) ?_
      refine lv_iload_n hx hb dX12_count_175 rfl (lv_at hl 2 rfl) ?_
      obtain ⟨rfl, rfl⟩ := so h
      exact hE _ _ _ _ hS dX12_count_176
    have h := im e_20 h
    by_cases e_21 : l1 = 7
    · have h := ip e_21 h
      refine lv_tableIn (off := 117) (tgt := 177) hx hb dX12_count_60 (by rw [e_21]; decide) (by rw [e_21]; decide) (by rw [e_21]; rfl) (by decide) ?_
      refine lv_aload_n hx hb dX12_count_177 rfl (lv_at hl 0 rfl) ?_
      refine rg_98 X hS dX12_count_178 ?_
      obtain ⟨rfl, rfl⟩ := so h
      exact hE _ _ _ _ hS dX12_count_181
    have h := im e_21 h
    by_cases e_22 : l1 = 8
    · have h := ip e_22 h
      refine lv_tableIn (off := 122) (tgt := 182) hx hb dX12_count_60 (by rw [e_22]; decide) (by rw [e_22]; decide) (by rw [e_22]; rfl) (by decide) ?_
      refine lv_aload_n hx hb dX12_count_182 rfl (lv_at hl 0 rfl) ?_
      refine rg_103 X hS dX12_count_183 ?_
      obtain ⟨rfl, rfl⟩ := so h
      exact hE _ _ _ _ hS dX12_count_186
    have h := im e_22 h
    by_cases e_23 : l1 = 9
    · have h := ip e_23 h
      refine lv_tableIn (off := 127) (tgt := 187) hx hb dX12_count_60 (by rw [e_23]; decide) (by rw [e_23]; decide) (by rw [e_23]; rfl) (by decide) ?_
      refine lv_aload_n hx hb dX12_count_187 rfl (lv_at hl 0 rfl) ?_
      refine rg_1 X hS dX12_count_188 ?_
      obtain ⟨rfl, rfl⟩ := so h
      exact hE _ _ _ _ hS dX12_count_191
    have h := im e_23 h
    by_cases e_24 : l1 = 10
    · have h := ip e_24 h
      refine lv_tableIn (off := 132) (tgt := 192) hx hb dX12_count_60 (by rw [e_24]; decide) (by rw [e_24]; decide) (by rw [e_24]; rfl) (by decide) ?_
      refine lv_aload_n hx hb dX12_count_192 rfl (lv_at hl 0 rfl) ?_
      refine rg_105 X hS dX12_count_193 ?_
      obtain ⟨rfl, rfl⟩ := so h
      exact hE _ _ _ _ hS dX12_count_196
    have h := im e_24 h
    refine lv_tableDef (tgt := 197) hx hb dX12_count_60 (by decide) (fun off h1 h2 ho => by
      have hI : (l1).toInt = 0 ∨ (l1).toInt = 1 ∨ (l1).toInt = 2 ∨ (l1).toInt = 3 ∨ (l1).toInt = 4 ∨ (l1).toInt = 5 ∨ (l1).toInt = 6 ∨ (l1).toInt = 7 ∨ (l1).toInt = 8 ∨ (l1).toInt = 9 ∨ (l1).toInt = 10 := by omega
      rcases hI with q | q | q | q | q | q | q | q | q | q | q
      · exact absurd (Int32.toInt_inj.mp (q.trans (by decide))) e_4
      · exact absurd (Int32.toInt_inj.mp (q.trans (by decide))) e_7
      · exact absurd (Int32.toInt_inj.mp (q.trans (by decide))) e_10
      · exact absurd (Int32.toInt_inj.mp (q.trans (by decide))) e_13
      · exact absurd (Int32.toInt_inj.mp (q.trans (by decide))) e_16
      · exact absurd (Int32.toInt_inj.mp (q.trans (by decide))) e_19
      · exact absurd (Int32.toInt_inj.mp (q.trans (by decide))) e_20
      · exact absurd (Int32.toInt_inj.mp (q.trans (by decide))) e_21
      · exact absurd (Int32.toInt_inj.mp (q.trans (by decide))) e_22
      · exact absurd (Int32.toInt_inj.mp (q.trans (by decide))) e_23
      · exact absurd (Int32.toInt_inj.mp (q.trans (by decide))) e_24) (by decide) ?_
    refine lv_iconst (v := 0) hx hb dX12_count_197 (by decide) ?_
    obtain ⟨rfl, rfl⟩ := so h
    exact hE _ _ _ _ hS dX12_count_198
  · have h := im (c_3) h
    refine lv_iload_n hx hb dX12_count_36 rfl (lv_at hl 2 rfl) ?_
    refine lv_aload_n hx hb dX12_count_37 rfl (lv_at hl 0 rfl) ?_
    refine rg_88 X hS dX12_count_38 ?_
    refine lv_iload_n hx hb dX12_count_41 rfl (lv_at hl 3 rfl) ?_
    obtain ⟨v_25, e_v_25, i_26, h⟩ := rd_of h
    refine ra_88 X hS i_26 e_v_25 dX12_count_42 ?_
    refine lv_if_eq (tgt := 50) hx hb dX12_count_43 (by decide) (fun c_27 => ?_) (fun c_27 => ?_)
    · have h := ip (c_27) h
      refine lv_iconst (v := 0) hx hb dX12_count_50 (by decide) ?_
      exact b_count_51 X hE hF hL hR_23 h hS (lv_sub hl [0, 1, 3] rfl)
    · have h := im (c_27) h
      refine lv_iconst (v := 1) hx hb dX12_count_46 (by decide) ?_
      refine lv_goto (tgt := 51) hx hb dX12_count_47 (by decide) ?_
      exact b_count_51 X hE hF hL hR_23 h hS (lv_sub hl [0, 1, 3] rfl)
def LP_count_23 (N : Nat) : Nat → Int32 × Int32 × Int32 × RSt → Option (Int32 × RSt) := lp (fun R a => B_count_23 N R a.1 a.2.1 a.2.2.1 a.2.2.2)
theorem bl_count_23 {r : Int32} (X : RC p s m args c cX12_count 4 (Cond.code yX12_count cX12_count 4 (some .int)) D kA V A) (hE : REi p l e R s m args below meth c cX12_count D kA Z A Q r w) (hF : 1 ≤ R.frames) (hL : 22 ≤ R.locals)  : ∀ (n : Nat) (l1 : Int32) (l2 : Int32) (l3 : Int32) (u : RSt), LP_count_23 N n (l1, l2, l3, u) = some (r, w) → ∀ (H : Heap) (locs : List Loc) (ls : Array Slot), RS D kA Z A s u H locs → lv_has ls 4 [(0, .ref (Z 200)), (1, .int l1), (2, .int l2), (3, .int l3)] → W p l e R s m args below meth c H locs 0 0 Q (F0 m 23 ls []) := by
  intro n
  induction n with
  | zero => intro l1 l2 l3 u h; exact nomatch h
  | succ n ih => intro l1 l2 l3 u h H locs ls hS hl; exact b_count_23 (N := N) (R_23 := LP_count_23 N n) X hE hF hL  ih h hS hl
def B_count_16 (N : Nat) (l1 : Int32) (s1 : Int32) (u : RSt) : Option (Int32 × RSt) := pu (sI u 9 s1) fun u_28 => LP_count_23 N N (l1, 0, 0, u_28)
set_option maxHeartbeats 4000000 in
theorem b_count_16 {r : Int32} (X : RC p s m args c cX12_count 4 (Cond.code yX12_count cX12_count 4 (some .int)) D kA V A) (hE : REi p l e R s m args below meth c cX12_count D kA Z A Q r w) (hF : 1 ≤ R.frames) (hL : 22 ≤ R.locals) {l1 : Int32} {s1 : Int32}  {u : RSt} (h : B_count_16 N l1 s1 u = some (r, w)) (hS : RS D kA Z A s u H locs) (hl : lv_has ls 4 [(0, .ref (Z 200)), (1, .int l1)]) : W p l e R s m args below meth c H locs 0 0 Q (F0 m 16 ls [.int s1, .ref (Z 200)]) := by
  obtain ⟨⟨hx, hb, hml, hown, hts⟩, hK, hEV, hA⟩ := id X
  have hG : ∀ w ∈ GW, w.before args s = true := fun w h => hts w (List.mem_cons_of_mem _ h)
  unfold B_count_16 at h
  obtain ⟨u_28, e_u_28, h⟩ := pu_of h
  refine rp_9 X hS e_u_28 dX12_count_16 (fun H locs hS => ?_)
  refine lv_iconst (v := 0) hx hb dX12_count_19 (by decide) ?_
  refine lv_istore_n (lv' := [(2, .int 0), (0, .ref (Z 200)), (1, .int l1)]) hx hb dX12_count_20 rfl hl (by decide) rfl (fun ls hl => ?_)
  refine lv_iconst (v := 0) hx hb dX12_count_21 (by decide) ?_
  refine lv_istore_n (lv' := [(3, .int 0), (2, .int 0), (0, .ref (Z 200)), (1, .int l1)]) hx hb dX12_count_22 rfl hl (by decide) rfl (fun ls hl => ?_)
  exact bl_count_23 X hE hF hL  _ _ _ _ _ h _ _ _ hS (lv_sub hl [2, 3, 1, 0] rfl)
def B_count_0 (N : Nat) (l1 : Int32) (u : RSt) : Option (Int32 × RSt) := if (r_in l1 0 10) = (0 : Int32) then (B_count_16 N l1 1 u) else (B_count_16 N l1 0 u)
set_option maxHeartbeats 4000000 in
theorem b_count_0 {r : Int32} (X : RC p s m args c cX12_count 4 (Cond.code yX12_count cX12_count 4 (some .int)) D kA V A) (hE : REi p l e R s m args below meth c cX12_count D kA Z A Q r w) (hF : 1 ≤ R.frames) (hL : 22 ≤ R.locals) {l1 : Int32}  {u : RSt} (h : B_count_0 N l1 u = some (r, w)) (hS : RS D kA Z A s u H locs) (hl : lv_has ls 4 [(0, .ref (Z 200)), (1, .int l1)]) : W p l e R s m args below meth c H locs 0 0 Q (F0 m 0 ls []) := by
  obtain ⟨⟨hx, hb, hml, hown, hts⟩, hK, hEV, hA⟩ := id X
  have hG : ∀ w ∈ GW, w.before args s = true := fun w h => hts w (List.mem_cons_of_mem _ h)
  unfold B_count_0 at h
  refine lv_aload_n hx hb dX12_count_0 rfl (lv_at hl 0 rfl) ?_
  refine lv_iload_n hx hb dX12_count_1 rfl (lv_at hl 1 rfl) ?_
  refine lv_iconst (v := 0) hx hb dX12_count_2 (by decide) ?_
  refine lv_bipush (v := 10) hx hb dX12_count_3 (by decide) ?_
  refine vp_callSi (W.runS (As := [.int l1, .int 0, .int 10]) (rest := [.ref (Z 200)]) X.1 (c_X12_in l l1 0 10) (va_cwS 3 hts (gw_P gw_2605 gw_2606 gw_16 gwp_X12_in) rfl rfl rfl (by decide +kernel) ⟨Nat.le_trans (Nat.le_of_ble_eq_true rfl) hF, Nat.le_trans (Nat.le_of_ble_eq_true rfl) hL⟩) ⟨fun _ _ _ _ q => q, fun _ _ _ => ⟨rfl, trivial⟩⟩ rfl rfl hl.1 rfl (lv_room (Nat.le_of_ble_eq_true rfl)) dX12_count_5 ⟨Nat.zero_le _, Nat.zero_le _⟩) (fun r_29 q_30 => ?_)
  subst q_30
  refine lv_if_eq (tgt := 15) hx hb dX12_count_8 (by decide) (fun c_31 => ?_) (fun c_31 => ?_)
  · have h := ip (c_31) h
    refine lv_iconst (v := 1) hx hb dX12_count_15 (by decide) ?_
    exact b_count_16 X hE hF hL  h hS (lv_sub hl [0, 1] rfl)
  · have h := im (c_31) h
    refine lv_iconst (v := 0) hx hb dX12_count_11 (by decide) ?_
    refine lv_goto (tgt := 16) hx hb dX12_count_12 (by decide) ?_
    exact b_count_16 X hE hF hL  h hS (lv_sub hl [0, 1] rfl)
def F_count (N : Nat) (l1 : Int32) (u : RSt) : Option (Int32 × RSt) := B_count_0 N l1 u
set_option maxHeartbeats 4000000 in
theorem k_count (l : Launch) (D : va_G) (kA : Nat → ClassId) (V Z : Nat → Nat) (N : Nat) (l1 : Int32) (u : RSt) (sz : Nat) {r : Int32} {w : RSt} (h : F_count N l1 u = some (r, w)) : Met l yX12_count (Cond.code yX12_count cX12_count 4 (some .int) :: GW) { frames := 1, cells := 0, slots := 0, locals := 22 } (rPc D kA V Z [.int l1] u sz) (rQi D kA Z u sz r w) 0 0 (va_A (RW kA Z u) sz) := by
  refine Met.ofW (cc := cX12_count) (maxL := 4) (ret := (some .int)) (by decide) rfl ?_
  intro p e s m args below meth c s₁ Bd hml hv
  obtain ⟨rfl, hsz, hP, hK, hD0, hE⟩ := hv
  have hts := atoms_spec (ws := Cond.code yX12_count cX12_count 4 (some .int) :: GW) Bd.pre
  have hl := lv_entry (.ref (Z 200) :: [.int l1]) (n := 4) (Nat.le_of_ble_eq_true rfl)
  rw [lg_entry_eq]
  generalize (lg_sl (.ref (Z 200) :: [.int l1]) ++ List.replicate (4 - (lg_sl (.ref (Z 200) :: [.int l1])).length) Slot.unset).toArray = ls at hl ⊢
  have hl : lv_has ls 4 [(0, .ref (Z 200)), (1, .int l1)] := hl
  subst hsz
  have X : RC p s m (.ref (Z 200) :: [.int l1]).toArray c cX12_count 4 (Cond.code yX12_count cX12_count 4 (some .int)) D kA V (va_A (RW kA Z u) s.heap.size) := ⟨⟨Bd.exec, Bd.bytes, hml, findClass_of_methodNamed Bd.named, hts⟩, hK, hE, fun q h => Or.inr h⟩
  exact b_count_0 X (rend_i (cy := cX12_count) X Bd.returns Bd.notSynchronized) (Nat.le_refl _) (Nat.le_refl _) h ⟨hP, hD0.self, va_S.rf⟩ (lv_sub hl [0, 1] rfl)
def B_sum_25 (N : Nat) (R_9 : Int64 × Int32 × RSt → Option (Int64 × RSt)) (R_25 : Int64 × Int32 × Int32 × RSt → Option (Int64 × RSt)) (l1 : Int64) (l3 : Int32) (l4 : Int32) (u : RSt) : Option (Int64 × RSt) := rd (u.2.2.1 11) 320 ((160 * (u.1 55)) + l3) fun v_1 => if v_1 ≤ l4 then (R_9 (l1, (l3 + 1), u)) else (bn (F_numberOf N l3 l4 u) fun r_5 u_4 => R_25 (((31 * l1) + r_5), l3, (l4 + 1), u_4))
set_option maxHeartbeats 4000000 in
theorem b_sum_25 {r : Int64} (X : RC p s m args c cX12_sum 5 (Cond.code yX12_sum cX12_sum 5 (some .long)) D kA V A) (hE : REl p l e R s m args below meth c cX12_sum D kA Z A Q r w) (hF : 3 ≤ R.frames) (hL : 71 ≤ R.locals) {R_9 : Int64 × Int32 × RSt → Option (Int64 × RSt)} {R_25 : Int64 × Int32 × Int32 × RSt → Option (Int64 × RSt)} {l1 : Int64} {l3 : Int32} {l4 : Int32} (hR_9 : ∀ (l1 : Int64) (l3 : Int32) (u : RSt), R_9 (l1, l3, u) = some (r, w) → ∀ (H : Heap) (locs : List Loc) (ls : Array Slot), RS D kA Z A s u H locs → lv_has ls 5 [(0, .ref (Z 200)), (1, .long l1), (3, .int l3)] → W p l e R s m args below meth c H locs 0 0 Q (F0 m 9 ls [])) (hR_25 : ∀ (l1 : Int64) (l3 : Int32) (l4 : Int32) (u : RSt), R_25 (l1, l3, l4, u) = some (r, w) → ∀ (H : Heap) (locs : List Loc) (ls : Array Slot), RS D kA Z A s u H locs → lv_has ls 5 [(0, .ref (Z 200)), (1, .long l1), (3, .int l3), (4, .int l4)] → W p l e R s m args below meth c H locs 0 0 Q (F0 m 25 ls [])) {u : RSt} (h : B_sum_25 N R_9 R_25 l1 l3 l4 u = some (r, w)) (hS : RS D kA Z A s u H locs) (hl : lv_has ls 5 [(0, .ref (Z 200)), (1, .long l1), (3, .int l3), (4, .int l4)]) : W p l e R s m args below meth c H locs 0 0 Q (F0 m 25 ls []) := by
  obtain ⟨⟨hx, hb, hml, hown, hts⟩, hK, hEV, hA⟩ := id X
  have hG : ∀ w ∈ GW, w.before args s = true := fun w h => hts w (List.mem_cons_of_mem _ h)
  unfold B_sum_25 at h
  refine lv_iload hx hb dX12_sum_25 (lv_at hl 3 rfl) ?_
  refine lv_aload_n hx hb dX12_sum_27 rfl (lv_at hl 0 rfl) ?_
  refine rg_11 X hS dX12_sum_28 ?_
  refine lv_sipush (v := 160) hx hb dX12_sum_31 (by decide) ?_
  refine lv_aload_n hx hb dX12_sum_34 rfl (lv_at hl 0 rfl) ?_
  refine rg_55 X hS dX12_sum_35 ?_
  refine lv_imul hx hb dX12_sum_38 ?_
  refine lv_iload_n hx hb dX12_sum_39 rfl (lv_at hl 2 rfl) ?_
  refine lv_iadd hx hb dX12_sum_40 ?_
  obtain ⟨v_1, e_v_1, i_2, h⟩ := rd_of h
  refine ra_11 X hS i_2 e_v_1 dX12_sum_41 ?_
  refine lv_icmp_ge (tgt := 65) hx hb dX12_sum_42 (by decide) (fun c_3 => ?_) (fun c_3 => ?_)
  · have h := ip (c_3) h
    refine lv_iinc (v := l3 + 1) (lv' := [(3, .int (l3 + 1)), (0, .ref (Z 200)), (1, .long l1), (4, .int l4)]) hx hb dX12_sum_65 hl (k := 2) rfl rfl (by decide) rfl (fun ls hl => ?_)
    refine lv_goto (tgt := 9) hx hb dX12_sum_68 (by decide) ?_
    exact hR_9 _ _ _ h _ _ _ hS (lv_sub hl [1, 2, 0] rfl)
  · have h := im (c_3) h
    refine lv_ldc2 (v := 31) hx hb hown (hG _ gw_2641) dX12_sum_45 ?_
    refine lv_lload_n hx hb dX12_sum_48 rfl (lv_at hl 1 rfl) ?_
    refine lv_lmul hx hb dX12_sum_49 ?_
    refine lv_aload_n hx hb dX12_sum_50 rfl (lv_at hl 0 rfl) ?_
    refine lv_iload_n hx hb dX12_sum_51 rfl (lv_at hl 2 rfl) ?_
    refine lv_iload hx hb dX12_sum_52 (lv_at hl 3 rfl) ?_
    obtain ⟨r_5, u_4, h_u_4, h⟩ := bn_of h
    refine kc_numberOf X hS h_u_4 (Nat.le_trans (Nat.le_of_ble_eq_true rfl) hF) (Nat.le_trans (Nat.le_of_ble_eq_true rfl) hL) hl.1 (Nat.le_of_ble_eq_true rfl) dX12_sum_54 (fun H locs hS => ?_)
    refine lv_ladd hx hb dX12_sum_57 ?_
    refine lv_lstore_n (lv' := [(1, .long ((31 * l1) + r_5)), (0, .ref (Z 200)), (3, .int l3), (4, .int l4)]) hx hb dX12_sum_58 rfl hl (by decide) rfl (fun ls hl => ?_)
    refine lv_iinc (v := l4 + 1) (lv' := [(4, .int (l4 + 1)), (1, .long ((31 * l1) + r_5)), (0, .ref (Z 200)), (3, .int l3)]) hx hb dX12_sum_59 hl (k := 3) rfl rfl (by decide) rfl (fun ls hl => ?_)
    refine lv_goto (tgt := 25) hx hb dX12_sum_62 (by decide) ?_
    exact hR_25 _ _ _ _ h _ _ _ hS (lv_sub hl [2, 1, 3, 0] rfl)
def LP_sum_25 (N : Nat) (R_9 : Int64 × Int32 × RSt → Option (Int64 × RSt)) : Nat → Int64 × Int32 × Int32 × RSt → Option (Int64 × RSt) := lp (fun R a => B_sum_25 N R_9 R a.1 a.2.1 a.2.2.1 a.2.2.2)
theorem bl_sum_25 {r : Int64} (X : RC p s m args c cX12_sum 5 (Cond.code yX12_sum cX12_sum 5 (some .long)) D kA V A) (hE : REl p l e R s m args below meth c cX12_sum D kA Z A Q r w) (hF : 3 ≤ R.frames) (hL : 71 ≤ R.locals) {R_9 : Int64 × Int32 × RSt → Option (Int64 × RSt)} (hR_9 : ∀ (l1 : Int64) (l3 : Int32) (u : RSt), R_9 (l1, l3, u) = some (r, w) → ∀ (H : Heap) (locs : List Loc) (ls : Array Slot), RS D kA Z A s u H locs → lv_has ls 5 [(0, .ref (Z 200)), (1, .long l1), (3, .int l3)] → W p l e R s m args below meth c H locs 0 0 Q (F0 m 9 ls [])) : ∀ (n : Nat) (l1 : Int64) (l3 : Int32) (l4 : Int32) (u : RSt), LP_sum_25 N R_9 n (l1, l3, l4, u) = some (r, w) → ∀ (H : Heap) (locs : List Loc) (ls : Array Slot), RS D kA Z A s u H locs → lv_has ls 5 [(0, .ref (Z 200)), (1, .long l1), (3, .int l3), (4, .int l4)] → W p l e R s m args below meth c H locs 0 0 Q (F0 m 25 ls []) := by
  intro n
  induction n with
  | zero => intro l1 l3 l4 u h; exact nomatch h
  | succ n ih => intro l1 l3 l4 u h H locs ls hS hl; exact b_sum_25 (N := N) (R_25 := LP_sum_25 N R_9 n) X hE hF hL hR_9 ih h hS hl
def B_sum_103 (N : Nat) (R_79 : Int64 × Int32 × RSt → Option (Int64 × RSt)) (R_103 : Int64 × Int32 × Int32 × RSt → Option (Int64 × RSt)) (l1 : Int64) (l3 : Int32) (l4 : Int32) (u : RSt) : Option (Int64 × RSt) := rd (u.2.2.1 38) 48 l3 fun v_6 => rd (u.2.2.1 31) 48 v_6 fun v_8 => if v_8 ≤ l4 then (R_79 (l1, (l3 + 1), u)) else (rd (u.2.2.1 39) 48 l3 fun v_11 => rd (u.2.2.2 82) 3000 (v_11 + l4) fun v_13 => R_103 (((31 * l1) + v_13), l3, (l4 + 1), u))
set_option maxHeartbeats 4000000 in
theorem b_sum_103 {r : Int64} (X : RC p s m args c cX12_sum 5 (Cond.code yX12_sum cX12_sum 5 (some .long)) D kA V A) (hE : REl p l e R s m args below meth c cX12_sum D kA Z A Q r w) (hF : 3 ≤ R.frames) (hL : 71 ≤ R.locals) {R_79 : Int64 × Int32 × RSt → Option (Int64 × RSt)} {R_103 : Int64 × Int32 × Int32 × RSt → Option (Int64 × RSt)} {l1 : Int64} {l3 : Int32} {l4 : Int32} (hR_79 : ∀ (l1 : Int64) (l3 : Int32) (u : RSt), R_79 (l1, l3, u) = some (r, w) → ∀ (H : Heap) (locs : List Loc) (ls : Array Slot), RS D kA Z A s u H locs → lv_has ls 5 [(0, .ref (Z 200)), (1, .long l1), (3, .int l3)] → W p l e R s m args below meth c H locs 0 0 Q (F0 m 79 ls [])) (hR_103 : ∀ (l1 : Int64) (l3 : Int32) (l4 : Int32) (u : RSt), R_103 (l1, l3, l4, u) = some (r, w) → ∀ (H : Heap) (locs : List Loc) (ls : Array Slot), RS D kA Z A s u H locs → lv_has ls 5 [(0, .ref (Z 200)), (1, .long l1), (3, .int l3), (4, .int l4)] → W p l e R s m args below meth c H locs 0 0 Q (F0 m 103 ls [])) {u : RSt} (h : B_sum_103 N R_79 R_103 l1 l3 l4 u = some (r, w)) (hS : RS D kA Z A s u H locs) (hl : lv_has ls 5 [(0, .ref (Z 200)), (1, .long l1), (3, .int l3), (4, .int l4)]) : W p l e R s m args below meth c H locs 0 0 Q (F0 m 103 ls []) := by
  obtain ⟨⟨hx, hb, hml, hown, hts⟩, hK, hEV, hA⟩ := id X
  have hG : ∀ w ∈ GW, w.before args s = true := fun w h => hts w (List.mem_cons_of_mem _ h)
  unfold B_sum_103 at h
  refine lv_iload hx hb dX12_sum_103 (lv_at hl 3 rfl) ?_
  refine lv_aload_n hx hb dX12_sum_105 rfl (lv_at hl 0 rfl) ?_
  refine rg_31 X hS dX12_sum_106 ?_
  refine lv_aload_n hx hb dX12_sum_109 rfl (lv_at hl 0 rfl) ?_
  refine rg_38 X hS dX12_sum_110 ?_
  refine lv_iload_n hx hb dX12_sum_113 rfl (lv_at hl 2 rfl) ?_
  obtain ⟨v_6, e_v_6, i_7, h⟩ := rd_of h
  refine ra_38 X hS i_7 e_v_6 dX12_sum_114 ?_
  obtain ⟨v_8, e_v_8, i_9, h⟩ := rd_of h
  refine ra_31 X hS i_9 e_v_8 dX12_sum_115 ?_
  refine lv_icmp_ge (tgt := 146) hx hb dX12_sum_116 (by decide) (fun c_10 => ?_) (fun c_10 => ?_)
  · have h := ip (c_10) h
    refine lv_iinc (v := l3 + 1) (lv' := [(3, .int (l3 + 1)), (0, .ref (Z 200)), (1, .long l1), (4, .int l4)]) hx hb dX12_sum_146 hl (k := 2) rfl rfl (by decide) rfl (fun ls hl => ?_)
    refine lv_goto (tgt := 79) hx hb dX12_sum_149 (by decide) ?_
    exact hR_79 _ _ _ h _ _ _ hS (lv_sub hl [1, 2, 0] rfl)
  · have h := im (c_10) h
    refine lv_ldc2 (v := 31) hx hb hown (hG _ gw_2641) dX12_sum_119 ?_
    refine lv_lload_n hx hb dX12_sum_122 rfl (lv_at hl 1 rfl) ?_
    refine lv_lmul hx hb dX12_sum_123 ?_
    refine lv_aload_n hx hb dX12_sum_124 rfl (lv_at hl 0 rfl) ?_
    refine rg_82 X hS dX12_sum_125 ?_
    refine lv_aload_n hx hb dX12_sum_128 rfl (lv_at hl 0 rfl) ?_
    refine rg_39 X hS dX12_sum_129 ?_
    refine lv_iload_n hx hb dX12_sum_132 rfl (lv_at hl 2 rfl) ?_
    obtain ⟨v_11, e_v_11, i_12, h⟩ := rd_of h
    refine ra_39 X hS i_12 e_v_11 dX12_sum_133 ?_
    refine lv_iload hx hb dX12_sum_134 (lv_at hl 3 rfl) ?_
    refine lv_iadd hx hb dX12_sum_136 ?_
    obtain ⟨v_13, e_v_13, i_14, h⟩ := rd_of h
    refine ra_82 X hS i_14 e_v_13 dX12_sum_137 ?_
    refine lv_ladd hx hb dX12_sum_138 ?_
    refine lv_lstore_n (lv' := [(1, .long ((31 * l1) + v_13)), (0, .ref (Z 200)), (3, .int l3), (4, .int l4)]) hx hb dX12_sum_139 rfl hl (by decide) rfl (fun ls hl => ?_)
    refine lv_iinc (v := l4 + 1) (lv' := [(4, .int (l4 + 1)), (1, .long ((31 * l1) + v_13)), (0, .ref (Z 200)), (3, .int l3)]) hx hb dX12_sum_140 hl (k := 3) rfl rfl (by decide) rfl (fun ls hl => ?_)
    refine lv_goto (tgt := 103) hx hb dX12_sum_143 (by decide) ?_
    exact hR_103 _ _ _ _ h _ _ _ hS (lv_sub hl [2, 1, 3, 0] rfl)
def LP_sum_103 (N : Nat) (R_79 : Int64 × Int32 × RSt → Option (Int64 × RSt)) : Nat → Int64 × Int32 × Int32 × RSt → Option (Int64 × RSt) := lp (fun R a => B_sum_103 N R_79 R a.1 a.2.1 a.2.2.1 a.2.2.2)
theorem bl_sum_103 {r : Int64} (X : RC p s m args c cX12_sum 5 (Cond.code yX12_sum cX12_sum 5 (some .long)) D kA V A) (hE : REl p l e R s m args below meth c cX12_sum D kA Z A Q r w) (hF : 3 ≤ R.frames) (hL : 71 ≤ R.locals) {R_79 : Int64 × Int32 × RSt → Option (Int64 × RSt)} (hR_79 : ∀ (l1 : Int64) (l3 : Int32) (u : RSt), R_79 (l1, l3, u) = some (r, w) → ∀ (H : Heap) (locs : List Loc) (ls : Array Slot), RS D kA Z A s u H locs → lv_has ls 5 [(0, .ref (Z 200)), (1, .long l1), (3, .int l3)] → W p l e R s m args below meth c H locs 0 0 Q (F0 m 79 ls [])) : ∀ (n : Nat) (l1 : Int64) (l3 : Int32) (l4 : Int32) (u : RSt), LP_sum_103 N R_79 n (l1, l3, l4, u) = some (r, w) → ∀ (H : Heap) (locs : List Loc) (ls : Array Slot), RS D kA Z A s u H locs → lv_has ls 5 [(0, .ref (Z 200)), (1, .long l1), (3, .int l3), (4, .int l4)] → W p l e R s m args below meth c H locs 0 0 Q (F0 m 103 ls []) := by
  intro n
  induction n with
  | zero => intro l1 l3 l4 u h; exact nomatch h
  | succ n ih => intro l1 l3 l4 u h H locs ls hS hl; exact b_sum_103 (N := N) (R_103 := LP_sum_103 N R_79 n) X hE hF hL hR_79 ih h hS hl
def B_sum_79 (N : Nat) (R_79 : Int64 × Int32 × RSt → Option (Int64 × RSt)) (l1 : Int64) (l3 : Int32) (u : RSt) : Option (Int64 × RSt) := rd (u.2.2.1 42) 2 (u.1 55) fun v_15 => if ((24 * (u.1 55)) + v_15) ≤ l3 then (some (l1, u)) else (LP_sum_103 N R_79 N (l1, l3, 0, u))
set_option maxHeartbeats 4000000 in
theorem b_sum_79 {r : Int64} (X : RC p s m args c cX12_sum 5 (Cond.code yX12_sum cX12_sum 5 (some .long)) D kA V A) (hE : REl p l e R s m args below meth c cX12_sum D kA Z A Q r w) (hF : 3 ≤ R.frames) (hL : 71 ≤ R.locals) {R_79 : Int64 × Int32 × RSt → Option (Int64 × RSt)} {l1 : Int64} {l3 : Int32} (hR_79 : ∀ (l1 : Int64) (l3 : Int32) (u : RSt), R_79 (l1, l3, u) = some (r, w) → ∀ (H : Heap) (locs : List Loc) (ls : Array Slot), RS D kA Z A s u H locs → lv_has ls 5 [(0, .ref (Z 200)), (1, .long l1), (3, .int l3)] → W p l e R s m args below meth c H locs 0 0 Q (F0 m 79 ls [])) {u : RSt} (h : B_sum_79 N R_79 l1 l3 u = some (r, w)) (hS : RS D kA Z A s u H locs) (hl : lv_has ls 5 [(0, .ref (Z 200)), (1, .long l1), (3, .int l3)]) : W p l e R s m args below meth c H locs 0 0 Q (F0 m 79 ls []) := by
  obtain ⟨⟨hx, hb, hml, hown, hts⟩, hK, hEV, hA⟩ := id X
  have hG : ∀ w ∈ GW, w.before args s = true := fun w h => hts w (List.mem_cons_of_mem _ h)
  unfold B_sum_79 at h
  refine lv_iload_n hx hb dX12_sum_79 rfl (lv_at hl 2 rfl) ?_
  refine lv_bipush (v := 24) hx hb dX12_sum_80 (by decide) ?_
  refine lv_aload_n hx hb dX12_sum_82 rfl (lv_at hl 0 rfl) ?_
  refine rg_55 X hS dX12_sum_83 ?_
  refine lv_imul hx hb dX12_sum_86 ?_
  refine lv_aload_n hx hb dX12_sum_87 rfl (lv_at hl 0 rfl) ?_
  refine rg_42 X hS dX12_sum_88 ?_
  refine lv_aload_n hx hb dX12_sum_91 rfl (lv_at hl 0 rfl) ?_
  refine rg_55 X hS dX12_sum_92 ?_
  obtain ⟨v_15, e_v_15, i_16, h⟩ := rd_of h
  refine ra_42 X hS i_16 e_v_15 dX12_sum_95 ?_
  refine lv_iadd hx hb dX12_sum_96 ?_
  refine lv_icmp_ge (tgt := 152) hx hb dX12_sum_97 (by decide) (fun c_17 => ?_) (fun c_17 => ?_)
  · have h := ip (c_17) h
    refine lv_lload_n hx hb dX12_sum_152 rfl (lv_at hl 1 rfl) ?_
    obtain ⟨rfl, rfl⟩ := so h
    exact hE _ _ _ _ hS dX12_sum_153
  · have h := im (c_17) h
    refine lv_iconst (v := 0) hx hb dX12_sum_100 (by decide) ?_
    refine lv_istore (lv' := [(4, .int 0), (0, .ref (Z 200)), (1, .long l1), (3, .int l3)]) hx hb dX12_sum_101 hl (by decide) rfl (fun ls hl => ?_)
    exact bl_sum_103 X hE hF hL hR_79 _ _ _ _ _ h _ _ _ hS (lv_sub hl [1, 2, 3, 0] rfl)
def LP_sum_79 (N : Nat) : Nat → Int64 × Int32 × RSt → Option (Int64 × RSt) := lp (fun R a => B_sum_79 N R a.1 a.2.1 a.2.2)
theorem bl_sum_79 {r : Int64} (X : RC p s m args c cX12_sum 5 (Cond.code yX12_sum cX12_sum 5 (some .long)) D kA V A) (hE : REl p l e R s m args below meth c cX12_sum D kA Z A Q r w) (hF : 3 ≤ R.frames) (hL : 71 ≤ R.locals)  : ∀ (n : Nat) (l1 : Int64) (l3 : Int32) (u : RSt), LP_sum_79 N n (l1, l3, u) = some (r, w) → ∀ (H : Heap) (locs : List Loc) (ls : Array Slot), RS D kA Z A s u H locs → lv_has ls 5 [(0, .ref (Z 200)), (1, .long l1), (3, .int l3)] → W p l e R s m args below meth c H locs 0 0 Q (F0 m 79 ls []) := by
  intro n
  induction n with
  | zero => intro l1 l3 u h; exact nomatch h
  | succ n ih => intro l1 l3 u h H locs ls hS hl; exact b_sum_79 (N := N) (R_79 := LP_sum_79 N n) X hE hF hL  ih h hS hl
def B_sum_9 (N : Nat) (R_9 : Int64 × Int32 × RSt → Option (Int64 × RSt)) (l1 : Int64) (l3 : Int32) (u : RSt) : Option (Int64 × RSt) := rd (u.2.2.1 19) 2 (u.1 55) fun v_18 => if v_18 ≤ l3 then (LP_sum_79 N N (l1, (24 * (u.1 55)), u)) else (LP_sum_25 N R_9 N (l1, l3, 0, u))
set_option maxHeartbeats 4000000 in
theorem b_sum_9 {r : Int64} (X : RC p s m args c cX12_sum 5 (Cond.code yX12_sum cX12_sum 5 (some .long)) D kA V A) (hE : REl p l e R s m args below meth c cX12_sum D kA Z A Q r w) (hF : 3 ≤ R.frames) (hL : 71 ≤ R.locals) {R_9 : Int64 × Int32 × RSt → Option (Int64 × RSt)} {l1 : Int64} {l3 : Int32} (hR_9 : ∀ (l1 : Int64) (l3 : Int32) (u : RSt), R_9 (l1, l3, u) = some (r, w) → ∀ (H : Heap) (locs : List Loc) (ls : Array Slot), RS D kA Z A s u H locs → lv_has ls 5 [(0, .ref (Z 200)), (1, .long l1), (3, .int l3)] → W p l e R s m args below meth c H locs 0 0 Q (F0 m 9 ls [])) {u : RSt} (h : B_sum_9 N R_9 l1 l3 u = some (r, w)) (hS : RS D kA Z A s u H locs) (hl : lv_has ls 5 [(0, .ref (Z 200)), (1, .long l1), (3, .int l3)]) : W p l e R s m args below meth c H locs 0 0 Q (F0 m 9 ls []) := by
  obtain ⟨⟨hx, hb, hml, hown, hts⟩, hK, hEV, hA⟩ := id X
  have hG : ∀ w ∈ GW, w.before args s = true := fun w h => hts w (List.mem_cons_of_mem _ h)
  unfold B_sum_9 at h
  refine lv_iload_n hx hb dX12_sum_9 rfl (lv_at hl 2 rfl) ?_
  refine lv_aload_n hx hb dX12_sum_10 rfl (lv_at hl 0 rfl) ?_
  refine rg_19 X hS dX12_sum_11 ?_
  refine lv_aload_n hx hb dX12_sum_14 rfl (lv_at hl 0 rfl) ?_
  refine rg_55 X hS dX12_sum_15 ?_
  obtain ⟨v_18, e_v_18, i_19, h⟩ := rd_of h
  refine ra_19 X hS i_19 e_v_18 dX12_sum_18 ?_
  refine lv_icmp_ge (tgt := 71) hx hb dX12_sum_19 (by decide) (fun c_20 => ?_) (fun c_20 => ?_)
  · have h := ip (c_20) h
    refine lv_bipush (v := 24) hx hb dX12_sum_71 (by decide) ?_
    refine lv_aload_n hx hb dX12_sum_73 rfl (lv_at hl 0 rfl) ?_
    refine rg_55 X hS dX12_sum_74 ?_
    refine lv_imul hx hb dX12_sum_77 ?_
    refine lv_istore_n (lv' := [(3, .int (24 * (u.1 55))), (0, .ref (Z 200)), (1, .long l1)]) hx hb dX12_sum_78 rfl hl (by decide) rfl (fun ls hl => ?_)
    exact bl_sum_79 X hE hF hL  _ _ _ _ h _ _ _ hS (lv_sub hl [1, 2, 0] rfl)
  · have h := im (c_20) h
    refine lv_iconst (v := 0) hx hb dX12_sum_22 (by decide) ?_
    refine lv_istore (lv' := [(4, .int 0), (0, .ref (Z 200)), (1, .long l1), (3, .int l3)]) hx hb dX12_sum_23 hl (by decide) rfl (fun ls hl => ?_)
    exact bl_sum_25 X hE hF hL hR_9 _ _ _ _ _ h _ _ _ hS (lv_sub hl [1, 2, 3, 0] rfl)
def LP_sum_9 (N : Nat) : Nat → Int64 × Int32 × RSt → Option (Int64 × RSt) := lp (fun R a => B_sum_9 N R a.1 a.2.1 a.2.2)
theorem bl_sum_9 {r : Int64} (X : RC p s m args c cX12_sum 5 (Cond.code yX12_sum cX12_sum 5 (some .long)) D kA V A) (hE : REl p l e R s m args below meth c cX12_sum D kA Z A Q r w) (hF : 3 ≤ R.frames) (hL : 71 ≤ R.locals)  : ∀ (n : Nat) (l1 : Int64) (l3 : Int32) (u : RSt), LP_sum_9 N n (l1, l3, u) = some (r, w) → ∀ (H : Heap) (locs : List Loc) (ls : Array Slot), RS D kA Z A s u H locs → lv_has ls 5 [(0, .ref (Z 200)), (1, .long l1), (3, .int l3)] → W p l e R s m args below meth c H locs 0 0 Q (F0 m 9 ls []) := by
  intro n
  induction n with
  | zero => intro l1 l3 u h; exact nomatch h
  | succ n ih => intro l1 l3 u h H locs ls hS hl; exact b_sum_9 (N := N) (R_9 := LP_sum_9 N n) X hE hF hL  ih h hS hl
def B_sum_0 (N : Nat) (u : RSt) : Option (Int64 × RSt) := pu (sI u 9 0) fun u_21 => LP_sum_9 N N (0, 0, u_21)
set_option maxHeartbeats 4000000 in
theorem b_sum_0 {r : Int64} (X : RC p s m args c cX12_sum 5 (Cond.code yX12_sum cX12_sum 5 (some .long)) D kA V A) (hE : REl p l e R s m args below meth c cX12_sum D kA Z A Q r w) (hF : 3 ≤ R.frames) (hL : 71 ≤ R.locals)  {u : RSt} (h : B_sum_0 N u = some (r, w)) (hS : RS D kA Z A s u H locs) (hl : lv_has ls 5 [(0, .ref (Z 200))]) : W p l e R s m args below meth c H locs 0 0 Q (F0 m 0 ls []) := by
  obtain ⟨⟨hx, hb, hml, hown, hts⟩, hK, hEV, hA⟩ := id X
  have hG : ∀ w ∈ GW, w.before args s = true := fun w h => hts w (List.mem_cons_of_mem _ h)
  unfold B_sum_0 at h
  refine lv_aload_n hx hb dX12_sum_0 rfl (lv_at hl 0 rfl) ?_
  refine lv_iconst (v := 0) hx hb dX12_sum_1 (by decide) ?_
  obtain ⟨u_21, e_u_21, h⟩ := pu_of h
  refine rp_9 X hS e_u_21 dX12_sum_2 (fun H locs hS => ?_)
  refine lv_lconst (v := 0) hx hb dX12_sum_5 (by decide) ?_
  refine lv_lstore_n (lv' := [(1, .long 0), (0, .ref (Z 200))]) hx hb dX12_sum_6 rfl hl (by decide) rfl (fun ls hl => ?_)
  refine lv_iconst (v := 0) hx hb dX12_sum_7 (by decide) ?_
  refine lv_istore_n (lv' := [(3, .int 0), (1, .long 0), (0, .ref (Z 200))]) hx hb dX12_sum_8 rfl hl (by decide) rfl (fun ls hl => ?_)
  exact bl_sum_9 X hE hF hL  _ _ _ _ h _ _ _ hS (lv_sub hl [2, 1, 0] rfl)
def F_sum (N : Nat) (u : RSt) : Option (Int64 × RSt) := B_sum_0 N u
set_option maxHeartbeats 4000000 in
theorem k_sum (l : Launch) (D : va_G) (kA : Nat → ClassId) (V Z : Nat → Nat) (N : Nat) (u : RSt) (sz : Nat) {r : Int64} {w : RSt} (h : F_sum N u = some (r, w)) : Met l yX12_sum (Cond.code yX12_sum cX12_sum 5 (some .long) :: GW) { frames := 3, cells := 0, slots := 0, locals := 71 } (rPc D kA V Z [] u sz) (rQl D kA Z u sz r w) 0 0 (va_A (RW kA Z u) sz) := by
  refine Met.ofW (cc := cX12_sum) (maxL := 5) (ret := (some .long)) (by decide) rfl ?_
  intro p e s m args below meth c s₁ Bd hml hv
  obtain ⟨rfl, hsz, hP, hK, hD0, hE⟩ := hv
  have hts := atoms_spec (ws := Cond.code yX12_sum cX12_sum 5 (some .long) :: GW) Bd.pre
  have hl := lv_entry (.ref (Z 200) :: []) (n := 5) (Nat.le_of_ble_eq_true rfl)
  rw [lg_entry_eq]
  generalize (lg_sl (.ref (Z 200) :: []) ++ List.replicate (5 - (lg_sl (.ref (Z 200) :: [])).length) Slot.unset).toArray = ls at hl ⊢
  have hl : lv_has ls 5 [(0, .ref (Z 200))] := hl
  subst hsz
  have X : RC p s m (.ref (Z 200) :: []).toArray c cX12_sum 5 (Cond.code yX12_sum cX12_sum 5 (some .long)) D kA V (va_A (RW kA Z u) s.heap.size) := ⟨⟨Bd.exec, Bd.bytes, hml, findClass_of_methodNamed Bd.named, hts⟩, hK, hE, fun q h => Or.inr h⟩
  exact b_sum_0 X (rend_l (cy := cX12_sum) X Bd.returns Bd.notSynchronized) (Nat.le_refl _) (Nat.le_refl _) h ⟨hP, hD0.self, va_S.rf⟩ (lv_sub hl [0] rfl)
def B_areKinds_28 (N : Nat) (s1 : Int32) (u : RSt) : Option (Int32 × RSt) := pu (sI u 9 s1) fun u_1 => if (u_1.1 9) = (0 : Int32) then (some (1, u_1)) else (some (0, u_1))
set_option maxHeartbeats 4000000 in
theorem b_areKinds_28 {r : Int32} (X : RC p s m args c cX12_areKinds 4 (Cond.code yX12_areKinds cX12_areKinds 4 (some .boolean)) D kA V A) (hE : REz p l e R s m args below meth c cX12_areKinds D kA Z A Q r w) (hF : 1 ≤ R.frames) (hL : 22 ≤ R.locals) {s1 : Int32}  {u : RSt} (h : B_areKinds_28 N s1 u = some (r, w)) (hS : RS D kA Z A s u H locs) (hl : lv_has ls 4 [(0, .ref (Z 200))]) : W p l e R s m args below meth c H locs 0 0 Q (F0 m 28 ls [.int s1, .ref (Z 200)]) := by
  obtain ⟨⟨hx, hb, hml, hown, hts⟩, hK, hEV, hA⟩ := id X
  have hG : ∀ w ∈ GW, w.before args s = true := fun w h => hts w (List.mem_cons_of_mem _ h)
  unfold B_areKinds_28 at h
  obtain ⟨u_1, e_u_1, h⟩ := pu_of h
  refine rp_9 X hS e_u_1 dX12_areKinds_28 (fun H locs hS => ?_)
  refine lv_aload_n hx hb dX12_areKinds_31 rfl (lv_at hl 0 rfl) ?_
  refine rg_9 X hS dX12_areKinds_32 ?_
  refine lv_if_ne (tgt := 42) hx hb dX12_areKinds_35 (by decide) (fun c_2 => ?_) (fun c_2 => ?_)
  · have h := im (c_2) h
    refine lv_iconst (v := 0) hx hb dX12_areKinds_42 (by decide) ?_
    obtain ⟨rfl, rfl⟩ := so h
    exact hE _ _ _ _ hS (Or.inl rfl) dX12_areKinds_43
  · have h := ip (c_2) h
    refine lv_iconst (v := 1) hx hb dX12_areKinds_38 (by decide) ?_
    refine lv_goto (tgt := 43) hx hb dX12_areKinds_39 (by decide) ?_
    obtain ⟨rfl, rfl⟩ := so h
    exact hE _ _ _ _ hS (Or.inr rfl) dX12_areKinds_43
def B_areKinds_27 (N : Nat) (u : RSt) : Option (Int32 × RSt) := B_areKinds_28 N 1 u
set_option maxHeartbeats 4000000 in
theorem b_areKinds_27 {r : Int32} (X : RC p s m args c cX12_areKinds 4 (Cond.code yX12_areKinds cX12_areKinds 4 (some .boolean)) D kA V A) (hE : REz p l e R s m args below meth c cX12_areKinds D kA Z A Q r w) (hF : 1 ≤ R.frames) (hL : 22 ≤ R.locals)  {u : RSt} (h : B_areKinds_27 N u = some (r, w)) (hS : RS D kA Z A s u H locs) (hl : lv_has ls 4 [(0, .ref (Z 200))]) : W p l e R s m args below meth c H locs 0 0 Q (F0 m 27 ls [.ref (Z 200)]) := by
  obtain ⟨⟨hx, hb, hml, hown, hts⟩, hK, hEV, hA⟩ := id X
  have hG : ∀ w ∈ GW, w.before args s = true := fun w h => hts w (List.mem_cons_of_mem _ h)
  unfold B_areKinds_27 at h
  refine lv_iconst (v := 1) hx hb dX12_areKinds_27 (by decide) ?_
  exact b_areKinds_28 X hE hF hL  h hS (lv_sub hl [0] rfl)
def B_areKinds_0 (N : Nat) (l1 : Int32) (l2 : Int32) (l3 : Int32) (u : RSt) : Option (Int32 × RSt) := if (r_in l1 0 4) = (0 : Int32) then (B_areKinds_27 N u) else (if (r_in l2 0 4) = (0 : Int32) then (B_areKinds_27 N u) else (if l3 = (0 : Int32) then (B_areKinds_27 N u) else (B_areKinds_28 N 0 u)))
set_option maxHeartbeats 4000000 in
theorem b_areKinds_0 {r : Int32} (X : RC p s m args c cX12_areKinds 4 (Cond.code yX12_areKinds cX12_areKinds 4 (some .boolean)) D kA V A) (hE : REz p l e R s m args below meth c cX12_areKinds D kA Z A Q r w) (hF : 1 ≤ R.frames) (hL : 22 ≤ R.locals) {l1 : Int32} {l2 : Int32} {l3 : Int32}  {u : RSt} (h : B_areKinds_0 N l1 l2 l3 u = some (r, w)) (hS : RS D kA Z A s u H locs) (hl : lv_has ls 4 [(0, .ref (Z 200)), (1, .int l1), (2, .int l2), (3, .int l3)]) : W p l e R s m args below meth c H locs 0 0 Q (F0 m 0 ls []) := by
  obtain ⟨⟨hx, hb, hml, hown, hts⟩, hK, hEV, hA⟩ := id X
  have hG : ∀ w ∈ GW, w.before args s = true := fun w h => hts w (List.mem_cons_of_mem _ h)
  unfold B_areKinds_0 at h
  refine lv_aload_n hx hb dX12_areKinds_0 rfl (lv_at hl 0 rfl) ?_
  refine lv_iload_n hx hb dX12_areKinds_1 rfl (lv_at hl 1 rfl) ?_
  refine lv_iconst (v := 0) hx hb dX12_areKinds_2 (by decide) ?_
  refine lv_iconst (v := 4) hx hb dX12_areKinds_3 (by decide) ?_
  refine vp_callSi (W.runS (As := [.int l1, .int 0, .int 4]) (rest := [.ref (Z 200)]) X.1 (c_X12_in l l1 0 4) (va_cwS 3 hts (gw_P gw_2605 gw_2606 gw_16 gwp_X12_in) rfl rfl rfl (by decide +kernel) ⟨Nat.le_trans (Nat.le_of_ble_eq_true rfl) hF, Nat.le_trans (Nat.le_of_ble_eq_true rfl) hL⟩) ⟨fun _ _ _ _ q => q, fun _ _ _ => ⟨rfl, trivial⟩⟩ rfl rfl hl.1 rfl (lv_room (Nat.le_of_ble_eq_true rfl)) dX12_areKinds_4 ⟨Nat.zero_le _, Nat.zero_le _⟩) (fun r_3 q_4 => ?_)
  subst q_4
  refine lv_if_eq (tgt := 27) hx hb dX12_areKinds_7 (by decide) (fun c_5 => ?_) (fun c_5 => ?_)
  · have h := ip (c_5) h
    exact b_areKinds_27 X hE hF hL  h hS (lv_sub hl [0] rfl)
  · have h := im (c_5) h
    refine lv_iload_n hx hb dX12_areKinds_10 rfl (lv_at hl 2 rfl) ?_
    refine lv_iconst (v := 0) hx hb dX12_areKinds_11 (by decide) ?_
    refine lv_iconst (v := 4) hx hb dX12_areKinds_12 (by decide) ?_
    refine vp_callSi (W.runS (As := [.int l2, .int 0, .int 4]) (rest := [.ref (Z 200)]) X.1 (c_X12_in l l2 0 4) (va_cwS 3 hts (gw_P gw_2605 gw_2606 gw_16 gwp_X12_in) rfl rfl rfl (by decide +kernel) ⟨Nat.le_trans (Nat.le_of_ble_eq_true rfl) hF, Nat.le_trans (Nat.le_of_ble_eq_true rfl) hL⟩) ⟨fun _ _ _ _ q => q, fun _ _ _ => ⟨rfl, trivial⟩⟩ rfl rfl hl.1 rfl (lv_room (Nat.le_of_ble_eq_true rfl)) dX12_areKinds_13 ⟨Nat.zero_le _, Nat.zero_le _⟩) (fun r_6 q_7 => ?_)
    subst q_7
    refine lv_if_eq (tgt := 27) hx hb dX12_areKinds_16 (by decide) (fun c_8 => ?_) (fun c_8 => ?_)
    · have h := ip (c_8) h
      exact b_areKinds_27 X hE hF hL  h hS (lv_sub hl [0] rfl)
    · have h := im (c_8) h
      refine lv_iload_n hx hb dX12_areKinds_19 rfl (lv_at hl 3 rfl) ?_
      refine lv_if_eq (tgt := 27) hx hb dX12_areKinds_20 (by decide) (fun c_9 => ?_) (fun c_9 => ?_)
      · have h := ip (c_9) h
        exact b_areKinds_27 X hE hF hL  h hS (lv_sub hl [0] rfl)
      · have h := im (c_9) h
        refine lv_iconst (v := 0) hx hb dX12_areKinds_23 (by decide) ?_
        refine lv_goto (tgt := 28) hx hb dX12_areKinds_24 (by decide) ?_
        exact b_areKinds_28 X hE hF hL  h hS (lv_sub hl [0] rfl)
def F_areKinds (N : Nat) (l1 : Int32) (l2 : Int32) (l3 : Int32) (u : RSt) : Option (Int32 × RSt) := B_areKinds_0 N l1 l2 l3 u
set_option maxHeartbeats 4000000 in
theorem k_areKinds (l : Launch) (D : va_G) (kA : Nat → ClassId) (V Z : Nat → Nat) (N : Nat) (l1 : Int32) (l2 : Int32) (l3 : Int32) (u : RSt) (sz : Nat) {r : Int32} {w : RSt} (h : F_areKinds N l1 l2 l3 u = some (r, w)) : Met l yX12_areKinds (Cond.code yX12_areKinds cX12_areKinds 4 (some .boolean) :: GW) { frames := 1, cells := 0, slots := 0, locals := 22 } (rPc D kA V Z [.int l1, .int l2, .int l3] u sz) (rQi D kA Z u sz r w) 0 0 (va_A (RW kA Z u) sz) := by
  refine Met.ofW (cc := cX12_areKinds) (maxL := 4) (ret := (some .boolean)) (by decide) rfl ?_
  intro p e s m args below meth c s₁ Bd hml hv
  obtain ⟨rfl, hsz, hP, hK, hD0, hE⟩ := hv
  have hts := atoms_spec (ws := Cond.code yX12_areKinds cX12_areKinds 4 (some .boolean) :: GW) Bd.pre
  have hl := lv_entry (.ref (Z 200) :: [.int l1, .int l2, .int l3]) (n := 4) (Nat.le_of_ble_eq_true rfl)
  rw [lg_entry_eq]
  generalize (lg_sl (.ref (Z 200) :: [.int l1, .int l2, .int l3]) ++ List.replicate (4 - (lg_sl (.ref (Z 200) :: [.int l1, .int l2, .int l3])).length) Slot.unset).toArray = ls at hl ⊢
  have hl : lv_has ls 4 [(0, .ref (Z 200)), (1, .int l1), (2, .int l2), (3, .int l3)] := hl
  subst hsz
  have X : RC p s m (.ref (Z 200) :: [.int l1, .int l2, .int l3]).toArray c cX12_areKinds 4 (Cond.code yX12_areKinds cX12_areKinds 4 (some .boolean)) D kA V (va_A (RW kA Z u) s.heap.size) := ⟨⟨Bd.exec, Bd.bytes, hml, findClass_of_methodNamed Bd.named, hts⟩, hK, hE, fun q h => Or.inr h⟩
  exact b_areKinds_0 X (rend_z (cy := cX12_areKinds) X Bd.returns Bd.notSynchronized) (Nat.le_refl _) (Nat.le_refl _) h ⟨hP, hD0.self, va_S.rf⟩ (lv_sub hl [0, 1, 2, 3] rfl)
theorem kc_areKinds {r : Int32} {cc : ByteArray} {pc nL : Nat} {c0 : Cond} {rest : List Value} {l1 : Int32} {l2 : Int32} {l3 : Int32} {u : RSt} (X : RC p s m args c cc nL c0 D kA V A) (hS : RS D kA Z A s u H locs) (h : F_areKinds N l1 l2 l3 u = some (r, w)) (hF : 1 + 1 ≤ R.frames) (hL : 8 + (4 + 11) + 22 ≤ R.locals) (hl : ls.size = nL) (hc : (rest.map fun v => v.category).sum ≤ 8) (hdg : decode cc pc = .ok (.invokevirtual 751, 3)) (kk : ∀ H locs, RS D kA Z A s w H locs → W p l e R s m args below meth c H locs 0 0 Q (F0 m (pc + 3) ls (.int r :: rest))) : W p l e R s m args below meth c H locs 0 0 Q (F0 m pc ls (.int l3 :: .int l2 :: .int l1 :: .ref (Z 200) :: rest)) :=
  rcall_i (n := 3) X hS (k_areKinds l D kA V Z N l1 l2 l3 u H.size h) (gw_V gw_2748 gw_2750 gs_12_15 gw_16 gw_2751) (by decide +kernel) hF hL rfl hl hc rfl hdg kk
def B_cut_0 (N : Nat) (l1 : Int32) (l2 : Int64) (u : RSt) : Option (Int64 × RSt) := bn (F_areKinds N l1 l1 1 u) fun r_2 u_1 => if r_2 = (0 : Int32) then (some (0, u_1)) else (some (r_cut l1 l2, u_1))
set_option maxHeartbeats 4000000 in
theorem b_cut_0 {r : Int64} (X : RC p s m args c cX12_cut 4 (Cond.code yX12_cut cX12_cut 4 (some .long)) D kA V A) (hE : REl p l e R s m args below meth c cX12_cut D kA Z A Q r w) (hF : 2 ≤ R.frames) (hL : 45 ≤ R.locals) {l1 : Int32} {l2 : Int64}  {u : RSt} (h : B_cut_0 N l1 l2 u = some (r, w)) (hS : RS D kA Z A s u H locs) (hl : lv_has ls 4 [(0, .ref (Z 200)), (1, .int l1), (2, .long l2)]) : W p l e R s m args below meth c H locs 0 0 Q (F0 m 0 ls []) := by
  obtain ⟨⟨hx, hb, hml, hown, hts⟩, hK, hEV, hA⟩ := id X
  have hG : ∀ w ∈ GW, w.before args s = true := fun w h => hts w (List.mem_cons_of_mem _ h)
  unfold B_cut_0 at h
  refine lv_aload_n hx hb dX12_cut_0 rfl (lv_at hl 0 rfl) ?_
  refine lv_iload_n hx hb dX12_cut_1 rfl (lv_at hl 1 rfl) ?_
  refine lv_iload_n hx hb dX12_cut_2 rfl (lv_at hl 1 rfl) ?_
  refine lv_iconst (v := 1) hx hb dX12_cut_3 (by decide) ?_
  obtain ⟨r_2, u_1, h_u_1, h⟩ := bn_of h
  refine kc_areKinds X hS h_u_1 (Nat.le_trans (Nat.le_of_ble_eq_true rfl) hF) (Nat.le_trans (Nat.le_of_ble_eq_true rfl) hL) hl.1 (Nat.le_of_ble_eq_true rfl) dX12_cut_4 (fun H locs hS => ?_)
  refine lv_if_eq (tgt := 18) hx hb dX12_cut_7 (by decide) (fun c_3 => ?_) (fun c_3 => ?_)
  · have h := ip (c_3) h
    refine lv_lconst (v := 0) hx hb dX12_cut_18 (by decide) ?_
    obtain ⟨rfl, rfl⟩ := so h
    exact hE _ _ _ _ hS dX12_cut_19
  · have h := im (c_3) h
    refine lv_iload_n hx hb dX12_cut_10 rfl (lv_at hl 1 rfl) ?_
    refine lv_lload_n hx hb dX12_cut_11 rfl (lv_at hl 2 rfl) ?_
    refine vp_callSl (W.runS (As := [.int l1, .long l2]) (rest := []) X.1 (c_X12_cutTo l l1 l2) (va_cwS 2 hts (gw_P gw_2399 gw_2400 gw_16 gwp_X12_cutTo) rfl rfl rfl (by decide +kernel) ⟨Nat.le_trans (Nat.le_of_ble_eq_true rfl) hF, Nat.le_trans (Nat.le_of_ble_eq_true rfl) hL⟩) ⟨fun _ _ _ _ q => q, fun _ _ _ => ⟨rfl, trivial⟩⟩ rfl rfl hl.1 rfl (lv_room (Nat.le_of_ble_eq_true rfl)) dX12_cut_12 ⟨Nat.zero_le _, Nat.zero_le _⟩) (fun r_4 q_5 => ?_)
    subst q_5
    refine lv_goto (tgt := 19) hx hb dX12_cut_15 (by decide) ?_
    obtain ⟨rfl, rfl⟩ := so h
    exact hE _ _ _ _ hS dX12_cut_19
def F_cut (N : Nat) (l1 : Int32) (l2 : Int64) (u : RSt) : Option (Int64 × RSt) := B_cut_0 N l1 l2 u
set_option maxHeartbeats 4000000 in
theorem k_cut (l : Launch) (D : va_G) (kA : Nat → ClassId) (V Z : Nat → Nat) (N : Nat) (l1 : Int32) (l2 : Int64) (u : RSt) (sz : Nat) {r : Int64} {w : RSt} (h : F_cut N l1 l2 u = some (r, w)) : Met l yX12_cut (Cond.code yX12_cut cX12_cut 4 (some .long) :: GW) { frames := 2, cells := 0, slots := 0, locals := 45 } (rPc D kA V Z [.int l1, .long l2] u sz) (rQl D kA Z u sz r w) 0 0 (va_A (RW kA Z u) sz) := by
  refine Met.ofW (cc := cX12_cut) (maxL := 4) (ret := (some .long)) (by decide) rfl ?_
  intro p e s m args below meth c s₁ Bd hml hv
  obtain ⟨rfl, hsz, hP, hK, hD0, hE⟩ := hv
  have hts := atoms_spec (ws := Cond.code yX12_cut cX12_cut 4 (some .long) :: GW) Bd.pre
  have hl := lv_entry (.ref (Z 200) :: [.int l1, .long l2]) (n := 4) (Nat.le_of_ble_eq_true rfl)
  rw [lg_entry_eq]
  generalize (lg_sl (.ref (Z 200) :: [.int l1, .long l2]) ++ List.replicate (4 - (lg_sl (.ref (Z 200) :: [.int l1, .long l2])).length) Slot.unset).toArray = ls at hl ⊢
  have hl : lv_has ls 4 [(0, .ref (Z 200)), (1, .int l1), (2, .long l2)] := hl
  subst hsz
  have X : RC p s m (.ref (Z 200) :: [.int l1, .long l2]).toArray c cX12_cut 4 (Cond.code yX12_cut cX12_cut 4 (some .long)) D kA V (va_A (RW kA Z u) s.heap.size) := ⟨⟨Bd.exec, Bd.bytes, hml, findClass_of_methodNamed Bd.named, hts⟩, hK, hE, fun q h => Or.inr h⟩
  exact b_cut_0 X (rend_l (cy := cX12_cut) X Bd.returns Bd.notSynchronized) (Nat.le_refl _) (Nat.le_refl _) h ⟨hP, hD0.self, va_S.rf⟩ (lv_sub hl [0, 1, 2] rfl)
def B_work_195 (N : Nat) (l2 : Int32) (l8 : Int32) (l9 : Int64) (l11 : Int64) (s0 : Int32) (u : RSt) : Option (Int64 × RSt) := if (u.1 9) ≤ (0 : Int32) then (ok (¬ ((l8 = 243 ∨ l8 = 244) ∧ l11 = 0)) inferInstance <| some (r_cut l2 (r_two l8 s0 l9 l11), u)) else (some (0, u))
set_option maxHeartbeats 4000000 in
theorem b_work_195 {r : Int64} (X : RC p s m args c cX12_work 14 (Cond.code yX12_work cX12_work 14 (some .long)) D kA V A) (hE : REl p l e R s m args below meth c cX12_work D kA Z A Q r w) (hF : 3 ≤ R.frames) (hL : 70 ≤ R.locals) {l2 : Int32} {l8 : Int32} {l9 : Int64} {l11 : Int64} {s0 : Int32}  {u : RSt} (h : B_work_195 N l2 l8 l9 l11 s0 u = some (r, w)) (hS : RS D kA Z A s u H locs) (hl : lv_has ls 14 [(0, .ref (Z 200)), (2, .int l2), (8, .int l8), (9, .long l9), (11, .long l11)]) : W p l e R s m args below meth c H locs 0 0 Q (F0 m 195 ls [.int s0]) := by
  obtain ⟨⟨hx, hb, hml, hown, hts⟩, hK, hEV, hA⟩ := id X
  have hG : ∀ w ∈ GW, w.before args s = true := fun w h => hts w (List.mem_cons_of_mem _ h)
  unfold B_work_195 at h
  refine lv_istore (lv' := [(13, .int s0), (0, .ref (Z 200)), (2, .int l2), (8, .int l8), (9, .long l9), (11, .long l11)]) hx hb dX12_work_195 hl (by decide) rfl (fun ls hl => ?_)
  refine lv_aload_n hx hb dX12_work_197 rfl (lv_at hl 1 rfl) ?_
  refine rg_9 X hS dX12_work_198 ?_
  refine lv_if_le (tgt := 208) hx hb dX12_work_201 (by decide) (fun c_1 => ?_) (fun c_1 => ?_)
  · have h := ip (c_1) h
    refine lv_iload_n hx hb dX12_work_208 rfl (lv_at hl 2 rfl) ?_
    refine lv_iload hx hb dX12_work_209 (lv_at hl 3 rfl) ?_
    refine lv_iload hx hb dX12_work_211 (lv_at hl 0 rfl) ?_
    refine lv_lload hx hb dX12_work_213 (lv_at hl 4 rfl) ?_
    refine lv_lload hx hb dX12_work_215 (lv_at hl 5 rfl) ?_
    obtain ⟨z_2, h⟩ := ok_of h
    refine vp_callSl (W.runS (As := [.int l8, .int s0, .long l9, .long l11]) (rest := [.int l2]) X.1 (c_X12_reckoned l l8 s0 l9 l11 z_2) (va_cwS 4 hts (gw_P gw_2637 gw_2638 gw_16 gwp_X12_reckoned) rfl rfl rfl (by decide +kernel) ⟨Nat.le_trans (Nat.le_of_ble_eq_true rfl) hF, Nat.le_trans (Nat.le_of_ble_eq_true rfl) hL⟩) ⟨fun _ _ _ _ q => q, fun _ _ _ => ⟨rfl, trivial⟩⟩ rfl rfl hl.1 rfl (lv_room (Nat.le_of_ble_eq_true rfl)) dX12_work_217 ⟨Nat.zero_le _, Nat.zero_le _⟩) (fun r_3 q_4 => ?_)
    subst q_4
    refine vp_callSl (W.runS (As := [.int l2, .long (r_two l8 s0 l9 l11)]) (rest := []) X.1 (c_X12_cutTo l l2 (r_two l8 s0 l9 l11)) (va_cwS 2 hts (gw_P gw_2399 gw_2400 gw_16 gwp_X12_cutTo) rfl rfl rfl (by decide +kernel) ⟨Nat.le_trans (Nat.le_of_ble_eq_true rfl) hF, Nat.le_trans (Nat.le_of_ble_eq_true rfl) hL⟩) ⟨fun _ _ _ _ q => q, fun _ _ _ => ⟨rfl, trivial⟩⟩ rfl rfl hl.1 rfl (lv_room (Nat.le_of_ble_eq_true rfl)) dX12_work_220 ⟨Nat.zero_le _, Nat.zero_le _⟩) (fun r_5 q_6 => ?_)
    subst q_6
    obtain ⟨rfl, rfl⟩ := so h
    exact hE _ _ _ _ hS dX12_work_223
  · have h := im (c_1) h
    refine lv_lconst (v := 0) hx hb dX12_work_204 (by decide) ?_
    refine lv_goto (tgt := 223) hx hb dX12_work_205 (by decide) ?_
    obtain ⟨rfl, rfl⟩ := so h
    exact hE _ _ _ _ hS dX12_work_223
def B_work_190 (N : Nat) (l2 : Int32) (l8 : Int32) (l9 : Int64) (l11 : Int64) (u : RSt) : Option (Int64 × RSt) := B_work_195 N l2 l8 l9 l11 1 u
set_option maxHeartbeats 4000000 in
theorem b_work_190 {r : Int64} (X : RC p s m args c cX12_work 14 (Cond.code yX12_work cX12_work 14 (some .long)) D kA V A) (hE : REl p l e R s m args below meth c cX12_work D kA Z A Q r w) (hF : 3 ≤ R.frames) (hL : 70 ≤ R.locals) {l2 : Int32} {l8 : Int32} {l9 : Int64} {l11 : Int64}  {u : RSt} (h : B_work_190 N l2 l8 l9 l11 u = some (r, w)) (hS : RS D kA Z A s u H locs) (hl : lv_has ls 14 [(0, .ref (Z 200)), (2, .int l2), (8, .int l8), (9, .long l9), (11, .long l11)]) : W p l e R s m args below meth c H locs 0 0 Q (F0 m 190 ls []) := by
  obtain ⟨⟨hx, hb, hml, hown, hts⟩, hK, hEV, hA⟩ := id X
  have hG : ∀ w ∈ GW, w.before args s = true := fun w h => hts w (List.mem_cons_of_mem _ h)
  unfold B_work_190 at h
  refine lv_iconst (v := 1) hx hb dX12_work_190 (by decide) ?_
  refine lv_goto (tgt := 195) hx hb dX12_work_191 (by decide) ?_
  exact b_work_195 X hE hF hL  h hS (lv_sub hl [0, 1, 2, 3, 4] rfl)
def B_work_194 (N : Nat) (l2 : Int32) (l8 : Int32) (l9 : Int64) (l11 : Int64) (u : RSt) : Option (Int64 × RSt) := B_work_195 N l2 l8 l9 l11 0 u
set_option maxHeartbeats 4000000 in
theorem b_work_194 {r : Int64} (X : RC p s m args c cX12_work 14 (Cond.code yX12_work cX12_work 14 (some .long)) D kA V A) (hE : REl p l e R s m args below meth c cX12_work D kA Z A Q r w) (hF : 3 ≤ R.frames) (hL : 70 ≤ R.locals) {l2 : Int32} {l8 : Int32} {l9 : Int64} {l11 : Int64}  {u : RSt} (h : B_work_194 N l2 l8 l9 l11 u = some (r, w)) (hS : RS D kA Z A s u H locs) (hl : lv_has ls 14 [(0, .ref (Z 200)), (2, .int l2), (8, .int l8), (9, .long l9), (11, .long l11)]) : W p l e R s m args below meth c H locs 0 0 Q (F0 m 194 ls []) := by
  obtain ⟨⟨hx, hb, hml, hown, hts⟩, hK, hEV, hA⟩ := id X
  have hG : ∀ w ∈ GW, w.before args s = true := fun w h => hts w (List.mem_cons_of_mem _ h)
  unfold B_work_194 at h
  refine lv_iconst (v := 0) hx hb dX12_work_194 (by decide) ?_
  exact b_work_195 X hE hF hL  h hS (lv_sub hl [0, 1, 2, 3, 4] rfl)
def B_work_174 (N : Nat) (l1 : Int32) (l2 : Int32) (l3 : Int32) (l8 : Int32) (l9 : Int64) (l11 : Int64) (u : RSt) : Option (Int64 × RSt) := if l2 = (4 : Int32) then (B_work_190 N l2 l8 l9 l11 u) else (if (8 : Int32) ≤ l1 then (B_work_194 N l2 l8 l9 l11 u) else (if l3 = (4 : Int32) then (B_work_190 N l2 l8 l9 l11 u) else (B_work_194 N l2 l8 l9 l11 u)))
set_option maxHeartbeats 4000000 in
theorem b_work_174 {r : Int64} (X : RC p s m args c cX12_work 14 (Cond.code yX12_work cX12_work 14 (some .long)) D kA V A) (hE : REl p l e R s m args below meth c cX12_work D kA Z A Q r w) (hF : 3 ≤ R.frames) (hL : 70 ≤ R.locals) {l1 : Int32} {l2 : Int32} {l3 : Int32} {l8 : Int32} {l9 : Int64} {l11 : Int64}  {u : RSt} (h : B_work_174 N l1 l2 l3 l8 l9 l11 u = some (r, w)) (hS : RS D kA Z A s u H locs) (hl : lv_has ls 14 [(0, .ref (Z 200)), (1, .int l1), (2, .int l2), (3, .int l3), (8, .int l8), (9, .long l9), (11, .long l11)]) : W p l e R s m args below meth c H locs 0 0 Q (F0 m 174 ls []) := by
  obtain ⟨⟨hx, hb, hml, hown, hts⟩, hK, hEV, hA⟩ := id X
  have hG : ∀ w ∈ GW, w.before args s = true := fun w h => hts w (List.mem_cons_of_mem _ h)
  unfold B_work_174 at h
  refine lv_iload_n hx hb dX12_work_174 rfl (lv_at hl 2 rfl) ?_
  refine lv_iconst (v := 4) hx hb dX12_work_175 (by decide) ?_
  refine lv_icmp_eq (tgt := 190) hx hb dX12_work_176 (by decide) (fun c_7 => ?_) (fun c_7 => ?_)
  · have h := ip (c_7) h
    exact b_work_190 X hE hF hL  h hS (lv_sub hl [0, 2, 4, 5, 6] rfl)
  · have h := im (c_7) h
    refine lv_iload_n hx hb dX12_work_179 rfl (lv_at hl 1 rfl) ?_
    refine lv_bipush (v := 8) hx hb dX12_work_180 (by decide) ?_
    refine lv_icmp_ge (tgt := 194) hx hb dX12_work_182 (by decide) (fun c_8 => ?_) (fun c_8 => ?_)
    · have h := ip (c_8) h
      exact b_work_194 X hE hF hL  h hS (lv_sub hl [0, 2, 4, 5, 6] rfl)
    · have h := im (c_8) h
      refine lv_iload_n hx hb dX12_work_185 rfl (lv_at hl 3 rfl) ?_
      refine lv_iconst (v := 4) hx hb dX12_work_186 (by decide) ?_
      refine lv_icmp_ne (tgt := 194) hx hb dX12_work_187 (by decide) (fun c_9 => ?_) (fun c_9 => ?_)
      · have h := im (c_9) h
        exact b_work_194 X hE hF hL  h hS (lv_sub hl [0, 2, 4, 5, 6] rfl)
      · have h := ip (c_9) h
        exact b_work_190 X hE hF hL  h hS (lv_sub hl [0, 2, 4, 5, 6] rfl)
def B_work_162 (N : Nat) (l1 : Int32) (l2 : Int32) (l3 : Int32) (l8 : Int32) (l9 : Int64) (l11 : Int64) (u : RSt) : Option (Int64 × RSt) := if l11 = (0 : Int64) then (pu (sI u 9 2) fun u_11 => B_work_174 N l1 l2 l3 l8 l9 l11 u_11) else (B_work_174 N l1 l2 l3 l8 l9 l11 u)
set_option maxHeartbeats 4000000 in
theorem b_work_162 {r : Int64} (X : RC p s m args c cX12_work 14 (Cond.code yX12_work cX12_work 14 (some .long)) D kA V A) (hE : REl p l e R s m args below meth c cX12_work D kA Z A Q r w) (hF : 3 ≤ R.frames) (hL : 70 ≤ R.locals) {l1 : Int32} {l2 : Int32} {l3 : Int32} {l8 : Int32} {l9 : Int64} {l11 : Int64}  {u : RSt} (h : B_work_162 N l1 l2 l3 l8 l9 l11 u = some (r, w)) (hS : RS D kA Z A s u H locs) (hl : lv_has ls 14 [(0, .ref (Z 200)), (1, .int l1), (2, .int l2), (3, .int l3), (8, .int l8), (9, .long l9), (11, .long l11)]) : W p l e R s m args below meth c H locs 0 0 Q (F0 m 162 ls []) := by
  obtain ⟨⟨hx, hb, hml, hown, hts⟩, hK, hEV, hA⟩ := id X
  have hG : ∀ w ∈ GW, w.before args s = true := fun w h => hts w (List.mem_cons_of_mem _ h)
  unfold B_work_162 at h
  refine lv_lload hx hb dX12_work_162 (lv_at hl 6 rfl) ?_
  refine lv_lconst (v := 0) hx hb dX12_work_164 (by decide) ?_
  refine W.lcmp hx hb dX12_work_165 ?_
  refine lv_if_ne (tgt := 174) hx hb dX12_work_166 (by decide) (fun c_10 => ?_) (fun c_10 => ?_)
  · have h := im (mt (lg_cmp_eq _ _).mpr c_10) h
    exact b_work_174 X hE hF hL  h hS (lv_sub hl [0, 1, 2, 3, 4, 5, 6] rfl)
  · have h := ip ((lg_cmp_eq _ _).mp c_10) h
    refine lv_aload_n hx hb dX12_work_169 rfl (lv_at hl 0 rfl) ?_
    refine lv_iconst (v := 2) hx hb dX12_work_170 (by decide) ?_
    obtain ⟨u_11, e_u_11, h⟩ := pu_of h
    refine rp_9 X hS e_u_11 dX12_work_171 (fun H locs hS => ?_)
    exact b_work_174 X hE hF hL  h hS (lv_sub hl [0, 1, 2, 3, 4, 5, 6] rfl)
def B_work_134 (N : Nat) (l1 : Int32) (l2 : Int32) (l3 : Int32) (l4 : Int64) (l6 : Int64) (s0 : Int32) (u : RSt) : Option (Int64 × RSt) := if l1 = (3 : Int32) then (B_work_162 N l1 l2 l3 s0 (r_cut l2 l4) (r_cut l3 l6) u) else (if l1 = (4 : Int32) then (B_work_162 N l1 l2 l3 s0 (r_cut l2 l4) (r_cut l3 l6) u) else (B_work_174 N l1 l2 l3 s0 (r_cut l2 l4) (r_cut l3 l6) u))
set_option maxHeartbeats 4000000 in
theorem b_work_134 {r : Int64} (X : RC p s m args c cX12_work 14 (Cond.code yX12_work cX12_work 14 (some .long)) D kA V A) (hE : REl p l e R s m args below meth c cX12_work D kA Z A Q r w) (hF : 3 ≤ R.frames) (hL : 70 ≤ R.locals) {l1 : Int32} {l2 : Int32} {l3 : Int32} {l4 : Int64} {l6 : Int64} {s0 : Int32}  {u : RSt} (h : B_work_134 N l1 l2 l3 l4 l6 s0 u = some (r, w)) (hS : RS D kA Z A s u H locs) (hl : lv_has ls 14 [(0, .ref (Z 200)), (1, .int l1), (2, .int l2), (3, .int l3), (4, .long l4), (6, .long l6)]) : W p l e R s m args below meth c H locs 0 0 Q (F0 m 134 ls [.int s0]) := by
  obtain ⟨⟨hx, hb, hml, hown, hts⟩, hK, hEV, hA⟩ := id X
  have hG : ∀ w ∈ GW, w.before args s = true := fun w h => hts w (List.mem_cons_of_mem _ h)
  unfold B_work_134 at h
  refine lv_istore (lv' := [(8, .int s0), (0, .ref (Z 200)), (1, .int l1), (2, .int l2), (3, .int l3), (4, .long l4), (6, .long l6)]) hx hb dX12_work_134 hl (by decide) rfl (fun ls hl => ?_)
  refine lv_iload_n hx hb dX12_work_136 rfl (lv_at hl 3 rfl) ?_
  refine lv_lload hx hb dX12_work_137 (lv_at hl 5 rfl) ?_
  refine vp_callSl (W.runS (As := [.int l2, .long l4]) (rest := []) X.1 (c_X12_cutTo l l2 l4) (va_cwS 2 hts (gw_P gw_2399 gw_2400 gw_16 gwp_X12_cutTo) rfl rfl rfl (by decide +kernel) ⟨Nat.le_trans (Nat.le_of_ble_eq_true rfl) hF, Nat.le_trans (Nat.le_of_ble_eq_true rfl) hL⟩) ⟨fun _ _ _ _ q => q, fun _ _ _ => ⟨rfl, trivial⟩⟩ rfl rfl hl.1 rfl (lv_room (Nat.le_of_ble_eq_true rfl)) dX12_work_139 ⟨Nat.zero_le _, Nat.zero_le _⟩) (fun r_12 q_13 => ?_)
  subst q_13
  refine lv_lstore (lv' := [(9, .long (r_cut l2 l4)), (8, .int s0), (0, .ref (Z 200)), (1, .int l1), (2, .int l2), (3, .int l3), (4, .long l4), (6, .long l6)]) hx hb dX12_work_142 hl (by decide) rfl (fun ls hl => ?_)
  refine lv_iload_n hx hb dX12_work_144 rfl (lv_at hl 5 rfl) ?_
  refine lv_lload hx hb dX12_work_145 (lv_at hl 7 rfl) ?_
  refine vp_callSl (W.runS (As := [.int l3, .long l6]) (rest := []) X.1 (c_X12_cutTo l l3 l6) (va_cwS 2 hts (gw_P gw_2399 gw_2400 gw_16 gwp_X12_cutTo) rfl rfl rfl (by decide +kernel) ⟨Nat.le_trans (Nat.le_of_ble_eq_true rfl) hF, Nat.le_trans (Nat.le_of_ble_eq_true rfl) hL⟩) ⟨fun _ _ _ _ q => q, fun _ _ _ => ⟨rfl, trivial⟩⟩ rfl rfl hl.1 rfl (lv_room (Nat.le_of_ble_eq_true rfl)) dX12_work_147 ⟨Nat.zero_le _, Nat.zero_le _⟩) (fun r_14 q_15 => ?_)
  subst q_15
  refine lv_lstore (lv' := [(11, .long (r_cut l3 l6)), (9, .long (r_cut l2 l4)), (8, .int s0), (0, .ref (Z 200)), (1, .int l1), (2, .int l2), (3, .int l3), (4, .long l4), (6, .long l6)]) hx hb dX12_work_150 hl (by decide) rfl (fun ls hl => ?_)
  refine lv_iload_n hx hb dX12_work_152 rfl (lv_at hl 4 rfl) ?_
  refine lv_iconst (v := 3) hx hb dX12_work_153 (by decide) ?_
  refine lv_icmp_eq (tgt := 162) hx hb dX12_work_154 (by decide) (fun c_16 => ?_) (fun c_16 => ?_)
  · have h := ip (c_16) h
    exact b_work_162 X hE hF hL  h hS (lv_sub hl [3, 4, 5, 6, 2, 1, 0] rfl)
  · have h := im (c_16) h
    refine lv_iload_n hx hb dX12_work_157 rfl (lv_at hl 4 rfl) ?_
    refine lv_iconst (v := 4) hx hb dX12_work_158 (by decide) ?_
    refine lv_icmp_ne (tgt := 174) hx hb dX12_work_159 (by decide) (fun c_17 => ?_) (fun c_17 => ?_)
    · have h := im (c_17) h
      exact b_work_174 X hE hF hL  h hS (lv_sub hl [3, 4, 5, 6, 2, 1, 0] rfl)
    · have h := ip (c_17) h
      exact b_work_162 X hE hF hL  h hS (lv_sub hl [3, 4, 5, 6, 2, 1, 0] rfl)
def B_work_0 (N : Nat) (l1 : Int32) (l2 : Int32) (l3 : Int32) (l4 : Int64) (l6 : Int64) (u : RSt) : Option (Int64 × RSt) := bn (F_areKinds N l2 l3 (r_in l1 0 10) u) fun r_21 u_20 => if r_21 = (0 : Int32) then (some (0, u_20)) else (if l1 = (0 : Int32) then (B_work_134 N l1 l2 l3 l4 l6 240 u_20) else (if l1 = (1 : Int32) then (B_work_134 N l1 l2 l3 l4 l6 241 u_20) else (if l1 = (2 : Int32) then (B_work_134 N l1 l2 l3 l4 l6 242 u_20) else (if l1 = (3 : Int32) then (B_work_134 N l1 l2 l3 l4 l6 243 u_20) else (if l1 = (4 : Int32) then (B_work_134 N l1 l2 l3 l4 l6 244 u_20) else (if l1 = (5 : Int32) then (B_work_134 N l1 l2 l3 l4 l6 237 u_20) else (if l1 = (6 : Int32) then (B_work_134 N l1 l2 l3 l4 l6 235 u_20) else (if l1 = (7 : Int32) then (B_work_134 N l1 l2 l3 l4 l6 236 u_20) else (if l1 = (8 : Int32) then (B_work_134 N l1 l2 l3 l4 l6 221 u_20) else (if l1 = (9 : Int32) then (B_work_134 N l1 l2 l3 l4 l6 222 u_20) else (B_work_134 N l1 l2 l3 l4 l6 203 u_20)))))))))))
set_option maxHeartbeats 4000000 in
theorem b_work_0 {r : Int64} (X : RC p s m args c cX12_work 14 (Cond.code yX12_work cX12_work 14 (some .long)) D kA V A) (hE : REl p l e R s m args below meth c cX12_work D kA Z A Q r w) (hF : 3 ≤ R.frames) (hL : 70 ≤ R.locals) {l1 : Int32} {l2 : Int32} {l3 : Int32} {l4 : Int64} {l6 : Int64}  {u : RSt} (h : B_work_0 N l1 l2 l3 l4 l6 u = some (r, w)) (hS : RS D kA Z A s u H locs) (hl : lv_has ls 14 [(0, .ref (Z 200)), (1, .int l1), (2, .int l2), (3, .int l3), (4, .long l4), (6, .long l6)]) : W p l e R s m args below meth c H locs 0 0 Q (F0 m 0 ls []) := by
  obtain ⟨⟨hx, hb, hml, hown, hts⟩, hK, hEV, hA⟩ := id X
  have hG : ∀ w ∈ GW, w.before args s = true := fun w h => hts w (List.mem_cons_of_mem _ h)
  unfold B_work_0 at h
  refine lv_aload_n hx hb dX12_work_0 rfl (lv_at hl 0 rfl) ?_
  refine lv_iload_n hx hb dX12_work_1 rfl (lv_at hl 2 rfl) ?_
  refine lv_iload_n hx hb dX12_work_2 rfl (lv_at hl 3 rfl) ?_
  refine lv_iload_n hx hb dX12_work_3 rfl (lv_at hl 1 rfl) ?_
  refine lv_iconst (v := 0) hx hb dX12_work_4 (by decide) ?_
  refine lv_bipush (v := 10) hx hb dX12_work_5 (by decide) ?_
  refine vp_callSi (W.runS (As := [.int l1, .int 0, .int 10]) (rest := [.int l3, .int l2, .ref (Z 200)]) X.1 (c_X12_in l l1 0 10) (va_cwS 3 hts (gw_P gw_2605 gw_2606 gw_16 gwp_X12_in) rfl rfl rfl (by decide +kernel) ⟨Nat.le_trans (Nat.le_of_ble_eq_true rfl) hF, Nat.le_trans (Nat.le_of_ble_eq_true rfl) hL⟩) ⟨fun _ _ _ _ q => q, fun _ _ _ => ⟨rfl, trivial⟩⟩ rfl rfl hl.1 rfl (lv_room (Nat.le_of_ble_eq_true rfl)) dX12_work_7 ⟨Nat.zero_le _, Nat.zero_le _⟩) (fun r_18 q_19 => ?_)
  subst q_19
  obtain ⟨r_21, u_20, h_u_20, h⟩ := bn_of h
  refine kc_areKinds X hS h_u_20 (Nat.le_trans (Nat.le_of_ble_eq_true rfl) hF) (Nat.le_trans (Nat.le_of_ble_eq_true rfl) hL) hl.1 (Nat.le_of_ble_eq_true rfl) dX12_work_10 (fun H locs hS => ?_)
  refine lv_if_ne (tgt := 18) hx hb dX12_work_13 (by decide) (fun c_22 => ?_) (fun c_22 => ?_)
  · have h := im (c_22) h
    refine lv_iload_n hx hb dX12_work_18 rfl (lv_at hl 1 rfl) ?_
    refine lv_if_ne (tgt := 28) hx hb dX12_work_19 (by decide) (fun c_23 => ?_) (fun c_23 => ?_)
    · have h := im (c_23) h
      refine lv_iload_n hx hb dX12_work_28 rfl (lv_at hl 1 rfl) ?_
      refine lv_iconst (v := 1) hx hb dX12_work_29 (by decide) ?_
      refine lv_icmp_ne (tgt := 39) hx hb dX12_work_30 (by decide) (fun c_24 => ?_) (fun c_24 => ?_)
      · have h := im (c_24) h
        refine lv_iload_n hx hb dX12_work_39 rfl (lv_at hl 1 rfl) ?_
        refine lv_iconst (v := 2) hx hb dX12_work_40 (by decide) ?_
        refine lv_icmp_ne (tgt := 50) hx hb dX12_work_41 (by decide) (fun c_25 => ?_) (fun c_25 => ?_)
        · have h := im (c_25) h
          refine lv_iload_n hx hb dX12_work_50 rfl (lv_at hl 1 rfl) ?_
          refine lv_iconst (v := 3) hx hb dX12_work_51 (by decide) ?_
          refine lv_icmp_ne (tgt := 61) hx hb dX12_work_52 (by decide) (fun c_26 => ?_) (fun c_26 => ?_)
          · have h := im (c_26) h
            refine lv_iload_n hx hb dX12_work_61 rfl (lv_at hl 1 rfl) ?_
            refine lv_iconst (v := 4) hx hb dX12_work_62 (by decide) ?_
            refine lv_icmp_ne (tgt := 72) hx hb dX12_work_63 (by decide) (fun c_27 => ?_) (fun c_27 => ?_)
            · have h := im (c_27) h
              refine lv_iload_n hx hb dX12_work_72 rfl (lv_at hl 1 rfl) ?_
              refine lv_iconst (v := 5) hx hb dX12_work_73 (by decide) ?_
              refine lv_icmp_ne (tgt := 83) hx hb dX12_work_74 (by decide) (fun c_28 => ?_) (fun c_28 => ?_)
              · have h := im (c_28) h
                refine lv_iload_n hx hb dX12_work_83 rfl (lv_at hl 1 rfl) ?_
                refine lv_bipush (v := 6) hx hb dX12_work_84 (by decide) ?_
                refine lv_icmp_ne (tgt := 95) hx hb dX12_work_86 (by decide) (fun c_29 => ?_) (fun c_29 => ?_)
                · have h := im (c_29) h
                  refine lv_iload_n hx hb dX12_work_95 rfl (lv_at hl 1 rfl) ?_
                  refine lv_bipush (v := 7) hx hb dX12_work_96 (by decide) ?_
                  refine lv_icmp_ne (tgt := 107) hx hb dX12_work_98 (by decide) (fun c_30 => ?_) (fun c_30 => ?_)
                  · have h := im (c_30) h
                    refine lv_iload_n hx hb dX12_work_107 rfl (lv_at hl 1 rfl) ?_
                    refine lv_bipush (v := 8) hx hb dX12_work_108 (by decide) ?_
                    refine lv_icmp_ne (tgt := 119) hx hb dX12_work_110 (by decide) (fun c_31 => ?_) (fun c_31 => ?_)
                    · have h := im (c_31) h
                      refine lv_iload_n hx hb dX12_work_119 rfl (lv_at hl 1 rfl) ?_
                      refine lv_bipush (v := 9) hx hb dX12_work_120 (by decide) ?_
                      refine lv_icmp_ne (tgt := 131) hx hb dX12_work_122 (by decide) (fun c_32 => ?_) (fun c_32 => ?_)
                      · have h := im (c_32) h
                        refine lv_sipush (v := 203) hx hb dX12_work_131 (by decide) ?_
                        exact b_work_134 X hE hF hL  h hS (lv_sub hl [0, 1, 2, 3, 4, 5] rfl)
                      · have h := ip (c_32) h
                        refine lv_sipush (v := 222) hx hb dX12_work_125 (by decide) ?_
                        refine lv_goto (tgt := 134) hx hb dX12_work_128 (by decide) ?_
                        exact b_work_134 X hE hF hL  h hS (lv_sub hl [0, 1, 2, 3, 4, 5] rfl)
                    · have h := ip (c_31) h
                      refine lv_sipush (v := 221) hx hb dX12_work_113 (by decide) ?_
                      refine lv_goto (tgt := 134) hx hb dX12_work_116 (by decide) ?_
                      exact b_work_134 X hE hF hL  h hS (lv_sub hl [0, 1, 2, 3, 4, 5] rfl)
                  · have h := ip (c_30) h
                    refine lv_sipush (v := 236) hx hb dX12_work_101 (by decide) ?_
                    refine lv_goto (tgt := 134) hx hb dX12_work_104 (by decide) ?_
                    exact b_work_134 X hE hF hL  h hS (lv_sub hl [0, 1, 2, 3, 4, 5] rfl)
                · have h := ip (c_29) h
                  refine lv_sipush (v := 235) hx hb dX12_work_89 (by decide) ?_
                  refine lv_goto (tgt := 134) hx hb dX12_work_92 (by decide) ?_
                  exact b_work_134 X hE hF hL  h hS (lv_sub hl [0, 1, 2, 3, 4, 5] rfl)
              · have h := ip (c_28) h
                refine lv_sipush (v := 237) hx hb dX12_work_77 (by decide) ?_
                refine lv_goto (tgt := 134) hx hb dX12_work_80 (by decide) ?_
                exact b_work_134 X hE hF hL  h hS (lv_sub hl [0, 1, 2, 3, 4, 5] rfl)
            · have h := ip (c_27) h
              refine lv_sipush (v := 244) hx hb dX12_work_66 (by decide) ?_
              refine lv_goto (tgt := 134) hx hb dX12_work_69 (by decide) ?_
              exact b_work_134 X hE hF hL  h hS (lv_sub hl [0, 1, 2, 3, 4, 5] rfl)
          · have h := ip (c_26) h
            refine lv_sipush (v := 243) hx hb dX12_work_55 (by decide) ?_
            refine lv_goto (tgt := 134) hx hb dX12_work_58 (by decide) ?_
            exact b_work_134 X hE hF hL  h hS (lv_sub hl [0, 1, 2, 3, 4, 5] rfl)
        · have h := ip (c_25) h
          refine lv_sipush (v := 242) hx hb dX12_work_44 (by decide) ?_
          refine lv_goto (tgt := 134) hx hb dX12_work_47 (by decide) ?_
          exact b_work_134 X hE hF hL  h hS (lv_sub hl [0, 1, 2, 3, 4, 5] rfl)
      · have h := ip (c_24) h
        refine lv_sipush (v := 241) hx hb dX12_work_33 (by decide) ?_
        refine lv_goto (tgt := 134) hx hb dX12_work_36 (by decide) ?_
        exact b_work_134 X hE hF hL  h hS (lv_sub hl [0, 1, 2, 3, 4, 5] rfl)
    · have h := ip (c_23) h
      refine lv_sipush (v := 240) hx hb dX12_work_22 (by decide) ?_
      refine lv_goto (tgt := 134) hx hb dX12_work_25 (by decide) ?_
      exact b_work_134 X hE hF hL  h hS (lv_sub hl [0, 1, 2, 3, 4, 5] rfl)
  · have h := ip (c_22) h
    refine lv_lconst (v := 0) hx hb dX12_work_16 (by decide) ?_
    obtain ⟨rfl, rfl⟩ := so h
    exact hE _ _ _ _ hS dX12_work_17
def F_work (N : Nat) (l1 : Int32) (l2 : Int32) (l3 : Int32) (l4 : Int64) (l6 : Int64) (u : RSt) : Option (Int64 × RSt) := B_work_0 N l1 l2 l3 l4 l6 u
set_option maxHeartbeats 4000000 in
theorem k_work (l : Launch) (D : va_G) (kA : Nat → ClassId) (V Z : Nat → Nat) (N : Nat) (l1 : Int32) (l2 : Int32) (l3 : Int32) (l4 : Int64) (l6 : Int64) (u : RSt) (sz : Nat) {r : Int64} {w : RSt} (h : F_work N l1 l2 l3 l4 l6 u = some (r, w)) : Met l yX12_work (Cond.code yX12_work cX12_work 14 (some .long) :: GW) { frames := 3, cells := 0, slots := 0, locals := 70 } (rPc D kA V Z [.int l1, .int l2, .int l3, .long l4, .long l6] u sz) (rQl D kA Z u sz r w) 0 0 (va_A (RW kA Z u) sz) := by
  refine Met.ofW (cc := cX12_work) (maxL := 14) (ret := (some .long)) (by decide) rfl ?_
  intro p e s m args below meth c s₁ Bd hml hv
  obtain ⟨rfl, hsz, hP, hK, hD0, hE⟩ := hv
  have hts := atoms_spec (ws := Cond.code yX12_work cX12_work 14 (some .long) :: GW) Bd.pre
  have hl := lv_entry (.ref (Z 200) :: [.int l1, .int l2, .int l3, .long l4, .long l6]) (n := 14) (Nat.le_of_ble_eq_true rfl)
  rw [lg_entry_eq]
  generalize (lg_sl (.ref (Z 200) :: [.int l1, .int l2, .int l3, .long l4, .long l6]) ++ List.replicate (14 - (lg_sl (.ref (Z 200) :: [.int l1, .int l2, .int l3, .long l4, .long l6])).length) Slot.unset).toArray = ls at hl ⊢
  have hl : lv_has ls 14 [(0, .ref (Z 200)), (1, .int l1), (2, .int l2), (3, .int l3), (4, .long l4), (6, .long l6)] := hl
  subst hsz
  have X : RC p s m (.ref (Z 200) :: [.int l1, .int l2, .int l3, .long l4, .long l6]).toArray c cX12_work 14 (Cond.code yX12_work cX12_work 14 (some .long)) D kA V (va_A (RW kA Z u) s.heap.size) := ⟨⟨Bd.exec, Bd.bytes, hml, findClass_of_methodNamed Bd.named, hts⟩, hK, hE, fun q h => Or.inr h⟩
  exact b_work_0 X (rend_l (cy := cX12_work) X Bd.returns Bd.notSynchronized) (Nat.le_refl _) (Nat.le_refl _) h ⟨hP, hD0.self, va_S.rf⟩ (lv_sub hl [0, 1, 2, 3, 4, 5] rfl)
def B_tell_109 (N : Nat) (l8 : Int64) (l10 : Int64) (s0 : Int32) (u : RSt) : Option (Int64 × RSt) := ok (¬ ((s0 = 243 ∨ s0 = 244) ∧ l10 = 0)) inferInstance <| some (r_two s0 1 l8 l10, u)
set_option maxHeartbeats 4000000 in
theorem b_tell_109 {r : Int64} (X : RC p s m args c cX12_tell 13 (Cond.code yX12_tell cX12_tell 13 (some .long)) D kA V A) (hE : REl p l e R s m args below meth c cX12_tell D kA Z A Q r w) (hF : 3 ≤ R.frames) (hL : 77 ≤ R.locals) {l8 : Int64} {l10 : Int64} {s0 : Int32}  {u : RSt} (h : B_tell_109 N l8 l10 s0 u = some (r, w)) (hS : RS D kA Z A s u H locs) (hl : lv_has ls 13 [(8, .long l8), (10, .long l10)]) : W p l e R s m args below meth c H locs 0 0 Q (F0 m 109 ls [.int s0]) := by
  obtain ⟨⟨hx, hb, hml, hown, hts⟩, hK, hEV, hA⟩ := id X
  have hG : ∀ w ∈ GW, w.before args s = true := fun w h => hts w (List.mem_cons_of_mem _ h)
  unfold B_tell_109 at h
  refine lv_iconst (v := 1) hx hb dX12_tell_109 (by decide) ?_
  refine lv_lload hx hb dX12_tell_110 (lv_at hl 0 rfl) ?_
  refine lv_lload hx hb dX12_tell_112 (lv_at hl 1 rfl) ?_
  obtain ⟨z_1, h⟩ := ok_of h
  refine vp_callSl (W.runS (As := [.int s0, .int 1, .long l8, .long l10]) (rest := []) X.1 (c_X12_reckoned l s0 1 l8 l10 z_1) (va_cwS 4 hts (gw_P gw_2637 gw_2638 gw_16 gwp_X12_reckoned) rfl rfl rfl (by decide +kernel) ⟨Nat.le_trans (Nat.le_of_ble_eq_true rfl) hF, Nat.le_trans (Nat.le_of_ble_eq_true rfl) hL⟩) ⟨fun _ _ _ _ q => q, fun _ _ _ => ⟨rfl, trivial⟩⟩ rfl rfl hl.1 rfl (lv_room (Nat.le_of_ble_eq_true rfl)) dX12_tell_114 ⟨Nat.zero_le _, Nat.zero_le _⟩) (fun r_2 q_3 => ?_)
  subst q_3
  obtain ⟨rfl, rfl⟩ := so h
  exact hE _ _ _ _ hS dX12_tell_117
def B_tell_44 (N : Nat) (l1 : Int32) (l8 : Int64) (l10 : Int64) (s0 : Int32) (u : RSt) : Option (Int64 × RSt) := if (6 : Int32) ≤ l1 then (if (8 : Int32) ≤ l1 then (if (10 : Int32) ≤ l1 then (if l1 = (10 : Int32) then (some (r_special 0 s0 l8 0, u)) else (if (14 : Int32) ≤ l1 then (if l1 = (14 : Int32) then (some (r_worked s0 (-l8), u)) else (if l1 = (15 : Int32) then (some (l8 ^^^ (-1), u)) else (if l8 = (0 : Int64) then (some (1, u)) else (some (0, u))))) else (some (r_special (l1 - 6) s0 l8 0, u)))) else (some (r_special (l1 - 5) s0 l8 l10, u))) else (some (r_special (l1 - 5) 1 l8 l10, u))) else (if l1 = (0 : Int32) then (B_tell_109 N l8 l10 217 u) else (if l1 = (1 : Int32) then (B_tell_109 N l8 l10 218 u) else (if l1 = (2 : Int32) then (B_tell_109 N l8 l10 238 u) else (if l1 = (3 : Int32) then (B_tell_109 N l8 l10 219 u) else (if l1 = (4 : Int32) then (B_tell_109 N l8 l10 239 u) else (B_tell_109 N l8 l10 220 u))))))
set_option maxHeartbeats 4000000 in
theorem b_tell_44 {r : Int64} (X : RC p s m args c cX12_tell 13 (Cond.code yX12_tell cX12_tell 13 (some .long)) D kA V A) (hE : REl p l e R s m args below meth c cX12_tell D kA Z A Q r w) (hF : 3 ≤ R.frames) (hL : 77 ≤ R.locals) {l1 : Int32} {l8 : Int64} {l10 : Int64} {s0 : Int32}  {u : RSt} (h : B_tell_44 N l1 l8 l10 s0 u = some (r, w)) (hS : RS D kA Z A s u H locs) (hl : lv_has ls 13 [(1, .int l1), (8, .long l8), (10, .long l10)]) : W p l e R s m args below meth c H locs 0 0 Q (F0 m 44 ls [.int s0]) := by
  obtain ⟨⟨hx, hb, hml, hown, hts⟩, hK, hEV, hA⟩ := id X
  have hG : ∀ w ∈ GW, w.before args s = true := fun w h => hts w (List.mem_cons_of_mem _ h)
  unfold B_tell_44 at h
  refine lv_istore (lv' := [(12, .int s0), (1, .int l1), (8, .long l8), (10, .long l10)]) hx hb dX12_tell_44 hl (by decide) rfl (fun ls hl => ?_)
  refine lv_iload_n hx hb dX12_tell_46 rfl (lv_at hl 1 rfl) ?_
  refine lv_bipush (v := 6) hx hb dX12_tell_47 (by decide) ?_
  refine lv_icmp_ge (tgt := 118) hx hb dX12_tell_49 (by decide) (fun c_4 => ?_) (fun c_4 => ?_)
  · have h := ip (c_4) h
    refine lv_iload_n hx hb dX12_tell_118 rfl (lv_at hl 1 rfl) ?_
    refine lv_bipush (v := 8) hx hb dX12_tell_119 (by decide) ?_
    refine lv_icmp_ge (tgt := 136) hx hb dX12_tell_121 (by decide) (fun c_5 => ?_) (fun c_5 => ?_)
    · have h := ip (c_5) h
      refine lv_iload_n hx hb dX12_tell_136 rfl (lv_at hl 1 rfl) ?_
      refine lv_bipush (v := 10) hx hb dX12_tell_137 (by decide) ?_
      refine lv_icmp_ge (tgt := 155) hx hb dX12_tell_139 (by decide) (fun c_6 => ?_) (fun c_6 => ?_)
      · have h := ip (c_6) h
        refine lv_iload_n hx hb dX12_tell_155 rfl (lv_at hl 1 rfl) ?_
        refine lv_bipush (v := 10) hx hb dX12_tell_156 (by decide) ?_
        refine lv_icmp_ne (tgt := 171) hx hb dX12_tell_158 (by decide) (fun c_7 => ?_) (fun c_7 => ?_)
        · have h := im (c_7) h
          refine lv_iload_n hx hb dX12_tell_171 rfl (lv_at hl 1 rfl) ?_
          refine lv_bipush (v := 14) hx hb dX12_tell_172 (by decide) ?_
          refine lv_icmp_ge (tgt := 190) hx hb dX12_tell_174 (by decide) (fun c_8 => ?_) (fun c_8 => ?_)
          · have h := ip (c_8) h
            refine lv_iload_n hx hb dX12_tell_190 rfl (lv_at hl 1 rfl) ?_
            refine lv_bipush (v := 14) hx hb dX12_tell_191 (by decide) ?_
            refine lv_icmp_ne (tgt := 207) hx hb dX12_tell_193 (by decide) (fun c_9 => ?_) (fun c_9 => ?_)
            · have h := im (c_9) h
              refine lv_iload_n hx hb dX12_tell_207 rfl (lv_at hl 1 rfl) ?_
              refine lv_bipush (v := 15) hx hb dX12_tell_208 (by decide) ?_
              refine lv_icmp_ne (tgt := 222) hx hb dX12_tell_210 (by decide) (fun c_10 => ?_) (fun c_10 => ?_)
              · have h := im (c_10) h
                refine lv_lload hx hb dX12_tell_222 (lv_at hl 2 rfl) ?_
                refine lv_lconst (v := 0) hx hb dX12_tell_224 (by decide) ?_
                refine W.lcmp hx hb dX12_tell_225 ?_
                refine lv_if_ne (tgt := 233) hx hb dX12_tell_226 (by decide) (fun c_11 => ?_) (fun c_11 => ?_)
                · have h := im (mt (lg_cmp_eq _ _).mpr c_11) h
                  refine lv_lconst (v := 0) hx hb dX12_tell_233 (by decide) ?_
                  obtain ⟨rfl, rfl⟩ := so h
                  exact hE _ _ _ _ hS dX12_tell_234
                · have h := ip ((lg_cmp_eq _ _).mp c_11) h
                  refine lv_lconst (v := 1) hx hb dX12_tell_229 (by decide) ?_
                  refine lv_goto (tgt := 234) hx hb dX12_tell_230 (by decide) ?_
                  obtain ⟨rfl, rfl⟩ := so h
                  exact hE _ _ _ _ hS dX12_tell_234
              · have h := ip (c_10) h
                refine lv_lload hx hb dX12_tell_213 (lv_at hl 2 rfl) ?_
                refine lv_ldc2 (v := -1) hx hb hown (hG _ gw_2636) dX12_tell_215 ?_
                refine lv_lxor hx hb dX12_tell_218 ?_
                refine lv_goto (tgt := 234) hx hb dX12_tell_219 (by decide) ?_
                obtain ⟨rfl, rfl⟩ := so h
                exact hE _ _ _ _ hS dX12_tell_234
            · have h := ip (c_9) h
              refine lv_iload hx hb dX12_tell_196 (lv_at hl 0 rfl) ?_
              refine lv_lload hx hb dX12_tell_198 (lv_at hl 2 rfl) ?_
              refine lv_lneg hx hb dX12_tell_200 ?_
              refine vp_callSl (W.runS (As := [.int s0, .long (-l8)]) (rest := []) X.1 (c_X12_worked l s0 (-l8)) (va_cwS 2 hts (gw_P gw_2396 gw_2397 gw_16 gwp_X12_worked) rfl rfl rfl (by decide +kernel) ⟨Nat.le_trans (Nat.le_of_ble_eq_true rfl) hF, Nat.le_trans (Nat.le_of_ble_eq_true rfl) hL⟩) ⟨fun _ _ _ _ q => q, fun _ _ _ => ⟨rfl, trivial⟩⟩ rfl rfl hl.1 rfl (lv_room (Nat.le_of_ble_eq_true rfl)) dX12_tell_201 ⟨Nat.zero_le _, Nat.zero_le _⟩) (fun r_12 q_13 => ?_)
              subst q_13
              refine lv_goto (tgt := 234) hx hb dX12_tell_204 (by decide) ?_
              obtain ⟨rfl, rfl⟩ := so h
              exact hE _ _ _ _ hS dX12_tell_234
          · have h := im (c_8) h
            refine lv_iload_n hx hb dX12_tell_177 rfl (lv_at hl 1 rfl) ?_
            refine lv_bipush (v := 6) hx hb dX12_tell_178 (by decide) ?_
            refine lv_isub hx hb dX12_tell_180 ?_
            refine lv_iload hx hb dX12_tell_181 (lv_at hl 0 rfl) ?_
            refine lv_lload hx hb dX12_tell_183 (lv_at hl 2 rfl) ?_
            refine lv_lconst (v := 0) hx hb dX12_tell_185 (by decide) ?_
            refine vp_callSl (W.runS (As := [.int (l1 - 6), .int s0, .long l8, .long 0]) (rest := []) X.1 (c_X12_special l (l1 - 6) s0 l8 0) (va_cwS 4 hts (gw_P gw_2645 gw_2646 gw_16 gwp_X12_special) rfl rfl rfl (by decide +kernel) ⟨Nat.le_trans (Nat.le_of_ble_eq_true rfl) hF, Nat.le_trans (Nat.le_of_ble_eq_true rfl) hL⟩) ⟨fun _ _ _ _ q => q, fun _ _ _ => ⟨rfl, trivial⟩⟩ rfl rfl hl.1 rfl (lv_room (Nat.le_of_ble_eq_true rfl)) dX12_tell_186 ⟨Nat.zero_le _, Nat.zero_le _⟩) (fun r_14 q_15 => ?_)
            subst q_15
            obtain ⟨rfl, rfl⟩ := so h
            exact hE _ _ _ _ hS dX12_tell_189
        · have h := ip (c_7) h
          refine lv_iconst (v := 0) hx hb dX12_tell_161 (by decide) ?_
          refine lv_iload hx hb dX12_tell_162 (lv_at hl 0 rfl) ?_
          refine lv_lload hx hb dX12_tell_164 (lv_at hl 2 rfl) ?_
          refine lv_lconst (v := 0) hx hb dX12_tell_166 (by decide) ?_
          refine vp_callSl (W.runS (As := [.int 0, .int s0, .long l8, .long 0]) (rest := []) X.1 (c_X12_special l 0 s0 l8 0) (va_cwS 4 hts (gw_P gw_2645 gw_2646 gw_16 gwp_X12_special) rfl rfl rfl (by decide +kernel) ⟨Nat.le_trans (Nat.le_of_ble_eq_true rfl) hF, Nat.le_trans (Nat.le_of_ble_eq_true rfl) hL⟩) ⟨fun _ _ _ _ q => q, fun _ _ _ => ⟨rfl, trivial⟩⟩ rfl rfl hl.1 rfl (lv_room (Nat.le_of_ble_eq_true rfl)) dX12_tell_167 ⟨Nat.zero_le _, Nat.zero_le _⟩) (fun r_16 q_17 => ?_)
          subst q_17
          obtain ⟨rfl, rfl⟩ := so h
          exact hE _ _ _ _ hS dX12_tell_170
      · have h := im (c_6) h
        refine lv_iload_n hx hb dX12_tell_142 rfl (lv_at hl 1 rfl) ?_
        refine lv_iconst (v := 5) hx hb dX12_tell_143 (by decide) ?_
        refine lv_isub hx hb dX12_tell_144 ?_
        refine lv_iload hx hb dX12_tell_145 (lv_at hl 0 rfl) ?_
        refine lv_lload hx hb dX12_tell_147 (lv_at hl 2 rfl) ?_
        refine lv_lload hx hb dX12_tell_149 (lv_at hl 3 rfl) ?_
        refine vp_callSl (W.runS (As := [.int (l1 - 5), .int s0, .long l8, .long l10]) (rest := []) X.1 (c_X12_special l (l1 - 5) s0 l8 l10) (va_cwS 4 hts (gw_P gw_2645 gw_2646 gw_16 gwp_X12_special) rfl rfl rfl (by decide +kernel) ⟨Nat.le_trans (Nat.le_of_ble_eq_true rfl) hF, Nat.le_trans (Nat.le_of_ble_eq_true rfl) hL⟩) ⟨fun _ _ _ _ q => q, fun _ _ _ => ⟨rfl, trivial⟩⟩ rfl rfl hl.1 rfl (lv_room (Nat.le_of_ble_eq_true rfl)) dX12_tell_151 ⟨Nat.zero_le _, Nat.zero_le _⟩) (fun r_18 q_19 => ?_)
        subst q_19
        obtain ⟨rfl, rfl⟩ := so h
        exact hE _ _ _ _ hS dX12_tell_154
    · have h := im (c_5) h
      refine lv_iload_n hx hb dX12_tell_124 rfl (lv_at hl 1 rfl) ?_
      refine lv_iconst (v := 5) hx hb dX12_tell_125 (by decide) ?_
      refine lv_isub hx hb dX12_tell_126 ?_
      refine lv_iconst (v := 1) hx hb dX12_tell_127 (by decide) ?_
      refine lv_lload hx hb dX12_tell_128 (lv_at hl 2 rfl) ?_
      refine lv_lload hx hb dX12_tell_130 (lv_at hl 3 rfl) ?_
      refine vp_callSl (W.runS (As := [.int (l1 - 5), .int 1, .long l8, .long l10]) (rest := []) X.1 (c_X12_special l (l1 - 5) 1 l8 l10) (va_cwS 4 hts (gw_P gw_2645 gw_2646 gw_16 gwp_X12_special) rfl rfl rfl (by decide +kernel) ⟨Nat.le_trans (Nat.le_of_ble_eq_true rfl) hF, Nat.le_trans (Nat.le_of_ble_eq_true rfl) hL⟩) ⟨fun _ _ _ _ q => q, fun _ _ _ => ⟨rfl, trivial⟩⟩ rfl rfl hl.1 rfl (lv_room (Nat.le_of_ble_eq_true rfl)) dX12_tell_132 ⟨Nat.zero_le _, Nat.zero_le _⟩) (fun r_20 q_21 => ?_)
      subst q_21
      obtain ⟨rfl, rfl⟩ := so h
      exact hE _ _ _ _ hS dX12_tell_135
  · have h := im (c_4) h
    refine lv_iload_n hx hb dX12_tell_52 rfl (lv_at hl 1 rfl) ?_
    refine lv_if_ne (tgt := 62) hx hb dX12_tell_53 (by decide) (fun c_22 => ?_) (fun c_22 => ?_)
    · have h := im (c_22) h
      refine lv_iload_n hx hb dX12_tell_62 rfl (lv_at hl 1 rfl) ?_
      refine lv_iconst (v := 1) hx hb dX12_tell_63 (by decide) ?_
      refine lv_icmp_ne (tgt := 73) hx hb dX12_tell_64 (by decide) (fun c_23 => ?_) (fun c_23 => ?_)
      · have h := im (c_23) h
        refine lv_iload_n hx hb dX12_tell_73 rfl (lv_at hl 1 rfl) ?_
        refine lv_iconst (v := 2) hx hb dX12_tell_74 (by decide) ?_
        refine lv_icmp_ne (tgt := 84) hx hb dX12_tell_75 (by decide) (fun c_24 => ?_) (fun c_24 => ?_)
        · have h := im (c_24) h
          refine lv_iload_n hx hb dX12_tell_84 rfl (lv_at hl 1 rfl) ?_
          refine lv_iconst (v := 3) hx hb dX12_tell_85 (by decide) ?_
          refine lv_icmp_ne (tgt := 95) hx hb dX12_tell_86 (by decide) (fun c_25 => ?_) (fun c_25 => ?_)
          · have h := im (c_25) h
            refine lv_iload_n hx hb dX12_tell_95 rfl (lv_at hl 1 rfl) ?_
            refine lv_iconst (v := 4) hx hb dX12_tell_96 (by decide) ?_
            refine lv_icmp_ne (tgt := 106) hx hb dX12_tell_97 (by decide) (fun c_26 => ?_) (fun c_26 => ?_)
            · have h := im (c_26) h
              refine lv_sipush (v := 220) hx hb dX12_tell_106 (by decide) ?_
              exact b_tell_109 X hE hF hL  h hS (lv_sub hl [2, 3] rfl)
            · have h := ip (c_26) h
              refine lv_sipush (v := 239) hx hb dX12_tell_100 (by decide) ?_
              refine lv_goto (tgt := 109) hx hb dX12_tell_103 (by decide) ?_
              exact b_tell_109 X hE hF hL  h hS (lv_sub hl [2, 3] rfl)
          · have h := ip (c_25) h
            refine lv_sipush (v := 219) hx hb dX12_tell_89 (by decide) ?_
            refine lv_goto (tgt := 109) hx hb dX12_tell_92 (by decide) ?_
            exact b_tell_109 X hE hF hL  h hS (lv_sub hl [2, 3] rfl)
        · have h := ip (c_24) h
          refine lv_sipush (v := 238) hx hb dX12_tell_78 (by decide) ?_
          refine lv_goto (tgt := 109) hx hb dX12_tell_81 (by decide) ?_
          exact b_tell_109 X hE hF hL  h hS (lv_sub hl [2, 3] rfl)
      · have h := ip (c_23) h
        refine lv_sipush (v := 218) hx hb dX12_tell_67 (by decide) ?_
        refine lv_goto (tgt := 109) hx hb dX12_tell_70 (by decide) ?_
        exact b_tell_109 X hE hF hL  h hS (lv_sub hl [2, 3] rfl)
    · have h := ip (c_22) h
      refine lv_sipush (v := 217) hx hb dX12_tell_56 (by decide) ?_
      refine lv_goto (tgt := 109) hx hb dX12_tell_59 (by decide) ?_
      exact b_tell_109 X hE hF hL  h hS (lv_sub hl [2, 3] rfl)
def B_tell_0 (N : Nat) (l1 : Int32) (l2 : Int32) (l3 : Int32) (l4 : Int64) (l6 : Int64) (u : RSt) : Option (Int64 × RSt) := bn (F_areKinds N l2 l3 (r_in l1 0 16) u) fun r_30 u_29 => if r_30 = (0 : Int32) then (some (0, u_29)) else (if l2 = (4 : Int32) then (B_tell_44 N l1 (r_cut l2 l4) (r_cut l3 l6) 1 u_29) else (B_tell_44 N l1 (r_cut l2 l4) (r_cut l3 l6) 0 u_29))
set_option maxHeartbeats 4000000 in
theorem b_tell_0 {r : Int64} (X : RC p s m args c cX12_tell 13 (Cond.code yX12_tell cX12_tell 13 (some .long)) D kA V A) (hE : REl p l e R s m args below meth c cX12_tell D kA Z A Q r w) (hF : 3 ≤ R.frames) (hL : 77 ≤ R.locals) {l1 : Int32} {l2 : Int32} {l3 : Int32} {l4 : Int64} {l6 : Int64}  {u : RSt} (h : B_tell_0 N l1 l2 l3 l4 l6 u = some (r, w)) (hS : RS D kA Z A s u H locs) (hl : lv_has ls 13 [(0, .ref (Z 200)), (1, .int l1), (2, .int l2), (3, .int l3), (4, .long l4), (6, .long l6)]) : W p l e R s m args below meth c H locs 0 0 Q (F0 m 0 ls []) := by
  obtain ⟨⟨hx, hb, hml, hown, hts⟩, hK, hEV, hA⟩ := id X
  have hG : ∀ w ∈ GW, w.before args s = true := fun w h => hts w (List.mem_cons_of_mem _ h)
  unfold B_tell_0 at h
  refine lv_aload_n hx hb dX12_tell_0 rfl (lv_at hl 0 rfl) ?_
  refine lv_iload_n hx hb dX12_tell_1 rfl (lv_at hl 2 rfl) ?_
  refine lv_iload_n hx hb dX12_tell_2 rfl (lv_at hl 3 rfl) ?_
  refine lv_iload_n hx hb dX12_tell_3 rfl (lv_at hl 1 rfl) ?_
  refine lv_iconst (v := 0) hx hb dX12_tell_4 (by decide) ?_
  refine lv_bipush (v := 16) hx hb dX12_tell_5 (by decide) ?_
  refine vp_callSi (W.runS (As := [.int l1, .int 0, .int 16]) (rest := [.int l3, .int l2, .ref (Z 200)]) X.1 (c_X12_in l l1 0 16) (va_cwS 3 hts (gw_P gw_2605 gw_2606 gw_16 gwp_X12_in) rfl rfl rfl (by decide +kernel) ⟨Nat.le_trans (Nat.le_of_ble_eq_true rfl) hF, Nat.le_trans (Nat.le_of_ble_eq_true rfl) hL⟩) ⟨fun _ _ _ _ q => q, fun _ _ _ => ⟨rfl, trivial⟩⟩ rfl rfl hl.1 rfl (lv_room (Nat.le_of_ble_eq_true rfl)) dX12_tell_7 ⟨Nat.zero_le _, Nat.zero_le _⟩) (fun r_27 q_28 => ?_)
  subst q_28
  obtain ⟨r_30, u_29, h_u_29, h⟩ := bn_of h
  refine kc_areKinds X hS h_u_29 (Nat.le_trans (Nat.le_of_ble_eq_true rfl) hF) (Nat.le_trans (Nat.le_of_ble_eq_true rfl) hL) hl.1 (Nat.le_of_ble_eq_true rfl) dX12_tell_10 (fun H locs hS => ?_)
  refine lv_if_ne (tgt := 18) hx hb dX12_tell_13 (by decide) (fun c_31 => ?_) (fun c_31 => ?_)
  · have h := im (c_31) h
    refine lv_iload_n hx hb dX12_tell_18 rfl (lv_at hl 2 rfl) ?_
    refine lv_lload hx hb dX12_tell_19 (lv_at hl 4 rfl) ?_
    refine vp_callSl (W.runS (As := [.int l2, .long l4]) (rest := []) X.1 (c_X12_cutTo l l2 l4) (va_cwS 2 hts (gw_P gw_2399 gw_2400 gw_16 gwp_X12_cutTo) rfl rfl rfl (by decide +kernel) ⟨Nat.le_trans (Nat.le_of_ble_eq_true rfl) hF, Nat.le_trans (Nat.le_of_ble_eq_true rfl) hL⟩) ⟨fun _ _ _ _ q => q, fun _ _ _ => ⟨rfl, trivial⟩⟩ rfl rfl hl.1 rfl (lv_room (Nat.le_of_ble_eq_true rfl)) dX12_tell_21 ⟨Nat.zero_le _, Nat.zero_le _⟩) (fun r_32 q_33 => ?_)
    subst q_33
    refine lv_lstore (lv' := [(8, .long (r_cut l2 l4)), (0, .ref (Z 200)), (1, .int l1), (2, .int l2), (3, .int l3), (4, .long l4), (6, .long l6)]) hx hb dX12_tell_24 hl (by decide) rfl (fun ls hl => ?_)
    refine lv_iload_n hx hb dX12_tell_26 rfl (lv_at hl 4 rfl) ?_
    refine lv_lload hx hb dX12_tell_27 (lv_at hl 6 rfl) ?_
    refine vp_callSl (W.runS (As := [.int l3, .long l6]) (rest := []) X.1 (c_X12_cutTo l l3 l6) (va_cwS 2 hts (gw_P gw_2399 gw_2400 gw_16 gwp_X12_cutTo) rfl rfl rfl (by decide +kernel) ⟨Nat.le_trans (Nat.le_of_ble_eq_true rfl) hF, Nat.le_trans (Nat.le_of_ble_eq_true rfl) hL⟩) ⟨fun _ _ _ _ q => q, fun _ _ _ => ⟨rfl, trivial⟩⟩ rfl rfl hl.1 rfl (lv_room (Nat.le_of_ble_eq_true rfl)) dX12_tell_29 ⟨Nat.zero_le _, Nat.zero_le _⟩) (fun r_34 q_35 => ?_)
    subst q_35
    refine lv_lstore (lv' := [(10, .long (r_cut l3 l6)), (8, .long (r_cut l2 l4)), (0, .ref (Z 200)), (1, .int l1), (2, .int l2), (3, .int l3), (4, .long l4), (6, .long l6)]) hx hb dX12_tell_32 hl (by decide) rfl (fun ls hl => ?_)
    refine lv_iload_n hx hb dX12_tell_34 rfl (lv_at hl 4 rfl) ?_
    refine lv_iconst (v := 4) hx hb dX12_tell_35 (by decide) ?_
    refine lv_icmp_ne (tgt := 43) hx hb dX12_tell_36 (by decide) (fun c_36 => ?_) (fun c_36 => ?_)
    · have h := im (c_36) h
      refine lv_iconst (v := 0) hx hb dX12_tell_43 (by decide) ?_
      exact b_tell_44 X hE hF hL  h hS (lv_sub hl [3, 1, 0] rfl)
    · have h := ip (c_36) h
      refine lv_iconst (v := 1) hx hb dX12_tell_39 (by decide) ?_
      refine lv_goto (tgt := 44) hx hb dX12_tell_40 (by decide) ?_
      exact b_tell_44 X hE hF hL  h hS (lv_sub hl [3, 1, 0] rfl)
  · have h := ip (c_31) h
    refine lv_lconst (v := 0) hx hb dX12_tell_16 (by decide) ?_
    obtain ⟨rfl, rfl⟩ := so h
    exact hE _ _ _ _ hS dX12_tell_17
def F_tell (N : Nat) (l1 : Int32) (l2 : Int32) (l3 : Int32) (l4 : Int64) (l6 : Int64) (u : RSt) : Option (Int64 × RSt) := B_tell_0 N l1 l2 l3 l4 l6 u
set_option maxHeartbeats 4000000 in
theorem k_tell (l : Launch) (D : va_G) (kA : Nat → ClassId) (V Z : Nat → Nat) (N : Nat) (l1 : Int32) (l2 : Int32) (l3 : Int32) (l4 : Int64) (l6 : Int64) (u : RSt) (sz : Nat) {r : Int64} {w : RSt} (h : F_tell N l1 l2 l3 l4 l6 u = some (r, w)) : Met l yX12_tell (Cond.code yX12_tell cX12_tell 13 (some .long) :: GW) { frames := 3, cells := 0, slots := 0, locals := 77 } (rPc D kA V Z [.int l1, .int l2, .int l3, .long l4, .long l6] u sz) (rQl D kA Z u sz r w) 0 0 (va_A (RW kA Z u) sz) := by
  refine Met.ofW (cc := cX12_tell) (maxL := 13) (ret := (some .long)) (by decide) rfl ?_
  intro p e s m args below meth c s₁ Bd hml hv
  obtain ⟨rfl, hsz, hP, hK, hD0, hE⟩ := hv
  have hts := atoms_spec (ws := Cond.code yX12_tell cX12_tell 13 (some .long) :: GW) Bd.pre
  have hl := lv_entry (.ref (Z 200) :: [.int l1, .int l2, .int l3, .long l4, .long l6]) (n := 13) (Nat.le_of_ble_eq_true rfl)
  rw [lg_entry_eq]
  generalize (lg_sl (.ref (Z 200) :: [.int l1, .int l2, .int l3, .long l4, .long l6]) ++ List.replicate (13 - (lg_sl (.ref (Z 200) :: [.int l1, .int l2, .int l3, .long l4, .long l6])).length) Slot.unset).toArray = ls at hl ⊢
  have hl : lv_has ls 13 [(0, .ref (Z 200)), (1, .int l1), (2, .int l2), (3, .int l3), (4, .long l4), (6, .long l6)] := hl
  subst hsz
  have X : RC p s m (.ref (Z 200) :: [.int l1, .int l2, .int l3, .long l4, .long l6]).toArray c cX12_tell 13 (Cond.code yX12_tell cX12_tell 13 (some .long)) D kA V (va_A (RW kA Z u) s.heap.size) := ⟨⟨Bd.exec, Bd.bytes, hml, findClass_of_methodNamed Bd.named, hts⟩, hK, hE, fun q h => Or.inr h⟩
  exact b_tell_0 X (rend_l (cy := cX12_tell) X Bd.returns Bd.notSynchronized) (Nat.le_refl _) (Nat.le_refl _) h ⟨hP, hD0.self, va_S.rf⟩ (lv_sub hl [0, 1, 2, 3, 4, 5] rfl)
def B_feed_77 (N : Nat) (R_23 : Int32 × Int32 × Int32 × Int32 × Int32 × Int32 × RSt → Option (Int32 × RSt)) (R_77 : Int32 × Int32 × Int32 × Int32 × Int32 × Int32 × Int32 × Int32 × RSt → Option (Int32 × RSt)) (l1 : Int32) (l2 : Int32) (l3 : Int32) (l4 : Int32) (l5 : Int32) (l6 : Int32) (l7 : Int32) (l8 : Int32) (u : RSt) : Option (Int32 × RSt) := if l8 < (0 : Int32) then (R_23 (l1, l2, l3, l4, l5, (l6 + 1), u)) else (pu (sI u 1 ((u.1 1) + 1)) fun u_2 => wr 6000 (u.1 1) (sA u_2 0 (u.1 1).toNatClampNeg ((l7 >>> (l8 &&& 31)) &&& 255)) fun u_3 => R_77 (l1, l2, l3, l4, l5, l6, l7, (l8 + (-8)), u_3))
set_option maxHeartbeats 4000000 in
theorem b_feed_77 {r : Int32} (X : RC p s m args c cX12_feed 9 (Cond.code yX12_feed cX12_feed 9 (some .boolean)) D kA V A) (hE : REz p l e R s m args below meth c cX12_feed D kA Z A Q r w) (hF : 0 ≤ R.frames) (hL : 0 ≤ R.locals) {R_23 : Int32 × Int32 × Int32 × Int32 × Int32 × Int32 × RSt → Option (Int32 × RSt)} {R_77 : Int32 × Int32 × Int32 × Int32 × Int32 × Int32 × Int32 × Int32 × RSt → Option (Int32 × RSt)} {l1 : Int32} {l2 : Int32} {l3 : Int32} {l4 : Int32} {l5 : Int32} {l6 : Int32} {l7 : Int32} {l8 : Int32} (hR_23 : ∀ (l1 : Int32) (l2 : Int32) (l3 : Int32) (l4 : Int32) (l5 : Int32) (l6 : Int32) (u : RSt), R_23 (l1, l2, l3, l4, l5, l6, u) = some (r, w) → ∀ (H : Heap) (locs : List Loc) (ls : Array Slot), RS D kA Z A s u H locs → lv_has ls 9 [(0, .ref (Z 200)), (1, .int l1), (2, .int l2), (3, .int l3), (4, .int l4), (5, .int l5), (6, .int l6)] → W p l e R s m args below meth c H locs 0 0 Q (F0 m 23 ls [])) (hR_77 : ∀ (l1 : Int32) (l2 : Int32) (l3 : Int32) (l4 : Int32) (l5 : Int32) (l6 : Int32) (l7 : Int32) (l8 : Int32) (u : RSt), R_77 (l1, l2, l3, l4, l5, l6, l7, l8, u) = some (r, w) → ∀ (H : Heap) (locs : List Loc) (ls : Array Slot), RS D kA Z A s u H locs → lv_has ls 9 [(0, .ref (Z 200)), (1, .int l1), (2, .int l2), (3, .int l3), (4, .int l4), (5, .int l5), (6, .int l6), (7, .int l7), (8, .int l8)] → W p l e R s m args below meth c H locs 0 0 Q (F0 m 77 ls [])) {u : RSt} (h : B_feed_77 N R_23 R_77 l1 l2 l3 l4 l5 l6 l7 l8 u = some (r, w)) (hS : RS D kA Z A s u H locs) (hl : lv_has ls 9 [(0, .ref (Z 200)), (1, .int l1), (2, .int l2), (3, .int l3), (4, .int l4), (5, .int l5), (6, .int l6), (7, .int l7), (8, .int l8)]) : W p l e R s m args below meth c H locs 0 0 Q (F0 m 77 ls []) := by
  obtain ⟨⟨hx, hb, hml, hown, hts⟩, hK, hEV, hA⟩ := id X
  have hG : ∀ w ∈ GW, w.before args s = true := fun w h => hts w (List.mem_cons_of_mem _ h)
  unfold B_feed_77 at h
  refine lv_iload hx hb dX12_feed_77 (lv_at hl 8 rfl) ?_
  refine lv_if_lt (tgt := 113) hx hb dX12_feed_79 (by decide) (fun c_1 => ?_) (fun c_1 => ?_)
  · have h := ip (c_1) h
    refine lv_iinc (v := l6 + 1) (lv' := [(6, .int (l6 + 1)), (0, .ref (Z 200)), (1, .int l1), (2, .int l2), (3, .int l3), (4, .int l4), (5, .int l5), (7, .int l7), (8, .int l8)]) hx hb dX12_feed_113 hl (k := 6) rfl rfl (by decide) rfl (fun ls hl => ?_)
    refine lv_goto (tgt := 23) hx hb dX12_feed_116 (by decide) ?_
    exact hR_23 _ _ _ _ _ _ _ h _ _ _ hS (lv_sub hl [1, 2, 3, 4, 5, 6, 0] rfl)
  · have h := im (c_1) h
    refine lv_aload_n hx hb dX12_feed_82 rfl (lv_at hl 0 rfl) ?_
    refine rg_0 X hS dX12_feed_83 ?_
    refine lv_aload_n hx hb dX12_feed_86 rfl (lv_at hl 0 rfl) ?_
    refine lv_dup hx hb dX12_feed_87 rfl ?_
    refine rg_1 X hS dX12_feed_88 ?_
    refine lv_dup_x1 hx hb dX12_feed_91 rfl rfl ?_
    refine lv_iconst (v := 1) hx hb dX12_feed_92 (by decide) ?_
    refine lv_iadd hx hb dX12_feed_93 ?_
    obtain ⟨u_2, e_u_2, h⟩ := pu_of h
    refine rp_1 X hS e_u_2 dX12_feed_94 (fun H locs hS => ?_)
    refine lv_iload hx hb dX12_feed_97 (lv_at hl 7 rfl) ?_
    refine lv_iload hx hb dX12_feed_99 (lv_at hl 8 rfl) ?_
    refine lv_ishr hx hb dX12_feed_101 ?_
    refine lv_sipush (v := 255) hx hb dX12_feed_102 (by decide) ?_
    refine lv_iand hx hb dX12_feed_105 ?_
    obtain ⟨u_3, e_u_3, i_4, h⟩ := wr_of h
    refine rs_0 X hS i_4 e_u_3 dX12_feed_106 (fun H locs hS => ?_)
    refine lv_iinc (v := l8 + (-8)) (lv' := [(8, .int (l8 + (-8))), (0, .ref (Z 200)), (1, .int l1), (2, .int l2), (3, .int l3), (4, .int l4), (5, .int l5), (6, .int l6), (7, .int l7)]) hx hb dX12_feed_107 hl (k := 8) rfl rfl (by decide) rfl (fun ls hl => ?_)
    refine lv_goto (tgt := 77) hx hb dX12_feed_110 (by decide) ?_
    exact hR_77 _ _ _ _ _ _ _ _ _ h _ _ _ hS (lv_sub hl [1, 2, 3, 4, 5, 6, 7, 8, 0] rfl)
def LP_feed_77 (N : Nat) (R_23 : Int32 × Int32 × Int32 × Int32 × Int32 × Int32 × RSt → Option (Int32 × RSt)) : Nat → Int32 × Int32 × Int32 × Int32 × Int32 × Int32 × Int32 × Int32 × RSt → Option (Int32 × RSt) := lp (fun R a => B_feed_77 N R_23 R a.1 a.2.1 a.2.2.1 a.2.2.2.1 a.2.2.2.2.1 a.2.2.2.2.2.1 a.2.2.2.2.2.2.1 a.2.2.2.2.2.2.2.1 a.2.2.2.2.2.2.2.2)
theorem bl_feed_77 {r : Int32} (X : RC p s m args c cX12_feed 9 (Cond.code yX12_feed cX12_feed 9 (some .boolean)) D kA V A) (hE : REz p l e R s m args below meth c cX12_feed D kA Z A Q r w) (hF : 0 ≤ R.frames) (hL : 0 ≤ R.locals) {R_23 : Int32 × Int32 × Int32 × Int32 × Int32 × Int32 × RSt → Option (Int32 × RSt)} (hR_23 : ∀ (l1 : Int32) (l2 : Int32) (l3 : Int32) (l4 : Int32) (l5 : Int32) (l6 : Int32) (u : RSt), R_23 (l1, l2, l3, l4, l5, l6, u) = some (r, w) → ∀ (H : Heap) (locs : List Loc) (ls : Array Slot), RS D kA Z A s u H locs → lv_has ls 9 [(0, .ref (Z 200)), (1, .int l1), (2, .int l2), (3, .int l3), (4, .int l4), (5, .int l5), (6, .int l6)] → W p l e R s m args below meth c H locs 0 0 Q (F0 m 23 ls [])) : ∀ (n : Nat) (l1 : Int32) (l2 : Int32) (l3 : Int32) (l4 : Int32) (l5 : Int32) (l6 : Int32) (l7 : Int32) (l8 : Int32) (u : RSt), LP_feed_77 N R_23 n (l1, l2, l3, l4, l5, l6, l7, l8, u) = some (r, w) → ∀ (H : Heap) (locs : List Loc) (ls : Array Slot), RS D kA Z A s u H locs → lv_has ls 9 [(0, .ref (Z 200)), (1, .int l1), (2, .int l2), (3, .int l3), (4, .int l4), (5, .int l5), (6, .int l6), (7, .int l7), (8, .int l8)] → W p l e R s m args below meth c H locs 0 0 Q (F0 m 77 ls []) := by
  intro n
  induction n with
  | zero => intro l1 l2 l3 l4 l5 l6 l7 l8 u h; exact nomatch h
  | succ n ih => intro l1 l2 l3 l4 l5 l6 l7 l8 u h H locs ls hS hl; exact b_feed_77 (N := N) (R_77 := LP_feed_77 N R_23 n) X hE hF hL hR_23 ih h hS hl
def B_feed_71 (N : Nat) (R_23 : Int32 × Int32 × Int32 × Int32 × Int32 × Int32 × RSt → Option (Int32 × RSt)) (l1 : Int32) (l2 : Int32) (l3 : Int32) (l4 : Int32) (l5 : Int32) (l6 : Int32) (s0 : Int32) (u : RSt) : Option (Int32 × RSt) := LP_feed_77 N R_23 N (l1, l2, l3, l4, l5, l6, s0, 24, u)
set_option maxHeartbeats 4000000 in
theorem b_feed_71 {r : Int32} (X : RC p s m args c cX12_feed 9 (Cond.code yX12_feed cX12_feed 9 (some .boolean)) D kA V A) (hE : REz p l e R s m args below meth c cX12_feed D kA Z A Q r w) (hF : 0 ≤ R.frames) (hL : 0 ≤ R.locals) {R_23 : Int32 × Int32 × Int32 × Int32 × Int32 × Int32 × RSt → Option (Int32 × RSt)} {l1 : Int32} {l2 : Int32} {l3 : Int32} {l4 : Int32} {l5 : Int32} {l6 : Int32} {s0 : Int32} (hR_23 : ∀ (l1 : Int32) (l2 : Int32) (l3 : Int32) (l4 : Int32) (l5 : Int32) (l6 : Int32) (u : RSt), R_23 (l1, l2, l3, l4, l5, l6, u) = some (r, w) → ∀ (H : Heap) (locs : List Loc) (ls : Array Slot), RS D kA Z A s u H locs → lv_has ls 9 [(0, .ref (Z 200)), (1, .int l1), (2, .int l2), (3, .int l3), (4, .int l4), (5, .int l5), (6, .int l6)] → W p l e R s m args below meth c H locs 0 0 Q (F0 m 23 ls [])) {u : RSt} (h : B_feed_71 N R_23 l1 l2 l3 l4 l5 l6 s0 u = some (r, w)) (hS : RS D kA Z A s u H locs) (hl : lv_has ls 9 [(0, .ref (Z 200)), (1, .int l1), (2, .int l2), (3, .int l3), (4, .int l4), (5, .int l5), (6, .int l6)]) : W p l e R s m args below meth c H locs 0 0 Q (F0 m 71 ls [.int s0]) := by
  obtain ⟨⟨hx, hb, hml, hown, hts⟩, hK, hEV, hA⟩ := id X
  have hG : ∀ w ∈ GW, w.before args s = true := fun w h => hts w (List.mem_cons_of_mem _ h)
  unfold B_feed_71 at h
  refine lv_istore (lv' := [(7, .int s0), (0, .ref (Z 200)), (1, .int l1), (2, .int l2), (3, .int l3), (4, .int l4), (5, .int l5), (6, .int l6)]) hx hb dX12_feed_71 hl (by decide) rfl (fun ls hl => ?_)
  refine lv_bipush (v := 24) hx hb dX12_feed_73 (by decide) ?_
  refine lv_istore (lv' := [(8, .int 24), (7, .int s0), (0, .ref (Z 200)), (1, .int l1), (2, .int l2), (3, .int l3), (4, .int l4), (5, .int l5), (6, .int l6)]) hx hb dX12_feed_75 hl (by decide) rfl (fun ls hl => ?_)
  exact bl_feed_77 X hE hF hL hR_23 _ _ _ _ _ _ _ _ _ _ h _ _ _ hS (lv_sub hl [2, 3, 4, 5, 6, 7, 8, 1, 0] rfl)
def B_feed_23 (N : Nat) (R_23 : Int32 × Int32 × Int32 × Int32 × Int32 × Int32 × RSt → Option (Int32 × RSt)) (l1 : Int32) (l2 : Int32) (l3 : Int32) (l4 : Int32) (l5 : Int32) (l6 : Int32) (u : RSt) : Option (Int32 × RSt) := if (5 : Int32) ≤ l6 then (some (1, u)) else (if l6 = (0 : Int32) then (B_feed_71 N R_23 l1 l2 l3 l4 l5 l6 l1 u) else (if l6 = (1 : Int32) then (B_feed_71 N R_23 l1 l2 l3 l4 l5 l6 l2 u) else (if l6 = (2 : Int32) then (B_feed_71 N R_23 l1 l2 l3 l4 l5 l6 l3 u) else (if l6 = (3 : Int32) then (B_feed_71 N R_23 l1 l2 l3 l4 l5 l6 l4 u) else (B_feed_71 N R_23 l1 l2 l3 l4 l5 l6 l5 u)))))
set_option maxHeartbeats 4000000 in
theorem b_feed_23 {r : Int32} (X : RC p s m args c cX12_feed 9 (Cond.code yX12_feed cX12_feed 9 (some .boolean)) D kA V A) (hE : REz p l e R s m args below meth c cX12_feed D kA Z A Q r w) (hF : 0 ≤ R.frames) (hL : 0 ≤ R.locals) {R_23 : Int32 × Int32 × Int32 × Int32 × Int32 × Int32 × RSt → Option (Int32 × RSt)} {l1 : Int32} {l2 : Int32} {l3 : Int32} {l4 : Int32} {l5 : Int32} {l6 : Int32} (hR_23 : ∀ (l1 : Int32) (l2 : Int32) (l3 : Int32) (l4 : Int32) (l5 : Int32) (l6 : Int32) (u : RSt), R_23 (l1, l2, l3, l4, l5, l6, u) = some (r, w) → ∀ (H : Heap) (locs : List Loc) (ls : Array Slot), RS D kA Z A s u H locs → lv_has ls 9 [(0, .ref (Z 200)), (1, .int l1), (2, .int l2), (3, .int l3), (4, .int l4), (5, .int l5), (6, .int l6)] → W p l e R s m args below meth c H locs 0 0 Q (F0 m 23 ls [])) {u : RSt} (h : B_feed_23 N R_23 l1 l2 l3 l4 l5 l6 u = some (r, w)) (hS : RS D kA Z A s u H locs) (hl : lv_has ls 9 [(0, .ref (Z 200)), (1, .int l1), (2, .int l2), (3, .int l3), (4, .int l4), (5, .int l5), (6, .int l6)]) : W p l e R s m args below meth c H locs 0 0 Q (F0 m 23 ls []) := by
  obtain ⟨⟨hx, hb, hml, hown, hts⟩, hK, hEV, hA⟩ := id X
  have hG : ∀ w ∈ GW, w.before args s = true := fun w h => hts w (List.mem_cons_of_mem _ h)
  unfold B_feed_23 at h
  refine lv_iload hx hb dX12_feed_23 (lv_at hl 6 rfl) ?_
  refine lv_iconst (v := 5) hx hb dX12_feed_25 (by decide) ?_
  refine lv_icmp_ge (tgt := 119) hx hb dX12_feed_26 (by decide) (fun c_5 => ?_) (fun c_5 => ?_)
  · have h := ip (c_5) h
    refine lv_iconst (v := 1) hx hb dX12_feed_119 (by decide) ?_
    obtain ⟨rfl, rfl⟩ := so h
    exact hE _ _ _ _ hS (Or.inr rfl) dX12_feed_120
  · have h := im (c_5) h
    refine lv_iload hx hb dX12_feed_29 (lv_at hl 6 rfl) ?_
    refine lv_if_ne (tgt := 38) hx hb dX12_feed_31 (by decide) (fun c_6 => ?_) (fun c_6 => ?_)
    · have h := im (c_6) h
      refine lv_iload hx hb dX12_feed_38 (lv_at hl 6 rfl) ?_
      refine lv_iconst (v := 1) hx hb dX12_feed_40 (by decide) ?_
      refine lv_icmp_ne (tgt := 48) hx hb dX12_feed_41 (by decide) (fun c_7 => ?_) (fun c_7 => ?_)
      · have h := im (c_7) h
        refine lv_iload hx hb dX12_feed_48 (lv_at hl 6 rfl) ?_
        refine lv_iconst (v := 2) hx hb dX12_feed_50 (by decide) ?_
        refine lv_icmp_ne (tgt := 58) hx hb dX12_feed_51 (by decide) (fun c_8 => ?_) (fun c_8 => ?_)
        · have h := im (c_8) h
          refine lv_iload hx hb dX12_feed_58 (lv_at hl 6 rfl) ?_
          refine lv_iconst (v := 3) hx hb dX12_feed_60 (by decide) ?_
          refine lv_icmp_ne (tgt := 69) hx hb dX12_feed_61 (by decide) (fun c_9 => ?_) (fun c_9 => ?_)
          · have h := im (c_9) h
            refine lv_iload hx hb dX12_feed_69 (lv_at hl 5 rfl) ?_
            exact b_feed_71 X hE hF hL hR_23 h hS (lv_sub hl [0, 1, 2, 3, 4, 5, 6] rfl)
          · have h := ip (c_9) h
            refine lv_iload hx hb dX12_feed_64 (lv_at hl 4 rfl) ?_
            refine lv_goto (tgt := 71) hx hb dX12_feed_66 (by decide) ?_
            exact b_feed_71 X hE hF hL hR_23 h hS (lv_sub hl [0, 1, 2, 3, 4, 5, 6] rfl)
        · have h := ip (c_8) h
          refine lv_iload_n hx hb dX12_feed_54 rfl (lv_at hl 3 rfl) ?_
          refine lv_goto (tgt := 71) hx hb dX12_feed_55 (by decide) ?_
          exact b_feed_71 X hE hF hL hR_23 h hS (lv_sub hl [0, 1, 2, 3, 4, 5, 6] rfl)
      · have h := ip (c_7) h
        refine lv_iload_n hx hb dX12_feed_44 rfl (lv_at hl 2 rfl) ?_
        refine lv_goto (tgt := 71) hx hb dX12_feed_45 (by decide) ?_
        exact b_feed_71 X hE hF hL hR_23 h hS (lv_sub hl [0, 1, 2, 3, 4, 5, 6] rfl)
    · have h := ip (c_6) h
      refine lv_iload_n hx hb dX12_feed_34 rfl (lv_at hl 1 rfl) ?_
      refine lv_goto (tgt := 71) hx hb dX12_feed_35 (by decide) ?_
      exact b_feed_71 X hE hF hL hR_23 h hS (lv_sub hl [0, 1, 2, 3, 4, 5, 6] rfl)
def LP_feed_23 (N : Nat) : Nat → Int32 × Int32 × Int32 × Int32 × Int32 × Int32 × RSt → Option (Int32 × RSt) := lp (fun R a => B_feed_23 N R a.1 a.2.1 a.2.2.1 a.2.2.2.1 a.2.2.2.2.1 a.2.2.2.2.2.1 a.2.2.2.2.2.2)
theorem bl_feed_23 {r : Int32} (X : RC p s m args c cX12_feed 9 (Cond.code yX12_feed cX12_feed 9 (some .boolean)) D kA V A) (hE : REz p l e R s m args below meth c cX12_feed D kA Z A Q r w) (hF : 0 ≤ R.frames) (hL : 0 ≤ R.locals)  : ∀ (n : Nat) (l1 : Int32) (l2 : Int32) (l3 : Int32) (l4 : Int32) (l5 : Int32) (l6 : Int32) (u : RSt), LP_feed_23 N n (l1, l2, l3, l4, l5, l6, u) = some (r, w) → ∀ (H : Heap) (locs : List Loc) (ls : Array Slot), RS D kA Z A s u H locs → lv_has ls 9 [(0, .ref (Z 200)), (1, .int l1), (2, .int l2), (3, .int l3), (4, .int l4), (5, .int l5), (6, .int l6)] → W p l e R s m args below meth c H locs 0 0 Q (F0 m 23 ls []) := by
  intro n
  induction n with
  | zero => intro l1 l2 l3 l4 l5 l6 u h; exact nomatch h
  | succ n ih => intro l1 l2 l3 l4 l5 l6 u h H locs ls hS hl; exact b_feed_23 (N := N) (R_23 := LP_feed_23 N n) X hE hF hL  ih h hS hl
def B_feed_0 (N : Nat) (l1 : Int32) (l2 : Int32) (l3 : Int32) (l4 : Int32) (l5 : Int32) (u : RSt) : Option (Int32 × RSt) := pu (sI u 9 0) fun u_10 => if ((u_10.1 1) + 20) ≤ (6000 : Int32) then (LP_feed_23 N N (l1, l2, l3, l4, l5, 0, u_10)) else (some (0, u_10))
set_option maxHeartbeats 4000000 in
theorem b_feed_0 {r : Int32} (X : RC p s m args c cX12_feed 9 (Cond.code yX12_feed cX12_feed 9 (some .boolean)) D kA V A) (hE : REz p l e R s m args below meth c cX12_feed D kA Z A Q r w) (hF : 0 ≤ R.frames) (hL : 0 ≤ R.locals) {l1 : Int32} {l2 : Int32} {l3 : Int32} {l4 : Int32} {l5 : Int32}  {u : RSt} (h : B_feed_0 N l1 l2 l3 l4 l5 u = some (r, w)) (hS : RS D kA Z A s u H locs) (hl : lv_has ls 9 [(0, .ref (Z 200)), (1, .int l1), (2, .int l2), (3, .int l3), (4, .int l4), (5, .int l5)]) : W p l e R s m args below meth c H locs 0 0 Q (F0 m 0 ls []) := by
  obtain ⟨⟨hx, hb, hml, hown, hts⟩, hK, hEV, hA⟩ := id X
  have hG : ∀ w ∈ GW, w.before args s = true := fun w h => hts w (List.mem_cons_of_mem _ h)
  unfold B_feed_0 at h
  refine lv_aload_n hx hb dX12_feed_0 rfl (lv_at hl 0 rfl) ?_
  refine lv_iconst (v := 0) hx hb dX12_feed_1 (by decide) ?_
  obtain ⟨u_10, e_u_10, h⟩ := pu_of h
  refine rp_9 X hS e_u_10 dX12_feed_2 (fun H locs hS => ?_)
  refine lv_aload_n hx hb dX12_feed_5 rfl (lv_at hl 0 rfl) ?_
  refine rg_1 X hS dX12_feed_6 ?_
  refine lv_bipush (v := 20) hx hb dX12_feed_9 (by decide) ?_
  refine lv_iadd hx hb dX12_feed_11 ?_
  refine lv_sipush (v := 6000) hx hb dX12_feed_12 (by decide) ?_
  refine lv_icmp_le (tgt := 20) hx hb dX12_feed_15 (by decide) (fun c_11 => ?_) (fun c_11 => ?_)
  · have h := ip (c_11) h
    refine lv_iconst (v := 0) hx hb dX12_feed_20 (by decide) ?_
    refine lv_istore (lv' := [(6, .int 0), (0, .ref (Z 200)), (1, .int l1), (2, .int l2), (3, .int l3), (4, .int l4), (5, .int l5)]) hx hb dX12_feed_21 hl (by decide) rfl (fun ls hl => ?_)
    exact bl_feed_23 X hE hF hL  _ _ _ _ _ _ _ _ h _ _ _ hS (lv_sub hl [1, 2, 3, 4, 5, 6, 0] rfl)
  · have h := im (c_11) h
    refine lv_iconst (v := 0) hx hb dX12_feed_18 (by decide) ?_
    obtain ⟨rfl, rfl⟩ := so h
    exact hE _ _ _ _ hS (Or.inl rfl) dX12_feed_19
def F_feed (N : Nat) (l1 : Int32) (l2 : Int32) (l3 : Int32) (l4 : Int32) (l5 : Int32) (u : RSt) : Option (Int32 × RSt) := B_feed_0 N l1 l2 l3 l4 l5 u
set_option maxHeartbeats 4000000 in
theorem k_feed (l : Launch) (D : va_G) (kA : Nat → ClassId) (V Z : Nat → Nat) (N : Nat) (l1 : Int32) (l2 : Int32) (l3 : Int32) (l4 : Int32) (l5 : Int32) (u : RSt) (sz : Nat) {r : Int32} {w : RSt} (h : F_feed N l1 l2 l3 l4 l5 u = some (r, w)) : Met l yX12_feed (Cond.code yX12_feed cX12_feed 9 (some .boolean) :: GW) { frames := 0, cells := 0, slots := 0, locals := 0 } (rPc D kA V Z [.int l1, .int l2, .int l3, .int l4, .int l5] u sz) (rQi D kA Z u sz r w) 0 0 (va_A (RW kA Z u) sz) := by
  refine Met.ofW (cc := cX12_feed) (maxL := 9) (ret := (some .boolean)) (by decide) rfl ?_
  intro p e s m args below meth c s₁ Bd hml hv
  obtain ⟨rfl, hsz, hP, hK, hD0, hE⟩ := hv
  have hts := atoms_spec (ws := Cond.code yX12_feed cX12_feed 9 (some .boolean) :: GW) Bd.pre
  have hl := lv_entry (.ref (Z 200) :: [.int l1, .int l2, .int l3, .int l4, .int l5]) (n := 9) (Nat.le_of_ble_eq_true rfl)
  rw [lg_entry_eq]
  generalize (lg_sl (.ref (Z 200) :: [.int l1, .int l2, .int l3, .int l4, .int l5]) ++ List.replicate (9 - (lg_sl (.ref (Z 200) :: [.int l1, .int l2, .int l3, .int l4, .int l5])).length) Slot.unset).toArray = ls at hl ⊢
  have hl : lv_has ls 9 [(0, .ref (Z 200)), (1, .int l1), (2, .int l2), (3, .int l3), (4, .int l4), (5, .int l5)] := hl
  subst hsz
  have X : RC p s m (.ref (Z 200) :: [.int l1, .int l2, .int l3, .int l4, .int l5]).toArray c cX12_feed 9 (Cond.code yX12_feed cX12_feed 9 (some .boolean)) D kA V (va_A (RW kA Z u) s.heap.size) := ⟨⟨Bd.exec, Bd.bytes, hml, findClass_of_methodNamed Bd.named, hts⟩, hK, hE, fun q h => Or.inr h⟩
  exact b_feed_0 X (rend_z (cy := cX12_feed) X Bd.returns Bd.notSynchronized) (Nat.le_refl _) (Nat.le_refl _) h ⟨hP, hD0.self, va_S.rf⟩ (lv_sub hl [0, 1, 2, 3, 4, 5] rfl)
def B_end_0 (N : Nat) (l1 : Int32) (u : RSt) : Option (Int32 × RSt) := pu (sI u 9 0) fun u_1 => if l1 < (0 : Int32) then (some (0, u_1)) else (if l1 ≤ (u_1.1 1) then (pu (sI u_1 1 l1) fun u_4 => some (1, u_4)) else (some (0, u_1)))
set_option maxHeartbeats 4000000 in
theorem b_end_0 {r : Int32} (X : RC p s m args c cX12_end 2 (Cond.code yX12_end cX12_end 2 (some .boolean)) D kA V A) (hE : REz p l e R s m args below meth c cX12_end D kA Z A Q r w) (hF : 0 ≤ R.frames) (hL : 0 ≤ R.locals) {l1 : Int32}  {u : RSt} (h : B_end_0 N l1 u = some (r, w)) (hS : RS D kA Z A s u H locs) (hl : lv_has ls 2 [(0, .ref (Z 200)), (1, .int l1)]) : W p l e R s m args below meth c H locs 0 0 Q (F0 m 0 ls []) := by
  obtain ⟨⟨hx, hb, hml, hown, hts⟩, hK, hEV, hA⟩ := id X
  have hG : ∀ w ∈ GW, w.before args s = true := fun w h => hts w (List.mem_cons_of_mem _ h)
  unfold B_end_0 at h
  refine lv_aload_n hx hb dX12_end_0 rfl (lv_at hl 0 rfl) ?_
  refine lv_iconst (v := 0) hx hb dX12_end_1 (by decide) ?_
  obtain ⟨u_1, e_u_1, h⟩ := pu_of h
  refine rp_9 X hS e_u_1 dX12_end_2 (fun H locs hS => ?_)
  refine lv_iload_n hx hb dX12_end_5 rfl (lv_at hl 1 rfl) ?_
  refine lv_if_lt (tgt := 17) hx hb dX12_end_6 (by decide) (fun c_2 => ?_) (fun c_2 => ?_)
  · have h := ip (c_2) h
    refine lv_iconst (v := 0) hx hb dX12_end_17 (by decide) ?_
    obtain ⟨rfl, rfl⟩ := so h
    exact hE _ _ _ _ hS (Or.inl rfl) dX12_end_18
  · have h := im (c_2) h
    refine lv_iload_n hx hb dX12_end_9 rfl (lv_at hl 1 rfl) ?_
    refine lv_aload_n hx hb dX12_end_10 rfl (lv_at hl 0 rfl) ?_
    refine rg_1 X hS dX12_end_11 ?_
    refine lv_icmp_le (tgt := 19) hx hb dX12_end_14 (by decide) (fun c_3 => ?_) (fun c_3 => ?_)
    · have h := ip (c_3) h
      refine lv_aload_n hx hb dX12_end_19 rfl (lv_at hl 0 rfl) ?_
      refine lv_iload_n hx hb dX12_end_20 rfl (lv_at hl 1 rfl) ?_
      obtain ⟨u_4, e_u_4, h⟩ := pu_of h
      refine rp_1 X hS e_u_4 dX12_end_21 (fun H locs hS => ?_)
      refine lv_iconst (v := 1) hx hb dX12_end_24 (by decide) ?_
      obtain ⟨rfl, rfl⟩ := so h
      exact hE _ _ _ _ hS (Or.inr rfl) dX12_end_25
    · have h := im (c_3) h
      refine lv_iconst (v := 0) hx hb dX12_end_17 (by decide) ?_
      obtain ⟨rfl, rfl⟩ := so h
      exact hE _ _ _ _ hS (Or.inl rfl) dX12_end_18
def F_end (N : Nat) (l1 : Int32) (u : RSt) : Option (Int32 × RSt) := B_end_0 N l1 u
set_option maxHeartbeats 4000000 in
theorem k_end (l : Launch) (D : va_G) (kA : Nat → ClassId) (V Z : Nat → Nat) (N : Nat) (l1 : Int32) (u : RSt) (sz : Nat) {r : Int32} {w : RSt} (h : F_end N l1 u = some (r, w)) : Met l yX12_end (Cond.code yX12_end cX12_end 2 (some .boolean) :: GW) { frames := 0, cells := 0, slots := 0, locals := 0 } (rPc D kA V Z [.int l1] u sz) (rQi D kA Z u sz r w) 0 0 (va_A (RW kA Z u) sz) := by
  refine Met.ofW (cc := cX12_end) (maxL := 2) (ret := (some .boolean)) (by decide) rfl ?_
  intro p e s m args below meth c s₁ Bd hml hv
  obtain ⟨rfl, hsz, hP, hK, hD0, hE⟩ := hv
  have hts := atoms_spec (ws := Cond.code yX12_end cX12_end 2 (some .boolean) :: GW) Bd.pre
  have hl := lv_entry (.ref (Z 200) :: [.int l1]) (n := 2) (Nat.le_of_ble_eq_true rfl)
  rw [lg_entry_eq]
  generalize (lg_sl (.ref (Z 200) :: [.int l1]) ++ List.replicate (2 - (lg_sl (.ref (Z 200) :: [.int l1])).length) Slot.unset).toArray = ls at hl ⊢
  have hl : lv_has ls 2 [(0, .ref (Z 200)), (1, .int l1)] := hl
  subst hsz
  have X : RC p s m (.ref (Z 200) :: [.int l1]).toArray c cX12_end 2 (Cond.code yX12_end cX12_end 2 (some .boolean)) D kA V (va_A (RW kA Z u) s.heap.size) := ⟨⟨Bd.exec, Bd.bytes, hml, findClass_of_methodNamed Bd.named, hts⟩, hK, hE, fun q h => Or.inr h⟩
  exact b_end_0 X (rend_z (cy := cX12_end) X Bd.returns Bd.notSynchronized) (Nat.le_refl _) (Nat.le_refl _) h ⟨hP, hD0.self, va_S.rf⟩ (lv_sub hl [0, 1] rfl)
def B_place_0 (N : Nat) (u : RSt) : Option (Int32 × RSt) := pu (sI u 9 0) fun u_1 => some (u_1.1 106, u_1)
set_option maxHeartbeats 4000000 in
theorem b_place_0 {r : Int32} (X : RC p s m args c cX12_place 1 (Cond.code yX12_place cX12_place 1 (some .int)) D kA V A) (hE : REi p l e R s m args below meth c cX12_place D kA Z A Q r w) (hF : 0 ≤ R.frames) (hL : 0 ≤ R.locals)  {u : RSt} (h : B_place_0 N u = some (r, w)) (hS : RS D kA Z A s u H locs) (hl : lv_has ls 1 [(0, .ref (Z 200))]) : W p l e R s m args below meth c H locs 0 0 Q (F0 m 0 ls []) := by
  obtain ⟨⟨hx, hb, hml, hown, hts⟩, hK, hEV, hA⟩ := id X
  have hG : ∀ w ∈ GW, w.before args s = true := fun w h => hts w (List.mem_cons_of_mem _ h)
  unfold B_place_0 at h
  refine lv_aload_n hx hb dX12_place_0 rfl (lv_at hl 0 rfl) ?_
  refine lv_iconst (v := 0) hx hb dX12_place_1 (by decide) ?_
  obtain ⟨u_1, e_u_1, h⟩ := pu_of h
  refine rp_9 X hS e_u_1 dX12_place_2 (fun H locs hS => ?_)
  refine lv_aload_n hx hb dX12_place_5 rfl (lv_at hl 0 rfl) ?_
  refine rg_106 X hS dX12_place_6 ?_
  obtain ⟨rfl, rfl⟩ := so h
  exact hE _ _ _ _ hS dX12_place_9
def F_place (N : Nat) (u : RSt) : Option (Int32 × RSt) := B_place_0 N u
set_option maxHeartbeats 4000000 in
theorem k_place (l : Launch) (D : va_G) (kA : Nat → ClassId) (V Z : Nat → Nat) (N : Nat) (u : RSt) (sz : Nat) {r : Int32} {w : RSt} (h : F_place N u = some (r, w)) : Met l yX12_place (Cond.code yX12_place cX12_place 1 (some .int) :: GW) { frames := 0, cells := 0, slots := 0, locals := 0 } (rPc D kA V Z [] u sz) (rQi D kA Z u sz r w) 0 0 (va_A (RW kA Z u) sz) := by
  refine Met.ofW (cc := cX12_place) (maxL := 1) (ret := (some .int)) (by decide) rfl ?_
  intro p e s m args below meth c s₁ Bd hml hv
  obtain ⟨rfl, hsz, hP, hK, hD0, hE⟩ := hv
  have hts := atoms_spec (ws := Cond.code yX12_place cX12_place 1 (some .int) :: GW) Bd.pre
  have hl := lv_entry (.ref (Z 200) :: []) (n := 1) (Nat.le_of_ble_eq_true rfl)
  rw [lg_entry_eq]
  generalize (lg_sl (.ref (Z 200) :: []) ++ List.replicate (1 - (lg_sl (.ref (Z 200) :: [])).length) Slot.unset).toArray = ls at hl ⊢
  have hl : lv_has ls 1 [(0, .ref (Z 200))] := hl
  subst hsz
  have X : RC p s m (.ref (Z 200) :: []).toArray c cX12_place 1 (Cond.code yX12_place cX12_place 1 (some .int)) D kA V (va_A (RW kA Z u) s.heap.size) := ⟨⟨Bd.exec, Bd.bytes, hml, findClass_of_methodNamed Bd.named, hts⟩, hK, hE, fun q h => Or.inr h⟩
  exact b_place_0 X (rend_i (cy := cX12_place) X Bd.returns Bd.notSynchronized) (Nat.le_refl _) (Nat.le_refl _) h ⟨hP, hD0.self, va_S.rf⟩ (lv_sub hl [0] rfl)
end CallsRows
