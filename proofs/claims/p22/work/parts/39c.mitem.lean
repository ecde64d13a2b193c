abbrev cX3_routine : ByteArray := prog_5_method_12_code
def yX3_routine : MethodName := ⟨RX3, "routine", "(II)V"⟩
theorem dX3_routine_0 : decode cX3_routine 0 = .ok (.aload_n 0, 1) := by decide +kernel
theorem dX3_routine_1 : decode cX3_routine 1 = .ok (.iload_n 1, 1) := by decide +kernel
theorem dX3_routine_2 : decode cX3_routine 2 = .ok (.invokevirtual 140, 3) := by decide +kernel
theorem dX3_routine_5 : decode cX3_routine 5 = .ok (.astore_n 3, 1) := by decide +kernel
theorem dX3_routine_6 : decode cX3_routine 6 = .ok (.aload_n 3, 1) := by decide +kernel
theorem dX3_routine_7 : decode cX3_routine 7 = .ok (.iload_n 2, 1) := by decide +kernel
theorem dX3_routine_8 : decode cX3_routine 8 = .ok (.putfield 146, 3) := by decide +kernel
theorem dX3_routine_11 : decode cX3_routine 11 = .ok (.aload_n 0, 1) := by decide +kernel
theorem dX3_routine_12 : decode cX3_routine 12 = .ok (.getfield 19, 3) := by decide +kernel
theorem dX3_routine_15 : decode cX3_routine 15 = .ok (.aload_n 3, 1) := by decide +kernel
theorem dX3_routine_16 : decode cX3_routine 16 = .ok (.getfield 214, 3) := by decide +kernel
theorem dX3_routine_19 : decode cX3_routine 19 = .ok (.putfield 110, 3) := by decide +kernel
theorem dX3_routine_22 : decode cX3_routine 22 = .ok (.aload_n 0, 1) := by decide +kernel
theorem dX3_routine_23 : decode cX3_routine 23 = .ok (.getfield 15, 3) := by decide +kernel
theorem dX3_routine_26 : decode cX3_routine 26 = .ok (.invokevirtual 73, 3) := by decide +kernel
theorem dX3_routine_29 : decode cX3_routine 29 = .ok (.iconst 0, 1) := by decide +kernel
theorem dX3_routine_30 : decode cX3_routine 30 = .ok (.istore 4, 2) := by decide +kernel
theorem dX3_routine_32 : decode cX3_routine 32 = .ok (.iload 4, 2) := by decide +kernel
theorem dX3_routine_34 : decode cX3_routine 34 = .ok (.sipush 1500, 3) := by decide +kernel
theorem dX3_routine_37 : decode cX3_routine 37 = .ok (.if_icmp .ge 25, 3) := by decide +kernel
theorem dX3_routine_40 : decode cX3_routine 40 = .ok (.aload_n 0, 1) := by decide +kernel
theorem dX3_routine_41 : decode cX3_routine 41 = .ok (.getfield 15, 3) := by decide +kernel
theorem dX3_routine_44 : decode cX3_routine 44 = .ok (.bipush 41, 2) := by decide +kernel
theorem dX3_routine_46 : decode cX3_routine 46 = .ok (.invokevirtual 65, 3) := by decide +kernel
theorem dX3_routine_49 : decode cX3_routine 49 = .ok (.ifCond .ne 13, 3) := by decide +kernel
theorem dX3_routine_52 : decode cX3_routine 52 = .ok (.aload_n 0, 1) := by decide +kernel
theorem dX3_routine_53 : decode cX3_routine 53 = .ok (.invokevirtual 224, 3) := by decide +kernel
theorem dX3_routine_56 : decode cX3_routine 56 = .ok (.iinc 4 1, 3) := by decide +kernel
theorem dX3_routine_59 : decode cX3_routine 59 = .ok (.goto (-27), 3) := by decide +kernel
theorem dX3_routine_62 : decode cX3_routine 62 = .ok (.aload_n 0, 1) := by decide +kernel
theorem dX3_routine_63 : decode cX3_routine 63 = .ok (.getfield 15, 3) := by decide +kernel
theorem dX3_routine_66 : decode cX3_routine 66 = .ok (.invokevirtual 73, 3) := by decide +kernel
theorem dX3_routine_69 : decode cX3_routine 69 = .ok (.aload_n 0, 1) := by decide +kernel
theorem dX3_routine_70 : decode cX3_routine 70 = .ok (.getfield 15, 3) := by decide +kernel
theorem dX3_routine_73 : decode cX3_routine 73 = .ok (.invokevirtual 73, 3) := by decide +kernel
theorem dX3_routine_76 : decode cX3_routine 76 = .ok (.iconst 0, 1) := by decide +kernel
theorem dX3_routine_77 : decode cX3_routine 77 = .ok (.istore 4, 2) := by decide +kernel
theorem dX3_routine_79 : decode cX3_routine 79 = .ok (.iload 4, 2) := by decide +kernel
theorem dX3_routine_81 : decode cX3_routine 81 = .ok (.sipush 1500, 3) := by decide +kernel
theorem dX3_routine_84 : decode cX3_routine 84 = .ok (.if_icmp .ge 34, 3) := by decide +kernel
theorem dX3_routine_87 : decode cX3_routine 87 = .ok (.aload_n 0, 1) := by decide +kernel
theorem dX3_routine_88 : decode cX3_routine 88 = .ok (.getfield 15, 3) := by decide +kernel
theorem dX3_routine_91 : decode cX3_routine 91 = .ok (.iconst 1, 1) := by decide +kernel
theorem dX3_routine_92 : decode cX3_routine 92 = .ok (.invokevirtual 65, 3) := by decide +kernel
theorem dX3_routine_95 : decode cX3_routine 95 = .ok (.ifCond .eq 23, 3) := by decide +kernel
theorem dX3_routine_98 : decode cX3_routine 98 = .ok (.aload_n 0, 1) := by decide +kernel
theorem dX3_routine_99 : decode cX3_routine 99 = .ok (.getfield 15, 3) := by decide +kernel
theorem dX3_routine_102 : decode cX3_routine 102 = .ok (.invokevirtual 73, 3) := by decide +kernel
theorem dX3_routine_105 : decode cX3_routine 105 = .ok (.aload_n 0, 1) := by decide +kernel
theorem dX3_routine_106 : decode cX3_routine 106 = .ok (.bipush 6, 2) := by decide +kernel
theorem dX3_routine_108 : decode cX3_routine 108 = .ok (.iconst 0, 1) := by decide +kernel
theorem dX3_routine_109 : decode cX3_routine 109 = .ok (.invokevirtual 76, 3) := by decide +kernel
theorem dX3_routine_112 : decode cX3_routine 112 = .ok (.iinc 4 1, 3) := by decide +kernel
theorem dX3_routine_115 : decode cX3_routine 115 = .ok (.goto (-36), 3) := by decide +kernel
theorem dX3_routine_118 : decode cX3_routine 118 = .ok (.aload_n 3, 1) := by decide +kernel
theorem dX3_routine_119 : decode cX3_routine 119 = .ok (.aload_n 0, 1) := by decide +kernel
theorem dX3_routine_120 : decode cX3_routine 120 = .ok (.getfield 19, 3) := by decide +kernel
theorem dX3_routine_123 : decode cX3_routine 123 = .ok (.getfield 227, 3) := by decide +kernel
theorem dX3_routine_126 : decode cX3_routine 126 = .ok (.putfield 230, 3) := by decide +kernel
theorem dX3_routine_129 : decode cX3_routine 129 = .ok (.aload_n 0, 1) := by decide +kernel
theorem dX3_routine_130 : decode cX3_routine 130 = .ok (.invokevirtual 233, 3) := by decide +kernel
theorem dX3_routine_133 : decode cX3_routine 133 = .ok (.istore 4, 2) := by decide +kernel
theorem dX3_routine_135 : decode cX3_routine 135 = .ok (.iload_n 1, 1) := by decide +kernel
theorem dX3_routine_136 : decode cX3_routine 136 = .ok (.iconst 4, 1) := by decide +kernel
theorem dX3_routine_137 : decode cX3_routine 137 = .ok (.if_icmp .ne 31, 3) := by decide +kernel
theorem dX3_routine_140 : decode cX3_routine 140 = .ok (.aload_n 0, 1) := by decide +kernel
theorem dX3_routine_141 : decode cX3_routine 141 = .ok (.getfield 19, 3) := by decide +kernel
theorem dX3_routine_144 : decode cX3_routine 144 = .ok (.lconst 0, 1) := by decide +kernel
theorem dX3_routine_145 : decode cX3_routine 145 = .ok (.iconst 0, 1) := by decide +kernel
theorem dX3_routine_146 : decode cX3_routine 146 = .ok (.iload 4, 2) := by decide +kernel
theorem dX3_routine_148 : decode cX3_routine 148 = .ok (.invokevirtual 236, 3) := by decide +kernel
theorem dX3_routine_151 : decode cX3_routine 151 = .ok (.aload_n 0, 1) := by decide +kernel
theorem dX3_routine_152 : decode cX3_routine 152 = .ok (.getfield 19, 3) := by decide +kernel
theorem dX3_routine_155 : decode cX3_routine 155 = .ok (.bipush 39, 2) := by decide +kernel
theorem dX3_routine_157 : decode cX3_routine 157 = .ok (.iload_n 2, 1) := by decide +kernel
theorem dX3_routine_158 : decode cX3_routine 158 = .ok (.iconst 0, 1) := by decide +kernel
theorem dX3_routine_159 : decode cX3_routine 159 = .ok (.iload 4, 2) := by decide +kernel
theorem dX3_routine_161 : decode cX3_routine 161 = .ok (.invokevirtual 239, 3) := by decide +kernel
theorem dX3_routine_164 : decode cX3_routine 164 = .ok (.pop, 1) := by decide +kernel
theorem dX3_routine_165 : decode cX3_routine 165 = .ok (.goto 17, 3) := by decide +kernel
theorem dX3_routine_168 : decode cX3_routine 168 = .ok (.aload_n 0, 1) := by decide +kernel
theorem dX3_routine_169 : decode cX3_routine 169 = .ok (.getfield 19, 3) := by decide +kernel
theorem dX3_routine_172 : decode cX3_routine 172 = .ok (.bipush 40, 2) := by decide +kernel
theorem dX3_routine_174 : decode cX3_routine 174 = .ok (.iconst 0, 1) := by decide +kernel
theorem dX3_routine_175 : decode cX3_routine 175 = .ok (.iconst 0, 1) := by decide +kernel
theorem dX3_routine_176 : decode cX3_routine 176 = .ok (.iload 4, 2) := by decide +kernel
theorem dX3_routine_178 : decode cX3_routine 178 = .ok (.invokevirtual 239, 3) := by decide +kernel
theorem dX3_routine_181 : decode cX3_routine 181 = .ok (.pop, 1) := by decide +kernel
theorem dX3_routine_182 : decode cX3_routine 182 = .ok (.aload_n 0, 1) := by decide +kernel
theorem dX3_routine_183 : decode cX3_routine 183 = .ok (.getfield 19, 3) := by decide +kernel
theorem dX3_routine_186 : decode cX3_routine 186 = .ok (.iconst (-1), 1) := by decide +kernel
theorem dX3_routine_187 : decode cX3_routine 187 = .ok (.putfield 110, 3) := by decide +kernel
theorem dX3_routine_190 : decode cX3_routine 190 = .ok (.return_, 1) := by decide +kernel
abbrev cX3_cyclic : ByteArray := prog_5_method_14_code
def yX3_cyclic : MethodName := ⟨RX3, "cyclic", "()V"⟩
theorem dX3_cyclic_0 : decode cX3_cyclic 0 = .ok (.aload_n 0, 1) := by decide +kernel
theorem dX3_cyclic_1 : decode cX3_cyclic 1 = .ok (.iconst 2, 1) := by decide +kernel
theorem dX3_cyclic_2 : decode cX3_cyclic 2 = .ok (.invokevirtual 140, 3) := by decide +kernel
theorem dX3_cyclic_5 : decode cX3_cyclic 5 = .ok (.astore_n 1, 1) := by decide +kernel
theorem dX3_cyclic_6 : decode cX3_cyclic 6 = .ok (.aload_n 0, 1) := by decide +kernel
theorem dX3_cyclic_7 : decode cX3_cyclic 7 = .ok (.getfield 15, 3) := by decide +kernel
theorem dX3_cyclic_10 : decode cX3_cyclic 10 = .ok (.invokevirtual 73, 3) := by decide +kernel
theorem dX3_cyclic_13 : decode cX3_cyclic 13 = .ok (.aload_n 0, 1) := by decide +kernel
theorem dX3_cyclic_14 : decode cX3_cyclic 14 = .ok (.getfield 15, 3) := by decide +kernel
theorem dX3_cyclic_17 : decode cX3_cyclic 17 = .ok (.lconst 1, 1) := by decide +kernel
theorem dX3_cyclic_18 : decode cX3_cyclic 18 = .ok (.ldc2_w 243, 3) := by decide +kernel
theorem dX3_cyclic_21 : decode cX3_cyclic 21 = .ok (.invokevirtual 158, 3) := by decide +kernel
theorem dX3_cyclic_24 : decode cX3_cyclic 24 = .ok (.l2i, 1) := by decide +kernel
theorem dX3_cyclic_25 : decode cX3_cyclic 25 = .ok (.istore_n 2, 1) := by decide +kernel
theorem dX3_cyclic_26 : decode cX3_cyclic 26 = .ok (.iconst 0, 1) := by decide +kernel
theorem dX3_cyclic_27 : decode cX3_cyclic 27 = .ok (.istore_n 3, 1) := by decide +kernel
theorem dX3_cyclic_28 : decode cX3_cyclic 28 = .ok (.aload_n 0, 1) := by decide +kernel
theorem dX3_cyclic_29 : decode cX3_cyclic 29 = .ok (.getfield 15, 3) := by decide +kernel
theorem dX3_cyclic_32 : decode cX3_cyclic 32 = .ok (.bipush 11, 2) := by decide +kernel
theorem dX3_cyclic_34 : decode cX3_cyclic 34 = .ok (.invokevirtual 65, 3) := by decide +kernel
theorem dX3_cyclic_37 : decode cX3_cyclic 37 = .ok (.ifCond .eq 24, 3) := by decide +kernel
theorem dX3_cyclic_40 : decode cX3_cyclic 40 = .ok (.aload_n 0, 1) := by decide +kernel
theorem dX3_cyclic_41 : decode cX3_cyclic 41 = .ok (.getfield 15, 3) := by decide +kernel
theorem dX3_cyclic_44 : decode cX3_cyclic 44 = .ok (.invokevirtual 73, 3) := by decide +kernel
theorem dX3_cyclic_47 : decode cX3_cyclic 47 = .ok (.aload_n 0, 1) := by decide +kernel
theorem dX3_cyclic_48 : decode cX3_cyclic 48 = .ok (.getfield 15, 3) := by decide +kernel
theorem dX3_cyclic_51 : decode cX3_cyclic 51 = .ok (.lconst 0, 1) := by decide +kernel
theorem dX3_cyclic_52 : decode cX3_cyclic 52 = .ok (.iload_n 2, 1) := by decide +kernel
theorem dX3_cyclic_53 : decode cX3_cyclic 53 = .ok (.iconst 1, 1) := by decide +kernel
theorem dX3_cyclic_54 : decode cX3_cyclic 54 = .ok (.isub, 1) := by decide +kernel
theorem dX3_cyclic_55 : decode cX3_cyclic 55 = .ok (.i2l, 1) := by decide +kernel
theorem dX3_cyclic_56 : decode cX3_cyclic 56 = .ok (.invokevirtual 158, 3) := by decide +kernel
theorem dX3_cyclic_59 : decode cX3_cyclic 59 = .ok (.l2i, 1) := by decide +kernel
theorem dX3_cyclic_60 : decode cX3_cyclic 60 = .ok (.istore_n 3, 1) := by decide +kernel
theorem dX3_cyclic_61 : decode cX3_cyclic 61 = .ok (.aload_n 1, 1) := by decide +kernel
theorem dX3_cyclic_62 : decode cX3_cyclic 62 = .ok (.getfield 245, 3) := by decide +kernel
theorem dX3_cyclic_65 : decode cX3_cyclic 65 = .ok (.bipush 8, 2) := by decide +kernel
theorem dX3_cyclic_67 : decode cX3_cyclic 67 = .ok (.if_icmp .ge 27, 3) := by decide +kernel
theorem dX3_cyclic_70 : decode cX3_cyclic 70 = .ok (.aload_n 0, 1) := by decide +kernel
theorem dX3_cyclic_71 : decode cX3_cyclic 71 = .ok (.getfield 19, 3) := by decide +kernel
theorem dX3_cyclic_74 : decode cX3_cyclic 74 = .ok (.getfield 248, 3) := by decide +kernel
theorem dX3_cyclic_77 : decode cX3_cyclic 77 = .ok (.aload_n 1, 1) := by decide +kernel
theorem dX3_cyclic_78 : decode cX3_cyclic 78 = .ok (.getfield 245, 3) := by decide +kernel
theorem dX3_cyclic_81 : decode cX3_cyclic 81 = .ok (.aaload, 1) := by decide +kernel
theorem dX3_cyclic_82 : decode cX3_cyclic 82 = .ok (.iload_n 2, 1) := by decide +kernel
theorem dX3_cyclic_83 : decode cX3_cyclic 83 = .ok (.iload_n 3, 1) := by decide +kernel
theorem dX3_cyclic_84 : decode cX3_cyclic 84 = .ok (.aload_n 0, 1) := by decide +kernel
theorem dX3_cyclic_85 : decode cX3_cyclic 85 = .ok (.getfield 19, 3) := by decide +kernel
theorem dX3_cyclic_88 : decode cX3_cyclic 88 = .ok (.getfield 227, 3) := by decide +kernel
theorem dX3_cyclic_91 : decode cX3_cyclic 91 = .ok (.invokevirtual 252, 3) := by decide +kernel
theorem dX3_cyclic_94 : decode cX3_cyclic 94 = .ok (.aload_n 0, 1) := by decide +kernel
theorem dX3_cyclic_95 : decode cX3_cyclic 95 = .ok (.getfield 15, 3) := by decide +kernel
theorem dX3_cyclic_98 : decode cX3_cyclic 98 = .ok (.invokevirtual 73, 3) := by decide +kernel
theorem dX3_cyclic_101 : decode cX3_cyclic 101 = .ok (.aload_n 0, 1) := by decide +kernel
theorem dX3_cyclic_102 : decode cX3_cyclic 102 = .ok (.getfield 19, 3) := by decide +kernel
theorem dX3_cyclic_105 : decode cX3_cyclic 105 = .ok (.bipush 40, 2) := by decide +kernel
theorem dX3_cyclic_107 : decode cX3_cyclic 107 = .ok (.iconst 0, 1) := by decide +kernel
theorem dX3_cyclic_108 : decode cX3_cyclic 108 = .ok (.iconst 0, 1) := by decide +kernel
theorem dX3_cyclic_109 : decode cX3_cyclic 109 = .ok (.aload_n 0, 1) := by decide +kernel
theorem dX3_cyclic_110 : decode cX3_cyclic 110 = .ok (.invokevirtual 233, 3) := by decide +kernel
theorem dX3_cyclic_113 : decode cX3_cyclic 113 = .ok (.invokevirtual 239, 3) := by decide +kernel
theorem dX3_cyclic_116 : decode cX3_cyclic 116 = .ok (.pop, 1) := by decide +kernel
theorem dX3_cyclic_117 : decode cX3_cyclic 117 = .ok (.return_, 1) := by decide +kernel
abbrev cX3_make : ByteArray := prog_5_method_2_code
def yX3_make : MethodName := ⟨RX3, "make", "(LSoftController$Program;)V"⟩
theorem dX3_make_0 : decode cX3_make 0 = .ok (.aload_n 0, 1) := by decide +kernel
theorem dX3_make_1 : decode cX3_make 1 = .ok (.aload_n 1, 1) := by decide +kernel
theorem dX3_make_2 : decode cX3_make 2 = .ok (.putfield 19, 3) := by decide +kernel
theorem dX3_make_5 : decode cX3_make 5 = .ok (.aload_n 0, 1) := by decide +kernel
theorem dX3_make_6 : decode cX3_make 6 = .ok (.getfield 19, 3) := by decide +kernel
theorem dX3_make_9 : decode cX3_make 9 = .ok (.invokevirtual 32, 3) := by decide +kernel
theorem dX3_make_12 : decode cX3_make 12 = .ok (.aload_n 0, 1) := by decide +kernel
theorem dX3_make_13 : decode cX3_make 13 = .ok (.getfield 28, 3) := by decide +kernel
theorem dX3_make_16 : decode cX3_make 16 = .ok (.aload_n 1, 1) := by decide +kernel
theorem dX3_make_17 : decode cX3_make 17 = .ok (.invokevirtual 37, 3) := by decide +kernel
theorem dX3_make_20 : decode cX3_make 20 = .ok (.aload_n 0, 1) := by decide +kernel
theorem dX3_make_21 : decode cX3_make 21 = .ok (.getfield 9, 3) := by decide +kernel
theorem dX3_make_24 : decode cX3_make 24 = .ok (.iconst 0, 1) := by decide +kernel
theorem dX3_make_25 : decode cX3_make 25 = .ok (.invokestatic 41, 3) := by decide +kernel
theorem dX3_make_28 : decode cX3_make 28 = .ok (.aload_n 0, 1) := by decide +kernel
theorem dX3_make_29 : decode cX3_make 29 = .ok (.iconst 0, 1) := by decide +kernel
theorem dX3_make_30 : decode cX3_make 30 = .ok (.putfield 47, 3) := by decide +kernel
theorem dX3_make_33 : decode cX3_make 33 = .ok (.aload_n 0, 1) := by decide +kernel
theorem dX3_make_34 : decode cX3_make 34 = .ok (.iconst 0, 1) := by decide +kernel
theorem dX3_make_35 : decode cX3_make 35 = .ok (.putfield 51, 3) := by decide +kernel
theorem dX3_make_38 : decode cX3_make 38 = .ok (.aload_n 0, 1) := by decide +kernel
theorem dX3_make_39 : decode cX3_make 39 = .ok (.iconst (-1), 1) := by decide +kernel
theorem dX3_make_40 : decode cX3_make 40 = .ok (.putfield 54, 3) := by decide +kernel
theorem dX3_make_43 : decode cX3_make 43 = .ok (.aload_n 0, 1) := by decide +kernel
theorem dX3_make_44 : decode cX3_make 44 = .ok (.iconst (-1), 1) := by decide +kernel
theorem dX3_make_45 : decode cX3_make 45 = .ok (.putfield 57, 3) := by decide +kernel
theorem dX3_make_48 : decode cX3_make 48 = .ok (.aload_n 0, 1) := by decide +kernel
theorem dX3_make_49 : decode cX3_make 49 = .ok (.getfield 15, 3) := by decide +kernel
theorem dX3_make_52 : decode cX3_make 52 = .ok (.invokevirtual 60, 3) := by decide +kernel
theorem dX3_make_55 : decode cX3_make 55 = .ok (.iconst 0, 1) := by decide +kernel
theorem dX3_make_56 : decode cX3_make 56 = .ok (.istore_n 2, 1) := by decide +kernel
theorem dX3_make_57 : decode cX3_make 57 = .ok (.iload_n 2, 1) := by decide +kernel
theorem dX3_make_58 : decode cX3_make 58 = .ok (.sipush 1500, 3) := by decide +kernel
theorem dX3_make_61 : decode cX3_make 61 = .ok (.if_icmp .gt 150, 3) := by decide +kernel
theorem dX3_make_64 : decode cX3_make 64 = .ok (.aload_n 0, 1) := by decide +kernel
theorem dX3_make_65 : decode cX3_make 65 = .ok (.getfield 15, 3) := by decide +kernel
theorem dX3_make_68 : decode cX3_make 68 = .ok (.iconst 0, 1) := by decide +kernel
theorem dX3_make_69 : decode cX3_make 69 = .ok (.invokevirtual 65, 3) := by decide +kernel
theorem dX3_make_72 : decode cX3_make 72 = .ok (.ifCond .ne 139, 3) := by decide +kernel
theorem dX3_make_75 : decode cX3_make 75 = .ok (.aload_n 0, 1) := by decide +kernel
theorem dX3_make_76 : decode cX3_make 76 = .ok (.getfield 15, 3) := by decide +kernel
theorem dX3_make_79 : decode cX3_make 79 = .ok (.invokevirtual 69, 3) := by decide +kernel
theorem dX3_make_82 : decode cX3_make 82 = .ok (.istore_n 3, 1) := by decide +kernel
theorem dX3_make_83 : decode cX3_make 83 = .ok (.aload_n 0, 1) := by decide +kernel
theorem dX3_make_84 : decode cX3_make 84 = .ok (.getfield 15, 3) := by decide +kernel
theorem dX3_make_87 : decode cX3_make 87 = .ok (.invokevirtual 73, 3) := by decide +kernel
theorem dX3_make_90 : decode cX3_make 90 = .ok (.iload_n 3, 1) := by decide +kernel
theorem dX3_make_91 : decode cX3_make 91 = .ok (.tableswitch 110 1 8 #[45, 54, 63, 71, 110, 79, 88, 95], 45) := by decide +kernel
theorem dX3_make_136 : decode cX3_make 136 = .ok (.aload_n 0, 1) := by decide +kernel
theorem dX3_make_137 : decode cX3_make 137 = .ok (.iconst 0, 1) := by decide +kernel
theorem dX3_make_138 : decode cX3_make 138 = .ok (.iconst 0, 1) := by decide +kernel
theorem dX3_make_139 : decode cX3_make 139 = .ok (.invokevirtual 76, 3) := by decide +kernel
theorem dX3_make_142 : decode cX3_make 142 = .ok (.goto 63, 3) := by decide +kernel
theorem dX3_make_145 : decode cX3_make 145 = .ok (.aload_n 0, 1) := by decide +kernel
theorem dX3_make_146 : decode cX3_make 146 = .ok (.iconst 0, 1) := by decide +kernel
theorem dX3_make_147 : decode cX3_make 147 = .ok (.iconst 1, 1) := by decide +kernel
theorem dX3_make_148 : decode cX3_make 148 = .ok (.invokevirtual 76, 3) := by decide +kernel
theorem dX3_make_151 : decode cX3_make 151 = .ok (.goto 54, 3) := by decide +kernel
theorem dX3_make_154 : decode cX3_make 154 = .ok (.aload_n 0, 1) := by decide +kernel
theorem dX3_make_155 : decode cX3_make 155 = .ok (.iconst 2, 1) := by decide +kernel
theorem dX3_make_156 : decode cX3_make 156 = .ok (.invokevirtual 80, 3) := by decide +kernel
theorem dX3_make_159 : decode cX3_make 159 = .ok (.goto 46, 3) := by decide +kernel
theorem dX3_make_162 : decode cX3_make 162 = .ok (.aload_n 0, 1) := by decide +kernel
theorem dX3_make_163 : decode cX3_make 163 = .ok (.iconst 3, 1) := by decide +kernel
theorem dX3_make_164 : decode cX3_make 164 = .ok (.invokevirtual 80, 3) := by decide +kernel
theorem dX3_make_167 : decode cX3_make 167 = .ok (.goto 38, 3) := by decide +kernel
theorem dX3_make_170 : decode cX3_make 170 = .ok (.aload_n 0, 1) := by decide +kernel
theorem dX3_make_171 : decode cX3_make 171 = .ok (.iconst 3, 1) := by decide +kernel
theorem dX3_make_172 : decode cX3_make 172 = .ok (.iconst 3, 1) := by decide +kernel
theorem dX3_make_173 : decode cX3_make 173 = .ok (.invokevirtual 84, 3) := by decide +kernel
theorem dX3_make_176 : decode cX3_make 176 = .ok (.goto 29, 3) := by decide +kernel
theorem dX3_make_179 : decode cX3_make 179 = .ok (.aload_n 0, 1) := by decide +kernel
theorem dX3_make_180 : decode cX3_make 180 = .ok (.invokevirtual 87, 3) := by decide +kernel
theorem dX3_make_183 : decode cX3_make 183 = .ok (.goto 22, 3) := by decide +kernel
theorem dX3_make_186 : decode cX3_make 186 = .ok (.aload_n 0, 1) := by decide +kernel
theorem dX3_make_187 : decode cX3_make 187 = .ok (.iconst 4, 1) := by decide +kernel
theorem dX3_make_188 : decode cX3_make 188 = .ok (.aload_n 0, 1) := by decide +kernel
theorem dX3_make_189 : decode cX3_make 189 = .ok (.getfield 15, 3) := by decide +kernel
theorem dX3_make_192 : decode cX3_make 192 = .ok (.invokevirtual 90, 3) := by decide +kernel
theorem dX3_make_195 : decode cX3_make 195 = .ok (.invokevirtual 84, 3) := by decide +kernel
theorem dX3_make_198 : decode cX3_make 198 = .ok (.goto 7, 3) := by decide +kernel
theorem dX3_make_201 : decode cX3_make 201 = .ok (.aload_n 0, 1) := by decide +kernel
theorem dX3_make_202 : decode cX3_make 202 = .ok (.invokevirtual 93, 3) := by decide +kernel
theorem dX3_make_205 : decode cX3_make 205 = .ok (.iinc 2 1, 3) := by decide +kernel
theorem dX3_make_208 : decode cX3_make 208 = .ok (.goto (-151), 3) := by decide +kernel
theorem dX3_make_211 : decode cX3_make 211 = .ok (.return_, 1) := by decide +kernel
theorem gs_4_0 : Cond.selects "SoftController$Maker" ⟨"SoftController$Maker", "routine", "(II)V"⟩ ⟨"SoftController$Maker", "routine", "(II)V"⟩ ∈ GW := gw_s (List.mem_map.mpr ⟨_, pin_4 _ (List.mem_of_getElem? (i := 0) rfl), rfl⟩) rfl
theorem gs_6_2 : Cond.selects "SoftController$Maker" ⟨"SoftController$Maker", "cyclic", "()V"⟩ ⟨"SoftController$Maker", "cyclic", "()V"⟩ ∈ GW := gw_s (List.mem_map.mpr ⟨_, pin_6 _ (List.mem_of_getElem? (i := 2) rfl), rfl⟩) rfl
theorem gw_1094 : (Jvm.Cond.methodLink "SoftController$Maker" (84 : Nat) ({ cls := "SoftController$Maker", name := "routine", desc := "(II)V" } : Jvm.MethodName)) ∈ GW := gw_t (tin_5 _ (List.mem_of_getElem? (i := 134) rfl)) rfl
theorem gw_1096 : (Jvm.Cond.instanceMethod ({ cls := "SoftController$Maker", name := "routine", desc := "(II)V" } : Jvm.MethodName)) ∈ GW := gw_t (tin_5 _ (List.mem_of_getElem? (i := 136) rfl)) rfl
theorem gw_1097 : (Jvm.Cond.code ({ cls := "SoftController$Maker", name := "routine", desc := "(II)V" } : Jvm.MethodName) prog_5_method_12_code (5 : Nat) (Option.none : Option Jvm.ClassFile.FieldType)) ∈ GW := gw_t (tin_5 _ (List.mem_of_getElem? (i := 137) rfl)) rfl
theorem gw_1363 : (Jvm.Cond.methodLink "SoftController$Maker" (93 : Nat) ({ cls := "SoftController$Maker", name := "cyclic", desc := "()V" } : Jvm.MethodName)) ∈ GW := gw_t (tin_6 _ (List.mem_of_getElem? (i := 163) rfl)) rfl
theorem gw_1365 : (Jvm.Cond.instanceMethod ({ cls := "SoftController$Maker", name := "cyclic", desc := "()V" } : Jvm.MethodName)) ∈ GW := gw_t (tin_6 _ (List.mem_of_getElem? (i := 165) rfl)) rfl
theorem gw_1366 : (Jvm.Cond.code ({ cls := "SoftController$Maker", name := "cyclic", desc := "()V" } : Jvm.MethodName) prog_5_method_14_code (4 : Nat) (Option.none : Option Jvm.ClassFile.FieldType)) ∈ GW := gw_t (tin_6 _ (List.mem_of_getElem? (i := 166) rfl)) rfl
theorem gw_1367 : (Jvm.Cond.constantLong "SoftController$Maker" (243 : Nat) (1000 : Int64)) ∈ GW := gw_t (tin_6 _ (List.mem_of_getElem? (i := 167) rfl)) rfl
theorem gw_981 : (Jvm.Cond.methodLink "SoftController" (90 : Nat) ({ cls := "SoftController$Maker", name := "make", desc := "(LSoftController$Program;)V" } : Jvm.MethodName)) ∈ GW := gw_t (tin_5 _ (List.mem_of_getElem? (i := 21) rfl)) rfl
theorem gw_982 : (Jvm.Cond.instanceMethod ({ cls := "SoftController$Maker", name := "make", desc := "(LSoftController$Program;)V" } : Jvm.MethodName)) ∈ GW := gw_t (tin_5 _ (List.mem_of_getElem? (i := 22) rfl)) rfl
theorem gw_983 : (Jvm.Cond.selects "SoftController$Maker" ({ cls := "SoftController$Maker", name := "make", desc := "(LSoftController$Program;)V" } : Jvm.MethodName) ({ cls := "SoftController$Maker", name := "make", desc := "(LSoftController$Program;)V" } : Jvm.MethodName)) ∈ GW := gw_t (tin_5 _ (List.mem_of_getElem? (i := 23) rfl)) rfl
theorem gw_984 : (Jvm.Cond.code ({ cls := "SoftController$Maker", name := "make", desc := "(LSoftController$Program;)V" } : Jvm.MethodName) prog_5_method_2_code (4 : Nat) (Option.none : Option Jvm.ClassFile.FieldType)) ∈ GW := gw_t (tin_5 _ (List.mem_of_getElem? (i := 24) rfl)) rfl
theorem gw_996 : (Jvm.Cond.methodLink "SoftController$Maker" (41 : Nat) ({ cls := "java/util/Arrays", name := "fill", desc := "([II)V" } : Jvm.MethodName)) ∈ GW := gw_t (tin_5 _ (List.mem_of_getElem? (i := 36) rfl)) rfl
theorem nw_239 : (Jvm.Cond.fieldLinkNest "SoftController$Maker" (245 : Nat) "SoftController$Name" "number" "I" "SoftController") ∈ NWL := gw_n (tin_1 _ (List.mem_of_getElem? (i := 239) rfl)) rfl
theorem nw_278 : (Jvm.Cond.fieldLinkNest "SoftController$Maker" (230 : Nat) "SoftController$Name" "entry" "I" "SoftController") ∈ NWL := gw_n (tin_2 _ (List.mem_of_getElem? (i := 38) rfl)) rfl
theorem nw_382 : (Jvm.Cond.fieldLinkNest "SoftController$Maker" (248 : Nat) "SoftController$Program" "tasks" "[LSoftController$Task;" "SoftController") ∈ NWL := gw_n (tin_2 _ (List.mem_of_getElem? (i := 142) rfl)) rfl
section C39cmitemR
variable {p : Program} {l : Launch} {e : Env} {R : Room} {s : State} {m : MethodId} {args : Array Value} {below : List Frame} {meth : Method} {c : Code} {H : Heap} {locs : List Loc} {Q : State → Prop} {cells slots : Nat}
variable {cc : ByteArray} {pc nL : Nat} {c0 : Cond} {own : String} {ls : Array Slot} {rest : List Value} {D : va_G} {kA : Nat → ClassId} {V Z : Nat → Nat} {A : Nat → Prop}
variable {u u1 : CSt}
theorem cp_X3_230 (X : CC p s m args c cc nL c0 RX3 D kA V A) {q : Nat} (hq : q < 338) (hS : CS D kA Z A s u H locs) {v : Int32} (hu : xmI u q 13 v = u1) (hd : decode cc pc = .ok (.putfield 230, 3)) (kk : ∀ H locs, CS D kA Z A s u1 H locs → W p l e R s m args below meth c H locs cells slots Q (F0 m (pc + 3) ls rest)) : W p l e R s m args below meth c H locs cells slots Q (F0 m pc ls (.int v :: .ref (Z (1000 + q)) :: rest)) := by
  obtain ⟨⟨hx, hb, hml, hown, hts⟩, hK, hE, hA⟩ := X
  have hG : ∀ w ∈ GW, w.before args s = true := fun w h => hts w (List.mem_cons_of_mem _ h)
  subst hu
  refine va_putN (D := D) (ci := 4) (v := .int v) (ty := .int) (C := RX4) (T := TX4) (N := 15) hx hb hG gwl_X4 tyX4 tyX4_ok nmX4 hown hK hS.1 hS.2.1 hS.2.2 (90 + q) (cw_name hq) rfl 13 (by decide) (va_Nw.use rfl (hE.1 _ nw_278)) (fun _ h9 => h9) rfl (by decide +kernel) rfl rfl (Nat.le_of_ble_eq_true rfl) hd (fun H1 locs1 hP hD hS1 => kk H1 locs1 ?_)
  have he := cw_setN (kA := kA) (Z := Z) (u := u) (w := xmI u q 13 v) (q := q) (x := (Z (1000 + q), .inr (4, (NF u q).set 13 (.int v)))) hq rfl rfl (by simp [NW, NF, xmI, mI, mL]) (fun j hj => by simp [NW, NF, xmI, mI, mL, hj])
  exact cs_put he hP hD hS1
theorem cp_X3_110 (X : CC p s m args c cc nL c0 RX3 D kA V A) {q : Nat} (hq : q < 2) (hS : CS D kA Z A s u H locs) {v : Int32} (hu : xpI u q 15 v = u1) (hd : decode cc pc = .ok (.putfield 110, 3)) (kk : ∀ H locs, CS D kA Z A s u1 H locs → W p l e R s m args below meth c H locs cells slots Q (F0 m (pc + 3) ls rest)) : W p l e R s m args below meth c H locs cells slots Q (F0 m pc ls (.int v :: .ref (Z (300 + 50 * q)) :: rest)) := by
  obtain ⟨⟨hx, hb, hml, hown, hts⟩, hK, hE, hA⟩ := X
  have hG : ∀ w ∈ GW, w.before args s = true := fun w h => hts w (List.mem_cons_of_mem _ h)
  subst hu
  rcases (show q = 0 ∨ q = 1 by omega) with rfl | rfl
  · refine va_putN (D := D) (ci := 5) (v := .int v) (ty := .int) (C := RX6) (T := TX6) (N := 16) hx hb hG gwl_X6 tyX6 tyX6_ok nmX6 hown hK hS.1 hS.2.1 hS.2.2 40 (cw_lit rfl) rfl 15 (by decide) (va_Nw.use rfl (hE.1 _ nw_401)) (fun _ h9 => h9) rfl (by decide +kernel) rfl rfl (Nat.le_of_ble_eq_true rfl) hd (fun H1 locs1 hP hD hS1 => kk H1 locs1 ?_)
    have he := cw_setL (kA := kA) (Z := Z) (u := u) (w := xpI u 0 15 v) (k := 40) (x := (Z (300 + 50 * 0), .inr (5, ([.ref (Z (300 + 50 * 0 + 1)), .ref (Z (300 + 50 * 0 + 2)), .ref (Z (1000 + (169 * 0 + 168))), .ref (Z (300 + 50 * 0 + 3)), .ref (Z (300 + 50 * 0 + 9)), .ref (Z (300 + 50 * 0 + 10)), .ref (Z (300 + 50 * 0 + 11)), .ref (Z (300 + 50 * 0 + 12)), .ref (Z (300 + 50 * 0 + 13)), .ref (Z (300 + 50 * 0 + 14)), .ref (Z (300 + 50 * 0 + 15)), .ref (Z (300 + 50 * 0 + 16)), .int (pI u 0 12), .int (pI u 0 13), .int (pI u 0 14), .int (pI u 0 15)] : List Value).set 15 (.int v)))) (by decide) rfl rfl rfl
    exact cs_put he hP hD hS1
  · refine va_putN (D := D) (ci := 5) (v := .int v) (ty := .int) (C := RX6) (T := TX6) (N := 16) hx hb hG gwl_X6 tyX6 tyX6_ok nmX6 hown hK hS.1 hS.2.1 hS.2.2 57 (cw_lit rfl) rfl 15 (by decide) (va_Nw.use rfl (hE.1 _ nw_401)) (fun _ h9 => h9) rfl (by decide +kernel) rfl rfl (Nat.le_of_ble_eq_true rfl) hd (fun H1 locs1 hP hD hS1 => kk H1 locs1 ?_)
    have he := cw_setL (kA := kA) (Z := Z) (u := u) (w := xpI u 1 15 v) (k := 57) (x := (Z (300 + 50 * 1), .inr (5, ([.ref (Z (300 + 50 * 1 + 1)), .ref (Z (300 + 50 * 1 + 2)), .ref (Z (1000 + (169 * 1 + 168))), .ref (Z (300 + 50 * 1 + 3)), .ref (Z (300 + 50 * 1 + 9)), .ref (Z (300 + 50 * 1 + 10)), .ref (Z (300 + 50 * 1 + 11)), .ref (Z (300 + 50 * 1 + 12)), .ref (Z (300 + 50 * 1 + 13)), .ref (Z (300 + 50 * 1 + 14)), .ref (Z (300 + 50 * 1 + 15)), .ref (Z (300 + 50 * 1 + 16)), .int (pI u 1 12), .int (pI u 1 13), .int (pI u 1 14), .int (pI u 1 15)] : List Value).set 15 (.int v)))) (by decide) rfl rfl rfl
    exact cs_put he hP hD hS1
theorem cg_X3_245 (X : CC p s m args c cc nL c0 RX3 D kA V A) {q : Nat} (hq : q < 338) (hS : CS D kA Z A s u H locs) (hd : decode cc pc = .ok (.getfield 245, 3)) (kk : W p l e R s m args below meth c H locs cells slots Q (F0 m (pc + 3) ls (.int (mI u q 4) :: rest))) : W p l e R s m args below meth c H locs cells slots Q (F0 m pc ls (.ref (Z (1000 + q)) :: rest)) := by
  obtain ⟨⟨hx, hb, hml, hown, hts⟩, hK, hE, hA⟩ := X
  have hG : ∀ w ∈ GW, w.before args s = true := fun w h => hts w (List.mem_cons_of_mem _ h)
  exact va_getN (D := D) (ci := 4) (v := .int (mI u q 4)) (C := RX4) (T := TX4) (N := 15) hx hb hG gwl_X4 hown hK hS.1 (90 + q) (cw_name hq) rfl 4 (by decide) (va_Nw.use rfl (hE.1 _ nw_239)) (fun _ h9 => h9) rfl hd kk
theorem cg_X3_248 (X : CC p s m args c cc nL c0 RX3 D kA V A) {q : Nat} (hq : q < 2) (hS : CS D kA Z A s u H locs) (hd : decode cc pc = .ok (.getfield 248, 3)) (kk : W p l e R s m args below meth c H locs cells slots Q (F0 m (pc + 3) ls (.ref (Z (300 + 50 * q + 10)) :: rest))) : W p l e R s m args below meth c H locs cells slots Q (F0 m pc ls (.ref (Z (300 + 50 * q)) :: rest)) := by
  obtain ⟨⟨hx, hb, hml, hown, hts⟩, hK, hE, hA⟩ := X
  have hG : ∀ w ∈ GW, w.before args s = true := fun w h => hts w (List.mem_cons_of_mem _ h)
  rcases (show q = 0 ∨ q = 1 by omega) with rfl | rfl
  · exact va_getN (D := D) (ci := 5) (v := .ref (Z (300 + 50 * 0 + 10))) (C := RX6) (T := TX6) (N := 16) hx hb hG gwl_X6 hown hK hS.1 40 (cw_lit rfl) rfl 5 (by decide) (va_Nw.use rfl (hE.1 _ nw_382)) (fun _ h9 => h9) rfl hd kk
  · exact va_getN (D := D) (ci := 5) (v := .ref (Z (300 + 50 * 1 + 10))) (C := RX6) (T := TX6) (N := 16) hx hb hG gwl_X6 hown hK hS.1 57 (cw_lit rfl) rfl 5 (by decide) (va_Nw.use rfl (hE.1 _ nw_382)) (fun _ h9 => h9) rfl hd kk
theorem cp_X3_19 (X : CC p s m args c cc nL c0 RX3 D kA V A) (hS : CS D kA Z A s u H locs) {v : Nat} (hu : xR u 2 v = u1) (hd : decode cc pc = .ok (.putfield 19, 3)) (kk : ∀ H locs, CS D kA Z A s u1 H locs → W p l e R s m args below meth c H locs cells slots Q (F0 m (pc + 3) ls rest)) : W p l e R s m args below meth c H locs cells slots Q (F0 m pc ls (.ref (Z (300 + 50 * v)) :: .ref (Z 227) :: rest)) := by
  obtain ⟨⟨hx, hb, hml, hown, hts⟩, hK, hE, hA⟩ := X
  have hG : ∀ w ∈ GW, w.before args s = true := fun w h => hts w (List.mem_cons_of_mem _ h)
  subst hu
  refine va_put (D := D) (ci := 3) (v := .ref (Z (300 + 50 * v))) (ty := (.object "SoftController$Program")) (C := RX3) (T := TX3) (N := 8) hx hb hG gwl_X3 tyX3 tyX3_ok nmX3 hown hK hS.1 hS.2.1 hS.2.2 27 (cw_lit rfl) rfl 3 (by decide) (hG _ gw_478) (fun _ h9 => h9) rfl (by decide +kernel) rfl rfl (Nat.le_of_ble_eq_true rfl) hd (fun H1 locs1 hP hD hS1 => kk H1 locs1 ?_)
  have he := cw_setL (kA := kA) (Z := Z) (u := u) (w := xR u 2 v) (k := 27) (x := (Z 227, .inr (3, ([.ref (Z 202), .ref (Z 229), .ref (Z 228), .ref (Z (300 + 50 * cR u 2)), .int (cI u 12), .int (cI u 13), .int (cI u 14), .int (cI u 15)] : List Value).set 3 (.ref (Z (300 + 50 * v)))))) (by decide) rfl rfl rfl
  exact cs_put he hP hD hS1
end C39cmitemR
section C39cmitem
variable {p : Program} {l : Launch} {e : Env} {R : Room} {s : State} {m : MethodId} {args : Array Value} {below : List Frame} {meth : Method} {c : Code} {H : Heap} {locs : List Loc} {Q : State → Prop} {cells slots : Nat}
variable {ls : Array Slot} {D : va_G} {kA : Nat → ClassId} {V Z : Nat → Nat} {A : Nat → Prop} {N d : Nat} {w : CSt}
def B_X3_routine_118 (N : Nat) (l1 : Int32) (l2 : Int32) (l3 : Nat) (u : CSt) : Option ((Sum Nat Int32) × CSt) := ok (cR u 2 < 2) inferInstance <| pc (xmI u l3 13 (pI u (cR u 2) 13)) fun u_2 => bt (G_X3_statements N u_2) fun r_4 u_3 => if l1 = (4 : Int32) then (ok (cR u_3 2 < 2) inferInstance <| bc (F_X6_constant N (cR u_3 2) 0 0 r_4 u_3) fun _ u_13 => ok (cR u_13 2 < 2) inferInstance <| bc (F_X6_step N (cR u_13 2) 39 l2 0 r_4 u_13) fun r_16 u_15 => ok (cR u_15 2 < 2) inferInstance <| pc (xpI u_15 (cR u_15 2) 15 (-1)) fun u_18 => some (.inr 0, u_18)) else (ok (cR u_3 2 < 2) inferInstance <| bc (F_X6_step N (cR u_3 2) 40 0 0 r_4 u_3) fun r_9 u_8 => ok (cR u_8 2 < 2) inferInstance <| pc (xpI u_8 (cR u_8 2) 15 (-1)) fun u_11 => some (.inr 0, u_11))
set_option maxHeartbeats 4000000 in
theorem b_X3_routine_118 {y : (Sum Nat Int32)} (X : CC p s m args c cX3_routine 5 (Cond.code yX3_routine cX3_routine 5 none) RX3 D kA V A) (hE : CEvx p l e R s m args below meth c cX3_routine D kA Z A Q y w) (hst : l.stackTraces = false) (hX : CX p l e R s m args below meth c D kA Z A Q y w) (hC : 1 ≤ R.cells ∧ 6 ≤ R.slots) (hF : 491 ≤ R.frames) (hL : 29021 ≤ R.locals) {l1 : Int32} {l2 : Int32} {l3 : Nat} {u : CSt}  (h : B_X3_routine_118 N l1 l2 l3 u = some (y, w)) (h_l3 : l3 < 338) (hS : CS D kA Z A s u H locs) (hl : lv_has ls 5 [(0, .ref (Z 227)), (1, .int l1), (2, .int l2), (3, .ref (Z (1000 + l3)))]) : W p l e R s m args below meth c H locs 0 0 Q (F0 m 118 ls []) := by
  obtain ⟨⟨hx, hb, hml, hown, hts⟩, hK, hEV, hA⟩ := id X
  have hG : ∀ w ∈ GW, w.before args s = true := fun w h => hts w (List.mem_cons_of_mem _ h)
  unfold B_X3_routine_118 at h
  refine lv_aload_n hx hb dX3_routine_118 rfl (lv_at hl 3 rfl) ?_
  refine lv_aload_n hx hb dX3_routine_119 rfl (lv_at hl 0 rfl) ?_
  refine cg_X3_19 X hS dX3_routine_120 ?_
  obtain ⟨z_1, h⟩ := ok_of h
  refine cg_X3_227 X z_1 hS dX3_routine_123 ?_
  obtain ⟨u_2, e_u_2, h⟩ := pc_of h
  refine cp_X3_230 X h_l3 hS e_u_2 dX3_routine_126 (fun H locs hS => ?_)
  refine lv_aload_n hx hb dX3_routine_129 rfl (lv_at hl 0 rfl) ?_
  obtain ⟨y_5, u_3, h_u_3, h⟩ := bt_of h
  refine kg_X3_statements_RX3 hst X  hS h_u_3 (Nat.le_trans (Nat.le_of_ble_eq_true rfl) hF) (Nat.le_trans (Nat.le_of_ble_eq_true rfl) hL) hC hl.1 (Nat.le_of_ble_eq_true rfl) dX3_routine_130 (fun r_4 hr_u_3 H locs hS => ?_) (fun x9 hn H locs q9 ce hS a1 a2 a3 => by obtain ⟨e2, rfl⟩ := bt_no h hn; exact hX _ e2 _ _ _ _ _ _ _ hS a1 a2 a3)
  replace h := bt_ok h hr_u_3
  refine lv_istore (lv' := [(4, .int r_4), (0, .ref (Z 227)), (1, .int l1), (2, .int l2), (3, .ref (Z (1000 + l3)))]) hx hb dX3_routine_133 hl (by decide) rfl (fun ls hl => ?_)
  refine lv_iload_n hx hb dX3_routine_135 rfl (lv_at hl 2 rfl) ?_
  refine lv_iconst (v := 4) hx hb dX3_routine_136 (by decide) ?_
  refine lv_icmp_ne (tgt := 168) hx hb dX3_routine_137 (by decide) (fun c_6 => ?_) (fun c_6 => ?_)
  · have h := im (c_6) h
    refine lv_aload_n hx hb dX3_routine_168 rfl (lv_at hl 1 rfl) ?_
    refine cg_X3_19 X hS dX3_routine_169 ?_
    obtain ⟨z_7, h⟩ := ok_of h
    refine lv_bipush (v := 40) hx hb dX3_routine_172 (by decide) ?_
    refine lv_iconst (v := 0) hx hb dX3_routine_174 (by decide) ?_
    refine lv_iconst (v := 0) hx hb dX3_routine_175 (by decide) ?_
    refine lv_iload hx hb dX3_routine_176 (lv_at hl 0 rfl) ?_
    obtain ⟨r_9, u_8, h_u_8, h⟩ := bc_of h
    refine kc_X6_step_RX3 X z_7 hS h_u_8 (Nat.le_trans (Nat.le_of_ble_eq_true rfl) hF) (Nat.le_trans (Nat.le_of_ble_eq_true rfl) hL) hl.1 (Nat.le_of_ble_eq_true rfl) dX3_routine_178 (fun H locs hS => ?_)
    refine lv_pop hx hb dX3_routine_181 rfl ?_
    refine lv_aload_n hx hb dX3_routine_182 rfl (lv_at hl 1 rfl) ?_
    refine cg_X3_19 X hS dX3_routine_183 ?_
    obtain ⟨z_10, h⟩ := ok_of h
    refine lv_iconst (v := (-1)) hx hb dX3_routine_186 (by decide) ?_
    obtain ⟨u_11, e_u_11, h⟩ := pc_of h
    refine cp_X3_110 X z_10 hS e_u_11 dX3_routine_187 (fun H locs hS => ?_)
    obtain ⟨e9, rfl⟩ := so9 h
    exact hE _ e9.symm _ _ _ _ hS dX3_routine_190
  · have h := ip (c_6) h
    refine lv_aload_n hx hb dX3_routine_140 rfl (lv_at hl 1 rfl) ?_
    refine cg_X3_19 X hS dX3_routine_141 ?_
    obtain ⟨z_12, h⟩ := ok_of h
    refine lv_lconst (v := 0) hx hb dX3_routine_144 (by decide) ?_
    refine lv_iconst (v := 0) hx hb dX3_routine_145 (by decide) ?_
    refine lv_iload hx hb dX3_routine_146 (lv_at hl 0 rfl) ?_
    obtain ⟨r_u_13, u_13, h_u_13, h⟩ := bc_of h
    refine kc_X6_constant_RX3 X z_12 hS h_u_13 (Nat.le_trans (Nat.le_of_ble_eq_true rfl) hF) (Nat.le_trans (Nat.le_of_ble_eq_true rfl) hL) hl.1 (Nat.le_of_ble_eq_true rfl) dX3_routine_148 (fun H locs hS => ?_)
    refine lv_aload_n hx hb dX3_routine_151 rfl (lv_at hl 1 rfl) ?_
    refine cg_X3_19 X hS dX3_routine_152 ?_
    obtain ⟨z_14, h⟩ := ok_of h
    refine lv_bipush (v := 39) hx hb dX3_routine_155 (by decide) ?_
    refine lv_iload_n hx hb dX3_routine_157 rfl (lv_at hl 3 rfl) ?_
    refine lv_iconst (v := 0) hx hb dX3_routine_158 (by decide) ?_
    refine lv_iload hx hb dX3_routine_159 (lv_at hl 0 rfl) ?_
    obtain ⟨r_16, u_15, h_u_15, h⟩ := bc_of h
    refine kc_X6_step_RX3 X z_14 hS h_u_15 (Nat.le_trans (Nat.le_of_ble_eq_true rfl) hF) (Nat.le_trans (Nat.le_of_ble_eq_true rfl) hL) hl.1 (Nat.le_of_ble_eq_true rfl) dX3_routine_161 (fun H locs hS => ?_)
    refine lv_pop hx hb dX3_routine_164 rfl ?_
    refine lv_goto (tgt := 182) hx hb dX3_routine_165 (by decide) ?_
    refine lv_aload_n hx hb dX3_routine_182 rfl (lv_at hl 1 rfl) ?_
    refine cg_X3_19 X hS dX3_routine_183 ?_
    obtain ⟨z_17, h⟩ := ok_of h
    refine lv_iconst (v := (-1)) hx hb dX3_routine_186 (by decide) ?_
    obtain ⟨u_18, e_u_18, h⟩ := pc_of h
    refine cp_X3_110 X z_17 hS e_u_18 dX3_routine_187 (fun H locs hS => ?_)
    obtain ⟨e9, rfl⟩ := so9 h
    exact hE _ e9.symm _ _ _ _ hS dX3_routine_190
def B_X3_routine_79 (N : Nat) (R_79 : Int32 × Int32 × Nat × Int32 × CSt → Option ((Sum Nat Int32) × CSt)) (l1 : Int32) (l2 : Int32) (l3 : Nat) (l4 : Int32) (u : CSt) : Option ((Sum Nat Int32) × CSt) := if (1500 : Int32) ≤ l4 then (B_X3_routine_118 N l1 l2 l3 u) else (bc (F_X9_is N 1 u) fun r_21 u_20 => if r_21 = (0 : Int32) then (B_X3_routine_118 N l1 l2 l3 u_20) else (bc (F_X9_next N u_20) fun _ u_23 => bt (F_X3_variables N 6 0 u_23) fun _ u_24 => R_79 (l1, l2, l3, (l4 + 1), u_24)))
set_option maxHeartbeats 4000000 in
theorem b_X3_routine_79 {y : (Sum Nat Int32)} (X : CC p s m args c cX3_routine 5 (Cond.code yX3_routine cX3_routine 5 none) RX3 D kA V A) (hE : CEvx p l e R s m args below meth c cX3_routine D kA Z A Q y w) (hst : l.stackTraces = false) (hX : CX p l e R s m args below meth c D kA Z A Q y w) (hC : 1 ≤ R.cells ∧ 6 ≤ R.slots) (hF : 491 ≤ R.frames) (hL : 29021 ≤ R.locals) {R_79 : Int32 × Int32 × Nat × Int32 × CSt → Option ((Sum Nat Int32) × CSt)} {l1 : Int32} {l2 : Int32} {l3 : Nat} {l4 : Int32} {u : CSt} (hR_79 : ∀ (l1 : Int32) (l2 : Int32) (l3 : Nat) (l4 : Int32) (u : CSt), l3 < 338 → R_79 (l1, l2, l3, l4, u) = some (y, w) → ∀ (H : Heap) (locs : List Loc) (ls : Array Slot), CS D kA Z A s u H locs → lv_has ls 5 [(0, .ref (Z 227)), (1, .int l1), (2, .int l2), (3, .ref (Z (1000 + l3))), (4, .int l4)] → W p l e R s m args below meth c H locs 0 0 Q (F0 m 79 ls [])) (h : B_X3_routine_79 N R_79 l1 l2 l3 l4 u = some (y, w)) (h_l3 : l3 < 338) (hS : CS D kA Z A s u H locs) (hl : lv_has ls 5 [(0, .ref (Z 227)), (1, .int l1), (2, .int l2), (3, .ref (Z (1000 + l3))), (4, .int l4)]) : W p l e R s m args below meth c H locs 0 0 Q (F0 m 79 ls []) := by
  obtain ⟨⟨hx, hb, hml, hown, hts⟩, hK, hEV, hA⟩ := id X
  have hG : ∀ w ∈ GW, w.before args s = true := fun w h => hts w (List.mem_cons_of_mem _ h)
  unfold B_X3_routine_79 at h
  refine lv_iload hx hb dX3_routine_79 (lv_at hl 4 rfl) ?_
  refine lv_sipush (v := 1500) hx hb dX3_routine_81 (by decide) ?_
  refine lv_icmp_ge (tgt := 118) hx hb dX3_routine_84 (by decide) (fun c_19 => ?_) (fun c_19 => ?_)
  · have h := ip (c_19) h
    exact b_X3_routine_118 X hE hst hX hC hF hL  h h_l3 hS (lv_sub hl [0, 1, 2, 3] rfl)
  · have h := im (c_19) h
    refine lv_aload_n hx hb dX3_routine_87 rfl (lv_at hl 0 rfl) ?_
    refine cg_X3_15 X hS dX3_routine_88 ?_
    refine lv_iconst (v := 1) hx hb dX3_routine_91 (by decide) ?_
    obtain ⟨r_21, u_20, h_u_20, h⟩ := bc_of h
    refine kc_X9_is_RX3 X  hS h_u_20 (Nat.le_trans (Nat.le_of_ble_eq_true rfl) hF) (Nat.le_trans (Nat.le_of_ble_eq_true rfl) hL) hl.1 (Nat.le_of_ble_eq_true rfl) dX3_routine_92 (fun H locs hS => ?_)
    refine lv_if_eq (tgt := 118) hx hb dX3_routine_95 (by decide) (fun c_22 => ?_) (fun c_22 => ?_)
    · have h := ip (c_22) h
      exact b_X3_routine_118 X hE hst hX hC hF hL  h h_l3 hS (lv_sub hl [0, 1, 2, 3] rfl)
    · have h := im (c_22) h
      refine lv_aload_n hx hb dX3_routine_98 rfl (lv_at hl 0 rfl) ?_
      refine cg_X3_15 X hS dX3_routine_99 ?_
      obtain ⟨r_u_23, u_23, h_u_23, h⟩ := bc_of h
      refine kc_X9_next_RX3 X  hS h_u_23 (Nat.le_trans (Nat.le_of_ble_eq_true rfl) hF) (Nat.le_trans (Nat.le_of_ble_eq_true rfl) hL) hl.1 (Nat.le_of_ble_eq_true rfl) dX3_routine_102 (fun H locs hS => ?_)
      refine lv_aload_n hx hb dX3_routine_105 rfl (lv_at hl 0 rfl) ?_
      refine lv_bipush (v := 6) hx hb dX3_routine_106 (by decide) ?_
      refine lv_iconst (v := 0) hx hb dX3_routine_108 (by decide) ?_
      obtain ⟨y_25, u_24, h_u_24, h⟩ := bt_of h
      refine kc_X3_variables_RX3 hst X  hS h_u_24 (Nat.le_trans (Nat.le_of_ble_eq_true rfl) hF) (Nat.le_trans (Nat.le_of_ble_eq_true rfl) hL) hC hl.1 (Nat.le_of_ble_eq_true rfl) dX3_routine_109 (fun r_u_24 hr_u_24 H locs hS => ?_) (fun x9 hn H locs q9 ce hS a1 a2 a3 => by obtain ⟨e2, rfl⟩ := bt_no h hn; exact hX _ e2 _ _ _ _ _ _ _ hS a1 a2 a3)
      replace h := bt_ok h hr_u_24
      refine lv_iinc (v := l4 + 1) (lv' := [(4, .int (l4 + 1)), (0, .ref (Z 227)), (1, .int l1), (2, .int l2), (3, .ref (Z (1000 + l3)))]) hx hb dX3_routine_112 hl (k := 4) rfl rfl (by decide) rfl (fun ls hl => ?_)
      refine lv_goto (tgt := 79) hx hb dX3_routine_115 (by decide) ?_
      exact hR_79 _ _ _ _ _ h_l3 h _ _ _ hS (lv_sub hl [1, 2, 3, 4, 0] rfl)
def LP_X3_routine_79 (N : Nat) : Nat → Int32 × Int32 × Nat × Int32 × CSt → Option ((Sum Nat Int32) × CSt) := lp (fun R a => B_X3_routine_79 N R a.1 a.2.1 a.2.2.1 a.2.2.2.1 a.2.2.2.2)
theorem bl_X3_routine_79 {y : (Sum Nat Int32)} (X : CC p s m args c cX3_routine 5 (Cond.code yX3_routine cX3_routine 5 none) RX3 D kA V A) (hE : CEvx p l e R s m args below meth c cX3_routine D kA Z A Q y w) (hst : l.stackTraces = false) (hX : CX p l e R s m args below meth c D kA Z A Q y w) (hC : 1 ≤ R.cells ∧ 6 ≤ R.slots) (hF : 491 ≤ R.frames) (hL : 29021 ≤ R.locals)  : ∀ (n : Nat) (l1 : Int32) (l2 : Int32) (l3 : Nat) (l4 : Int32) (u : CSt), l3 < 338 → LP_X3_routine_79 N n (l1, l2, l3, l4, u) = some (y, w) → ∀ (H : Heap) (locs : List Loc) (ls : Array Slot), CS D kA Z A s u H locs → lv_has ls 5 [(0, .ref (Z 227)), (1, .int l1), (2, .int l2), (3, .ref (Z (1000 + l3))), (4, .int l4)] → W p l e R s m args below meth c H locs 0 0 Q (F0 m 79 ls []) := by
  intro n
  induction n with
  | zero => intro l1 l2 l3 l4 u h_l3 h; exact nomatch h
  | succ n ih => intro l1 l2 l3 l4 u h_l3 h H locs ls hS hl; exact b_X3_routine_79 (N := N) (R_79 := LP_X3_routine_79 N n) X hE hst hX hC hF hL  ih h h_l3 hS hl
def B_X3_routine_62 (N : Nat) (l1 : Int32) (l2 : Int32) (l3 : Nat) (u : CSt) : Option ((Sum Nat Int32) × CSt) := bc (F_X9_next N u) fun _ u_26 => bc (F_X9_next N u_26) fun _ u_27 => LP_X3_routine_79 N N (l1, l2, l3, 0, u_27)
set_option maxHeartbeats 4000000 in
theorem b_X3_routine_62 {y : (Sum Nat Int32)} (X : CC p s m args c cX3_routine 5 (Cond.code yX3_routine cX3_routine 5 none) RX3 D kA V A) (hE : CEvx p l e R s m args below meth c cX3_routine D kA Z A Q y w) (hst : l.stackTraces = false) (hX : CX p l e R s m args below meth c D kA Z A Q y w) (hC : 1 ≤ R.cells ∧ 6 ≤ R.slots) (hF : 491 ≤ R.frames) (hL : 29021 ≤ R.locals) {l1 : Int32} {l2 : Int32} {l3 : Nat} {u : CSt}  (h : B_X3_routine_62 N l1 l2 l3 u = some (y, w)) (h_l3 : l3 < 338) (hS : CS D kA Z A s u H locs) (hl : lv_has ls 5 [(0, .ref (Z 227)), (1, .int l1), (2, .int l2), (3, .ref (Z (1000 + l3)))]) : W p l e R s m args below meth c H locs 0 0 Q (F0 m 62 ls []) := by
  obtain ⟨⟨hx, hb, hml, hown, hts⟩, hK, hEV, hA⟩ := id X
  have hG : ∀ w ∈ GW, w.before args s = true := fun w h => hts w (List.mem_cons_of_mem _ h)
  unfold B_X3_routine_62 at h
  refine lv_aload_n hx hb dX3_routine_62 rfl (lv_at hl 0 rfl) ?_
  refine cg_X3_15 X hS dX3_routine_63 ?_
  obtain ⟨r_u_26, u_26, h_u_26, h⟩ := bc_of h
  refine kc_X9_next_RX3 X  hS h_u_26 (Nat.le_trans (Nat.le_of_ble_eq_true rfl) hF) (Nat.le_trans (Nat.le_of_ble_eq_true rfl) hL) hl.1 (Nat.le_of_ble_eq_true rfl) dX3_routine_66 (fun H locs hS => ?_)
  refine lv_aload_n hx hb dX3_routine_69 rfl (lv_at hl 0 rfl) ?_
  refine cg_X3_15 X hS dX3_routine_70 ?_
  obtain ⟨r_u_27, u_27, h_u_27, h⟩ := bc_of h
  refine kc_X9_next_RX3 X  hS h_u_27 (Nat.le_trans (Nat.le_of_ble_eq_true rfl) hF) (Nat.le_trans (Nat.le_of_ble_eq_true rfl) hL) hl.1 (Nat.le_of_ble_eq_true rfl) dX3_routine_73 (fun H locs hS => ?_)
  refine lv_iconst (v := 0) hx hb dX3_routine_76 (by decide) ?_
  refine lv_istore (lv' := [(4, .int 0), (0, .ref (Z 227)), (1, .int l1), (2, .int l2), (3, .ref (Z (1000 + l3)))]) hx hb dX3_routine_77 hl (by decide) rfl (fun ls hl => ?_)
  exact bl_X3_routine_79 X hE hst hX hC hF hL  _ _ _ _ _ _ h_l3 h _ _ _ hS (lv_sub hl [1, 2, 3, 4, 0] rfl)
def B_X3_routine_32 (N : Nat) (R_32 : Int32 × Int32 × Nat × Int32 × CSt → Option ((Sum Nat Int32) × CSt)) (l1 : Int32) (l2 : Int32) (l3 : Nat) (l4 : Int32) (u : CSt) : Option ((Sum Nat Int32) × CSt) := if (1500 : Int32) ≤ l4 then (B_X3_routine_62 N l1 l2 l3 u) else (bc (F_X9_is N 41 u) fun r_30 u_29 => if r_30 = (0 : Int32) then (bt (F_X3_parameter N u_29) fun _ u_32 => R_32 (l1, l2, l3, (l4 + 1), u_32)) else (B_X3_routine_62 N l1 l2 l3 u_29))
set_option maxHeartbeats 4000000 in
theorem b_X3_routine_32 {y : (Sum Nat Int32)} (X : CC p s m args c cX3_routine 5 (Cond.code yX3_routine cX3_routine 5 none) RX3 D kA V A) (hE : CEvx p l e R s m args below meth c cX3_routine D kA Z A Q y w) (hst : l.stackTraces = false) (hX : CX p l e R s m args below meth c D kA Z A Q y w) (hC : 1 ≤ R.cells ∧ 6 ≤ R.slots) (hF : 491 ≤ R.frames) (hL : 29021 ≤ R.locals) {R_32 : Int32 × Int32 × Nat × Int32 × CSt → Option ((Sum Nat Int32) × CSt)} {l1 : Int32} {l2 : Int32} {l3 : Nat} {l4 : Int32} {u : CSt} (hR_32 : ∀ (l1 : Int32) (l2 : Int32) (l3 : Nat) (l4 : Int32) (u : CSt), l3 < 338 → R_32 (l1, l2, l3, l4, u) = some (y, w) → ∀ (H : Heap) (locs : List Loc) (ls : Array Slot), CS D kA Z A s u H locs → lv_has ls 5 [(0, .ref (Z 227)), (1, .int l1), (2, .int l2), (3, .ref (Z (1000 + l3))), (4, .int l4)] → W p l e R s m args below meth c H locs 0 0 Q (F0 m 32 ls [])) (h : B_X3_routine_32 N R_32 l1 l2 l3 l4 u = some (y, w)) (h_l3 : l3 < 338) (hS : CS D kA Z A s u H locs) (hl : lv_has ls 5 [(0, .ref (Z 227)), (1, .int l1), (2, .int l2), (3, .ref (Z (1000 + l3))), (4, .int l4)]) : W p l e R s m args below meth c H locs 0 0 Q (F0 m 32 ls []) := by
  obtain ⟨⟨hx, hb, hml, hown, hts⟩, hK, hEV, hA⟩ := id X
  have hG : ∀ w ∈ GW, w.before args s = true := fun w h => hts w (List.mem_cons_of_mem _ h)
  unfold B_X3_routine_32 at h
  refine lv_iload hx hb dX3_routine_32 (lv_at hl 4 rfl) ?_
  refine lv_sipush (v := 1500) hx hb dX3_routine_34 (by decide) ?_
  refine lv_icmp_ge (tgt := 62) hx hb dX3_routine_37 (by decide) (fun c_28 => ?_) (fun c_28 => ?_)
  · have h := ip (c_28) h
    exact b_X3_routine_62 X hE hst hX hC hF hL  h h_l3 hS (lv_sub hl [0, 1, 2, 3] rfl)
  · have h := im (c_28) h
    refine lv_aload_n hx hb dX3_routine_40 rfl (lv_at hl 0 rfl) ?_
    refine cg_X3_15 X hS dX3_routine_41 ?_
    refine lv_bipush (v := 41) hx hb dX3_routine_44 (by decide) ?_
    obtain ⟨r_30, u_29, h_u_29, h⟩ := bc_of h
    refine kc_X9_is_RX3 X  hS h_u_29 (Nat.le_trans (Nat.le_of_ble_eq_true rfl) hF) (Nat.le_trans (Nat.le_of_ble_eq_true rfl) hL) hl.1 (Nat.le_of_ble_eq_true rfl) dX3_routine_46 (fun H locs hS => ?_)
    refine lv_if_ne (tgt := 62) hx hb dX3_routine_49 (by decide) (fun c_31 => ?_) (fun c_31 => ?_)
    · have h := im (c_31) h
      exact b_X3_routine_62 X hE hst hX hC hF hL  h h_l3 hS (lv_sub hl [0, 1, 2, 3] rfl)
    · have h := ip (c_31) h
      refine lv_aload_n hx hb dX3_routine_52 rfl (lv_at hl 0 rfl) ?_
      obtain ⟨y_33, u_32, h_u_32, h⟩ := bt_of h
      refine kc_X3_parameter_RX3 hst X  hS h_u_32 (Nat.le_trans (Nat.le_of_ble_eq_true rfl) hF) (Nat.le_trans (Nat.le_of_ble_eq_true rfl) hL) hC hl.1 (Nat.le_of_ble_eq_true rfl) dX3_routine_53 (fun r_u_32 hr_u_32 H locs hS => ?_) (fun x9 hn H locs q9 ce hS a1 a2 a3 => by obtain ⟨e2, rfl⟩ := bt_no h hn; exact hX _ e2 _ _ _ _ _ _ _ hS a1 a2 a3)
      replace h := bt_ok h hr_u_32
      refine lv_iinc (v := l4 + 1) (lv' := [(4, .int (l4 + 1)), (0, .ref (Z 227)), (1, .int l1), (2, .int l2), (3, .ref (Z (1000 + l3)))]) hx hb dX3_routine_56 hl (k := 4) rfl rfl (by decide) rfl (fun ls hl => ?_)
      refine lv_goto (tgt := 32) hx hb dX3_routine_59 (by decide) ?_
      exact hR_32 _ _ _ _ _ h_l3 h _ _ _ hS (lv_sub hl [1, 2, 3, 4, 0] rfl)
def LP_X3_routine_32 (N : Nat) : Nat → Int32 × Int32 × Nat × Int32 × CSt → Option ((Sum Nat Int32) × CSt) := lp (fun R a => B_X3_routine_32 N R a.1 a.2.1 a.2.2.1 a.2.2.2.1 a.2.2.2.2)
theorem bl_X3_routine_32 {y : (Sum Nat Int32)} (X : CC p s m args c cX3_routine 5 (Cond.code yX3_routine cX3_routine 5 none) RX3 D kA V A) (hE : CEvx p l e R s m args below meth c cX3_routine D kA Z A Q y w) (hst : l.stackTraces = false) (hX : CX p l e R s m args below meth c D kA Z A Q y w) (hC : 1 ≤ R.cells ∧ 6 ≤ R.slots) (hF : 491 ≤ R.frames) (hL : 29021 ≤ R.locals)  : ∀ (n : Nat) (l1 : Int32) (l2 : Int32) (l3 : Nat) (l4 : Int32) (u : CSt), l3 < 338 → LP_X3_routine_32 N n (l1, l2, l3, l4, u) = some (y, w) → ∀ (H : Heap) (locs : List Loc) (ls : Array Slot), CS D kA Z A s u H locs → lv_has ls 5 [(0, .ref (Z 227)), (1, .int l1), (2, .int l2), (3, .ref (Z (1000 + l3))), (4, .int l4)] → W p l e R s m args below meth c H locs 0 0 Q (F0 m 32 ls []) := by
  intro n
  induction n with
  | zero => intro l1 l2 l3 l4 u h_l3 h; exact nomatch h
  | succ n ih => intro l1 l2 l3 l4 u h_l3 h H locs ls hS hl; exact b_X3_routine_32 (N := N) (R_32 := LP_X3_routine_32 N n) X hE hst hX hC hF hL  ih h h_l3 hS hl
def B_X3_routine_0 (N : Nat) (l1 : Int32) (l2 : Int32) (u : CSt) : Option ((Sum Nat Int32) × CSt) := bt (F_X3_newName N l1 u) fun r_35 u_34 => ok (r_35 < 338) inferInstance <| pc (xmI u_34 r_35 5 l2) fun u_38 => ok (cR u_38 2 < 2) inferInstance <| pc (xpI u_38 (cR u_38 2) 15 (mI u_38 r_35 3)) fun u_40 => bc (F_X9_next N u_40) fun _ u_41 => LP_X3_routine_32 N N (l1, l2, r_35, 0, u_41)
set_option maxHeartbeats 4000000 in
theorem b_X3_routine_0 {y : (Sum Nat Int32)} (X : CC p s m args c cX3_routine 5 (Cond.code yX3_routine cX3_routine 5 none) RX3 D kA V A) (hE : CEvx p l e R s m args below meth c cX3_routine D kA Z A Q y w) (hst : l.stackTraces = false) (hX : CX p l e R s m args below meth c D kA Z A Q y w) (hC : 1 ≤ R.cells ∧ 6 ≤ R.slots) (hF : 491 ≤ R.frames) (hL : 29021 ≤ R.locals) {l1 : Int32} {l2 : Int32} {u : CSt}  (h : B_X3_routine_0 N l1 l2 u = some (y, w))  (hS : CS D kA Z A s u H locs) (hl : lv_has ls 5 [(0, .ref (Z 227)), (1, .int l1), (2, .int l2)]) : W p l e R s m args below meth c H locs 0 0 Q (F0 m 0 ls []) := by
  obtain ⟨⟨hx, hb, hml, hown, hts⟩, hK, hEV, hA⟩ := id X
  have hG : ∀ w ∈ GW, w.before args s = true := fun w h => hts w (List.mem_cons_of_mem _ h)
  unfold B_X3_routine_0 at h
  refine lv_aload_n hx hb dX3_routine_0 rfl (lv_at hl 0 rfl) ?_
  refine lv_iload_n hx hb dX3_routine_1 rfl (lv_at hl 1 rfl) ?_
  obtain ⟨y_36, u_34, h_u_34, h⟩ := bt_of h
  refine kc_X3_newName_RX3 hst X  hS h_u_34 (Nat.le_trans (Nat.le_of_ble_eq_true rfl) hF) (Nat.le_trans (Nat.le_of_ble_eq_true rfl) hL) hC hl.1 (Nat.le_of_ble_eq_true rfl) dX3_routine_2 (fun r_35 hr_u_34 H locs hS => ?_) (fun x9 hn H locs q9 ce hS a1 a2 a3 => by obtain ⟨e2, rfl⟩ := bt_no h hn; exact hX _ e2 _ _ _ _ _ _ _ hS a1 a2 a3)
  replace h := bt_ok h hr_u_34
  obtain ⟨z_37, h⟩ := ok_of h
  refine lv_astore_n (lv' := [(3, .ref (Z (1000 + r_35))), (0, .ref (Z 227)), (1, .int l1), (2, .int l2)]) hx hb dX3_routine_5 rfl hl (by decide) rfl (fun ls hl => ?_)
  refine lv_aload_n hx hb dX3_routine_6 rfl (lv_at hl 0 rfl) ?_
  refine lv_iload_n hx hb dX3_routine_7 rfl (lv_at hl 3 rfl) ?_
  obtain ⟨u_38, e_u_38, h⟩ := pc_of h
  refine cp_X3_146 X z_37 hS e_u_38 dX3_routine_8 (fun H locs hS => ?_)
  refine lv_aload_n hx hb dX3_routine_11 rfl (lv_at hl 1 rfl) ?_
  refine cg_X3_19 X hS dX3_routine_12 ?_
  obtain ⟨z_39, h⟩ := ok_of h
  refine lv_aload_n hx hb dX3_routine_15 rfl (lv_at hl 0 rfl) ?_
  refine cg_X3_214 X z_37 hS dX3_routine_16 ?_
  obtain ⟨u_40, e_u_40, h⟩ := pc_of h
  refine cp_X3_110 X z_39 hS e_u_40 dX3_routine_19 (fun H locs hS => ?_)
  refine lv_aload_n hx hb dX3_routine_22 rfl (lv_at hl 1 rfl) ?_
  refine cg_X3_15 X hS dX3_routine_23 ?_
  obtain ⟨r_u_41, u_41, h_u_41, h⟩ := bc_of h
  refine kc_X9_next_RX3 X  hS h_u_41 (Nat.le_trans (Nat.le_of_ble_eq_true rfl) hF) (Nat.le_trans (Nat.le_of_ble_eq_true rfl) hL) hl.1 (Nat.le_of_ble_eq_true rfl) dX3_routine_26 (fun H locs hS => ?_)
  refine lv_iconst (v := 0) hx hb dX3_routine_29 (by decide) ?_
  refine lv_istore (lv' := [(4, .int 0), (3, .ref (Z (1000 + r_35))), (0, .ref (Z 227)), (1, .int l1), (2, .int l2)]) hx hb dX3_routine_30 hl (by decide) rfl (fun ls hl => ?_)
  exact bl_X3_routine_32 X hE hst hX hC hF hL  _ _ _ _ _ _ z_37 h _ _ _ hS (lv_sub hl [2, 3, 4, 1, 0] rfl)
def F_X3_routine (N : Nat) (l1 : Int32) (l2 : Int32) (u : CSt) : Option ((Sum Nat Int32) × CSt) := B_X3_routine_0 N l1 l2 u
set_option maxHeartbeats 4000000 in
theorem k_X3_routine (l : Launch) (hst : l.stackTraces = false) (D : va_G) (kA : Nat → ClassId) (V Z : Nat → Nat) (N : Nat) (l1 : Int32) (l2 : Int32) (u : CSt) (sz : Nat) {y : (Sum Nat Int32)} {w : CSt} (h : F_X3_routine N l1 l2 u = some (y, w)) : vx_Met l yX3_routine (Cond.code yX3_routine cX3_routine 5 none :: GW) { frames := 491, cells := 1, slots := 6, locals := 29021 } (cPc D kA V Z [.ref (Z 227), .int l1, .int l2] u sz) (cQvx D kA Z u sz y w) (cXc D kA Z u sz y w) 1 6 (va_A (CW kA Z u) sz) := by
  refine vx_ofW (cc := cX3_routine) (maxL := 5) (ret := none) (by decide) rfl ?_
  intro p e s m args below meth c s₁ Bd hml hxt hv
  obtain ⟨rfl, hsz, hP, hK, hD0, hE⟩ := hv
  have hts := atoms_spec (ws := Cond.code yX3_routine cX3_routine 5 none :: GW) Bd.pre
  have hl := lv_entry ([.ref (Z 227), .int l1, .int l2]) (n := 5) (Nat.le_of_ble_eq_true rfl)
  rw [lg_entry_eq]
  generalize (lg_sl ([.ref (Z 227), .int l1, .int l2]) ++ List.replicate (5 - (lg_sl ([.ref (Z 227), .int l1, .int l2])).length) Slot.unset).toArray = ls at hl ⊢
  have hl : lv_has ls 5 [(0, .ref (Z 227)), (1, .int l1), (2, .int l2)] := hl
  subst hsz
  have X : CC p s m ([.ref (Z 227), .int l1, .int l2]).toArray c cX3_routine 5 (Cond.code yX3_routine cX3_routine 5 none) RX3 D kA V (va_A (CW kA Z u) s.heap.size) := ⟨⟨Bd.exec, Bd.bytes, hml, findClass_of_methodNamed Bd.named, hts⟩, hK, hE, fun q h => Or.inr h⟩
  refine b_X3_routine_0 X (cend_vx X Bd.returns Bd.notSynchronized) hst (cend_X X hxt Bd.notSynchronized) ⟨Nat.le_refl _, Nat.le_refl _⟩ (Nat.le_refl _) (Nat.le_refl _) h  ⟨hP, hD0.self, va_S.rf⟩ (lv_sub hl [0, 1, 2] rfl)
theorem kc_X3_routine_RX3 {cc : ByteArray} {pc nL : Nat} {c0 : Cond} {rest : List Value} {l1 : Int32} {l2 : Int32} {u w1 : CSt} {y1 : (Sum Nat Int32)} (hst : l.stackTraces = false) (X : CC p s m args c cc nL c0 RX3 D kA V A)  (hS : CS D kA Z A s u H locs) (h : F_X3_routine N l1 l2 u = some (y1, w1)) (hF : 491 + 1 ≤ R.frames) (hL : 8 + (5 + 11) + 29021 ≤ R.locals) (hC : 1 ≤ R.cells ∧ 6 ≤ R.slots) (hl : ls.size = nL) (hc : (rest.map fun v => v.category).sum ≤ 8) (hdg : decode cc pc = .ok (.invokevirtual 84, 3)) (kk : ∀ r, y1 = .inr r → ∀ H locs, CS D kA Z A s w1 H locs → W p l e R s m args below meth c H locs 0 0 Q (F0 m (pc + 3) ls (rest))) (kx : ∀ x, y1 = .inl x → ∀ (H : Heap) (locs : List Loc) (q : Addr) (ce : Cell), CS D kA Z A s w1 H locs → H[q]? = some ce → ce.vm = .none → s.vm.findClass (exN x) = some ce.cls → vx_W p l e R s m args below meth c H locs 1 6 Q (F0 m pc ls rest) q) : W p l e R s m args below meth c H locs 0 0 Q (F0 m pc ls (.int l2 :: .int l1 :: .ref (Z 227) :: rest)) :=
  ccall_vx (n := 2) X hS (k_X3_routine l hst D kA V Z N l1 l2  u H.size h) (gw_V gw_1094 gw_1096 gs_4_0 gw_13 gw_1097) (by decide +kernel) (va_recv X.2.1 hS.1 (ci := 3) (q0 := 27) rfl (cw_lit rfl)) hF hL hC rfl hl hc rfl hdg kk kx
def B_X3_cyclic_94 (N : Nat) (u : CSt) : Option ((Sum Nat Int32) × CSt) := bc (F_X9_next N u) fun _ u_1 => ok (cR u_1 2 < 2) inferInstance <| bt (G_X3_statements N u_1) fun r_4 u_3 => bc (F_X6_step N (cR u_1 2) 40 0 0 r_4 u_3) fun r_7 u_6 => some (.inr 0, u_6)
set_option maxHeartbeats 4000000 in
theorem b_X3_cyclic_94 {y : (Sum Nat Int32)} (X : CC p s m args c cX3_cyclic 4 (Cond.code yX3_cyclic cX3_cyclic 4 none) RX3 D kA V A) (hE : CEvx p l e R s m args below meth c cX3_cyclic D kA Z A Q y w) (hst : l.stackTraces = false) (hX : CX p l e R s m args below meth c D kA Z A Q y w) (hC : 1 ≤ R.cells ∧ 6 ≤ R.slots) (hF : 491 ≤ R.frames) (hL : 29021 ≤ R.locals) {u : CSt}  (h : B_X3_cyclic_94 N u = some (y, w))  (hS : CS D kA Z A s u H locs) (hl : lv_has ls 4 [(0, .ref (Z 227))]) : W p l e R s m args below meth c H locs 0 0 Q (F0 m 94 ls []) := by
  obtain ⟨⟨hx, hb, hml, hown, hts⟩, hK, hEV, hA⟩ := id X
  have hG : ∀ w ∈ GW, w.before args s = true := fun w h => hts w (List.mem_cons_of_mem _ h)
  unfold B_X3_cyclic_94 at h
  refine lv_aload_n hx hb dX3_cyclic_94 rfl (lv_at hl 0 rfl) ?_
  refine cg_X3_15 X hS dX3_cyclic_95 ?_
  obtain ⟨r_u_1, u_1, h_u_1, h⟩ := bc_of h
  refine kc_X9_next_RX3 X  hS h_u_1 (Nat.le_trans (Nat.le_of_ble_eq_true rfl) hF) (Nat.le_trans (Nat.le_of_ble_eq_true rfl) hL) hl.1 (Nat.le_of_ble_eq_true rfl) dX3_cyclic_98 (fun H locs hS => ?_)
  refine lv_aload_n hx hb dX3_cyclic_101 rfl (lv_at hl 0 rfl) ?_
  refine cg_X3_19 X hS dX3_cyclic_102 ?_
  obtain ⟨z_2, h⟩ := ok_of h
  refine lv_bipush (v := 40) hx hb dX3_cyclic_105 (by decide) ?_
  refine lv_iconst (v := 0) hx hb dX3_cyclic_107 (by decide) ?_
  refine lv_iconst (v := 0) hx hb dX3_cyclic_108 (by decide) ?_
  refine lv_aload_n hx hb dX3_cyclic_109 rfl (lv_at hl 0 rfl) ?_
  obtain ⟨y_5, u_3, h_u_3, h⟩ := bt_of h
  refine kg_X3_statements_RX3 hst X  hS h_u_3 (Nat.le_trans (Nat.le_of_ble_eq_true rfl) hF) (Nat.le_trans (Nat.le_of_ble_eq_true rfl) hL) hC hl.1 (Nat.le_of_ble_eq_true rfl) dX3_cyclic_110 (fun r_4 hr_u_3 H locs hS => ?_) (fun x9 hn H locs q9 ce hS a1 a2 a3 => by obtain ⟨e2, rfl⟩ := bt_no h hn; exact hX _ e2 _ _ _ _ _ _ _ hS a1 a2 a3)
  replace h := bt_ok h hr_u_3
  obtain ⟨r_7, u_6, h_u_6, h⟩ := bc_of h
  refine kc_X6_step_RX3 X z_2 hS h_u_6 (Nat.le_trans (Nat.le_of_ble_eq_true rfl) hF) (Nat.le_trans (Nat.le_of_ble_eq_true rfl) hL) hl.1 (Nat.le_of_ble_eq_true rfl) dX3_cyclic_113 (fun H locs hS => ?_)
  refine lv_pop hx hb dX3_cyclic_116 rfl ?_
  obtain ⟨e9, rfl⟩ := so9 h
  exact hE _ e9.symm _ _ _ _ hS dX3_cyclic_117
def B_X3_cyclic_61 (N : Nat) (l1 : Nat) (l2 : Int32) (l3 : Int32) (u : CSt) : Option ((Sum Nat Int32) × CSt) := if (8 : Int32) ≤ (mI u l1 4) then (B_X3_cyclic_94 N u) else (ok (cR u 2 < 2) inferInstance <| ix 8 (mI u l1 4) <| bc (F_X7_become N (8 * (cR u 2) + (mI u l1 4).toNatClampNeg) l2 l3 (pI u (cR u 2) 13) u) fun _ u_11 => B_X3_cyclic_94 N u_11)
set_option maxHeartbeats 4000000 in
theorem b_X3_cyclic_61 {y : (Sum Nat Int32)} (X : CC p s m args c cX3_cyclic 4 (Cond.code yX3_cyclic cX3_cyclic 4 none) RX3 D kA V A) (hE : CEvx p l e R s m args below meth c cX3_cyclic D kA Z A Q y w) (hst : l.stackTraces = false) (hX : CX p l e R s m args below meth c D kA Z A Q y w) (hC : 1 ≤ R.cells ∧ 6 ≤ R.slots) (hF : 491 ≤ R.frames) (hL : 29021 ≤ R.locals) {l1 : Nat} {l2 : Int32} {l3 : Int32} {u : CSt}  (h : B_X3_cyclic_61 N l1 l2 l3 u = some (y, w)) (h_l1 : l1 < 338) (hS : CS D kA Z A s u H locs) (hl : lv_has ls 4 [(0, .ref (Z 227)), (1, .ref (Z (1000 + l1))), (2, .int l2), (3, .int l3)]) : W p l e R s m args below meth c H locs 0 0 Q (F0 m 61 ls []) := by
  obtain ⟨⟨hx, hb, hml, hown, hts⟩, hK, hEV, hA⟩ := id X
  have hG : ∀ w ∈ GW, w.before args s = true := fun w h => hts w (List.mem_cons_of_mem _ h)
  unfold B_X3_cyclic_61 at h
  refine lv_aload_n hx hb dX3_cyclic_61 rfl (lv_at hl 1 rfl) ?_
  refine cg_X3_245 X h_l1 hS dX3_cyclic_62 ?_
  refine lv_bipush (v := 8) hx hb dX3_cyclic_65 (by decide) ?_
  refine lv_icmp_ge (tgt := 94) hx hb dX3_cyclic_67 (by decide) (fun c_8 => ?_) (fun c_8 => ?_)
  · have h := ip (c_8) h
    exact b_X3_cyclic_94 X hE hst hX hC hF hL  h  hS (lv_sub hl [0] rfl)
  · have h := im (c_8) h
    refine lv_aload_n hx hb dX3_cyclic_70 rfl (lv_at hl 0 rfl) ?_
    refine cg_X3_19 X hS dX3_cyclic_71 ?_
    obtain ⟨z_9, h⟩ := ok_of h
    refine cg_X3_248 X z_9 hS dX3_cyclic_74 ?_
    refine lv_aload_n hx hb dX3_cyclic_77 rfl (lv_at hl 1 rfl) ?_
    refine cg_X3_245 X h_l1 hS dX3_cyclic_78 ?_
    obtain ⟨i_10, h⟩ := ix_of h
    refine cq_10 X z_9 hS i_10 dX3_cyclic_81 ?_
    refine lv_iload_n hx hb dX3_cyclic_82 rfl (lv_at hl 2 rfl) ?_
    refine lv_iload_n hx hb dX3_cyclic_83 rfl (lv_at hl 3 rfl) ?_
    refine lv_aload_n hx hb dX3_cyclic_84 rfl (lv_at hl 0 rfl) ?_
    refine cg_X3_19 X hS dX3_cyclic_85 ?_
    refine cg_X3_227 X z_9 hS dX3_cyclic_88 ?_
    obtain ⟨r_u_11, u_11, h_u_11, h⟩ := bc_of h
    refine kc_X7_become_RX3 X (bn_t z_9 i_10) hS h_u_11 (Nat.le_trans (Nat.le_of_ble_eq_true rfl) hF) (Nat.le_trans (Nat.le_of_ble_eq_true rfl) hL) hl.1 (Nat.le_of_ble_eq_true rfl) dX3_cyclic_91 (fun H locs hS => ?_)
    exact b_X3_cyclic_94 X hE hst hX hC hF hL  h  hS (lv_sub hl [0] rfl)
def B_X3_cyclic_0 (N : Nat) (u : CSt) : Option ((Sum Nat Int32) × CSt) := bt (F_X3_newName N 2 u) fun r_13 u_12 => ok (r_13 < 338) inferInstance <| bc (F_X9_next N u_12) fun _ u_16 => bt (F_X9_takeBounded N 1 1000 u_16) fun r_18 u_17 => bc (F_X9_is N 11 u_17) fun r_21 u_20 => if r_21 = (0 : Int32) then (B_X3_cyclic_61 N r_13 r_18.toInt32 0 u_20) else (bc (F_X9_next N u_20) fun _ u_23 => bt (F_X9_takeBounded N 0 ((r_18.toInt32 - 1).toInt64) u_23) fun r_25 u_24 => B_X3_cyclic_61 N r_13 r_18.toInt32 r_25.toInt32 u_24)
set_option maxHeartbeats 4000000 in
theorem b_X3_cyclic_0 {y : (Sum Nat Int32)} (X : CC p s m args c cX3_cyclic 4 (Cond.code yX3_cyclic cX3_cyclic 4 none) RX3 D kA V A) (hE : CEvx p l e R s m args below meth c cX3_cyclic D kA Z A Q y w) (hst : l.stackTraces = false) (hX : CX p l e R s m args below meth c D kA Z A Q y w) (hC : 1 ≤ R.cells ∧ 6 ≤ R.slots) (hF : 491 ≤ R.frames) (hL : 29021 ≤ R.locals) {u : CSt}  (h : B_X3_cyclic_0 N u = some (y, w))  (hS : CS D kA Z A s u H locs) (hl : lv_has ls 4 [(0, .ref (Z 227))]) : W p l e R s m args below meth c H locs 0 0 Q (F0 m 0 ls []) := by
  obtain ⟨⟨hx, hb, hml, hown, hts⟩, hK, hEV, hA⟩ := id X
  have hG : ∀ w ∈ GW, w.before args s = true := fun w h => hts w (List.mem_cons_of_mem _ h)
  unfold B_X3_cyclic_0 at h
  refine lv_aload_n hx hb dX3_cyclic_0 rfl (lv_at hl 0 rfl) ?_
  refine lv_iconst (v := 2) hx hb dX3_cyclic_1 (by decide) ?_
  obtain ⟨y_14, u_12, h_u_12, h⟩ := bt_of h
  refine kc_X3_newName_RX3 hst X  hS h_u_12 (Nat.le_trans (Nat.le_of_ble_eq_true rfl) hF) (Nat.le_trans (Nat.le_of_ble_eq_true rfl) hL) hC hl.1 (Nat.le_of_ble_eq_true rfl) dX3_cyclic_2 (fun r_13 hr_u_12 H locs hS => ?_) (fun x9 hn H locs q9 ce hS a1 a2 a3 => by obtain ⟨e2, rfl⟩ := bt_no h hn; exact hX _ e2 _ _ _ _ _ _ _ hS a1 a2 a3)
  replace h := bt_ok h hr_u_12
  obtain ⟨z_15, h⟩ := ok_of h
  refine lv_astore_n (lv' := [(1, .ref (Z (1000 + r_13))), (0, .ref (Z 227))]) hx hb dX3_cyclic_5 rfl hl (by decide) rfl (fun ls hl => ?_)
  refine lv_aload_n hx hb dX3_cyclic_6 rfl (lv_at hl 1 rfl) ?_
  refine cg_X3_15 X hS dX3_cyclic_7 ?_
  obtain ⟨r_u_16, u_16, h_u_16, h⟩ := bc_of h
  refine kc_X9_next_RX3 X  hS h_u_16 (Nat.le_trans (Nat.le_of_ble_eq_true rfl) hF) (Nat.le_trans (Nat.le_of_ble_eq_true rfl) hL) hl.1 (Nat.le_of_ble_eq_true rfl) dX3_cyclic_10 (fun H locs hS => ?_)
  refine lv_aload_n hx hb dX3_cyclic_13 rfl (lv_at hl 1 rfl) ?_
  refine cg_X3_15 X hS dX3_cyclic_14 ?_
  refine lv_lconst (v := 1) hx hb dX3_cyclic_17 (by decide) ?_
  refine lv_ldc2 (v := 1000) hx hb hown (hG _ gw_1367) dX3_cyclic_18 ?_
  obtain ⟨y_19, u_17, h_u_17, h⟩ := bt_of h
  refine kc_X9_takeBounded_RX3 hst X  hS h_u_17 (Nat.le_trans (Nat.le_of_ble_eq_true rfl) hF) (Nat.le_trans (Nat.le_of_ble_eq_true rfl) hL) hC hl.1 (Nat.le_of_ble_eq_true rfl) dX3_cyclic_21 (fun r_18 hr_u_17 H locs hS => ?_) (fun x9 hn H locs q9 ce hS a1 a2 a3 => by obtain ⟨e2, rfl⟩ := bt_no h hn; exact hX _ e2 _ _ _ _ _ _ _ hS a1 a2 a3)
  replace h := bt_ok h hr_u_17
  refine lv_l2i (v := r_18.toInt32) hx hb dX3_cyclic_24 rfl ?_
  refine lv_istore_n (lv' := [(2, .int r_18.toInt32), (1, .ref (Z (1000 + r_13))), (0, .ref (Z 227))]) hx hb dX3_cyclic_25 rfl hl (by decide) rfl (fun ls hl => ?_)
  refine lv_iconst (v := 0) hx hb dX3_cyclic_26 (by decide) ?_
  refine lv_istore_n (lv' := [(3, .int 0), (2, .int r_18.toInt32), (1, .ref (Z (1000 + r_13))), (0, .ref (Z 227))]) hx hb dX3_cyclic_27 rfl hl (by decide) rfl (fun ls hl => ?_)
  refine lv_aload_n hx hb dX3_cyclic_28 rfl (lv_at hl 3 rfl) ?_
  refine cg_X3_15 X hS dX3_cyclic_29 ?_
  refine lv_bipush (v := 11) hx hb dX3_cyclic_32 (by decide) ?_
  obtain ⟨r_21, u_20, h_u_20, h⟩ := bc_of h
  refine kc_X9_is_RX3 X  hS h_u_20 (Nat.le_trans (Nat.le_of_ble_eq_true rfl) hF) (Nat.le_trans (Nat.le_of_ble_eq_true rfl) hL) hl.1 (Nat.le_of_ble_eq_true rfl) dX3_cyclic_34 (fun H locs hS => ?_)
  refine lv_if_eq (tgt := 61) hx hb dX3_cyclic_37 (by decide) (fun c_22 => ?_) (fun c_22 => ?_)
  · have h := ip (c_22) h
    exact b_X3_cyclic_61 X hE hst hX hC hF hL  h z_15 hS (lv_sub hl [3, 2, 1, 0] rfl)
  · have h := im (c_22) h
    refine lv_aload_n hx hb dX3_cyclic_40 rfl (lv_at hl 3 rfl) ?_
    refine cg_X3_15 X hS dX3_cyclic_41 ?_
    obtain ⟨r_u_23, u_23, h_u_23, h⟩ := bc_of h
    refine kc_X9_next_RX3 X  hS h_u_23 (Nat.le_trans (Nat.le_of_ble_eq_true rfl) hF) (Nat.le_trans (Nat.le_of_ble_eq_true rfl) hL) hl.1 (Nat.le_of_ble_eq_true rfl) dX3_cyclic_44 (fun H locs hS => ?_)
    refine lv_aload_n hx hb dX3_cyclic_47 rfl (lv_at hl 3 rfl) ?_
    refine cg_X3_15 X hS dX3_cyclic_48 ?_
    refine lv_lconst (v := 0) hx hb dX3_cyclic_51 (by decide) ?_
    refine lv_iload_n hx hb dX3_cyclic_52 rfl (lv_at hl 1 rfl) ?_
    refine lv_iconst (v := 1) hx hb dX3_cyclic_53 (by decide) ?_
    refine lv_isub hx hb dX3_cyclic_54 ?_
    refine lv_i2l (v := (r_18.toInt32 - 1).toInt64) hx hb dX3_cyclic_55 rfl ?_
    obtain ⟨y_26, u_24, h_u_24, h⟩ := bt_of h
    refine kc_X9_takeBounded_RX3 hst X  hS h_u_24 (Nat.le_trans (Nat.le_of_ble_eq_true rfl) hF) (Nat.le_trans (Nat.le_of_ble_eq_true rfl) hL) hC hl.1 (Nat.le_of_ble_eq_true rfl) dX3_cyclic_56 (fun r_25 hr_u_24 H locs hS => ?_) (fun x9 hn H locs q9 ce hS a1 a2 a3 => by obtain ⟨e2, rfl⟩ := bt_no h hn; exact hX _ e2 _ _ _ _ _ _ _ hS a1 a2 a3)
    replace h := bt_ok h hr_u_24
    refine lv_l2i (v := r_25.toInt32) hx hb dX3_cyclic_59 rfl ?_
    refine lv_istore_n (lv' := [(3, .int r_25.toInt32), (2, .int r_18.toInt32), (1, .ref (Z (1000 + r_13))), (0, .ref (Z 227))]) hx hb dX3_cyclic_60 rfl hl (by decide) rfl (fun ls hl => ?_)
    exact b_X3_cyclic_61 X hE hst hX hC hF hL  h z_15 hS (lv_sub hl [3, 2, 1, 0] rfl)
def F_X3_cyclic (N : Nat) (u : CSt) : Option ((Sum Nat Int32) × CSt) := B_X3_cyclic_0 N u
set_option maxHeartbeats 4000000 in
theorem k_X3_cyclic (l : Launch) (hst : l.stackTraces = false) (D : va_G) (kA : Nat → ClassId) (V Z : Nat → Nat) (N : Nat) (u : CSt) (sz : Nat) {y : (Sum Nat Int32)} {w : CSt} (h : F_X3_cyclic N u = some (y, w)) : vx_Met l yX3_cyclic (Cond.code yX3_cyclic cX3_cyclic 4 none :: GW) { frames := 491, cells := 1, slots := 6, locals := 29021 } (cPc D kA V Z [.ref (Z 227)] u sz) (cQvx D kA Z u sz y w) (cXc D kA Z u sz y w) 1 6 (va_A (CW kA Z u) sz) := by
  refine vx_ofW (cc := cX3_cyclic) (maxL := 4) (ret := none) (by decide) rfl ?_
  intro p e s m args below meth c s₁ Bd hml hxt hv
  obtain ⟨rfl, hsz, hP, hK, hD0, hE⟩ := hv
  have hts := atoms_spec (ws := Cond.code yX3_cyclic cX3_cyclic 4 none :: GW) Bd.pre
  have hl := lv_entry ([.ref (Z 227)]) (n := 4) (Nat.le_of_ble_eq_true rfl)
  rw [lg_entry_eq]
  generalize (lg_sl ([.ref (Z 227)]) ++ List.replicate (4 - (lg_sl ([.ref (Z 227)])).length) Slot.unset).toArray = ls at hl ⊢
  have hl : lv_has ls 4 [(0, .ref (Z 227))] := hl
  subst hsz
  have X : CC p s m ([.ref (Z 227)]).toArray c cX3_cyclic 4 (Cond.code yX3_cyclic cX3_cyclic 4 none) RX3 D kA V (va_A (CW kA Z u) s.heap.size) := ⟨⟨Bd.exec, Bd.bytes, hml, findClass_of_methodNamed Bd.named, hts⟩, hK, hE, fun q h => Or.inr h⟩
  refine b_X3_cyclic_0 X (cend_vx X Bd.returns Bd.notSynchronized) hst (cend_X X hxt Bd.notSynchronized) ⟨Nat.le_refl _, Nat.le_refl _⟩ (Nat.le_refl _) (Nat.le_refl _) h  ⟨hP, hD0.self, va_S.rf⟩ (lv_sub hl [0] rfl)
theorem kc_X3_cyclic_RX3 {cc : ByteArray} {pc nL : Nat} {c0 : Cond} {rest : List Value} {u w1 : CSt} {y1 : (Sum Nat Int32)} (hst : l.stackTraces = false) (X : CC p s m args c cc nL c0 RX3 D kA V A)  (hS : CS D kA Z A s u H locs) (h : F_X3_cyclic N u = some (y1, w1)) (hF : 491 + 1 ≤ R.frames) (hL : 8 + (4 + 11) + 29021 ≤ R.locals) (hC : 1 ≤ R.cells ∧ 6 ≤ R.slots) (hl : ls.size = nL) (hc : (rest.map fun v => v.category).sum ≤ 8) (hdg : decode cc pc = .ok (.invokevirtual 93, 3)) (kk : ∀ r, y1 = .inr r → ∀ H locs, CS D kA Z A s w1 H locs → W p l e R s m args below meth c H locs 0 0 Q (F0 m (pc + 3) ls (rest))) (kx : ∀ x, y1 = .inl x → ∀ (H : Heap) (locs : List Loc) (q : Addr) (ce : Cell), CS D kA Z A s w1 H locs → H[q]? = some ce → ce.vm = .none → s.vm.findClass (exN x) = some ce.cls → vx_W p l e R s m args below meth c H locs 1 6 Q (F0 m pc ls rest) q) : W p l e R s m args below meth c H locs 0 0 Q (F0 m pc ls (.ref (Z 227) :: rest)) :=
  ccall_vx (n := 0) X hS (k_X3_cyclic l hst D kA V Z N   u H.size h) (gw_V gw_1363 gw_1365 gs_6_2 gw_13 gw_1366) (by decide +kernel) (va_recv X.2.1 hS.1 (ci := 3) (q0 := 27) rfl (cw_lit rfl)) hF hL hC rfl hl hc rfl hdg kk kx
def B_X3_make_205 (N : Nat) (R_57 : Int32 × CSt → Option ((Sum Nat Int32) × CSt)) (l2 : Int32) (u : CSt) : Option ((Sum Nat Int32) × CSt) := R_57 ((l2 + 1), u)
set_option maxHeartbeats 4000000 in
theorem b_X3_make_205 {y : (Sum Nat Int32)} (X : CC p s m args c cX3_make 4 (Cond.code yX3_make cX3_make 4 none) RX3 D kA V A) (hE : CEvx p l e R s m args below meth c cX3_make D kA Z A Q y w) (hst : l.stackTraces = false) (hX : CX p l e R s m args below meth c D kA Z A Q y w) (hC : 1 ≤ R.cells ∧ 6 ≤ R.slots) (hF : 492 ≤ R.frames) (hL : 29045 ≤ R.locals) {R_57 : Int32 × CSt → Option ((Sum Nat Int32) × CSt)} {l2 : Int32} {u : CSt} (hR_57 : ∀ (l2 : Int32) (u : CSt), R_57 (l2, u) = some (y, w) → ∀ (H : Heap) (locs : List Loc) (ls : Array Slot), CS D kA Z A s u H locs → lv_has ls 4 [(0, .ref (Z 227)), (2, .int l2)] → W p l e R s m args below meth c H locs 0 0 Q (F0 m 57 ls [])) (h : B_X3_make_205 N R_57 l2 u = some (y, w))  (hS : CS D kA Z A s u H locs) (hl : lv_has ls 4 [(0, .ref (Z 227)), (2, .int l2)]) : W p l e R s m args below meth c H locs 0 0 Q (F0 m 205 ls []) := by
  obtain ⟨⟨hx, hb, hml, hown, hts⟩, hK, hEV, hA⟩ := id X
  have hG : ∀ w ∈ GW, w.before args s = true := fun w h => hts w (List.mem_cons_of_mem _ h)
  unfold B_X3_make_205 at h
  refine lv_iinc (v := l2 + 1) (lv' := [(2, .int (l2 + 1)), (0, .ref (Z 227))]) hx hb dX3_make_205 hl (k := 1) rfl rfl (by decide) rfl (fun ls hl => ?_)
  refine lv_goto (tgt := 57) hx hb dX3_make_208 (by decide) ?_
  exact hR_57 _ _  h _ _ _ hS (lv_sub hl [1, 0] rfl)
def B_X3_make_57 (N : Nat) (R_57 : Int32 × CSt → Option ((Sum Nat Int32) × CSt)) (l2 : Int32) (u : CSt) : Option ((Sum Nat Int32) × CSt) := if (1500 : Int32) < l2 then (some (.inr 0, u)) else (bc (F_X9_is N 0 u) fun r_3 u_2 => if r_3 = (0 : Int32) then (bc (F_X9_type N u_2) fun r_6 u_5 => bc (F_X9_next N u_5) fun _ u_7 => if r_6 = 1 then (bt (F_X3_variables N 0 0 u_7) fun _ u_9 => B_X3_make_205 N R_57 l2 u_9) else (if r_6 = 2 then (bt (F_X3_variables N 0 1 u_7) fun _ u_12 => B_X3_make_205 N R_57 l2 u_12) else (if r_6 = 3 then (bt (F_X3_placed N 2 u_7) fun _ u_15 => B_X3_make_205 N R_57 l2 u_15) else (if r_6 = 4 then (bt (F_X3_placed N 3 u_7) fun _ u_18 => B_X3_make_205 N R_57 l2 u_18) else (if r_6 = 6 then (bt (F_X3_routine N 3 3 u_7) fun _ u_21 => B_X3_make_205 N R_57 l2 u_21) else (if r_6 = 7 then (bt (F_X3_uses N u_7) fun _ u_24 => B_X3_make_205 N R_57 l2 u_24) else (if r_6 = 8 then (bc (F_X9_takeKind N u_7) fun r_28 u_27 => bt (F_X3_routine N 4 r_28 u_27) fun _ u_29 => B_X3_make_205 N R_57 l2 u_29) else (bt (F_X3_cyclic N u_7) fun _ u_31 => B_X3_make_205 N R_57 l2 u_31)))))))) else (some (.inr 0, u_2)))
set_option maxHeartbeats 4000000 in
theorem b_X3_make_57 {y : (Sum Nat Int32)} (X : CC p s m args c cX3_make 4 (Cond.code yX3_make cX3_make 4 none) RX3 D kA V A) (hE : CEvx p l e R s m args below meth c cX3_make D kA Z A Q y w) (hst : l.stackTraces = false) (hX : CX p l e R s m args below meth c D kA Z A Q y w) (hC : 1 ≤ R.cells ∧ 6 ≤ R.slots) (hF : 492 ≤ R.frames) (hL : 29045 ≤ R.locals) {R_57 : Int32 × CSt → Option ((Sum Nat Int32) × CSt)} {l2 : Int32} {u : CSt} (hR_57 : ∀ (l2 : Int32) (u : CSt), R_57 (l2, u) = some (y, w) → ∀ (H : Heap) (locs : List Loc) (ls : Array Slot), CS D kA Z A s u H locs → lv_has ls 4 [(0, .ref (Z 227)), (2, .int l2)] → W p l e R s m args below meth c H locs 0 0 Q (F0 m 57 ls [])) (h : B_X3_make_57 N R_57 l2 u = some (y, w))  (hS : CS D kA Z A s u H locs) (hl : lv_has ls 4 [(0, .ref (Z 227)), (2, .int l2)]) : W p l e R s m args below meth c H locs 0 0 Q (F0 m 57 ls []) := by
  obtain ⟨⟨hx, hb, hml, hown, hts⟩, hK, hEV, hA⟩ := id X
  have hG : ∀ w ∈ GW, w.before args s = true := fun w h => hts w (List.mem_cons_of_mem _ h)
  unfold B_X3_make_57 at h
  refine lv_iload_n hx hb dX3_make_57 rfl (lv_at hl 1 rfl) ?_
  refine lv_sipush (v := 1500) hx hb dX3_make_58 (by decide) ?_
  refine lv_icmp_gt (tgt := 211) hx hb dX3_make_61 (by decide) (fun c_1 => ?_) (fun c_1 => ?_)
  · have h := ip (c_1) h
    obtain ⟨e9, rfl⟩ := so9 h
    exact hE _ e9.symm _ _ _ _ hS dX3_make_211
  · have h := im (c_1) h
    refine lv_aload_n hx hb dX3_make_64 rfl (lv_at hl 0 rfl) ?_
    refine cg_X3_15 X hS dX3_make_65 ?_
    refine lv_iconst (v := 0) hx hb dX3_make_68 (by decide) ?_
    obtain ⟨r_3, u_2, h_u_2, h⟩ := bc_of h
    refine kc_X9_is_RX3 X  hS h_u_2 (Nat.le_trans (Nat.le_of_ble_eq_true rfl) hF) (Nat.le_trans (Nat.le_of_ble_eq_true rfl) hL) hl.1 (Nat.le_of_ble_eq_true rfl) dX3_make_69 (fun H locs hS => ?_)
    refine lv_if_ne (tgt := 211) hx hb dX3_make_72 (by decide) (fun c_4 => ?_) (fun c_4 => ?_)
    · have h := im (c_4) h
      obtain ⟨e9, rfl⟩ := so9 h
      exact hE _ e9.symm _ _ _ _ hS dX3_make_211
    · have h := ip (c_4) h
      refine lv_aload_n hx hb dX3_make_75 rfl (lv_at hl 0 rfl) ?_
      refine cg_X3_15 X hS dX3_make_76 ?_
      obtain ⟨r_6, u_5, h_u_5, h⟩ := bc_of h
      refine kc_X9_type_RX3 X  hS h_u_5 (Nat.le_trans (Nat.le_of_ble_eq_true rfl) hF) (Nat.le_trans (Nat.le_of_ble_eq_true rfl) hL) hl.1 (Nat.le_of_ble_eq_true rfl) dX3_make_79 (fun H locs hS => ?_)
      refine lv_istore_n (lv' := [(3, .int r_6), (0, .ref (Z 227)), (2, .int l2)]) hx hb dX3_make_82 rfl hl (by decide) rfl (fun ls hl => ?_)
      refine lv_aload_n hx hb dX3_make_83 rfl (lv_at hl 1 rfl) ?_
      refine cg_X3_15 X hS dX3_make_84 ?_
      obtain ⟨r_u_7, u_7, h_u_7, h⟩ := bc_of h
      refine kc_X9_next_RX3 X  hS h_u_7 (Nat.le_trans (Nat.le_of_ble_eq_true rfl) hF) (Nat.le_trans (Nat.le_of_ble_eq_true rfl) hL) hl.1 (Nat.le_of_ble_eq_true rfl) dX3_make_87 (fun H locs hS => ?_)
      refine lv_iload_n hx hb dX3_make_90 rfl (lv_at hl 0 rfl) ?_
      by_cases e_8 : r_6 = 1
      · have h := ip e_8 h
        refine lv_tableIn (off := 45) (tgt := 136) hx hb dX3_make_91 (by rw [e_8]; decide) (by rw [e_8]; decide) (by rw [e_8]; rfl) (by decide) ?_
        refine lv_aload_n hx hb dX3_make_136 rfl (lv_at hl 1 rfl) ?_
        refine lv_iconst (v := 0) hx hb dX3_make_137 (by decide) ?_
        refine lv_iconst (v := 0) hx hb dX3_make_138 (by decide) ?_
        obtain ⟨y_10, u_9, h_u_9, h⟩ := bt_of h
        refine kc_X3_variables_RX3 hst X  hS h_u_9 (Nat.le_trans (Nat.le_of_ble_eq_true rfl) hF) (Nat.le_trans (Nat.le_of_ble_eq_true rfl) hL) hC hl.1 (Nat.le_of_ble_eq_true rfl) dX3_make_139 (fun r_u_9 hr_u_9 H locs hS => ?_) (fun x9 hn H locs q9 ce hS a1 a2 a3 => by obtain ⟨e2, rfl⟩ := bt_no h hn; exact hX _ e2 _ _ _ _ _ _ _ hS a1 a2 a3)
        replace h := bt_ok h hr_u_9
        refine lv_goto (tgt := 205) hx hb dX3_make_142 (by decide) ?_
        exact b_X3_make_205 X hE hst hX hC hF hL hR_57 h  hS (lv_sub hl [1, 2] rfl)
      have h := im e_8 h
      by_cases e_11 : r_6 = 2
      · have h := ip e_11 h
        refine lv_tableIn (off := 54) (tgt := 145) hx hb dX3_make_91 (by rw [e_11]; decide) (by rw [e_11]; decide) (by rw [e_11]; rfl) (by decide) ?_
        refine lv_aload_n hx hb dX3_make_145 rfl (lv_at hl 1 rfl) ?_
        refine lv_iconst (v := 0) hx hb dX3_make_146 (by decide) ?_
        refine lv_iconst (v := 1) hx hb dX3_make_147 (by decide) ?_
        obtain ⟨y_13, u_12, h_u_12, h⟩ := bt_of h
        refine kc_X3_variables_RX3 hst X  hS h_u_12 (Nat.le_trans (Nat.le_of_ble_eq_true rfl) hF) (Nat.le_trans (Nat.le_of_ble_eq_true rfl) hL) hC hl.1 (Nat.le_of_ble_eq_true rfl) dX3_make_148 (fun r_u_12 hr_u_12 H locs hS => ?_) (fun x9 hn H locs q9 ce hS a1 a2 a3 => by obtain ⟨e2, rfl⟩ := bt_no h hn; exact hX _ e2 _ _ _ _ _ _ _ hS a1 a2 a3)
        replace h := bt_ok h hr_u_12
        refine lv_goto (tgt := 205) hx hb dX3_make_151 (by decide) ?_
        exact b_X3_make_205 X hE hst hX hC hF hL hR_57 h  hS (lv_sub hl [1, 2] rfl)
      have h := im e_11 h
      by_cases e_14 : r_6 = 3
      · have h := ip e_14 h
        refine lv_tableIn (off := 63) (tgt := 154) hx hb dX3_make_91 (by rw [e_14]; decide) (by rw [e_14]; decide) (by rw [e_14]; rfl) (by decide) ?_
        refine lv_aload_n hx hb dX3_make_154 rfl (lv_at hl 1 rfl) ?_
        refine lv_iconst (v := 2) hx hb dX3_make_155 (by decide) ?_
        obtain ⟨y_16, u_15, h_u_15, h⟩ := bt_of h
        refine kc_X3_placed_RX3 hst X  hS h_u_15 (Nat.le_trans (Nat.le_of_ble_eq_true rfl) hF) (Nat.le_trans (Nat.le_of_ble_eq_true rfl) hL) hC hl.1 (Nat.le_of_ble_eq_true rfl) dX3_make_156 (fun r_u_15 hr_u_15 H locs hS => ?_) (fun x9 hn H locs q9 ce hS a1 a2 a3 => by obtain ⟨e2, rfl⟩ := bt_no h hn; exact hX _ e2 _ _ _ _ _ _ _ hS a1 a2 a3)
        replace h := bt_ok h hr_u_15
        refine lv_goto (tgt := 205) hx hb dX3_make_159 (by decide) ?_
        exact b_X3_make_205 X hE hst hX hC hF hL hR_57 h  hS (lv_sub hl [1, 2] rfl)
      have h := im e_14 h
      by_cases e_17 : r_6 = 4
      · have h := ip e_17 h
        refine lv_tableIn (off := 71) (tgt := 162) hx hb dX3_make_91 (by rw [e_17]; decide) (by rw [e_17]; decide) (by rw [e_17]; rfl) (by decide) ?_
        refine lv_aload_n hx hb dX3_make_162 rfl (lv_at hl 1 rfl) ?_
        refine lv_iconst (v := 3) hx hb dX3_make_163 (by decide) ?_
        obtain ⟨y_19, u_18, h_u_18, h⟩ := bt_of h
        refine kc_X3_placed_RX3 hst X  hS h_u_18 (Nat.le_trans (Nat.le_of_ble_eq_true rfl) hF) (Nat.le_trans (Nat.le_of_ble_eq_true rfl) hL) hC hl.1 (Nat.le_of_ble_eq_true rfl) dX3_make_164 (fun r_u_18 hr_u_18 H locs hS => ?_) (fun x9 hn H locs q9 ce hS a1 a2 a3 => by obtain ⟨e2, rfl⟩ := bt_no h hn; exact hX _ e2 _ _ _ _ _ _ _ hS a1 a2 a3)
        replace h := bt_ok h hr_u_18
        refine lv_goto (tgt := 205) hx hb dX3_make_167 (by decide) ?_
        exact b_X3_make_205 X hE hst hX hC hF hL hR_57 h  hS (lv_sub hl [1, 2] rfl)
      have h := im e_17 h
      by_cases e_20 : r_6 = 6
      · have h := ip e_20 h
        refine lv_tableIn (off := 79) (tgt := 170) hx hb dX3_make_91 (by rw [e_20]; decide) (by rw [e_20]; decide) (by rw [e_20]; rfl) (by decide) ?_
        refine lv_aload_n hx hb dX3_make_170 rfl (lv_at hl 1 rfl) ?_
        refine lv_iconst (v := 3) hx hb dX3_make_171 (by decide) ?_
        refine lv_iconst (v := 3) hx hb dX3_make_172 (by decide) ?_
        obtain ⟨y_22, u_21, h_u_21, h⟩ := bt_of h
        refine kc_X3_routine_RX3 hst X  hS h_u_21 (Nat.le_trans (Nat.le_of_ble_eq_true rfl) hF) (Nat.le_trans (Nat.le_of_ble_eq_true rfl) hL) hC hl.1 (Nat.le_of_ble_eq_true rfl) dX3_make_173 (fun r_u_21 hr_u_21 H locs hS => ?_) (fun x9 hn H locs q9 ce hS a1 a2 a3 => by obtain ⟨e2, rfl⟩ := bt_no h hn; exact hX _ e2 _ _ _ _ _ _ _ hS a1 a2 a3)
        replace h := bt_ok h hr_u_21
        refine lv_goto (tgt := 205) hx hb dX3_make_176 (by decide) ?_
        exact b_X3_make_205 X hE hst hX hC hF hL hR_57 h  hS (lv_sub hl [1, 2] rfl)
      have h := im e_20 h
      by_cases e_23 : r_6 = 7
      · have h := ip e_23 h
        refine lv_tableIn (off := 88) (tgt := 179) hx hb dX3_make_91 (by rw [e_23]; decide) (by rw [e_23]; decide) (by rw [e_23]; rfl) (by decide) ?_
        refine lv_aload_n hx hb dX3_make_179 rfl (lv_at hl 1 rfl) ?_
        obtain ⟨y_25, u_24, h_u_24, h⟩ := bt_of h
        refine kc_X3_uses_RX3 hst X  hS h_u_24 (Nat.le_trans (Nat.le_of_ble_eq_true rfl) hF) (Nat.le_trans (Nat.le_of_ble_eq_true rfl) hL) hC hl.1 (Nat.le_of_ble_eq_true rfl) dX3_make_180 (fun r_u_24 hr_u_24 H locs hS => ?_) (fun x9 hn H locs q9 ce hS a1 a2 a3 => by obtain ⟨e2, rfl⟩ := bt_no h hn; exact hX _ e2 _ _ _ _ _ _ _ hS a1 a2 a3)
        replace h := bt_ok h hr_u_24
        refine lv_goto (tgt := 205) hx hb dX3_make_183 (by decide) ?_
        exact b_X3_make_205 X hE hst hX hC hF hL hR_57 h  hS (lv_sub hl [1, 2] rfl)
      have h := im e_23 h
      by_cases e_26 : r_6 = 8
      · have h := ip e_26 h
        refine lv_tableIn (off := 95) (tgt := 186) hx hb dX3_make_91 (by rw [e_26]; decide) (by rw [e_26]; decide) (by rw [e_26]; rfl) (by decide) ?_
        refine lv_aload_n hx hb dX3_make_186 rfl (lv_at hl 1 rfl) ?_
        refine lv_iconst (v := 4) hx hb dX3_make_187 (by decide) ?_
        refine lv_aload_n hx hb dX3_make_188 rfl (lv_at hl 1 rfl) ?_
        refine cg_X3_15 X hS dX3_make_189 ?_
        obtain ⟨r_28, u_27, h_u_27, h⟩ := bc_of h
        refine kc_X9_takeKind_RX3 X  hS h_u_27 (Nat.le_trans (Nat.le_of_ble_eq_true rfl) hF) (Nat.le_trans (Nat.le_of_ble_eq_true rfl) hL) hl.1 (Nat.le_of_ble_eq_true rfl) dX3_make_192 (fun H locs hS => ?_)
        obtain ⟨y_30, u_29, h_u_29, h⟩ := bt_of h
        refine kc_X3_routine_RX3 hst X  hS h_u_29 (Nat.le_trans (Nat.le_of_ble_eq_true rfl) hF) (Nat.le_trans (Nat.le_of_ble_eq_true rfl) hL) hC hl.1 (Nat.le_of_ble_eq_true rfl) dX3_make_195 (fun r_u_29 hr_u_29 H locs hS => ?_) (fun x9 hn H locs q9 ce hS a1 a2 a3 => by obtain ⟨e2, rfl⟩ := bt_no h hn; exact hX _ e2 _ _ _ _ _ _ _ hS a1 a2 a3)
        replace h := bt_ok h hr_u_29
        refine lv_goto (tgt := 205) hx hb dX3_make_198 (by decide) ?_
        exact b_X3_make_205 X hE hst hX hC hF hL hR_57 h  hS (lv_sub hl [1, 2] rfl)
      have h := im e_26 h
      refine lv_tableDef (tgt := 201) hx hb dX3_make_91 (by decide) (fun off h1 h2 ho => by
        have hI : (r_6).toInt = 1 ∨ (r_6).toInt = 2 ∨ (r_6).toInt = 3 ∨ (r_6).toInt = 4 ∨ (r_6).toInt = 5 ∨ (r_6).toInt = 6 ∨ (r_6).toInt = 7 ∨ (r_6).toInt = 8 := by omega
        rcases hI with q | q | q | q | q | q | q | q
        · exact absurd (Int32.toInt_inj.mp (q.trans (by decide))) e_8
        · exact absurd (Int32.toInt_inj.mp (q.trans (by decide))) e_11
        · exact absurd (Int32.toInt_inj.mp (q.trans (by decide))) e_14
        · exact absurd (Int32.toInt_inj.mp (q.trans (by decide))) e_17
        · rw [q] at ho; simpa using ho
        · exact absurd (Int32.toInt_inj.mp (q.trans (by decide))) e_20
        · exact absurd (Int32.toInt_inj.mp (q.trans (by decide))) e_23
        · exact absurd (Int32.toInt_inj.mp (q.trans (by decide))) e_26) (by decide) ?_
      refine lv_aload_n hx hb dX3_make_201 rfl (lv_at hl 1 rfl) ?_
      obtain ⟨y_32, u_31, h_u_31, h⟩ := bt_of h
      refine kc_X3_cyclic_RX3 hst X  hS h_u_31 (Nat.le_trans (Nat.le_of_ble_eq_true rfl) hF) (Nat.le_trans (Nat.le_of_ble_eq_true rfl) hL) hC hl.1 (Nat.le_of_ble_eq_true rfl) dX3_make_202 (fun r_u_31 hr_u_31 H locs hS => ?_) (fun x9 hn H locs q9 ce hS a1 a2 a3 => by obtain ⟨e2, rfl⟩ := bt_no h hn; exact hX _ e2 _ _ _ _ _ _ _ hS a1 a2 a3)
      replace h := bt_ok h hr_u_31
      exact b_X3_make_205 X hE hst hX hC hF hL hR_57 h  hS (lv_sub hl [1, 2] rfl)
def LP_X3_make_57 (N : Nat) : Nat → Int32 × CSt → Option ((Sum Nat Int32) × CSt) := lp (fun R a => B_X3_make_57 N R a.1 a.2)
theorem bl_X3_make_57 {y : (Sum Nat Int32)} (X : CC p s m args c cX3_make 4 (Cond.code yX3_make cX3_make 4 none) RX3 D kA V A) (hE : CEvx p l e R s m args below meth c cX3_make D kA Z A Q y w) (hst : l.stackTraces = false) (hX : CX p l e R s m args below meth c D kA Z A Q y w) (hC : 1 ≤ R.cells ∧ 6 ≤ R.slots) (hF : 492 ≤ R.frames) (hL : 29045 ≤ R.locals)  : ∀ (n : Nat) (l2 : Int32) (u : CSt), LP_X3_make_57 N n (l2, u) = some (y, w) → ∀ (H : Heap) (locs : List Loc) (ls : Array Slot), CS D kA Z A s u H locs → lv_has ls 4 [(0, .ref (Z 227)), (2, .int l2)] → W p l e R s m args below meth c H locs 0 0 Q (F0 m 57 ls []) := by
  intro n
  induction n with
  | zero => intro l2 u h; exact nomatch h
  | succ n ih => intro l2 u h H locs ls hS hl; exact b_X3_make_57 (N := N) (R_57 := LP_X3_make_57 N n) X hE hst hX hC hF hL  ih h  hS hl
def B_X3_make_0 (N : Nat) (l1 : Nat) (u : CSt) : Option ((Sum Nat Int32) × CSt) := pc (xR u 2 l1) fun u_33 => ok (cR u_33 2 < 2) inferInstance <| bc (F_X6_empty N (cR u_33 2) u_33) fun _ u_35 => bc (F_X8_begin N l1 u_35) fun _ u_36 => pc (xF u_36 228 (fl (cA u_36 228) 0 5)) fun u_37 => pc (xI u_37 12 0) fun u_38 => pc (xI u_38 13 0) fun u_39 => pc (xI u_39 14 (-1)) fun u_40 => pc (xI u_40 15 (-1)) fun u_41 => bc (F_X9_rewind N u_41) fun _ u_42 => LP_X3_make_57 N N (0, u_42)
set_option maxHeartbeats 4000000 in
theorem b_X3_make_0 {y : (Sum Nat Int32)} (X : CC p s m args c cX3_make 4 (Cond.code yX3_make cX3_make 4 none) RX3 D kA V A) (hE : CEvx p l e R s m args below meth c cX3_make D kA Z A Q y w) (hst : l.stackTraces = false) (hX : CX p l e R s m args below meth c D kA Z A Q y w) (hC : 1 ≤ R.cells ∧ 6 ≤ R.slots) (hF : 492 ≤ R.frames) (hL : 29045 ≤ R.locals) {l1 : Nat} {u : CSt}  (h : B_X3_make_0 N l1 u = some (y, w)) (h_l1 : l1 < 2) (hS : CS D kA Z A s u H locs) (hl : lv_has ls 4 [(0, .ref (Z 227)), (1, .ref (Z (300 + 50 * l1)))]) : W p l e R s m args below meth c H locs 0 0 Q (F0 m 0 ls []) := by
  obtain ⟨⟨hx, hb, hml, hown, hts⟩, hK, hEV, hA⟩ := id X
  have hG : ∀ w ∈ GW, w.before args s = true := fun w h => hts w (List.mem_cons_of_mem _ h)
  unfold B_X3_make_0 at h
  refine lv_aload_n hx hb dX3_make_0 rfl (lv_at hl 0 rfl) ?_
  refine lv_aload_n hx hb dX3_make_1 rfl (lv_at hl 1 rfl) ?_
  obtain ⟨u_33, e_u_33, h⟩ := pc_of h
  refine cp_X3_19 X hS e_u_33 dX3_make_2 (fun H locs hS => ?_)
  refine lv_aload_n hx hb dX3_make_5 rfl (lv_at hl 0 rfl) ?_
  refine cg_X3_19 X hS dX3_make_6 ?_
  obtain ⟨z_34, h⟩ := ok_of h
  obtain ⟨r_u_35, u_35, h_u_35, h⟩ := bc_of h
  refine kc_X6_empty_RX3 X z_34 hS h_u_35 (Nat.le_trans (Nat.le_of_ble_eq_true rfl) hF) (Nat.le_trans (Nat.le_of_ble_eq_true rfl) hL) hl.1 (Nat.le_of_ble_eq_true rfl) dX3_make_9 (fun H locs hS => ?_)
  refine lv_aload_n hx hb dX3_make_12 rfl (lv_at hl 0 rfl) ?_
  refine cg_X3_28 X hS dX3_make_13 ?_
  refine lv_aload_n hx hb dX3_make_16 rfl (lv_at hl 1 rfl) ?_
  obtain ⟨r_u_36, u_36, h_u_36, h⟩ := bc_of h
  refine kc_X8_begin_RX3 X h_l1 hS h_u_36 (Nat.le_trans (Nat.le_of_ble_eq_true rfl) hF) (Nat.le_trans (Nat.le_of_ble_eq_true rfl) hL) hl.1 (Nat.le_of_ble_eq_true rfl) dX3_make_17 (fun H locs hS => ?_)
  refine lv_aload_n hx hb dX3_make_20 rfl (lv_at hl 0 rfl) ?_
  refine cg_X3_9 X hS dX3_make_21 ?_
  refine lv_iconst (v := 0) hx hb dX3_make_24 (by decide) ?_
  obtain ⟨u_37, e_u_37, h⟩ := pc_of h
  refine cfill (w := u_37) (q := 28) (n := 5) X hS (cw_lit rfl) (by subst e_u_37; exact cw_setL (by decide) rfl rfl rfl) (by decide) (gw_S gw_996 gw_990 gw_23 gw_991) (Nat.le_trans (Nat.le_of_ble_eq_true rfl) hF) (Nat.le_trans (Nat.le_of_ble_eq_true rfl) hL) hl.1 (Nat.le_of_ble_eq_true rfl) dX3_make_25 (fun H locs hS => ?_)
  refine lv_aload_n hx hb dX3_make_28 rfl (lv_at hl 0 rfl) ?_
  refine lv_iconst (v := 0) hx hb dX3_make_29 (by decide) ?_
  obtain ⟨u_38, e_u_38, h⟩ := pc_of h
  refine cp_X3_47 X hS e_u_38 dX3_make_30 (fun H locs hS => ?_)
  refine lv_aload_n hx hb dX3_make_33 rfl (lv_at hl 0 rfl) ?_
  refine lv_iconst (v := 0) hx hb dX3_make_34 (by decide) ?_
  obtain ⟨u_39, e_u_39, h⟩ := pc_of h
  refine cp_X3_51 X hS e_u_39 dX3_make_35 (fun H locs hS => ?_)
  refine lv_aload_n hx hb dX3_make_38 rfl (lv_at hl 0 rfl) ?_
  refine lv_iconst (v := (-1)) hx hb dX3_make_39 (by decide) ?_
  obtain ⟨u_40, e_u_40, h⟩ := pc_of h
  refine cp_X3_54 X hS e_u_40 dX3_make_40 (fun H locs hS => ?_)
  refine lv_aload_n hx hb dX3_make_43 rfl (lv_at hl 0 rfl) ?_
  refine lv_iconst (v := (-1)) hx hb dX3_make_44 (by decide) ?_
  obtain ⟨u_41, e_u_41, h⟩ := pc_of h
  refine cp_X3_57 X hS e_u_41 dX3_make_45 (fun H locs hS => ?_)
  refine lv_aload_n hx hb dX3_make_48 rfl (lv_at hl 0 rfl) ?_
  refine cg_X3_15 X hS dX3_make_49 ?_
  obtain ⟨r_u_42, u_42, h_u_42, h⟩ := bc_of h
  refine kc_X9_rewind_RX3 X  hS h_u_42 (Nat.le_trans (Nat.le_of_ble_eq_true rfl) hF) (Nat.le_trans (Nat.le_of_ble_eq_true rfl) hL) hl.1 (Nat.le_of_ble_eq_true rfl) dX3_make_52 (fun H locs hS => ?_)
  refine lv_iconst (v := 0) hx hb dX3_make_55 (by decide) ?_
  refine lv_istore_n (lv' := [(2, .int 0), (0, .ref (Z 227)), (1, .ref (Z (300 + 50 * l1)))]) hx hb dX3_make_56 rfl hl (by decide) rfl (fun ls hl => ?_)
  exact bl_X3_make_57 X hE hst hX hC hF hL  _ _ _  h _ _ _ hS (lv_sub hl [1, 0] rfl)
def F_X3_make (N : Nat) (l1 : Nat) (u : CSt) : Option ((Sum Nat Int32) × CSt) := B_X3_make_0 N l1 u
set_option maxHeartbeats 4000000 in
theorem k_X3_make (l : Launch) (hst : l.stackTraces = false) (D : va_G) (kA : Nat → ClassId) (V Z : Nat → Nat) (N : Nat) (l1 : Nat) (h_l1 : l1 < 2) (u : CSt) (sz : Nat) {y : (Sum Nat Int32)} {w : CSt} (h : F_X3_make N l1 u = some (y, w)) : vx_Met l yX3_make (Cond.code yX3_make cX3_make 4 none :: GW) { frames := 492, cells := 1, slots := 6, locals := 29045 } (cPc D kA V Z [.ref (Z 227), .ref (Z (300 + 50 * l1))] u sz) (cQvx D kA Z u sz y w) (cXc D kA Z u sz y w) 1 6 (va_A (CW kA Z u) sz) := by
  refine vx_ofW (cc := cX3_make) (maxL := 4) (ret := none) (by decide) rfl ?_
  intro p e s m args below meth c s₁ Bd hml hxt hv
  obtain ⟨rfl, hsz, hP, hK, hD0, hE⟩ := hv
  have hts := atoms_spec (ws := Cond.code yX3_make cX3_make 4 none :: GW) Bd.pre
  have hl := lv_entry ([.ref (Z 227), .ref (Z (300 + 50 * l1))]) (n := 4) (Nat.le_of_ble_eq_true rfl)
  rw [lg_entry_eq]
  generalize (lg_sl ([.ref (Z 227), .ref (Z (300 + 50 * l1))]) ++ List.replicate (4 - (lg_sl ([.ref (Z 227), .ref (Z (300 + 50 * l1))])).length) Slot.unset).toArray = ls at hl ⊢
  have hl : lv_has ls 4 [(0, .ref (Z 227)), (1, .ref (Z (300 + 50 * l1)))] := hl
  subst hsz
  have X : CC p s m ([.ref (Z 227), .ref (Z (300 + 50 * l1))]).toArray c cX3_make 4 (Cond.code yX3_make cX3_make 4 none) RX3 D kA V (va_A (CW kA Z u) s.heap.size) := ⟨⟨Bd.exec, Bd.bytes, hml, findClass_of_methodNamed Bd.named, hts⟩, hK, hE, fun q h => Or.inr h⟩
  refine b_X3_make_0 X (cend_vx X Bd.returns Bd.notSynchronized) hst (cend_X X hxt Bd.notSynchronized) ⟨Nat.le_refl _, Nat.le_refl _⟩ (Nat.le_refl _) (Nat.le_refl _) h h_l1 ⟨hP, hD0.self, va_S.rf⟩ (lv_sub hl [0, 1] rfl)
theorem kc_X3_make_RX11 {cc : ByteArray} {pc nL : Nat} {c0 : Cond} {rest : List Value} {l1 : Nat} {u w1 : CSt} {y1 : (Sum Nat Int32)} (hst : l.stackTraces = false) (X : CC p s m args c cc nL c0 RX11 D kA V A) (h_l1 : l1 < 2) (hS : CS D kA Z A s u H locs) (h : F_X3_make N l1 u = some (y1, w1)) (hF : 492 + 1 ≤ R.frames) (hL : 8 + (4 + 11) + 29045 ≤ R.locals) (hC : 1 ≤ R.cells ∧ 6 ≤ R.slots) (hl : ls.size = nL) (hc : (rest.map fun v => v.category).sum ≤ 8) (hdg : decode cc pc = .ok (.invokevirtual 90, 3)) (kk : ∀ r, y1 = .inr r → ∀ H locs, CS D kA Z A s w1 H locs → W p l e R s m args below meth c H locs 0 0 Q (F0 m (pc + 3) ls (rest))) (kx : ∀ x, y1 = .inl x → ∀ (H : Heap) (locs : List Loc) (q : Addr) (ce : Cell), CS D kA Z A s w1 H locs → H[q]? = some ce → ce.vm = .none → s.vm.findClass (exN x) = some ce.cls → vx_W p l e R s m args below meth c H locs 1 6 Q (F0 m pc ls rest) q) : W p l e R s m args below meth c H locs 0 0 Q (F0 m pc ls (.ref (Z (300 + 50 * l1)) :: .ref (Z 227) :: rest)) :=
  ccall_vx (n := 1) X hS (k_X3_make l hst D kA V Z N l1 h_l1 u H.size h) (gw_V gw_981 gw_982 gw_983 gw_13 gw_984) (by decide +kernel) (va_recv X.2.1 hS.1 (ci := 3) (q0 := 27) rfl (cw_lit rfl)) hF hL hC rfl hl hc rfl hdg kk kx
end C39cmitem
