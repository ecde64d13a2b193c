abbrev cX12_one : ByteArray := prog_14_method_45_code
def yX12_one : MethodName := ⟨RX12, "one", "(IIZ)V"⟩
theorem dX12_one_0 : decode cX12_one 0 = .ok (.aload_n 0, 1) := by decide +kernel
theorem dX12_one_1 : decode cX12_one 1 = .ok (.getfield 109, 3) := by decide +kernel
theorem dX12_one_4 : decode cX12_one 4 = .ok (.istore 4, 2) := by decide +kernel
theorem dX12_one_6 : decode cX12_one 6 = .ok (.aload_n 0, 1) := by decide +kernel
theorem dX12_one_7 : decode cX12_one 7 = .ok (.iconst 1, 1) := by decide +kernel
theorem dX12_one_8 : decode cX12_one 8 = .ok (.invokevirtual 112, 3) := by decide +kernel
theorem dX12_one_11 : decode cX12_one 11 = .ok (.ifCond .ne 8, 3) := by decide +kernel
theorem dX12_one_14 : decode cX12_one 14 = .ok (.aload_n 0, 1) := by decide +kernel
theorem dX12_one_15 : decode cX12_one 15 = .ok (.invokevirtual 115, 3) := by decide +kernel
theorem dX12_one_18 : decode cX12_one 18 = .ok (.return_, 1) := by decide +kernel
theorem dX12_one_19 : decode cX12_one 19 = .ok (.iload_n 3, 1) := by decide +kernel
theorem dX12_one_20 : decode cX12_one 20 = .ok (.ifCond .eq 11, 3) := by decide +kernel
theorem dX12_one_23 : decode cX12_one 23 = .ok (.aload_n 0, 1) := by decide +kernel
theorem dX12_one_24 : decode cX12_one 24 = .ok (.iconst 0, 1) := by decide +kernel
theorem dX12_one_25 : decode cX12_one 25 = .ok (.invokevirtual 299, 3) := by decide +kernel
theorem dX12_one_28 : decode cX12_one 28 = .ok (.goto 18, 3) := by decide +kernel
theorem dX12_one_31 : decode cX12_one 31 = .ok (.aload_n 0, 1) := by decide +kernel
theorem dX12_one_32 : decode cX12_one 32 = .ok (.iconst 0, 1) := by decide +kernel
theorem dX12_one_33 : decode cX12_one 33 = .ok (.aload_n 0, 1) := by decide +kernel
theorem dX12_one_34 : decode cX12_one 34 = .ok (.getfield 266, 3) := by decide +kernel
theorem dX12_one_37 : decode cX12_one 37 = .ok (.aload_n 0, 1) := by decide +kernel
theorem dX12_one_38 : decode cX12_one 38 = .ok (.getfield 129, 3) := by decide +kernel
theorem dX12_one_41 : decode cX12_one 41 = .ok (.iaload, 1) := by decide +kernel
theorem dX12_one_42 : decode cX12_one 42 = .ok (.iconst 0, 1) := by decide +kernel
theorem dX12_one_43 : decode cX12_one 43 = .ok (.invokevirtual 303, 3) := by decide +kernel
theorem dX12_one_46 : decode cX12_one 46 = .ok (.aload_n 0, 1) := by decide +kernel
theorem dX12_one_47 : decode cX12_one 47 = .ok (.dup, 1) := by decide +kernel
theorem dX12_one_48 : decode cX12_one 48 = .ok (.getfield 109, 3) := by decide +kernel
theorem dX12_one_51 : decode cX12_one 51 = .ok (.iconst 1, 1) := by decide +kernel
theorem dX12_one_52 : decode cX12_one 52 = .ok (.iadd, 1) := by decide +kernel
theorem dX12_one_53 : decode cX12_one 53 = .ok (.putfield 109, 3) := by decide +kernel
theorem dX12_one_56 : decode cX12_one 56 = .ok (.iconst 1, 1) := by decide +kernel
theorem dX12_one_57 : decode cX12_one 57 = .ok (.istore 5, 2) := by decide +kernel
theorem dX12_one_59 : decode cX12_one 59 = .ok (.aload_n 0, 1) := by decide +kernel
theorem dX12_one_60 : decode cX12_one 60 = .ok (.sipush 227, 3) := by decide +kernel
theorem dX12_one_63 : decode cX12_one 63 = .ok (.invokevirtual 112, 3) := by decide +kernel
theorem dX12_one_66 : decode cX12_one 66 = .ok (.istore 6, 2) := by decide +kernel
theorem dX12_one_68 : decode cX12_one 68 = .ok (.iload 6, 2) := by decide +kernel
theorem dX12_one_70 : decode cX12_one 70 = .ok (.ifCond .eq 27, 3) := by decide +kernel
theorem dX12_one_73 : decode cX12_one 73 = .ok (.aload_n 0, 1) := by decide +kernel
theorem dX12_one_74 : decode cX12_one 74 = .ok (.sipush 227, 3) := by decide +kernel
theorem dX12_one_77 : decode cX12_one 77 = .ok (.invokevirtual 307, 3) := by decide +kernel
theorem dX12_one_80 : decode cX12_one 80 = .ok (.aload_n 0, 1) := by decide +kernel
theorem dX12_one_81 : decode cX12_one 81 = .ok (.iconst 1, 1) := by decide +kernel
theorem dX12_one_82 : decode cX12_one 82 = .ok (.sipush 200, 3) := by decide +kernel
theorem dX12_one_85 : decode cX12_one 85 = .ok (.invokevirtual 310, 3) := by decide +kernel
theorem dX12_one_88 : decode cX12_one 88 = .ok (.istore 5, 2) := by decide +kernel
theorem dX12_one_90 : decode cX12_one 90 = .ok (.aload_n 0, 1) := by decide +kernel
theorem dX12_one_91 : decode cX12_one 91 = .ok (.sipush 228, 3) := by decide +kernel
theorem dX12_one_94 : decode cX12_one 94 = .ok (.invokevirtual 314, 3) := by decide +kernel
theorem dX12_one_97 : decode cX12_one 97 = .ok (.lconst 0, 1) := by decide +kernel
theorem dX12_one_98 : decode cX12_one 98 = .ok (.lstore 7, 2) := by decide +kernel
theorem dX12_one_100 : decode cX12_one 100 = .ok (.aload_n 0, 1) := by decide +kernel
theorem dX12_one_101 : decode cX12_one 101 = .ok (.sipush 234, 3) := by decide +kernel
theorem dX12_one_104 : decode cX12_one 104 = .ok (.invokevirtual 218, 3) := by decide +kernel
theorem dX12_one_107 : decode cX12_one 107 = .ok (.ifCond .eq 43, 3) := by decide +kernel
theorem dX12_one_110 : decode cX12_one 110 = .ok (.aload_n 0, 1) := by decide +kernel
theorem dX12_one_111 : decode cX12_one 111 = .ok (.invokevirtual 317, 3) := by decide +kernel
theorem dX12_one_114 : decode cX12_one 114 = .ok (.aload_n 0, 1) := by decide +kernel
theorem dX12_one_115 : decode cX12_one 115 = .ok (.getfield 229, 3) := by decide +kernel
theorem dX12_one_118 : decode cX12_one 118 = .ok (.lstore 7, 2) := by decide +kernel
theorem dX12_one_120 : decode cX12_one 120 = .ok (.aload_n 0, 1) := by decide +kernel
theorem dX12_one_121 : decode cX12_one 121 = .ok (.iload_n 1, 1) := by decide +kernel
theorem dX12_one_122 : decode cX12_one 122 = .ok (.lload 7, 2) := by decide +kernel
theorem dX12_one_124 : decode cX12_one 124 = .ok (.invokestatic 319, 3) := by decide +kernel
theorem dX12_one_127 : decode cX12_one 127 = .ok (.ifCond .ne 7, 3) := by decide +kernel
theorem dX12_one_130 : decode cX12_one 130 = .ok (.iconst 1, 1) := by decide +kernel
theorem dX12_one_131 : decode cX12_one 131 = .ok (.goto 4, 3) := by decide +kernel
theorem dX12_one_134 : decode cX12_one 134 = .ok (.iconst 0, 1) := by decide +kernel
theorem dX12_one_135 : decode cX12_one 135 = .ok (.iconst 5, 1) := by decide +kernel
theorem dX12_one_136 : decode cX12_one 136 = .ok (.aload_n 0, 1) := by decide +kernel
theorem dX12_one_137 : decode cX12_one 137 = .ok (.getfield 35, 3) := by decide +kernel
theorem dX12_one_140 : decode cX12_one 140 = .ok (.aload_n 0, 1) := by decide +kernel
theorem dX12_one_141 : decode cX12_one 141 = .ok (.getfield 109, 3) := by decide +kernel
theorem dX12_one_144 : decode cX12_one 144 = .ok (.iconst 1, 1) := by decide +kernel
theorem dX12_one_145 : decode cX12_one 145 = .ok (.isub, 1) := by decide +kernel
theorem dX12_one_146 : decode cX12_one 146 = .ok (.iaload, 1) := by decide +kernel
theorem dX12_one_147 : decode cX12_one 147 = .ok (.invokevirtual 202, 3) := by decide +kernel
theorem dX12_one_150 : decode cX12_one 150 = .ok (.iload_n 3, 1) := by decide +kernel
theorem dX12_one_151 : decode cX12_one 151 = .ok (.ifCond .eq 19, 3) := by decide +kernel
theorem dX12_one_154 : decode cX12_one 154 = .ok (.aload_n 0, 1) := by decide +kernel
theorem dX12_one_155 : decode cX12_one 155 = .ok (.iload 4, 2) := by decide +kernel
theorem dX12_one_157 : decode cX12_one 157 = .ok (.iload_n 1, 1) := by decide +kernel
theorem dX12_one_158 : decode cX12_one 158 = .ok (.iload 5, 2) := by decide +kernel
theorem dX12_one_160 : decode cX12_one 160 = .ok (.iload 6, 2) := by decide +kernel
theorem dX12_one_162 : decode cX12_one 162 = .ok (.lload 7, 2) := by decide +kernel
theorem dX12_one_164 : decode cX12_one 164 = .ok (.invokevirtual 323, 3) := by decide +kernel
theorem dX12_one_167 : decode cX12_one 167 = .ok (.goto 18, 3) := by decide +kernel
theorem dX12_one_170 : decode cX12_one 170 = .ok (.aload_n 0, 1) := by decide +kernel
theorem dX12_one_171 : decode cX12_one 171 = .ok (.iload 4, 2) := by decide +kernel
theorem dX12_one_173 : decode cX12_one 173 = .ok (.iload_n 1, 1) := by decide +kernel
theorem dX12_one_174 : decode cX12_one 174 = .ok (.iload_n 2, 1) := by decide +kernel
theorem dX12_one_175 : decode cX12_one 175 = .ok (.iload 5, 2) := by decide +kernel
theorem dX12_one_177 : decode cX12_one 177 = .ok (.iload 6, 2) := by decide +kernel
theorem dX12_one_179 : decode cX12_one 179 = .ok (.iconst (-1), 1) := by decide +kernel
theorem dX12_one_180 : decode cX12_one 180 = .ok (.lload 7, 2) := by decide +kernel
theorem dX12_one_182 : decode cX12_one 182 = .ok (.invokevirtual 327, 3) := by decide +kernel
theorem dX12_one_185 : decode cX12_one 185 = .ok (.return_, 1) := by decide +kernel
abbrev cX12_variables : ByteArray := prog_14_method_46_code
def yX12_variables : MethodName := ⟨RX12, "variables", "(IZ)V"⟩
theorem dX12_variables_0 : decode cX12_variables 0 = .ok (.aload_n 0, 1) := by decide +kernel
theorem dX12_variables_1 : decode cX12_variables 1 = .ok (.dup, 1) := by decide +kernel
theorem dX12_variables_2 : decode cX12_variables 2 = .ok (.getfield 109, 3) := by decide +kernel
theorem dX12_variables_5 : decode cX12_variables 5 = .ok (.iconst 1, 1) := by decide +kernel
theorem dX12_variables_6 : decode cX12_variables 6 = .ok (.iadd, 1) := by decide +kernel
theorem dX12_variables_7 : decode cX12_variables 7 = .ok (.putfield 109, 3) := by decide +kernel
theorem dX12_variables_10 : decode cX12_variables 10 = .ok (.aload_n 0, 1) := by decide +kernel
theorem dX12_variables_11 : decode cX12_variables 11 = .ok (.invokevirtual 331, 3) := by decide +kernel
theorem dX12_variables_14 : decode cX12_variables 14 = .ok (.istore_n 3, 1) := by decide +kernel
theorem dX12_variables_15 : decode cX12_variables 15 = .ok (.aload_n 0, 1) := by decide +kernel
theorem dX12_variables_16 : decode cX12_variables 16 = .ok (.iload_n 3, 1) := by decide +kernel
theorem dX12_variables_17 : decode cX12_variables 17 = .ok (.iload_n 1, 1) := by decide +kernel
theorem dX12_variables_18 : decode cX12_variables 18 = .ok (.iload_n 2, 1) := by decide +kernel
theorem dX12_variables_19 : decode cX12_variables 19 = .ok (.invokevirtual 334, 3) := by decide +kernel
theorem dX12_variables_22 : decode cX12_variables 22 = .ok (.aload_n 0, 1) := by decide +kernel
theorem dX12_variables_23 : decode cX12_variables 23 = .ok (.sipush 230, 3) := by decide +kernel
theorem dX12_variables_26 : decode cX12_variables 26 = .ok (.invokevirtual 218, 3) := by decide +kernel
theorem dX12_variables_29 : decode cX12_variables 29 = .ok (.ifCond .eq 13, 3) := by decide +kernel
theorem dX12_variables_32 : decode cX12_variables 32 = .ok (.aload_n 0, 1) := by decide +kernel
theorem dX12_variables_33 : decode cX12_variables 33 = .ok (.iload_n 3, 1) := by decide +kernel
theorem dX12_variables_34 : decode cX12_variables 34 = .ok (.iload_n 1, 1) := by decide +kernel
theorem dX12_variables_35 : decode cX12_variables 35 = .ok (.iload_n 2, 1) := by decide +kernel
theorem dX12_variables_36 : decode cX12_variables 36 = .ok (.invokevirtual 334, 3) := by decide +kernel
theorem dX12_variables_39 : decode cX12_variables 39 = .ok (.goto (-17), 3) := by decide +kernel
theorem dX12_variables_42 : decode cX12_variables 42 = .ok (.aload_n 0, 1) := by decide +kernel
theorem dX12_variables_43 : decode cX12_variables 43 = .ok (.sipush 229, 3) := by decide +kernel
theorem dX12_variables_46 : decode cX12_variables 46 = .ok (.invokevirtual 125, 3) := by decide +kernel
theorem dX12_variables_49 : decode cX12_variables 49 = .ok (.return_, 1) := by decide +kernel
abbrev cX12_image : ByteArray := prog_14_method_47_code
def yX12_image : MethodName := ⟨RX12, "image", "(I)V"⟩
theorem dX12_image_0 : decode cX12_image 0 = .ok (.aload_n 0, 1) := by decide +kernel
theorem dX12_image_1 : decode cX12_image 1 = .ok (.dup, 1) := by decide +kernel
theorem dX12_image_2 : decode cX12_image 2 = .ok (.getfield 109, 3) := by decide +kernel
theorem dX12_image_5 : decode cX12_image 5 = .ok (.iconst 1, 1) := by decide +kernel
theorem dX12_image_6 : decode cX12_image 6 = .ok (.iadd, 1) := by decide +kernel
theorem dX12_image_7 : decode cX12_image 7 = .ok (.putfield 109, 3) := by decide +kernel
theorem dX12_image_10 : decode cX12_image 10 = .ok (.aload_n 0, 1) := by decide +kernel
theorem dX12_image_11 : decode cX12_image 11 = .ok (.invokevirtual 331, 3) := by decide +kernel
theorem dX12_image_14 : decode cX12_image 14 = .ok (.istore_n 2, 1) := by decide +kernel
theorem dX12_image_15 : decode cX12_image 15 = .ok (.aload_n 0, 1) := by decide +kernel
theorem dX12_image_16 : decode cX12_image 16 = .ok (.getfield 109, 3) := by decide +kernel
theorem dX12_image_19 : decode cX12_image 19 = .ok (.istore_n 3, 1) := by decide +kernel
theorem dX12_image_20 : decode cX12_image 20 = .ok (.aload_n 0, 1) := by decide +kernel
theorem dX12_image_21 : decode cX12_image 21 = .ok (.iconst 1, 1) := by decide +kernel
theorem dX12_image_22 : decode cX12_image 22 = .ok (.invokevirtual 112, 3) := by decide +kernel
theorem dX12_image_25 : decode cX12_image 25 = .ok (.ifCond .ne 8, 3) := by decide +kernel
theorem dX12_image_28 : decode cX12_image 28 = .ok (.aload_n 0, 1) := by decide +kernel
theorem dX12_image_29 : decode cX12_image 29 = .ok (.invokevirtual 115, 3) := by decide +kernel
theorem dX12_image_32 : decode cX12_image 32 = .ok (.return_, 1) := by decide +kernel
theorem dX12_image_33 : decode cX12_image 33 = .ok (.aload_n 0, 1) := by decide +kernel
theorem dX12_image_34 : decode cX12_image 34 = .ok (.iconst 0, 1) := by decide +kernel
theorem dX12_image_35 : decode cX12_image 35 = .ok (.aload_n 0, 1) := by decide +kernel
theorem dX12_image_36 : decode cX12_image 36 = .ok (.getfield 266, 3) := by decide +kernel
theorem dX12_image_39 : decode cX12_image 39 = .ok (.aload_n 0, 1) := by decide +kernel
theorem dX12_image_40 : decode cX12_image 40 = .ok (.getfield 129, 3) := by decide +kernel
theorem dX12_image_43 : decode cX12_image 43 = .ok (.iaload, 1) := by decide +kernel
theorem dX12_image_44 : decode cX12_image 44 = .ok (.iconst 0, 1) := by decide +kernel
theorem dX12_image_45 : decode cX12_image 45 = .ok (.invokevirtual 303, 3) := by decide +kernel
theorem dX12_image_48 : decode cX12_image 48 = .ok (.aload_n 0, 1) := by decide +kernel
theorem dX12_image_49 : decode cX12_image 49 = .ok (.dup, 1) := by decide +kernel
theorem dX12_image_50 : decode cX12_image 50 = .ok (.getfield 109, 3) := by decide +kernel
theorem dX12_image_53 : decode cX12_image 53 = .ok (.iconst 1, 1) := by decide +kernel
theorem dX12_image_54 : decode cX12_image 54 = .ok (.iadd, 1) := by decide +kernel
theorem dX12_image_55 : decode cX12_image 55 = .ok (.putfield 109, 3) := by decide +kernel
theorem dX12_image_58 : decode cX12_image 58 = .ok (.aload_n 0, 1) := by decide +kernel
theorem dX12_image_59 : decode cX12_image 59 = .ok (.bipush 104, 2) := by decide +kernel
theorem dX12_image_61 : decode cX12_image 61 = .ok (.invokevirtual 125, 3) := by decide +kernel
theorem dX12_image_64 : decode cX12_image 64 = .ok (.aload_n 0, 1) := by decide +kernel
theorem dX12_image_65 : decode cX12_image 65 = .ok (.iconst 0, 1) := by decide +kernel
theorem dX12_image_66 : decode cX12_image 66 = .ok (.bipush 64, 2) := by decide +kernel
theorem dX12_image_68 : decode cX12_image 68 = .ok (.iload_n 2, 1) := by decide +kernel
theorem dX12_image_69 : decode cX12_image 69 = .ok (.invokestatic 337, 3) := by decide +kernel
theorem dX12_image_72 : decode cX12_image 72 = .ok (.bipush 8, 2) := by decide +kernel
theorem dX12_image_74 : decode cX12_image 74 = .ok (.idiv, 1) := by decide +kernel
theorem dX12_image_75 : decode cX12_image 75 = .ok (.isub, 1) := by decide +kernel
theorem dX12_image_76 : decode cX12_image 76 = .ok (.invokevirtual 310, 3) := by decide +kernel
theorem dX12_image_79 : decode cX12_image 79 = .ok (.istore 4, 2) := by decide +kernel
theorem dX12_image_81 : decode cX12_image 81 = .ok (.aload_n 0, 1) := by decide +kernel
theorem dX12_image_82 : decode cX12_image 82 = .ok (.sipush 229, 3) := by decide +kernel
theorem dX12_image_85 : decode cX12_image 85 = .ok (.invokevirtual 125, 3) := by decide +kernel
theorem dX12_image_88 : decode cX12_image 88 = .ok (.aload_n 0, 1) := by decide +kernel
theorem dX12_image_89 : decode cX12_image 89 = .ok (.iload_n 3, 1) := by decide +kernel
theorem dX12_image_90 : decode cX12_image 90 = .ok (.iload_n 2, 1) := by decide +kernel
theorem dX12_image_91 : decode cX12_image 91 = .ok (.iload_n 1, 1) := by decide +kernel
theorem dX12_image_92 : decode cX12_image 92 = .ok (.iconst 1, 1) := by decide +kernel
theorem dX12_image_93 : decode cX12_image 93 = .ok (.iconst 0, 1) := by decide +kernel
theorem dX12_image_94 : decode cX12_image 94 = .ok (.iload 4, 2) := by decide +kernel
theorem dX12_image_96 : decode cX12_image 96 = .ok (.lconst 0, 1) := by decide +kernel
theorem dX12_image_97 : decode cX12_image 97 = .ok (.invokevirtual 327, 3) := by decide +kernel
theorem dX12_image_100 : decode cX12_image 100 = .ok (.return_, 1) := by decide +kernel
abbrev cX12_parameter : ByteArray := prog_14_method_49_code
def yX12_parameter : MethodName := ⟨RX12, "parameter", "()V"⟩
theorem dX12_parameter_0 : decode cX12_parameter 0 = .ok (.aload_n 0, 1) := by decide +kernel
theorem dX12_parameter_1 : decode cX12_parameter 1 = .ok (.invokevirtual 331, 3) := by decide +kernel
theorem dX12_parameter_4 : decode cX12_parameter 4 = .ok (.istore_n 1, 1) := by decide +kernel
theorem dX12_parameter_5 : decode cX12_parameter 5 = .ok (.aload_n 0, 1) := by decide +kernel
theorem dX12_parameter_6 : decode cX12_parameter 6 = .ok (.iconst 1, 1) := by decide +kernel
theorem dX12_parameter_7 : decode cX12_parameter 7 = .ok (.invokevirtual 112, 3) := by decide +kernel
theorem dX12_parameter_10 : decode cX12_parameter 10 = .ok (.ifCond .ne 8, 3) := by decide +kernel
theorem dX12_parameter_13 : decode cX12_parameter 13 = .ok (.aload_n 0, 1) := by decide +kernel
theorem dX12_parameter_14 : decode cX12_parameter 14 = .ok (.invokevirtual 115, 3) := by decide +kernel
theorem dX12_parameter_17 : decode cX12_parameter 17 = .ok (.return_, 1) := by decide +kernel
theorem dX12_parameter_18 : decode cX12_parameter 18 = .ok (.aload_n 0, 1) := by decide +kernel
theorem dX12_parameter_19 : decode cX12_parameter 19 = .ok (.iconst 1, 1) := by decide +kernel
theorem dX12_parameter_20 : decode cX12_parameter 20 = .ok (.invokevirtual 299, 3) := by decide +kernel
theorem dX12_parameter_23 : decode cX12_parameter 23 = .ok (.aload_n 0, 1) := by decide +kernel
theorem dX12_parameter_24 : decode cX12_parameter 24 = .ok (.aload_n 0, 1) := by decide +kernel
theorem dX12_parameter_25 : decode cX12_parameter 25 = .ok (.getfield 109, 3) := by decide +kernel
theorem dX12_parameter_28 : decode cX12_parameter 28 = .ok (.iload_n 1, 1) := by decide +kernel
theorem dX12_parameter_29 : decode cX12_parameter 29 = .ok (.iconst 1, 1) := by decide +kernel
theorem dX12_parameter_30 : decode cX12_parameter 30 = .ok (.iconst 0, 1) := by decide +kernel
theorem dX12_parameter_31 : decode cX12_parameter 31 = .ok (.lconst 0, 1) := by decide +kernel
theorem dX12_parameter_32 : decode cX12_parameter 32 = .ok (.invokevirtual 323, 3) := by decide +kernel
theorem dX12_parameter_35 : decode cX12_parameter 35 = .ok (.aload_n 0, 1) := by decide +kernel
theorem dX12_parameter_36 : decode cX12_parameter 36 = .ok (.getfield 101, 3) := by decide +kernel
theorem dX12_parameter_39 : decode cX12_parameter 39 = .ok (.ifCond .eq 23, 3) := by decide +kernel
theorem dX12_parameter_42 : decode cX12_parameter 42 = .ok (.aload_n 0, 1) := by decide +kernel
theorem dX12_parameter_43 : decode cX12_parameter 43 = .ok (.getfield 95, 3) := by decide +kernel
theorem dX12_parameter_46 : decode cX12_parameter 46 = .ok (.ifCond .ne 16, 3) := by decide +kernel
theorem dX12_parameter_49 : decode cX12_parameter 49 = .ok (.aload_n 0, 1) := by decide +kernel
theorem dX12_parameter_50 : decode cX12_parameter 50 = .ok (.getfield 233, 3) := by decide +kernel
theorem dX12_parameter_53 : decode cX12_parameter 53 = .ok (.aload_n 0, 1) := by decide +kernel
theorem dX12_parameter_54 : decode cX12_parameter 54 = .ok (.getfield 236, 3) := by decide +kernel
theorem dX12_parameter_57 : decode cX12_parameter 57 = .ok (.dup2, 1) := by decide +kernel
theorem dX12_parameter_58 : decode cX12_parameter 58 = .ok (.iaload, 1) := by decide +kernel
theorem dX12_parameter_59 : decode cX12_parameter 59 = .ok (.iconst 1, 1) := by decide +kernel
theorem dX12_parameter_60 : decode cX12_parameter 60 = .ok (.iadd, 1) := by decide +kernel
theorem dX12_parameter_61 : decode cX12_parameter 61 = .ok (.iastore, 1) := by decide +kernel
theorem dX12_parameter_62 : decode cX12_parameter 62 = .ok (.aload_n 0, 1) := by decide +kernel
theorem dX12_parameter_63 : decode cX12_parameter 63 = .ok (.dup, 1) := by decide +kernel
theorem dX12_parameter_64 : decode cX12_parameter 64 = .ok (.getfield 109, 3) := by decide +kernel
theorem dX12_parameter_67 : decode cX12_parameter 67 = .ok (.iconst 1, 1) := by decide +kernel
theorem dX12_parameter_68 : decode cX12_parameter 68 = .ok (.iadd, 1) := by decide +kernel
theorem dX12_parameter_69 : decode cX12_parameter 69 = .ok (.putfield 109, 3) := by decide +kernel
theorem dX12_parameter_72 : decode cX12_parameter 72 = .ok (.return_, 1) := by decide +kernel
abbrev cX12_part : ByteArray := prog_14_method_48_code
def yX12_part : MethodName := ⟨RX12, "part", "(Z)V"⟩
theorem dX12_part_0 : decode cX12_part 0 = .ok (.aload_n 0, 1) := by decide +kernel
theorem dX12_part_1 : decode cX12_part 1 = .ok (.dup, 1) := by decide +kernel
theorem dX12_part_2 : decode cX12_part 2 = .ok (.getfield 109, 3) := by decide +kernel
theorem dX12_part_5 : decode cX12_part 5 = .ok (.iconst 1, 1) := by decide +kernel
theorem dX12_part_6 : decode cX12_part 6 = .ok (.iadd, 1) := by decide +kernel
theorem dX12_part_7 : decode cX12_part 7 = .ok (.putfield 109, 3) := by decide +kernel
theorem dX12_part_10 : decode cX12_part 10 = .ok (.iload_n 1, 1) := by decide +kernel
theorem dX12_part_11 : decode cX12_part 11 = .ok (.ifCond .eq 10, 3) := by decide +kernel
theorem dX12_part_14 : decode cX12_part 14 = .ok (.aload_n 0, 1) := by decide +kernel
theorem dX12_part_15 : decode cX12_part 15 = .ok (.invokevirtual 331, 3) := by decide +kernel
theorem dX12_part_18 : decode cX12_part 18 = .ok (.goto 4, 3) := by decide +kernel
theorem dX12_part_21 : decode cX12_part 21 = .ok (.iconst 0, 1) := by decide +kernel
theorem dX12_part_22 : decode cX12_part 22 = .ok (.istore_n 2, 1) := by decide +kernel
theorem dX12_part_23 : decode cX12_part 23 = .ok (.aload_n 0, 1) := by decide +kernel
theorem dX12_part_24 : decode cX12_part 24 = .ok (.iconst 1, 1) := by decide +kernel
theorem dX12_part_25 : decode cX12_part 25 = .ok (.invokevirtual 112, 3) := by decide +kernel
theorem dX12_part_28 : decode cX12_part 28 = .ok (.ifCond .ne 8, 3) := by decide +kernel
theorem dX12_part_31 : decode cX12_part 31 = .ok (.aload_n 0, 1) := by decide +kernel
theorem dX12_part_32 : decode cX12_part 32 = .ok (.invokevirtual 115, 3) := by decide +kernel
theorem dX12_part_35 : decode cX12_part 35 = .ok (.return_, 1) := by decide +kernel
theorem dX12_part_36 : decode cX12_part 36 = .ok (.iload_n 1, 1) := by decide +kernel
theorem dX12_part_37 : decode cX12_part 37 = .ok (.ifCond .eq 15, 3) := by decide +kernel
theorem dX12_part_40 : decode cX12_part 40 = .ok (.aload_n 0, 1) := by decide +kernel
theorem dX12_part_41 : decode cX12_part 41 = .ok (.getfield 340, 3) := by decide +kernel
theorem dX12_part_44 : decode cX12_part 44 = .ok (.aload_n 0, 1) := by decide +kernel
theorem dX12_part_45 : decode cX12_part 45 = .ok (.getfield 129, 3) := by decide +kernel
theorem dX12_part_48 : decode cX12_part 48 = .ok (.iaload, 1) := by decide +kernel
theorem dX12_part_49 : decode cX12_part 49 = .ok (.goto 12, 3) := by decide +kernel
theorem dX12_part_52 : decode cX12_part 52 = .ok (.aload_n 0, 1) := by decide +kernel
theorem dX12_part_53 : decode cX12_part 53 = .ok (.getfield 343, 3) := by decide +kernel
theorem dX12_part_56 : decode cX12_part 56 = .ok (.aload_n 0, 1) := by decide +kernel
theorem dX12_part_57 : decode cX12_part 57 = .ok (.getfield 129, 3) := by decide +kernel
theorem dX12_part_60 : decode cX12_part 60 = .ok (.iaload, 1) := by decide +kernel
theorem dX12_part_61 : decode cX12_part 61 = .ok (.istore_n 3, 1) := by decide +kernel
theorem dX12_part_62 : decode cX12_part 62 = .ok (.aload_n 0, 1) := by decide +kernel
theorem dX12_part_63 : decode cX12_part 63 = .ok (.iload_n 1, 1) := by decide +kernel
theorem dX12_part_64 : decode cX12_part 64 = .ok (.ifCond .eq 7, 3) := by decide +kernel
theorem dX12_part_67 : decode cX12_part 67 = .ok (.iconst 4, 1) := by decide +kernel
theorem dX12_part_68 : decode cX12_part 68 = .ok (.goto 4, 3) := by decide +kernel
theorem dX12_part_71 : decode cX12_part 71 = .ok (.iconst 3, 1) := by decide +kernel
theorem dX12_part_72 : decode cX12_part 72 = .ok (.iload_n 3, 1) := by decide +kernel
theorem dX12_part_73 : decode cX12_part 73 = .ok (.iload_n 3, 1) := by decide +kernel
theorem dX12_part_74 : decode cX12_part 74 = .ok (.iload_n 1, 1) := by decide +kernel
theorem dX12_part_75 : decode cX12_part 75 = .ok (.ifCond .eq 8, 3) := by decide +kernel
theorem dX12_part_78 : decode cX12_part 78 = .ok (.bipush 16, 2) := by decide +kernel
theorem dX12_part_80 : decode cX12_part 80 = .ok (.goto 5, 3) := by decide +kernel
theorem dX12_part_83 : decode cX12_part 83 = .ok (.bipush 8, 2) := by decide +kernel
theorem dX12_part_85 : decode cX12_part 85 = .ok (.if_icmp .ne 7, 3) := by decide +kernel
theorem dX12_part_88 : decode cX12_part 88 = .ok (.iconst 1, 1) := by decide +kernel
theorem dX12_part_89 : decode cX12_part 89 = .ok (.goto 4, 3) := by decide +kernel
theorem dX12_part_92 : decode cX12_part 92 = .ok (.iconst 0, 1) := by decide +kernel
theorem dX12_part_93 : decode cX12_part 93 = .ok (.invokevirtual 303, 3) := by decide +kernel
theorem dX12_part_96 : decode cX12_part 96 = .ok (.aload_n 0, 1) := by decide +kernel
theorem dX12_part_97 : decode cX12_part 97 = .ok (.iload_n 1, 1) := by decide +kernel
theorem dX12_part_98 : decode cX12_part 98 = .ok (.ifCond .eq 18, 3) := by decide +kernel
theorem dX12_part_101 : decode cX12_part 101 = .ok (.bipush 24, 2) := by decide +kernel
theorem dX12_part_103 : decode cX12_part 103 = .ok (.aload_n 0, 1) := by decide +kernel
theorem dX12_part_104 : decode cX12_part 104 = .ok (.getfield 129, 3) := by decide +kernel
theorem dX12_part_107 : decode cX12_part 107 = .ok (.imul, 1) := by decide +kernel
theorem dX12_part_108 : decode cX12_part 108 = .ok (.bipush 8, 2) := by decide +kernel
theorem dX12_part_110 : decode cX12_part 110 = .ok (.iadd, 1) := by decide +kernel
theorem dX12_part_111 : decode cX12_part 111 = .ok (.iload_n 3, 1) := by decide +kernel
theorem dX12_part_112 : decode cX12_part 112 = .ok (.iadd, 1) := by decide +kernel
theorem dX12_part_113 : decode cX12_part 113 = .ok (.goto 12, 3) := by decide +kernel
theorem dX12_part_116 : decode cX12_part 116 = .ok (.bipush 24, 2) := by decide +kernel
theorem dX12_part_118 : decode cX12_part 118 = .ok (.aload_n 0, 1) := by decide +kernel
theorem dX12_part_119 : decode cX12_part 119 = .ok (.getfield 129, 3) := by decide +kernel
theorem dX12_part_122 : decode cX12_part 122 = .ok (.imul, 1) := by decide +kernel
theorem dX12_part_123 : decode cX12_part 123 = .ok (.iload_n 3, 1) := by decide +kernel
theorem dX12_part_124 : decode cX12_part 124 = .ok (.iadd, 1) := by decide +kernel
theorem dX12_part_125 : decode cX12_part 125 = .ok (.putfield 236, 3) := by decide +kernel
theorem dX12_part_128 : decode cX12_part 128 = .ok (.aload_n 0, 1) := by decide +kernel
theorem dX12_part_129 : decode cX12_part 129 = .ok (.iload_n 1, 1) := by decide +kernel
theorem dX12_part_130 : decode cX12_part 130 = .ok (.ifCond .eq 7, 3) := by decide +kernel
theorem dX12_part_133 : decode cX12_part 133 = .ok (.iconst 3, 1) := by decide +kernel
theorem dX12_part_134 : decode cX12_part 134 = .ok (.goto 4, 3) := by decide +kernel
theorem dX12_part_137 : decode cX12_part 137 = .ok (.iconst 2, 1) := by decide +kernel
theorem dX12_part_138 : decode cX12_part 138 = .ok (.putfield 186, 3) := by decide +kernel
theorem dX12_part_141 : decode cX12_part 141 = .ok (.aload_n 0, 1) := by decide +kernel
theorem dX12_part_142 : decode cX12_part 142 = .ok (.aload_n 0, 1) := by decide +kernel
theorem dX12_part_143 : decode cX12_part 143 = .ok (.getfield 189, 3) := by decide +kernel
theorem dX12_part_146 : decode cX12_part 146 = .ok (.aload_n 0, 1) := by decide +kernel
theorem dX12_part_147 : decode cX12_part 147 = .ok (.getfield 129, 3) := by decide +kernel
theorem dX12_part_150 : decode cX12_part 150 = .ok (.iaload, 1) := by decide +kernel
theorem dX12_part_151 : decode cX12_part 151 = .ok (.putfield 183, 3) := by decide +kernel
theorem dX12_part_154 : decode cX12_part 154 = .ok (.aload_n 0, 1) := by decide +kernel
theorem dX12_part_155 : decode cX12_part 155 = .ok (.iconst 0, 1) := by decide +kernel
theorem dX12_part_156 : decode cX12_part 156 = .ok (.putfield 239, 3) := by decide +kernel
theorem dX12_part_159 : decode cX12_part 159 = .ok (.aload_n 0, 1) := by decide +kernel
theorem dX12_part_160 : decode cX12_part 160 = .ok (.iconst 0, 1) := by decide +kernel
theorem dX12_part_161 : decode cX12_part 161 = .ok (.putfield 346, 3) := by decide +kernel
theorem dX12_part_164 : decode cX12_part 164 = .ok (.aload_n 0, 1) := by decide +kernel
theorem dX12_part_165 : decode cX12_part 165 = .ok (.getfield 101, 3) := by decide +kernel
theorem dX12_part_168 : decode cX12_part 168 = .ok (.ifCond .eq 132, 3) := by decide +kernel
theorem dX12_part_171 : decode cX12_part 171 = .ok (.aload_n 0, 1) := by decide +kernel
theorem dX12_part_172 : decode cX12_part 172 = .ok (.getfield 95, 3) := by decide +kernel
theorem dX12_part_175 : decode cX12_part 175 = .ok (.ifCond .ne 125, 3) := by decide +kernel
theorem dX12_part_178 : decode cX12_part 178 = .ok (.aload_n 0, 1) := by decide +kernel
theorem dX12_part_179 : decode cX12_part 179 = .ok (.getfield 349, 3) := by decide +kernel
theorem dX12_part_182 : decode cX12_part 182 = .ok (.aload_n 0, 1) := by decide +kernel
theorem dX12_part_183 : decode cX12_part 183 = .ok (.getfield 236, 3) := by decide +kernel
theorem dX12_part_186 : decode cX12_part 186 = .ok (.aload_n 0, 1) := by decide +kernel
theorem dX12_part_187 : decode cX12_part 187 = .ok (.getfield 66, 3) := by decide +kernel
theorem dX12_part_190 : decode cX12_part 190 = .ok (.aload_n 0, 1) := by decide +kernel
theorem dX12_part_191 : decode cX12_part 191 = .ok (.getfield 109, 3) := by decide +kernel
theorem dX12_part_194 : decode cX12_part 194 = .ok (.laload, 1) := by decide +kernel
theorem dX12_part_195 : decode cX12_part 195 = .ok (.lastore, 1) := by decide +kernel
theorem dX12_part_196 : decode cX12_part 196 = .ok (.aload_n 0, 1) := by decide +kernel
theorem dX12_part_197 : decode cX12_part 197 = .ok (.getfield 352, 3) := by decide +kernel
theorem dX12_part_200 : decode cX12_part 200 = .ok (.aload_n 0, 1) := by decide +kernel
theorem dX12_part_201 : decode cX12_part 201 = .ok (.getfield 236, 3) := by decide +kernel
theorem dX12_part_204 : decode cX12_part 204 = .ok (.aload_n 0, 1) := by decide +kernel
theorem dX12_part_205 : decode cX12_part 205 = .ok (.getfield 73, 3) := by decide +kernel
theorem dX12_part_208 : decode cX12_part 208 = .ok (.aload_n 0, 1) := by decide +kernel
theorem dX12_part_209 : decode cX12_part 209 = .ok (.getfield 109, 3) := by decide +kernel
theorem dX12_part_212 : decode cX12_part 212 = .ok (.laload, 1) := by decide +kernel
theorem dX12_part_213 : decode cX12_part 213 = .ok (.lastore, 1) := by decide +kernel
theorem dX12_part_214 : decode cX12_part 214 = .ok (.aload_n 0, 1) := by decide +kernel
theorem dX12_part_215 : decode cX12_part 215 = .ok (.getfield 355, 3) := by decide +kernel
theorem dX12_part_218 : decode cX12_part 218 = .ok (.aload_n 0, 1) := by decide +kernel
theorem dX12_part_219 : decode cX12_part 219 = .ok (.getfield 236, 3) := by decide +kernel
theorem dX12_part_222 : decode cX12_part 222 = .ok (.iload_n 2, 1) := by decide +kernel
theorem dX12_part_223 : decode cX12_part 223 = .ok (.iastore, 1) := by decide +kernel
theorem dX12_part_224 : decode cX12_part 224 = .ok (.aload_n 0, 1) := by decide +kernel
theorem dX12_part_225 : decode cX12_part 225 = .ok (.getfield 358, 3) := by decide +kernel
theorem dX12_part_228 : decode cX12_part 228 = .ok (.aload_n 0, 1) := by decide +kernel
theorem dX12_part_229 : decode cX12_part 229 = .ok (.getfield 236, 3) := by decide +kernel
theorem dX12_part_232 : decode cX12_part 232 = .ok (.aload_n 0, 1) := by decide +kernel
theorem dX12_part_233 : decode cX12_part 233 = .ok (.getfield 183, 3) := by decide +kernel
theorem dX12_part_236 : decode cX12_part 236 = .ok (.iastore, 1) := by decide +kernel
theorem dX12_part_237 : decode cX12_part 237 = .ok (.aload_n 0, 1) := by decide +kernel
theorem dX12_part_238 : decode cX12_part 238 = .ok (.getfield 257, 3) := by decide +kernel
theorem dX12_part_241 : decode cX12_part 241 = .ok (.aload_n 0, 1) := by decide +kernel
theorem dX12_part_242 : decode cX12_part 242 = .ok (.getfield 236, 3) := by decide +kernel
theorem dX12_part_245 : decode cX12_part 245 = .ok (.iconst 0, 1) := by decide +kernel
theorem dX12_part_246 : decode cX12_part 246 = .ok (.iastore, 1) := by decide +kernel
theorem dX12_part_247 : decode cX12_part 247 = .ok (.aload_n 0, 1) := by decide +kernel
theorem dX12_part_248 : decode cX12_part 248 = .ok (.getfield 233, 3) := by decide +kernel
theorem dX12_part_251 : decode cX12_part 251 = .ok (.aload_n 0, 1) := by decide +kernel
theorem dX12_part_252 : decode cX12_part 252 = .ok (.getfield 236, 3) := by decide +kernel
theorem dX12_part_255 : decode cX12_part 255 = .ok (.iconst 0, 1) := by decide +kernel
theorem dX12_part_256 : decode cX12_part 256 = .ok (.iastore, 1) := by decide +kernel
theorem dX12_part_257 : decode cX12_part 257 = .ok (.aload_n 0, 1) := by decide +kernel
theorem dX12_part_258 : decode cX12_part 258 = .ok (.getfield 260, 3) := by decide +kernel
theorem dX12_part_261 : decode cX12_part 261 = .ok (.aload_n 0, 1) := by decide +kernel
theorem dX12_part_262 : decode cX12_part 262 = .ok (.getfield 236, 3) := by decide +kernel
theorem dX12_part_265 : decode cX12_part 265 = .ok (.iconst 0, 1) := by decide +kernel
theorem dX12_part_266 : decode cX12_part 266 = .ok (.iastore, 1) := by decide +kernel
theorem dX12_part_267 : decode cX12_part 267 = .ok (.iload_n 1, 1) := by decide +kernel
theorem dX12_part_268 : decode cX12_part 268 = .ok (.ifCond .eq 19, 3) := by decide +kernel
theorem dX12_part_271 : decode cX12_part 271 = .ok (.aload_n 0, 1) := by decide +kernel
theorem dX12_part_272 : decode cX12_part 272 = .ok (.getfield 340, 3) := by decide +kernel
theorem dX12_part_275 : decode cX12_part 275 = .ok (.aload_n 0, 1) := by decide +kernel
theorem dX12_part_276 : decode cX12_part 276 = .ok (.getfield 129, 3) := by decide +kernel
theorem dX12_part_279 : decode cX12_part 279 = .ok (.dup2, 1) := by decide +kernel
theorem dX12_part_280 : decode cX12_part 280 = .ok (.iaload, 1) := by decide +kernel
theorem dX12_part_281 : decode cX12_part 281 = .ok (.iconst 1, 1) := by decide +kernel
theorem dX12_part_282 : decode cX12_part 282 = .ok (.iadd, 1) := by decide +kernel
theorem dX12_part_283 : decode cX12_part 283 = .ok (.iastore, 1) := by decide +kernel
theorem dX12_part_284 : decode cX12_part 284 = .ok (.goto 16, 3) := by decide +kernel
theorem dX12_part_287 : decode cX12_part 287 = .ok (.aload_n 0, 1) := by decide +kernel
theorem dX12_part_288 : decode cX12_part 288 = .ok (.getfield 343, 3) := by decide +kernel
theorem dX12_part_291 : decode cX12_part 291 = .ok (.aload_n 0, 1) := by decide +kernel
theorem dX12_part_292 : decode cX12_part 292 = .ok (.getfield 129, 3) := by decide +kernel
theorem dX12_part_295 : decode cX12_part 295 = .ok (.dup2, 1) := by decide +kernel
theorem dX12_part_296 : decode cX12_part 296 = .ok (.iaload, 1) := by decide +kernel
theorem dX12_part_297 : decode cX12_part 297 = .ok (.iconst 1, 1) := by decide +kernel
theorem dX12_part_298 : decode cX12_part 298 = .ok (.iadd, 1) := by decide +kernel
theorem dX12_part_299 : decode cX12_part 299 = .ok (.iastore, 1) := by decide +kernel
theorem dX12_part_300 : decode cX12_part 300 = .ok (.aload_n 0, 1) := by decide +kernel
theorem dX12_part_301 : decode cX12_part 301 = .ok (.dup, 1) := by decide +kernel
theorem dX12_part_302 : decode cX12_part 302 = .ok (.getfield 109, 3) := by decide +kernel
theorem dX12_part_305 : decode cX12_part 305 = .ok (.iconst 1, 1) := by decide +kernel
theorem dX12_part_306 : decode cX12_part 306 = .ok (.iadd, 1) := by decide +kernel
theorem dX12_part_307 : decode cX12_part 307 = .ok (.putfield 109, 3) := by decide +kernel
theorem dX12_part_310 : decode cX12_part 310 = .ok (.aload_n 0, 1) := by decide +kernel
theorem dX12_part_311 : decode cX12_part 311 = .ok (.sipush 223, 3) := by decide +kernel
theorem dX12_part_314 : decode cX12_part 314 = .ok (.invokevirtual 307, 3) := by decide +kernel
theorem dX12_part_317 : decode cX12_part 317 = .ok (.aload_n 0, 1) := by decide +kernel
theorem dX12_part_318 : decode cX12_part 318 = .ok (.getfield 95, 3) := by decide +kernel
theorem dX12_part_321 : decode cX12_part 321 = .ok (.ifCond .ne 34, 3) := by decide +kernel
theorem dX12_part_324 : decode cX12_part 324 = .ok (.aload_n 0, 1) := by decide +kernel
theorem dX12_part_325 : decode cX12_part 325 = .ok (.sipush 224, 3) := by decide +kernel
theorem dX12_part_328 : decode cX12_part 328 = .ok (.invokevirtual 112, 3) := by decide +kernel
theorem dX12_part_331 : decode cX12_part 331 = .ok (.ifCond .ne 24, 3) := by decide +kernel
theorem dX12_part_334 : decode cX12_part 334 = .ok (.aload_n 0, 1) := by decide +kernel
theorem dX12_part_335 : decode cX12_part 335 = .ok (.invokevirtual 361, 3) := by decide +kernel
theorem dX12_part_338 : decode cX12_part 338 = .ok (.aload_n 0, 1) := by decide +kernel
theorem dX12_part_339 : decode cX12_part 339 = .ok (.sipush 230, 3) := by decide +kernel
theorem dX12_part_342 : decode cX12_part 342 = .ok (.invokevirtual 218, 3) := by decide +kernel
theorem dX12_part_345 : decode cX12_part 345 = .ok (.ifCond .eq 10, 3) := by decide +kernel
theorem dX12_part_348 : decode cX12_part 348 = .ok (.aload_n 0, 1) := by decide +kernel
theorem dX12_part_349 : decode cX12_part 349 = .ok (.invokevirtual 361, 3) := by decide +kernel
theorem dX12_part_352 : decode cX12_part 352 = .ok (.goto (-14), 3) := by decide +kernel
theorem dX12_part_355 : decode cX12_part 355 = .ok (.aload_n 0, 1) := by decide +kernel
theorem dX12_part_356 : decode cX12_part 356 = .ok (.sipush 224, 3) := by decide +kernel
theorem dX12_part_359 : decode cX12_part 359 = .ok (.invokevirtual 314, 3) := by decide +kernel
theorem dX12_part_362 : decode cX12_part 362 = .ok (.aload_n 0, 1) := by decide +kernel
theorem dX12_part_363 : decode cX12_part 363 = .ok (.sipush 225, 3) := by decide +kernel
theorem dX12_part_366 : decode cX12_part 366 = .ok (.invokevirtual 307, 3) := by decide +kernel
theorem dX12_part_369 : decode cX12_part 369 = .ok (.aload_n 0, 1) := by decide +kernel
theorem dX12_part_370 : decode cX12_part 370 = .ok (.getfield 101, 3) := by decide +kernel
theorem dX12_part_373 : decode cX12_part 373 = .ok (.ifCond .eq 23, 3) := by decide +kernel
theorem dX12_part_376 : decode cX12_part 376 = .ok (.aload_n 0, 1) := by decide +kernel
theorem dX12_part_377 : decode cX12_part 377 = .ok (.getfield 95, 3) := by decide +kernel
theorem dX12_part_380 : decode cX12_part 380 = .ok (.ifCond .ne 16, 3) := by decide +kernel
theorem dX12_part_383 : decode cX12_part 383 = .ok (.aload_n 0, 1) := by decide +kernel
theorem dX12_part_384 : decode cX12_part 384 = .ok (.getfield 364, 3) := by decide +kernel
theorem dX12_part_387 : decode cX12_part 387 = .ok (.aload_n 0, 1) := by decide +kernel
theorem dX12_part_388 : decode cX12_part 388 = .ok (.getfield 236, 3) := by decide +kernel
theorem dX12_part_391 : decode cX12_part 391 = .ok (.aload_n 0, 1) := by decide +kernel
theorem dX12_part_392 : decode cX12_part 392 = .ok (.invokevirtual 151, 3) := by decide +kernel
theorem dX12_part_395 : decode cX12_part 395 = .ok (.iastore, 1) := by decide +kernel
theorem dX12_part_396 : decode cX12_part 396 = .ok (.aload_n 0, 1) := by decide +kernel
theorem dX12_part_397 : decode cX12_part 397 = .ok (.bipush 100, 2) := by decide +kernel
theorem dX12_part_399 : decode cX12_part 399 = .ok (.invokevirtual 112, 3) := by decide +kernel
theorem dX12_part_402 : decode cX12_part 402 = .ok (.ifCond .eq 12, 3) := by decide +kernel
theorem dX12_part_405 : decode cX12_part 405 = .ok (.aload_n 0, 1) := by decide +kernel
theorem dX12_part_406 : decode cX12_part 406 = .ok (.iconst 0, 1) := by decide +kernel
theorem dX12_part_407 : decode cX12_part 407 = .ok (.iconst 1, 1) := by decide +kernel
theorem dX12_part_408 : decode cX12_part 408 = .ok (.invokevirtual 367, 3) := by decide +kernel
theorem dX12_part_411 : decode cX12_part 411 = .ok (.goto (-15), 3) := by decide +kernel
theorem dX12_part_414 : decode cX12_part 414 = .ok (.aload_n 0, 1) := by decide +kernel
theorem dX12_part_415 : decode cX12_part 415 = .ok (.getfield 95, 3) := by decide +kernel
theorem dX12_part_418 : decode cX12_part 418 = .ok (.ifCond .ne 20, 3) := by decide +kernel
theorem dX12_part_421 : decode cX12_part 421 = .ok (.aload_n 0, 1) := by decide +kernel
theorem dX12_part_422 : decode cX12_part 422 = .ok (.sipush 226, 3) := by decide +kernel
theorem dX12_part_425 : decode cX12_part 425 = .ok (.invokevirtual 112, 3) := by decide +kernel
theorem dX12_part_428 : decode cX12_part 428 = .ok (.ifCond .ne 10, 3) := by decide +kernel
theorem dX12_part_431 : decode cX12_part 431 = .ok (.aload_n 0, 1) := by decide +kernel
theorem dX12_part_432 : decode cX12_part 432 = .ok (.invokevirtual 371, 3) := by decide +kernel
theorem dX12_part_435 : decode cX12_part 435 = .ok (.goto (-21), 3) := by decide +kernel
theorem dX12_part_438 : decode cX12_part 438 = .ok (.aload_n 0, 1) := by decide +kernel
theorem dX12_part_439 : decode cX12_part 439 = .ok (.sipush 226, 3) := by decide +kernel
theorem dX12_part_442 : decode cX12_part 442 = .ok (.invokevirtual 314, 3) := by decide +kernel
theorem dX12_part_445 : decode cX12_part 445 = .ok (.iload_n 1, 1) := by decide +kernel
theorem dX12_part_446 : decode cX12_part 446 = .ok (.ifCond .eq 21, 3) := by decide +kernel
theorem dX12_part_449 : decode cX12_part 449 = .ok (.aload_n 0, 1) := by decide +kernel
theorem dX12_part_450 : decode cX12_part 450 = .ok (.lconst 0, 1) := by decide +kernel
theorem dX12_part_451 : decode cX12_part 451 = .ok (.invokevirtual 374, 3) := by decide +kernel
theorem dX12_part_454 : decode cX12_part 454 = .ok (.aload_n 0, 1) := by decide +kernel
theorem dX12_part_455 : decode cX12_part 455 = .ok (.bipush 34, 2) := by decide +kernel
theorem dX12_part_457 : decode cX12_part 457 = .ok (.iload_n 2, 1) := by decide +kernel
theorem dX12_part_458 : decode cX12_part 458 = .ok (.iconst 0, 1) := by decide +kernel
theorem dX12_part_459 : decode cX12_part 459 = .ok (.invokevirtual 144, 3) := by decide +kernel
theorem dX12_part_462 : decode cX12_part 462 = .ok (.istore 4, 2) := by decide +kernel
theorem dX12_part_464 : decode cX12_part 464 = .ok (.goto 13, 3) := by decide +kernel
theorem dX12_part_467 : decode cX12_part 467 = .ok (.aload_n 0, 1) := by decide +kernel
theorem dX12_part_468 : decode cX12_part 468 = .ok (.bipush 33, 2) := by decide +kernel
theorem dX12_part_470 : decode cX12_part 470 = .ok (.iconst 0, 1) := by decide +kernel
theorem dX12_part_471 : decode cX12_part 471 = .ok (.iconst 0, 1) := by decide +kernel
theorem dX12_part_472 : decode cX12_part 472 = .ok (.invokevirtual 144, 3) := by decide +kernel
theorem dX12_part_475 : decode cX12_part 475 = .ok (.istore 4, 2) := by decide +kernel
theorem dX12_part_477 : decode cX12_part 477 = .ok (.aload_n 0, 1) := by decide +kernel
theorem dX12_part_478 : decode cX12_part 478 = .ok (.iconst 0, 1) := by decide +kernel
theorem dX12_part_479 : decode cX12_part 479 = .ok (.putfield 186, 3) := by decide +kernel
theorem dX12_part_482 : decode cX12_part 482 = .ok (.return_, 1) := by decide +kernel
abbrev cX12_instance : ByteArray := prog_14_method_51_code
def yX12_instance : MethodName := ⟨RX12, "instance", "(I)V"⟩
theorem dX12_instance_0 : decode cX12_instance 0 = .ok (.aload_n 0, 1) := by decide +kernel
theorem dX12_instance_1 : decode cX12_instance 1 = .ok (.iconst 1, 1) := by decide +kernel
theorem dX12_instance_2 : decode cX12_instance 2 = .ok (.invokevirtual 112, 3) := by decide +kernel
theorem dX12_instance_5 : decode cX12_instance 5 = .ok (.ifCond .ne 8, 3) := by decide +kernel
theorem dX12_instance_8 : decode cX12_instance 8 = .ok (.aload_n 0, 1) := by decide +kernel
theorem dX12_instance_9 : decode cX12_instance 9 = .ok (.invokevirtual 115, 3) := by decide +kernel
theorem dX12_instance_12 : decode cX12_instance 12 = .ok (.return_, 1) := by decide +kernel
theorem dX12_instance_13 : decode cX12_instance 13 = .ok (.aload_n 0, 1) := by decide +kernel
theorem dX12_instance_14 : decode cX12_instance 14 = .ok (.iconst 1, 1) := by decide +kernel
theorem dX12_instance_15 : decode cX12_instance 15 = .ok (.aload_n 0, 1) := by decide +kernel
theorem dX12_instance_16 : decode cX12_instance 16 = .ok (.getfield 384, 3) := by decide +kernel
theorem dX12_instance_19 : decode cX12_instance 19 = .ok (.aload_n 0, 1) := by decide +kernel
theorem dX12_instance_20 : decode cX12_instance 20 = .ok (.getfield 129, 3) := by decide +kernel
theorem dX12_instance_23 : decode cX12_instance 23 = .ok (.iaload, 1) := by decide +kernel
theorem dX12_instance_24 : decode cX12_instance 24 = .ok (.aload_n 0, 1) := by decide +kernel
theorem dX12_instance_25 : decode cX12_instance 25 = .ok (.getfield 384, 3) := by decide +kernel
theorem dX12_instance_28 : decode cX12_instance 28 = .ok (.aload_n 0, 1) := by decide +kernel
theorem dX12_instance_29 : decode cX12_instance 29 = .ok (.getfield 129, 3) := by decide +kernel
theorem dX12_instance_32 : decode cX12_instance 32 = .ok (.iaload, 1) := by decide +kernel
theorem dX12_instance_33 : decode cX12_instance 33 = .ok (.bipush 24, 2) := by decide +kernel
theorem dX12_instance_35 : decode cX12_instance 35 = .ok (.if_icmp .ne 7, 3) := by decide +kernel
theorem dX12_instance_38 : decode cX12_instance 38 = .ok (.iconst 1, 1) := by decide +kernel
theorem dX12_instance_39 : decode cX12_instance 39 = .ok (.goto 4, 3) := by decide +kernel
theorem dX12_instance_42 : decode cX12_instance 42 = .ok (.iconst 0, 1) := by decide +kernel
theorem dX12_instance_43 : decode cX12_instance 43 = .ok (.invokevirtual 303, 3) := by decide +kernel
theorem dX12_instance_46 : decode cX12_instance 46 = .ok (.iconst 0, 1) := by decide +kernel
theorem dX12_instance_47 : decode cX12_instance 47 = .ok (.istore_n 2, 1) := by decide +kernel
theorem dX12_instance_48 : decode cX12_instance 48 = .ok (.iconst 0, 1) := by decide +kernel
theorem dX12_instance_49 : decode cX12_instance 49 = .ok (.istore_n 3, 1) := by decide +kernel
theorem dX12_instance_50 : decode cX12_instance 50 = .ok (.aload_n 0, 1) := by decide +kernel
theorem dX12_instance_51 : decode cX12_instance 51 = .ok (.getfield 101, 3) := by decide +kernel
theorem dX12_instance_54 : decode cX12_instance 54 = .ok (.ifCond .eq 111, 3) := by decide +kernel
theorem dX12_instance_57 : decode cX12_instance 57 = .ok (.aload_n 0, 1) := by decide +kernel
theorem dX12_instance_58 : decode cX12_instance 58 = .ok (.getfield 95, 3) := by decide +kernel
theorem dX12_instance_61 : decode cX12_instance 61 = .ok (.ifCond .ne 104, 3) := by decide +kernel
theorem dX12_instance_64 : decode cX12_instance 64 = .ok (.iload_n 3, 1) := by decide +kernel
theorem dX12_instance_65 : decode cX12_instance 65 = .ok (.aload_n 0, 1) := by decide +kernel
theorem dX12_instance_66 : decode cX12_instance 66 = .ok (.getfield 257, 3) := by decide +kernel
theorem dX12_instance_69 : decode cX12_instance 69 = .ok (.bipush 24, 2) := by decide +kernel
theorem dX12_instance_71 : decode cX12_instance 71 = .ok (.aload_n 0, 1) := by decide +kernel
theorem dX12_instance_72 : decode cX12_instance 72 = .ok (.getfield 129, 3) := by decide +kernel
theorem dX12_instance_75 : decode cX12_instance 75 = .ok (.imul, 1) := by decide +kernel
theorem dX12_instance_76 : decode cX12_instance 76 = .ok (.iload_n 1, 1) := by decide +kernel
theorem dX12_instance_77 : decode cX12_instance 77 = .ok (.iadd, 1) := by decide +kernel
theorem dX12_instance_78 : decode cX12_instance 78 = .ok (.iaload, 1) := by decide +kernel
theorem dX12_instance_79 : decode cX12_instance 79 = .ok (.if_icmp .ge 86, 3) := by decide +kernel
theorem dX12_instance_82 : decode cX12_instance 82 = .ok (.sipush 160, 3) := by decide +kernel
theorem dX12_instance_85 : decode cX12_instance 85 = .ok (.aload_n 0, 1) := by decide +kernel
theorem dX12_instance_86 : decode cX12_instance 86 = .ok (.getfield 129, 3) := by decide +kernel
theorem dX12_instance_89 : decode cX12_instance 89 = .ok (.imul, 1) := by decide +kernel
theorem dX12_instance_90 : decode cX12_instance 90 = .ok (.aload_n 0, 1) := by decide +kernel
theorem dX12_instance_91 : decode cX12_instance 91 = .ok (.getfield 358, 3) := by decide +kernel
theorem dX12_instance_94 : decode cX12_instance 94 = .ok (.bipush 24, 2) := by decide +kernel
theorem dX12_instance_96 : decode cX12_instance 96 = .ok (.aload_n 0, 1) := by decide +kernel
theorem dX12_instance_97 : decode cX12_instance 97 = .ok (.getfield 129, 3) := by decide +kernel
theorem dX12_instance_100 : decode cX12_instance 100 = .ok (.imul, 1) := by decide +kernel
theorem dX12_instance_101 : decode cX12_instance 101 = .ok (.iload_n 1, 1) := by decide +kernel
theorem dX12_instance_102 : decode cX12_instance 102 = .ok (.iadd, 1) := by decide +kernel
theorem dX12_instance_103 : decode cX12_instance 103 = .ok (.iaload, 1) := by decide +kernel
theorem dX12_instance_104 : decode cX12_instance 104 = .ok (.iadd, 1) := by decide +kernel
theorem dX12_instance_105 : decode cX12_instance 105 = .ok (.iload_n 3, 1) := by decide +kernel
theorem dX12_instance_106 : decode cX12_instance 106 = .ok (.iadd, 1) := by decide +kernel
theorem dX12_instance_107 : decode cX12_instance 107 = .ok (.istore 4, 2) := by decide +kernel
theorem dX12_instance_109 : decode cX12_instance 109 = .ok (.aload_n 0, 1) := by decide +kernel
theorem dX12_instance_110 : decode cX12_instance 110 = .ok (.getfield 263, 3) := by decide +kernel
theorem dX12_instance_113 : decode cX12_instance 113 = .ok (.aload_n 0, 1) := by decide +kernel
theorem dX12_instance_114 : decode cX12_instance 114 = .ok (.getfield 242, 3) := by decide +kernel
theorem dX12_instance_117 : decode cX12_instance 117 = .ok (.iload 4, 2) := by decide +kernel
theorem dX12_instance_119 : decode cX12_instance 119 = .ok (.iaload, 1) := by decide +kernel
theorem dX12_instance_120 : decode cX12_instance 120 = .ok (.dup2, 1) := by decide +kernel
theorem dX12_instance_121 : decode cX12_instance 121 = .ok (.iaload, 1) := by decide +kernel
theorem dX12_instance_122 : decode cX12_instance 122 = .ok (.aload_n 0, 1) := by decide +kernel
theorem dX12_instance_123 : decode cX12_instance 123 = .ok (.getfield 245, 3) := by decide +kernel
theorem dX12_instance_126 : decode cX12_instance 126 = .ok (.iload 4, 2) := by decide +kernel
theorem dX12_instance_128 : decode cX12_instance 128 = .ok (.iaload, 1) := by decide +kernel
theorem dX12_instance_129 : decode cX12_instance 129 = .ok (.iadd, 1) := by decide +kernel
theorem dX12_instance_130 : decode cX12_instance 130 = .ok (.iastore, 1) := by decide +kernel
theorem dX12_instance_131 : decode cX12_instance 131 = .ok (.iload_n 2, 1) := by decide +kernel
theorem dX12_instance_132 : decode cX12_instance 132 = .ok (.ifCond .ne 21, 3) := by decide +kernel
theorem dX12_instance_135 : decode cX12_instance 135 = .ok (.aload_n 0, 1) := by decide +kernel
theorem dX12_instance_136 : decode cX12_instance 136 = .ok (.getfield 263, 3) := by decide +kernel
theorem dX12_instance_139 : decode cX12_instance 139 = .ok (.aload_n 0, 1) := by decide +kernel
theorem dX12_instance_140 : decode cX12_instance 140 = .ok (.getfield 242, 3) := by decide +kernel
theorem dX12_instance_143 : decode cX12_instance 143 = .ok (.iload 4, 2) := by decide +kernel
theorem dX12_instance_145 : decode cX12_instance 145 = .ok (.iaload, 1) := by decide +kernel
theorem dX12_instance_146 : decode cX12_instance 146 = .ok (.iaload, 1) := by decide +kernel
theorem dX12_instance_147 : decode cX12_instance 147 = .ok (.sipush 400, 3) := by decide +kernel
theorem dX12_instance_150 : decode cX12_instance 150 = .ok (.if_icmp .le 7, 3) := by decide +kernel
theorem dX12_instance_153 : decode cX12_instance 153 = .ok (.iconst 1, 1) := by decide +kernel
theorem dX12_instance_154 : decode cX12_instance 154 = .ok (.goto 4, 3) := by decide +kernel
theorem dX12_instance_157 : decode cX12_instance 157 = .ok (.iconst 0, 1) := by decide +kernel
theorem dX12_instance_158 : decode cX12_instance 158 = .ok (.istore_n 2, 1) := by decide +kernel
theorem dX12_instance_159 : decode cX12_instance 159 = .ok (.iinc 3 1, 3) := by decide +kernel
theorem dX12_instance_162 : decode cX12_instance 162 = .ok (.goto (-112), 3) := by decide +kernel
theorem dX12_instance_165 : decode cX12_instance 165 = .ok (.aload_n 0, 1) := by decide +kernel
theorem dX12_instance_166 : decode cX12_instance 166 = .ok (.iload_n 2, 1) := by decide +kernel
theorem dX12_instance_167 : decode cX12_instance 167 = .ok (.iconst 5, 1) := by decide +kernel
theorem dX12_instance_168 : decode cX12_instance 168 = .ok (.aload_n 0, 1) := by decide +kernel
theorem dX12_instance_169 : decode cX12_instance 169 = .ok (.getfield 35, 3) := by decide +kernel
theorem dX12_instance_172 : decode cX12_instance 172 = .ok (.aload_n 0, 1) := by decide +kernel
theorem dX12_instance_173 : decode cX12_instance 173 = .ok (.getfield 109, 3) := by decide +kernel
theorem dX12_instance_176 : decode cX12_instance 176 = .ok (.iaload, 1) := by decide +kernel
theorem dX12_instance_177 : decode cX12_instance 177 = .ok (.invokevirtual 202, 3) := by decide +kernel
theorem dX12_instance_180 : decode cX12_instance 180 = .ok (.aload_n 0, 1) := by decide +kernel
theorem dX12_instance_181 : decode cX12_instance 181 = .ok (.getfield 101, 3) := by decide +kernel
theorem dX12_instance_184 : decode cX12_instance 184 = .ok (.ifCond .eq 119, 3) := by decide +kernel
theorem dX12_instance_187 : decode cX12_instance 187 = .ok (.aload_n 0, 1) := by decide +kernel
theorem dX12_instance_188 : decode cX12_instance 188 = .ok (.getfield 95, 3) := by decide +kernel
theorem dX12_instance_191 : decode cX12_instance 191 = .ok (.ifCond .ne 112, 3) := by decide +kernel
theorem dX12_instance_194 : decode cX12_instance 194 = .ok (.bipush 24, 2) := by decide +kernel
theorem dX12_instance_196 : decode cX12_instance 196 = .ok (.aload_n 0, 1) := by decide +kernel
theorem dX12_instance_197 : decode cX12_instance 197 = .ok (.getfield 129, 3) := by decide +kernel
theorem dX12_instance_200 : decode cX12_instance 200 = .ok (.imul, 1) := by decide +kernel
theorem dX12_instance_201 : decode cX12_instance 201 = .ok (.aload_n 0, 1) := by decide +kernel
theorem dX12_instance_202 : decode cX12_instance 202 = .ok (.getfield 384, 3) := by decide +kernel
theorem dX12_instance_205 : decode cX12_instance 205 = .ok (.aload_n 0, 1) := by decide +kernel
theorem dX12_instance_206 : decode cX12_instance 206 = .ok (.getfield 129, 3) := by decide +kernel
theorem dX12_instance_209 : decode cX12_instance 209 = .ok (.iaload, 1) := by decide +kernel
theorem dX12_instance_210 : decode cX12_instance 210 = .ok (.iadd, 1) := by decide +kernel
theorem dX12_instance_211 : decode cX12_instance 211 = .ok (.istore_n 3, 1) := by decide +kernel
theorem dX12_instance_212 : decode cX12_instance 212 = .ok (.aload_n 0, 1) := by decide +kernel
theorem dX12_instance_213 : decode cX12_instance 213 = .ok (.getfield 387, 3) := by decide +kernel
theorem dX12_instance_216 : decode cX12_instance 216 = .ok (.iload_n 3, 1) := by decide +kernel
theorem dX12_instance_217 : decode cX12_instance 217 = .ok (.bipush 24, 2) := by decide +kernel
theorem dX12_instance_219 : decode cX12_instance 219 = .ok (.aload_n 0, 1) := by decide +kernel
theorem dX12_instance_220 : decode cX12_instance 220 = .ok (.getfield 129, 3) := by decide +kernel
theorem dX12_instance_223 : decode cX12_instance 223 = .ok (.imul, 1) := by decide +kernel
theorem dX12_instance_224 : decode cX12_instance 224 = .ok (.iload_n 1, 1) := by decide +kernel
theorem dX12_instance_225 : decode cX12_instance 225 = .ok (.iadd, 1) := by decide +kernel
theorem dX12_instance_226 : decode cX12_instance 226 = .ok (.iastore, 1) := by decide +kernel
theorem dX12_instance_227 : decode cX12_instance 227 = .ok (.aload_n 0, 1) := by decide +kernel
theorem dX12_instance_228 : decode cX12_instance 228 = .ok (.getfield 390, 3) := by decide +kernel
theorem dX12_instance_231 : decode cX12_instance 231 = .ok (.iload_n 3, 1) := by decide +kernel
theorem dX12_instance_232 : decode cX12_instance 232 = .ok (.aload_n 0, 1) := by decide +kernel
theorem dX12_instance_233 : decode cX12_instance 233 = .ok (.getfield 296, 3) := by decide +kernel
theorem dX12_instance_236 : decode cX12_instance 236 = .ok (.iastore, 1) := by decide +kernel
theorem dX12_instance_237 : decode cX12_instance 237 = .ok (.aload_n 0, 1) := by decide +kernel
theorem dX12_instance_238 : decode cX12_instance 238 = .ok (.getfield 393, 3) := by decide +kernel
theorem dX12_instance_241 : decode cX12_instance 241 = .ok (.iload_n 3, 1) := by decide +kernel
theorem dX12_instance_242 : decode cX12_instance 242 = .ok (.aload_n 0, 1) := by decide +kernel
theorem dX12_instance_243 : decode cX12_instance 243 = .ok (.getfield 66, 3) := by decide +kernel
theorem dX12_instance_246 : decode cX12_instance 246 = .ok (.aload_n 0, 1) := by decide +kernel
theorem dX12_instance_247 : decode cX12_instance 247 = .ok (.getfield 109, 3) := by decide +kernel
theorem dX12_instance_250 : decode cX12_instance 250 = .ok (.laload, 1) := by decide +kernel
theorem dX12_instance_251 : decode cX12_instance 251 = .ok (.lastore, 1) := by decide +kernel
theorem dX12_instance_252 : decode cX12_instance 252 = .ok (.aload_n 0, 1) := by decide +kernel
theorem dX12_instance_253 : decode cX12_instance 253 = .ok (.getfield 396, 3) := by decide +kernel
theorem dX12_instance_256 : decode cX12_instance 256 = .ok (.iload_n 3, 1) := by decide +kernel
theorem dX12_instance_257 : decode cX12_instance 257 = .ok (.aload_n 0, 1) := by decide +kernel
theorem dX12_instance_258 : decode cX12_instance 258 = .ok (.getfield 73, 3) := by decide +kernel
theorem dX12_instance_261 : decode cX12_instance 261 = .ok (.aload_n 0, 1) := by decide +kernel
theorem dX12_instance_262 : decode cX12_instance 262 = .ok (.getfield 109, 3) := by decide +kernel
theorem dX12_instance_265 : decode cX12_instance 265 = .ok (.laload, 1) := by decide +kernel
theorem dX12_instance_266 : decode cX12_instance 266 = .ok (.lastore, 1) := by decide +kernel
theorem dX12_instance_267 : decode cX12_instance 267 = .ok (.aload_n 0, 1) := by decide +kernel
theorem dX12_instance_268 : decode cX12_instance 268 = .ok (.dup, 1) := by decide +kernel
theorem dX12_instance_269 : decode cX12_instance 269 = .ok (.getfield 296, 3) := by decide +kernel
theorem dX12_instance_272 : decode cX12_instance 272 = .ok (.aload_n 0, 1) := by decide +kernel
theorem dX12_instance_273 : decode cX12_instance 273 = .ok (.getfield 260, 3) := by decide +kernel
theorem dX12_instance_276 : decode cX12_instance 276 = .ok (.bipush 24, 2) := by decide +kernel
theorem dX12_instance_278 : decode cX12_instance 278 = .ok (.aload_n 0, 1) := by decide +kernel
theorem dX12_instance_279 : decode cX12_instance 279 = .ok (.getfield 129, 3) := by decide +kernel
theorem dX12_instance_282 : decode cX12_instance 282 = .ok (.imul, 1) := by decide +kernel
theorem dX12_instance_283 : decode cX12_instance 283 = .ok (.iload_n 1, 1) := by decide +kernel
theorem dX12_instance_284 : decode cX12_instance 284 = .ok (.iadd, 1) := by decide +kernel
theorem dX12_instance_285 : decode cX12_instance 285 = .ok (.iaload, 1) := by decide +kernel
theorem dX12_instance_286 : decode cX12_instance 286 = .ok (.iadd, 1) := by decide +kernel
theorem dX12_instance_287 : decode cX12_instance 287 = .ok (.putfield 296, 3) := by decide +kernel
theorem dX12_instance_290 : decode cX12_instance 290 = .ok (.aload_n 0, 1) := by decide +kernel
theorem dX12_instance_291 : decode cX12_instance 291 = .ok (.getfield 384, 3) := by decide +kernel
theorem dX12_instance_294 : decode cX12_instance 294 = .ok (.aload_n 0, 1) := by decide +kernel
theorem dX12_instance_295 : decode cX12_instance 295 = .ok (.getfield 129, 3) := by decide +kernel
theorem dX12_instance_298 : decode cX12_instance 298 = .ok (.dup2, 1) := by decide +kernel
theorem dX12_instance_299 : decode cX12_instance 299 = .ok (.iaload, 1) := by decide +kernel
theorem dX12_instance_300 : decode cX12_instance 300 = .ok (.iconst 1, 1) := by decide +kernel
theorem dX12_instance_301 : decode cX12_instance 301 = .ok (.iadd, 1) := by decide +kernel
theorem dX12_instance_302 : decode cX12_instance 302 = .ok (.iastore, 1) := by decide +kernel
theorem dX12_instance_303 : decode cX12_instance 303 = .ok (.aload_n 0, 1) := by decide +kernel
theorem dX12_instance_304 : decode cX12_instance 304 = .ok (.dup, 1) := by decide +kernel
theorem dX12_instance_305 : decode cX12_instance 305 = .ok (.getfield 109, 3) := by decide +kernel
theorem dX12_instance_308 : decode cX12_instance 308 = .ok (.iconst 1, 1) := by decide +kernel
theorem dX12_instance_309 : decode cX12_instance 309 = .ok (.iadd, 1) := by decide +kernel
theorem dX12_instance_310 : decode cX12_instance 310 = .ok (.putfield 109, 3) := by decide +kernel
theorem dX12_instance_313 : decode cX12_instance 313 = .ok (.return_, 1) := by decide +kernel
abbrev cX12_use : ByteArray := prog_14_method_50_code
def yX12_use : MethodName := ⟨RX12, "use", "()V"⟩
theorem dX12_use_0 : decode cX12_use 0 = .ok (.aload_n 0, 1) := by decide +kernel
theorem dX12_use_1 : decode cX12_use 1 = .ok (.dup, 1) := by decide +kernel
theorem dX12_use_2 : decode cX12_use 2 = .ok (.getfield 109, 3) := by decide +kernel
theorem dX12_use_5 : decode cX12_use 5 = .ok (.iconst 1, 1) := by decide +kernel
theorem dX12_use_6 : decode cX12_use 6 = .ok (.iadd, 1) := by decide +kernel
theorem dX12_use_7 : decode cX12_use 7 = .ok (.putfield 109, 3) := by decide +kernel
theorem dX12_use_10 : decode cX12_use 10 = .ok (.aload_n 0, 1) := by decide +kernel
theorem dX12_use_11 : decode cX12_use 11 = .ok (.iconst 1, 1) := by decide +kernel
theorem dX12_use_12 : decode cX12_use 12 = .ok (.invokevirtual 112, 3) := by decide +kernel
theorem dX12_use_15 : decode cX12_use 15 = .ok (.ifCond .ne 8, 3) := by decide +kernel
theorem dX12_use_18 : decode cX12_use 18 = .ok (.aload_n 0, 1) := by decide +kernel
theorem dX12_use_19 : decode cX12_use 19 = .ok (.invokevirtual 115, 3) := by decide +kernel
theorem dX12_use_22 : decode cX12_use 22 = .ok (.return_, 1) := by decide +kernel
theorem dX12_use_23 : decode cX12_use 23 = .ok (.aload_n 0, 1) := by decide +kernel
theorem dX12_use_24 : decode cX12_use 24 = .ok (.iconst 3, 1) := by decide +kernel
theorem dX12_use_25 : decode cX12_use 25 = .ok (.invokevirtual 378, 3) := by decide +kernel
theorem dX12_use_28 : decode cX12_use 28 = .ok (.istore_n 1, 1) := by decide +kernel
theorem dX12_use_29 : decode cX12_use 29 = .ok (.aload_n 0, 1) := by decide +kernel
theorem dX12_use_30 : decode cX12_use 30 = .ok (.iload_n 1, 1) := by decide +kernel
theorem dX12_use_31 : decode cX12_use 31 = .ok (.iconst (-1), 1) := by decide +kernel
theorem dX12_use_32 : decode cX12_use 32 = .ok (.if_icmp .ne 7, 3) := by decide +kernel
theorem dX12_use_35 : decode cX12_use 35 = .ok (.iconst 1, 1) := by decide +kernel
theorem dX12_use_36 : decode cX12_use 36 = .ok (.goto 4, 3) := by decide +kernel
theorem dX12_use_39 : decode cX12_use 39 = .ok (.iconst 0, 1) := by decide +kernel
theorem dX12_use_40 : decode cX12_use 40 = .ok (.iconst 3, 1) := by decide +kernel
theorem dX12_use_41 : decode cX12_use 41 = .ok (.aload_n 0, 1) := by decide +kernel
theorem dX12_use_42 : decode cX12_use 42 = .ok (.getfield 35, 3) := by decide +kernel
theorem dX12_use_45 : decode cX12_use 45 = .ok (.aload_n 0, 1) := by decide +kernel
theorem dX12_use_46 : decode cX12_use 46 = .ok (.getfield 109, 3) := by decide +kernel
theorem dX12_use_49 : decode cX12_use 49 = .ok (.iaload, 1) := by decide +kernel
theorem dX12_use_50 : decode cX12_use 50 = .ok (.invokevirtual 202, 3) := by decide +kernel
theorem dX12_use_53 : decode cX12_use 53 = .ok (.aload_n 0, 1) := by decide +kernel
theorem dX12_use_54 : decode cX12_use 54 = .ok (.dup, 1) := by decide +kernel
theorem dX12_use_55 : decode cX12_use 55 = .ok (.getfield 109, 3) := by decide +kernel
theorem dX12_use_58 : decode cX12_use 58 = .ok (.iconst 1, 1) := by decide +kernel
theorem dX12_use_59 : decode cX12_use 59 = .ok (.iadd, 1) := by decide +kernel
theorem dX12_use_60 : decode cX12_use 60 = .ok (.putfield 109, 3) := by decide +kernel
theorem dX12_use_63 : decode cX12_use 63 = .ok (.aload_n 0, 1) := by decide +kernel
theorem dX12_use_64 : decode cX12_use 64 = .ok (.iload_n 1, 1) := by decide +kernel
theorem dX12_use_65 : decode cX12_use 65 = .ok (.invokevirtual 381, 3) := by decide +kernel
theorem dX12_use_68 : decode cX12_use 68 = .ok (.aload_n 0, 1) := by decide +kernel
theorem dX12_use_69 : decode cX12_use 69 = .ok (.sipush 230, 3) := by decide +kernel
theorem dX12_use_72 : decode cX12_use 72 = .ok (.invokevirtual 218, 3) := by decide +kernel
theorem dX12_use_75 : decode cX12_use 75 = .ok (.ifCond .eq 11, 3) := by decide +kernel
theorem dX12_use_78 : decode cX12_use 78 = .ok (.aload_n 0, 1) := by decide +kernel
theorem dX12_use_79 : decode cX12_use 79 = .ok (.iload_n 1, 1) := by decide +kernel
theorem dX12_use_80 : decode cX12_use 80 = .ok (.invokevirtual 381, 3) := by decide +kernel
theorem dX12_use_83 : decode cX12_use 83 = .ok (.goto (-15), 3) := by decide +kernel
theorem dX12_use_86 : decode cX12_use 86 = .ok (.aload_n 0, 1) := by decide +kernel
theorem dX12_use_87 : decode cX12_use 87 = .ok (.sipush 229, 3) := by decide +kernel
theorem dX12_use_90 : decode cX12_use 90 = .ok (.invokevirtual 125, 3) := by decide +kernel
theorem dX12_use_93 : decode cX12_use 93 = .ok (.return_, 1) := by decide +kernel
abbrev cX12_tasked : ByteArray := prog_14_method_52_code
def yX12_tasked : MethodName := ⟨RX12, "tasked", "()V"⟩
theorem dX12_tasked_0 : decode cX12_tasked 0 = .ok (.aload_n 0, 1) := by decide +kernel
theorem dX12_tasked_1 : decode cX12_tasked 1 = .ok (.dup, 1) := by decide +kernel
theorem dX12_tasked_2 : decode cX12_tasked 2 = .ok (.getfield 109, 3) := by decide +kernel
theorem dX12_tasked_5 : decode cX12_tasked 5 = .ok (.iconst 1, 1) := by decide +kernel
theorem dX12_tasked_6 : decode cX12_tasked 6 = .ok (.iadd, 1) := by decide +kernel
theorem dX12_tasked_7 : decode cX12_tasked 7 = .ok (.putfield 109, 3) := by decide +kernel
theorem dX12_tasked_10 : decode cX12_tasked 10 = .ok (.aload_n 0, 1) := by decide +kernel
theorem dX12_tasked_11 : decode cX12_tasked 11 = .ok (.iconst 1, 1) := by decide +kernel
theorem dX12_tasked_12 : decode cX12_tasked 12 = .ok (.invokevirtual 112, 3) := by decide +kernel
theorem dX12_tasked_15 : decode cX12_tasked 15 = .ok (.ifCond .ne 8, 3) := by decide +kernel
theorem dX12_tasked_18 : decode cX12_tasked 18 = .ok (.aload_n 0, 1) := by decide +kernel
theorem dX12_tasked_19 : decode cX12_tasked 19 = .ok (.invokevirtual 115, 3) := by decide +kernel
theorem dX12_tasked_22 : decode cX12_tasked 22 = .ok (.return_, 1) := by decide +kernel
theorem dX12_tasked_23 : decode cX12_tasked 23 = .ok (.aload_n 0, 1) := by decide +kernel
theorem dX12_tasked_24 : decode cX12_tasked 24 = .ok (.iconst 2, 1) := by decide +kernel
theorem dX12_tasked_25 : decode cX12_tasked 25 = .ok (.aload_n 0, 1) := by decide +kernel
theorem dX12_tasked_26 : decode cX12_tasked 26 = .ok (.getfield 399, 3) := by decide +kernel
theorem dX12_tasked_29 : decode cX12_tasked 29 = .ok (.aload_n 0, 1) := by decide +kernel
theorem dX12_tasked_30 : decode cX12_tasked 30 = .ok (.getfield 129, 3) := by decide +kernel
theorem dX12_tasked_33 : decode cX12_tasked 33 = .ok (.iaload, 1) := by decide +kernel
theorem dX12_tasked_34 : decode cX12_tasked 34 = .ok (.aload_n 0, 1) := by decide +kernel
theorem dX12_tasked_35 : decode cX12_tasked 35 = .ok (.getfield 399, 3) := by decide +kernel
theorem dX12_tasked_38 : decode cX12_tasked 38 = .ok (.aload_n 0, 1) := by decide +kernel
theorem dX12_tasked_39 : decode cX12_tasked 39 = .ok (.getfield 129, 3) := by decide +kernel
theorem dX12_tasked_42 : decode cX12_tasked 42 = .ok (.iaload, 1) := by decide +kernel
theorem dX12_tasked_43 : decode cX12_tasked 43 = .ok (.bipush 8, 2) := by decide +kernel
theorem dX12_tasked_45 : decode cX12_tasked 45 = .ok (.if_icmp .ne 7, 3) := by decide +kernel
theorem dX12_tasked_48 : decode cX12_tasked 48 = .ok (.iconst 1, 1) := by decide +kernel
theorem dX12_tasked_49 : decode cX12_tasked 49 = .ok (.goto 4, 3) := by decide +kernel
theorem dX12_tasked_52 : decode cX12_tasked 52 = .ok (.iconst 0, 1) := by decide +kernel
theorem dX12_tasked_53 : decode cX12_tasked 53 = .ok (.invokevirtual 303, 3) := by decide +kernel
theorem dX12_tasked_56 : decode cX12_tasked 56 = .ok (.bipush 8, 2) := by decide +kernel
theorem dX12_tasked_58 : decode cX12_tasked 58 = .ok (.aload_n 0, 1) := by decide +kernel
theorem dX12_tasked_59 : decode cX12_tasked 59 = .ok (.getfield 129, 3) := by decide +kernel
theorem dX12_tasked_62 : decode cX12_tasked 62 = .ok (.imul, 1) := by decide +kernel
theorem dX12_tasked_63 : decode cX12_tasked 63 = .ok (.aload_n 0, 1) := by decide +kernel
theorem dX12_tasked_64 : decode cX12_tasked 64 = .ok (.getfield 399, 3) := by decide +kernel
theorem dX12_tasked_67 : decode cX12_tasked 67 = .ok (.aload_n 0, 1) := by decide +kernel
theorem dX12_tasked_68 : decode cX12_tasked 68 = .ok (.getfield 129, 3) := by decide +kernel
theorem dX12_tasked_71 : decode cX12_tasked 71 = .ok (.iaload, 1) := by decide +kernel
theorem dX12_tasked_72 : decode cX12_tasked 72 = .ok (.iadd, 1) := by decide +kernel
theorem dX12_tasked_73 : decode cX12_tasked 73 = .ok (.istore_n 1, 1) := by decide +kernel
theorem dX12_tasked_74 : decode cX12_tasked 74 = .ok (.aload_n 0, 1) := by decide +kernel
theorem dX12_tasked_75 : decode cX12_tasked 75 = .ok (.getfield 109, 3) := by decide +kernel
theorem dX12_tasked_78 : decode cX12_tasked 78 = .ok (.istore_n 2, 1) := by decide +kernel
theorem dX12_tasked_79 : decode cX12_tasked 79 = .ok (.aload_n 0, 1) := by decide +kernel
theorem dX12_tasked_80 : decode cX12_tasked 80 = .ok (.dup, 1) := by decide +kernel
theorem dX12_tasked_81 : decode cX12_tasked 81 = .ok (.getfield 109, 3) := by decide +kernel
theorem dX12_tasked_84 : decode cX12_tasked 84 = .ok (.iconst 1, 1) := by decide +kernel
theorem dX12_tasked_85 : decode cX12_tasked 85 = .ok (.iadd, 1) := by decide +kernel
theorem dX12_tasked_86 : decode cX12_tasked 86 = .ok (.putfield 109, 3) := by decide +kernel
theorem dX12_tasked_89 : decode cX12_tasked 89 = .ok (.aload_n 0, 1) := by decide +kernel
theorem dX12_tasked_90 : decode cX12_tasked 90 = .ok (.bipush 109, 2) := by decide +kernel
theorem dX12_tasked_92 : decode cX12_tasked 92 = .ok (.invokevirtual 125, 3) := by decide +kernel
theorem dX12_tasked_95 : decode cX12_tasked 95 = .ok (.aload_n 0, 1) := by decide +kernel
theorem dX12_tasked_96 : decode cX12_tasked 96 = .ok (.iconst 1, 1) := by decide +kernel
theorem dX12_tasked_97 : decode cX12_tasked 97 = .ok (.sipush 1000, 3) := by decide +kernel
theorem dX12_tasked_100 : decode cX12_tasked 100 = .ok (.invokevirtual 310, 3) := by decide +kernel
theorem dX12_tasked_103 : decode cX12_tasked 103 = .ok (.istore_n 3, 1) := by decide +kernel
theorem dX12_tasked_104 : decode cX12_tasked 104 = .ok (.aload_n 0, 1) := by decide +kernel
theorem dX12_tasked_105 : decode cX12_tasked 105 = .ok (.bipush 110, 2) := by decide +kernel
theorem dX12_tasked_107 : decode cX12_tasked 107 = .ok (.invokevirtual 218, 3) := by decide +kernel
theorem dX12_tasked_110 : decode cX12_tasked 110 = .ok (.ifCond .eq 14, 3) := by decide +kernel
theorem dX12_tasked_113 : decode cX12_tasked 113 = .ok (.aload_n 0, 1) := by decide +kernel
theorem dX12_tasked_114 : decode cX12_tasked 114 = .ok (.iconst 0, 1) := by decide +kernel
theorem dX12_tasked_115 : decode cX12_tasked 115 = .ok (.iload_n 3, 1) := by decide +kernel
theorem dX12_tasked_116 : decode cX12_tasked 116 = .ok (.iconst 1, 1) := by decide +kernel
theorem dX12_tasked_117 : decode cX12_tasked 117 = .ok (.isub, 1) := by decide +kernel
theorem dX12_tasked_118 : decode cX12_tasked 118 = .ok (.invokevirtual 310, 3) := by decide +kernel
theorem dX12_tasked_121 : decode cX12_tasked 121 = .ok (.goto 4, 3) := by decide +kernel
theorem dX12_tasked_124 : decode cX12_tasked 124 = .ok (.iconst 0, 1) := by decide +kernel
theorem dX12_tasked_125 : decode cX12_tasked 125 = .ok (.istore 4, 2) := by decide +kernel
theorem dX12_tasked_127 : decode cX12_tasked 127 = .ok (.aload_n 0, 1) := by decide +kernel
theorem dX12_tasked_128 : decode cX12_tasked 128 = .ok (.iconst 1, 1) := by decide +kernel
theorem dX12_tasked_129 : decode cX12_tasked 129 = .ok (.putfield 186, 3) := by decide +kernel
theorem dX12_tasked_132 : decode cX12_tasked 132 = .ok (.aload_n 0, 1) := by decide +kernel
theorem dX12_tasked_133 : decode cX12_tasked 133 = .ok (.iconst 0, 1) := by decide +kernel
theorem dX12_tasked_134 : decode cX12_tasked 134 = .ok (.putfield 346, 3) := by decide +kernel
theorem dX12_tasked_137 : decode cX12_tasked 137 = .ok (.aload_n 0, 1) := by decide +kernel
theorem dX12_tasked_138 : decode cX12_tasked 138 = .ok (.getfield 101, 3) := by decide +kernel
theorem dX12_tasked_141 : decode cX12_tasked 141 = .ok (.ifCond .eq 72, 3) := by decide +kernel
theorem dX12_tasked_144 : decode cX12_tasked 144 = .ok (.aload_n 0, 1) := by decide +kernel
theorem dX12_tasked_145 : decode cX12_tasked 145 = .ok (.getfield 95, 3) := by decide +kernel
theorem dX12_tasked_148 : decode cX12_tasked 148 = .ok (.ifCond .ne 65, 3) := by decide +kernel
theorem dX12_tasked_151 : decode cX12_tasked 151 = .ok (.aload_n 0, 1) := by decide +kernel
theorem dX12_tasked_152 : decode cX12_tasked 152 = .ok (.getfield 402, 3) := by decide +kernel
theorem dX12_tasked_155 : decode cX12_tasked 155 = .ok (.iload_n 1, 1) := by decide +kernel
theorem dX12_tasked_156 : decode cX12_tasked 156 = .ok (.iload_n 3, 1) := by decide +kernel
theorem dX12_tasked_157 : decode cX12_tasked 157 = .ok (.iastore, 1) := by decide +kernel
theorem dX12_tasked_158 : decode cX12_tasked 158 = .ok (.aload_n 0, 1) := by decide +kernel
theorem dX12_tasked_159 : decode cX12_tasked 159 = .ok (.getfield 405, 3) := by decide +kernel
theorem dX12_tasked_162 : decode cX12_tasked 162 = .ok (.iload_n 1, 1) := by decide +kernel
theorem dX12_tasked_163 : decode cX12_tasked 163 = .ok (.iload 4, 2) := by decide +kernel
theorem dX12_tasked_165 : decode cX12_tasked 165 = .ok (.iastore, 1) := by decide +kernel
theorem dX12_tasked_166 : decode cX12_tasked 166 = .ok (.aload_n 0, 1) := by decide +kernel
theorem dX12_tasked_167 : decode cX12_tasked 167 = .ok (.getfield 408, 3) := by decide +kernel
theorem dX12_tasked_170 : decode cX12_tasked 170 = .ok (.iload_n 1, 1) := by decide +kernel
theorem dX12_tasked_171 : decode cX12_tasked 171 = .ok (.aload_n 0, 1) := by decide +kernel
theorem dX12_tasked_172 : decode cX12_tasked 172 = .ok (.invokevirtual 151, 3) := by decide +kernel
theorem dX12_tasked_175 : decode cX12_tasked 175 = .ok (.iastore, 1) := by decide +kernel
theorem dX12_tasked_176 : decode cX12_tasked 176 = .ok (.aload_n 0, 1) := by decide +kernel
theorem dX12_tasked_177 : decode cX12_tasked 177 = .ok (.getfield 411, 3) := by decide +kernel
theorem dX12_tasked_180 : decode cX12_tasked 180 = .ok (.iload_n 1, 1) := by decide +kernel
theorem dX12_tasked_181 : decode cX12_tasked 181 = .ok (.aload_n 0, 1) := by decide +kernel
theorem dX12_tasked_182 : decode cX12_tasked 182 = .ok (.getfield 66, 3) := by decide +kernel
theorem dX12_tasked_185 : decode cX12_tasked 185 = .ok (.iload_n 2, 1) := by decide +kernel
theorem dX12_tasked_186 : decode cX12_tasked 186 = .ok (.laload, 1) := by decide +kernel
theorem dX12_tasked_187 : decode cX12_tasked 187 = .ok (.lastore, 1) := by decide +kernel
theorem dX12_tasked_188 : decode cX12_tasked 188 = .ok (.aload_n 0, 1) := by decide +kernel
theorem dX12_tasked_189 : decode cX12_tasked 189 = .ok (.getfield 414, 3) := by decide +kernel
theorem dX12_tasked_192 : decode cX12_tasked 192 = .ok (.iload_n 1, 1) := by decide +kernel
theorem dX12_tasked_193 : decode cX12_tasked 193 = .ok (.aload_n 0, 1) := by decide +kernel
theorem dX12_tasked_194 : decode cX12_tasked 194 = .ok (.getfield 73, 3) := by decide +kernel
theorem dX12_tasked_197 : decode cX12_tasked 197 = .ok (.iload_n 2, 1) := by decide +kernel
theorem dX12_tasked_198 : decode cX12_tasked 198 = .ok (.laload, 1) := by decide +kernel
theorem dX12_tasked_199 : decode cX12_tasked 199 = .ok (.lastore, 1) := by decide +kernel
theorem dX12_tasked_200 : decode cX12_tasked 200 = .ok (.aload_n 0, 1) := by decide +kernel
theorem dX12_tasked_201 : decode cX12_tasked 201 = .ok (.getfield 399, 3) := by decide +kernel
theorem dX12_tasked_204 : decode cX12_tasked 204 = .ok (.aload_n 0, 1) := by decide +kernel
theorem dX12_tasked_205 : decode cX12_tasked 205 = .ok (.getfield 129, 3) := by decide +kernel
theorem dX12_tasked_208 : decode cX12_tasked 208 = .ok (.dup2, 1) := by decide +kernel
theorem dX12_tasked_209 : decode cX12_tasked 209 = .ok (.iaload, 1) := by decide +kernel
theorem dX12_tasked_210 : decode cX12_tasked 210 = .ok (.iconst 1, 1) := by decide +kernel
theorem dX12_tasked_211 : decode cX12_tasked 211 = .ok (.iadd, 1) := by decide +kernel
theorem dX12_tasked_212 : decode cX12_tasked 212 = .ok (.iastore, 1) := by decide +kernel
theorem dX12_tasked_213 : decode cX12_tasked 213 = .ok (.aload_n 0, 1) := by decide +kernel
theorem dX12_tasked_214 : decode cX12_tasked 214 = .ok (.invokevirtual 417, 3) := by decide +kernel
theorem dX12_tasked_217 : decode cX12_tasked 217 = .ok (.aload_n 0, 1) := by decide +kernel
theorem dX12_tasked_218 : decode cX12_tasked 218 = .ok (.bipush 33, 2) := by decide +kernel
theorem dX12_tasked_220 : decode cX12_tasked 220 = .ok (.iconst 0, 1) := by decide +kernel
theorem dX12_tasked_221 : decode cX12_tasked 221 = .ok (.iconst 0, 1) := by decide +kernel
theorem dX12_tasked_222 : decode cX12_tasked 222 = .ok (.invokevirtual 144, 3) := by decide +kernel
theorem dX12_tasked_225 : decode cX12_tasked 225 = .ok (.istore 5, 2) := by decide +kernel
theorem dX12_tasked_227 : decode cX12_tasked 227 = .ok (.aload_n 0, 1) := by decide +kernel
theorem dX12_tasked_228 : decode cX12_tasked 228 = .ok (.iconst 0, 1) := by decide +kernel
theorem dX12_tasked_229 : decode cX12_tasked 229 = .ok (.putfield 186, 3) := by decide +kernel
theorem dX12_tasked_232 : decode cX12_tasked 232 = .ok (.return_, 1) := by decide +kernel
abbrev cX12_text : ByteArray := prog_14_method_53_code
def yX12_text : MethodName := ⟨RX12, "text", "()V"⟩
theorem dX12_text_0 : decode cX12_text 0 = .ok (.aload_n 0, 1) := by decide +kernel
theorem dX12_text_1 : decode cX12_text 1 = .ok (.getfield 95, 3) := by decide +kernel
theorem dX12_text_4 : decode cX12_text 4 = .ok (.ifCond .ne 143, 3) := by decide +kernel
theorem dX12_text_7 : decode cX12_text 7 = .ok (.aload_n 0, 1) := by decide +kernel
theorem dX12_text_8 : decode cX12_text 8 = .ok (.iconst 5, 1) := by decide +kernel
theorem dX12_text_9 : decode cX12_text 9 = .ok (.invokevirtual 112, 3) := by decide +kernel
theorem dX12_text_12 : decode cX12_text 12 = .ok (.ifCond .ne 135, 3) := by decide +kernel
theorem dX12_text_15 : decode cX12_text 15 = .ok (.aload_n 0, 1) := by decide +kernel
theorem dX12_text_16 : decode cX12_text 16 = .ok (.getfield 38, 3) := by decide +kernel
theorem dX12_text_19 : decode cX12_text 19 = .ok (.aload_n 0, 1) := by decide +kernel
theorem dX12_text_20 : decode cX12_text 20 = .ok (.getfield 109, 3) := by decide +kernel
theorem dX12_text_23 : decode cX12_text 23 = .ok (.iaload, 1) := by decide +kernel
theorem dX12_text_24 : decode cX12_text 24 = .ok (.tableswitch 116 100 108 #[52, 61, 70, 78, 116, 86, 94, 101, 109], 52) := by decide +kernel
theorem dX12_text_76 : decode cX12_text 76 = .ok (.aload_n 0, 1) := by decide +kernel
theorem dX12_text_77 : decode cX12_text 77 = .ok (.iconst 0, 1) := by decide +kernel
theorem dX12_text_78 : decode cX12_text 78 = .ok (.iconst 0, 1) := by decide +kernel
theorem dX12_text_79 : decode cX12_text 79 = .ok (.invokevirtual 367, 3) := by decide +kernel
theorem dX12_text_82 : decode cX12_text 82 = .ok (.goto (-82), 3) := by decide +kernel
theorem dX12_text_85 : decode cX12_text 85 = .ok (.aload_n 0, 1) := by decide +kernel
theorem dX12_text_86 : decode cX12_text 86 = .ok (.iconst 1, 1) := by decide +kernel
theorem dX12_text_87 : decode cX12_text 87 = .ok (.iconst 0, 1) := by decide +kernel
theorem dX12_text_88 : decode cX12_text 88 = .ok (.invokevirtual 367, 3) := by decide +kernel
theorem dX12_text_91 : decode cX12_text 91 = .ok (.goto (-91), 3) := by decide +kernel
theorem dX12_text_94 : decode cX12_text 94 = .ok (.aload_n 0, 1) := by decide +kernel
theorem dX12_text_95 : decode cX12_text 95 = .ok (.iconst 2, 1) := by decide +kernel
theorem dX12_text_96 : decode cX12_text 96 = .ok (.invokevirtual 420, 3) := by decide +kernel
theorem dX12_text_99 : decode cX12_text 99 = .ok (.goto (-99), 3) := by decide +kernel
theorem dX12_text_102 : decode cX12_text 102 = .ok (.aload_n 0, 1) := by decide +kernel
theorem dX12_text_103 : decode cX12_text 103 = .ok (.iconst 3, 1) := by decide +kernel
theorem dX12_text_104 : decode cX12_text 104 = .ok (.invokevirtual 420, 3) := by decide +kernel
theorem dX12_text_107 : decode cX12_text 107 = .ok (.goto (-107), 3) := by decide +kernel
theorem dX12_text_110 : decode cX12_text 110 = .ok (.aload_n 0, 1) := by decide +kernel
theorem dX12_text_111 : decode cX12_text 111 = .ok (.iconst 0, 1) := by decide +kernel
theorem dX12_text_112 : decode cX12_text 112 = .ok (.invokevirtual 423, 3) := by decide +kernel
theorem dX12_text_115 : decode cX12_text 115 = .ok (.goto (-115), 3) := by decide +kernel
theorem dX12_text_118 : decode cX12_text 118 = .ok (.aload_n 0, 1) := by decide +kernel
theorem dX12_text_119 : decode cX12_text 119 = .ok (.invokevirtual 426, 3) := by decide +kernel
theorem dX12_text_122 : decode cX12_text 122 = .ok (.goto (-122), 3) := by decide +kernel
theorem dX12_text_125 : decode cX12_text 125 = .ok (.aload_n 0, 1) := by decide +kernel
theorem dX12_text_126 : decode cX12_text 126 = .ok (.iconst 1, 1) := by decide +kernel
theorem dX12_text_127 : decode cX12_text 127 = .ok (.invokevirtual 423, 3) := by decide +kernel
theorem dX12_text_130 : decode cX12_text 130 = .ok (.goto (-130), 3) := by decide +kernel
theorem dX12_text_133 : decode cX12_text 133 = .ok (.aload_n 0, 1) := by decide +kernel
theorem dX12_text_134 : decode cX12_text 134 = .ok (.invokevirtual 429, 3) := by decide +kernel
theorem dX12_text_137 : decode cX12_text 137 = .ok (.goto (-137), 3) := by decide +kernel
theorem dX12_text_140 : decode cX12_text 140 = .ok (.aload_n 0, 1) := by decide +kernel
theorem dX12_text_141 : decode cX12_text 141 = .ok (.invokevirtual 115, 3) := by decide +kernel
theorem dX12_text_144 : decode cX12_text 144 = .ok (.goto (-144), 3) := by decide +kernel
theorem dX12_text_147 : decode cX12_text 147 = .ok (.return_, 1) := by decide +kernel
abbrev cX12_goThrough : ByteArray := prog_14_method_97_code
def yX12_goThrough : MethodName := ⟨RX12, "goThrough", "(Z)V"⟩
theorem dX12_goThrough_0 : decode cX12_goThrough 0 = .ok (.aload_n 0, 1) := by decide +kernel
theorem dX12_goThrough_1 : decode cX12_goThrough 1 = .ok (.iload_n 1, 1) := by decide +kernel
theorem dX12_goThrough_2 : decode cX12_goThrough 2 = .ok (.putfield 101, 3) := by decide +kernel
theorem dX12_goThrough_5 : decode cX12_goThrough 5 = .ok (.aload_n 0, 1) := by decide +kernel
theorem dX12_goThrough_6 : decode cX12_goThrough 6 = .ok (.iconst 0, 1) := by decide +kernel
theorem dX12_goThrough_7 : decode cX12_goThrough 7 = .ok (.putfield 109, 3) := by decide +kernel
theorem dX12_goThrough_10 : decode cX12_goThrough 10 = .ok (.aload_n 0, 1) := by decide +kernel
theorem dX12_goThrough_11 : decode cX12_goThrough 11 = .ok (.iconst 0, 1) := by decide +kernel
theorem dX12_goThrough_12 : decode cX12_goThrough 12 = .ok (.putfield 119, 3) := by decide +kernel
theorem dX12_goThrough_15 : decode cX12_goThrough 15 = .ok (.aload_n 0, 1) := by decide +kernel
theorem dX12_goThrough_16 : decode cX12_goThrough 16 = .ok (.iconst 0, 1) := by decide +kernel
theorem dX12_goThrough_17 : decode cX12_goThrough 17 = .ok (.putfield 186, 3) := by decide +kernel
theorem dX12_goThrough_20 : decode cX12_goThrough 20 = .ok (.aload_n 0, 1) := by decide +kernel
theorem dX12_goThrough_21 : decode cX12_goThrough 21 = .ok (.iconst 0, 1) := by decide +kernel
theorem dX12_goThrough_22 : decode cX12_goThrough 22 = .ok (.putfield 346, 3) := by decide +kernel
theorem dX12_goThrough_25 : decode cX12_goThrough 25 = .ok (.aload_n 0, 1) := by decide +kernel
theorem dX12_goThrough_26 : decode cX12_goThrough 26 = .ok (.invokevirtual 709, 3) := by decide +kernel
theorem dX12_goThrough_29 : decode cX12_goThrough 29 = .ok (.return_, 1) := by decide +kernel
theorem gs_11_10 : Cond.selects "SoftControllerModel" ⟨"SoftControllerModel", "instance", "(I)V"⟩ ⟨"SoftControllerModel", "instance", "(I)V"⟩ ∈ GW := gw_s (List.mem_map.mpr ⟨_, pin_11 _ (List.mem_of_getElem? (i := 10) rfl), rfl⟩) rfl
theorem gs_11_11 : Cond.selects "SoftControllerModel" ⟨"SoftControllerModel", "tasked", "()V"⟩ ⟨"SoftControllerModel", "tasked", "()V"⟩ ∈ GW := gw_s (List.mem_map.mpr ⟨_, pin_11 _ (List.mem_of_getElem? (i := 11) rfl), rfl⟩) rfl
theorem gs_11_9 : Cond.selects "SoftControllerModel" ⟨"SoftControllerModel", "use", "()V"⟩ ⟨"SoftControllerModel", "use", "()V"⟩ ∈ GW := gw_s (List.mem_map.mpr ⟨_, pin_11 _ (List.mem_of_getElem? (i := 9) rfl), rfl⟩) rfl
theorem gs_7_14 : Cond.selects "SoftControllerModel" ⟨"SoftControllerModel", "goThrough", "(Z)V"⟩ ⟨"SoftControllerModel", "goThrough", "(Z)V"⟩ ∈ GW := gw_s (List.mem_map.mpr ⟨_, pin_7 _ (List.mem_of_getElem? (i := 14) rfl), rfl⟩) rfl
theorem gs_7_15 : Cond.selects "SoftControllerModel" ⟨"SoftControllerModel", "text", "()V"⟩ ⟨"SoftControllerModel", "text", "()V"⟩ ∈ GW := gw_s (List.mem_map.mpr ⟨_, pin_7 _ (List.mem_of_getElem? (i := 15) rfl), rfl⟩) rfl
theorem gs_8_1 : Cond.selects "SoftControllerModel" ⟨"SoftControllerModel", "variables", "(IZ)V"⟩ ⟨"SoftControllerModel", "variables", "(IZ)V"⟩ ∈ GW := gw_s (List.mem_map.mpr ⟨_, pin_8 _ (List.mem_of_getElem? (i := 1) rfl), rfl⟩) rfl
theorem gs_8_5 : Cond.selects "SoftControllerModel" ⟨"SoftControllerModel", "one", "(IIZ)V"⟩ ⟨"SoftControllerModel", "one", "(IIZ)V"⟩ ∈ GW := gw_s (List.mem_map.mpr ⟨_, pin_8 _ (List.mem_of_getElem? (i := 5) rfl), rfl⟩) rfl
theorem gs_9_5 : Cond.selects "SoftControllerModel" ⟨"SoftControllerModel", "image", "(I)V"⟩ ⟨"SoftControllerModel", "image", "(I)V"⟩ ∈ GW := gw_s (List.mem_map.mpr ⟨_, pin_9 _ (List.mem_of_getElem? (i := 5) rfl), rfl⟩) rfl
theorem gs_9_6 : Cond.selects "SoftControllerModel" ⟨"SoftControllerModel", "part", "(Z)V"⟩ ⟨"SoftControllerModel", "part", "(Z)V"⟩ ∈ GW := gw_s (List.mem_map.mpr ⟨_, pin_9 _ (List.mem_of_getElem? (i := 6) rfl), rfl⟩) rfl
theorem gs_9_7 : Cond.selects "SoftControllerModel" ⟨"SoftControllerModel", "parameter", "()V"⟩ ⟨"SoftControllerModel", "parameter", "()V"⟩ ∈ GW := gw_s (List.mem_map.mpr ⟨_, pin_9 _ (List.mem_of_getElem? (i := 7) rfl), rfl⟩) rfl
theorem gw_2312 : (Jvm.Cond.methodLink "SoftControllerModel" (715 : Nat) ({ cls := "SoftControllerModel", name := "goThrough", desc := "(Z)V" } : Jvm.MethodName)) ∈ GW := gw_t (tin_10 _ (List.mem_of_getElem? (i := 152) rfl)) rfl
theorem gw_2314 : (Jvm.Cond.instanceMethod ({ cls := "SoftControllerModel", name := "goThrough", desc := "(Z)V" } : Jvm.MethodName)) ∈ GW := gw_t (tin_10 _ (List.mem_of_getElem? (i := 154) rfl)) rfl
theorem gw_2315 : (Jvm.Cond.code ({ cls := "SoftControllerModel", name := "goThrough", desc := "(Z)V" } : Jvm.MethodName) prog_14_method_97_code (2 : Nat) (Option.none : Option Jvm.ClassFile.FieldType)) ∈ GW := gw_t (tin_10 _ (List.mem_of_getElem? (i := 155) rfl)) rfl
theorem gw_2316 : (Jvm.Cond.methodLink "SoftControllerModel" (709 : Nat) ({ cls := "SoftControllerModel", name := "text", desc := "()V" } : Jvm.MethodName)) ∈ GW := gw_t (tin_10 _ (List.mem_of_getElem? (i := 156) rfl)) rfl
theorem gw_2318 : (Jvm.Cond.instanceMethod ({ cls := "SoftControllerModel", name := "text", desc := "()V" } : Jvm.MethodName)) ∈ GW := gw_t (tin_10 _ (List.mem_of_getElem? (i := 158) rfl)) rfl
theorem gw_2319 : (Jvm.Cond.code ({ cls := "SoftControllerModel", name := "text", desc := "()V" } : Jvm.MethodName) prog_14_method_53_code (1 : Nat) (Option.none : Option Jvm.ClassFile.FieldType)) ∈ GW := gw_t (tin_10 _ (List.mem_of_getElem? (i := 159) rfl)) rfl
theorem gw_2324 : (Jvm.Cond.methodLink "SoftControllerModel" (367 : Nat) ({ cls := "SoftControllerModel", name := "variables", desc := "(IZ)V" } : Jvm.MethodName)) ∈ GW := gw_t (tin_10 _ (List.mem_of_getElem? (i := 164) rfl)) rfl
theorem gw_2326 : (Jvm.Cond.instanceMethod ({ cls := "SoftControllerModel", name := "variables", desc := "(IZ)V" } : Jvm.MethodName)) ∈ GW := gw_t (tin_10 _ (List.mem_of_getElem? (i := 166) rfl)) rfl
theorem gw_2327 : (Jvm.Cond.code ({ cls := "SoftControllerModel", name := "variables", desc := "(IZ)V" } : Jvm.MethodName) prog_14_method_46_code (4 : Nat) (Option.none : Option Jvm.ClassFile.FieldType)) ∈ GW := gw_t (tin_10 _ (List.mem_of_getElem? (i := 167) rfl)) rfl
theorem gw_2340 : (Jvm.Cond.methodLink "SoftControllerModel" (334 : Nat) ({ cls := "SoftControllerModel", name := "one", desc := "(IIZ)V" } : Jvm.MethodName)) ∈ GW := gw_t (tin_10 _ (List.mem_of_getElem? (i := 180) rfl)) rfl
theorem gw_2342 : (Jvm.Cond.instanceMethod ({ cls := "SoftControllerModel", name := "one", desc := "(IIZ)V" } : Jvm.MethodName)) ∈ GW := gw_t (tin_10 _ (List.mem_of_getElem? (i := 182) rfl)) rfl
theorem gw_2343 : (Jvm.Cond.code ({ cls := "SoftControllerModel", name := "one", desc := "(IIZ)V" } : Jvm.MethodName) prog_14_method_45_code (9 : Nat) (Option.none : Option Jvm.ClassFile.FieldType)) ∈ GW := gw_t (tin_10 _ (List.mem_of_getElem? (i := 183) rfl)) rfl
theorem gw_2421 : (Jvm.Cond.methodLink "SoftControllerModel" (420 : Nat) ({ cls := "SoftControllerModel", name := "image", desc := "(I)V" } : Jvm.MethodName)) ∈ GW := gw_t (tin_11 _ (List.mem_of_getElem? (i := 21) rfl)) rfl
theorem gw_2423 : (Jvm.Cond.instanceMethod ({ cls := "SoftControllerModel", name := "image", desc := "(I)V" } : Jvm.MethodName)) ∈ GW := gw_t (tin_11 _ (List.mem_of_getElem? (i := 23) rfl)) rfl
theorem gw_2424 : (Jvm.Cond.code ({ cls := "SoftControllerModel", name := "image", desc := "(I)V" } : Jvm.MethodName) prog_14_method_47_code (5 : Nat) (Option.none : Option Jvm.ClassFile.FieldType)) ∈ GW := gw_t (tin_11 _ (List.mem_of_getElem? (i := 24) rfl)) rfl
theorem gw_2428 : (Jvm.Cond.methodLink "SoftControllerModel" (423 : Nat) ({ cls := "SoftControllerModel", name := "part", desc := "(Z)V" } : Jvm.MethodName)) ∈ GW := gw_t (tin_11 _ (List.mem_of_getElem? (i := 28) rfl)) rfl
theorem gw_2430 : (Jvm.Cond.instanceMethod ({ cls := "SoftControllerModel", name := "part", desc := "(Z)V" } : Jvm.MethodName)) ∈ GW := gw_t (tin_11 _ (List.mem_of_getElem? (i := 30) rfl)) rfl
theorem gw_2431 : (Jvm.Cond.code ({ cls := "SoftControllerModel", name := "part", desc := "(Z)V" } : Jvm.MethodName) prog_14_method_48_code (5 : Nat) (Option.none : Option Jvm.ClassFile.FieldType)) ∈ GW := gw_t (tin_11 _ (List.mem_of_getElem? (i := 31) rfl)) rfl
theorem gw_2432 : (Jvm.Cond.methodLink "SoftControllerModel" (361 : Nat) ({ cls := "SoftControllerModel", name := "parameter", desc := "()V" } : Jvm.MethodName)) ∈ GW := gw_t (tin_11 _ (List.mem_of_getElem? (i := 32) rfl)) rfl
theorem gw_2434 : (Jvm.Cond.instanceMethod ({ cls := "SoftControllerModel", name := "parameter", desc := "()V" } : Jvm.MethodName)) ∈ GW := gw_t (tin_11 _ (List.mem_of_getElem? (i := 34) rfl)) rfl
theorem gw_2435 : (Jvm.Cond.code ({ cls := "SoftControllerModel", name := "parameter", desc := "()V" } : Jvm.MethodName) prog_14_method_49_code (2 : Nat) (Option.none : Option Jvm.ClassFile.FieldType)) ∈ GW := gw_t (tin_11 _ (List.mem_of_getElem? (i := 35) rfl)) rfl
theorem gw_2568 : (Jvm.Cond.methodLink "SoftControllerModel" (426 : Nat) ({ cls := "SoftControllerModel", name := "use", desc := "()V" } : Jvm.MethodName)) ∈ GW := gw_t (tin_11 _ (List.mem_of_getElem? (i := 168) rfl)) rfl
theorem gw_2570 : (Jvm.Cond.instanceMethod ({ cls := "SoftControllerModel", name := "use", desc := "()V" } : Jvm.MethodName)) ∈ GW := gw_t (tin_11 _ (List.mem_of_getElem? (i := 170) rfl)) rfl
theorem gw_2571 : (Jvm.Cond.code ({ cls := "SoftControllerModel", name := "use", desc := "()V" } : Jvm.MethodName) prog_14_method_50_code (2 : Nat) (Option.none : Option Jvm.ClassFile.FieldType)) ∈ GW := gw_t (tin_11 _ (List.mem_of_getElem? (i := 171) rfl)) rfl
theorem gw_2572 : (Jvm.Cond.methodLink "SoftControllerModel" (381 : Nat) ({ cls := "SoftControllerModel", name := "instance", desc := "(I)V" } : Jvm.MethodName)) ∈ GW := gw_t (tin_11 _ (List.mem_of_getElem? (i := 172) rfl)) rfl
theorem gw_2574 : (Jvm.Cond.instanceMethod ({ cls := "SoftControllerModel", name := "instance", desc := "(I)V" } : Jvm.MethodName)) ∈ GW := gw_t (tin_11 _ (List.mem_of_getElem? (i := 174) rfl)) rfl
theorem gw_2575 : (Jvm.Cond.code ({ cls := "SoftControllerModel", name := "instance", desc := "(I)V" } : Jvm.MethodName) prog_14_method_51_code (5 : Nat) (Option.none : Option Jvm.ClassFile.FieldType)) ∈ GW := gw_t (tin_11 _ (List.mem_of_getElem? (i := 175) rfl)) rfl
theorem gw_2576 : (Jvm.Cond.methodLink "SoftControllerModel" (429 : Nat) ({ cls := "SoftControllerModel", name := "tasked", desc := "()V" } : Jvm.MethodName)) ∈ GW := gw_t (tin_11 _ (List.mem_of_getElem? (i := 176) rfl)) rfl
theorem gw_2578 : (Jvm.Cond.instanceMethod ({ cls := "SoftControllerModel", name := "tasked", desc := "()V" } : Jvm.MethodName)) ∈ GW := gw_t (tin_11 _ (List.mem_of_getElem? (i := 178) rfl)) rfl
theorem gw_2579 : (Jvm.Cond.code ({ cls := "SoftControllerModel", name := "tasked", desc := "()V" } : Jvm.MethodName) prog_14_method_52_code (6 : Nat) (Option.none : Option Jvm.ClassFile.FieldType)) ∈ GW := gw_t (tin_11 _ (List.mem_of_getElem? (i := 179) rfl)) rfl
section ItemsRows
variable {p : Program} {l : Launch} {e : Env} {R : Room} {s : State} {m : MethodId} {args : Array Value} {below : List Frame} {meth : Method} {c : Code} {H : Heap} {locs : List Loc} {Q : State → Prop}
variable {ls : Array Slot} {D : va_G} {kA : Nat → ClassId} {V Z : Nat → Nat} {A : Nat → Prop} {N d : Nat} {w : RSt}
def B_one_150 (N : Nat) (l1 : Int32) (l2 : Int32) (l3 : Int32) (l4 : Int32) (l5 : Int32) (l6 : Int32) (l7 : Int64) (u : RSt) : Option (Int32 × RSt) := if l3 = (0 : Int32) then (bn (F_addVariable N l4 l1 l2 l5 l6 (-1) l7 u) fun _ u_2 => some (0, u_2)) else (bn (F_addSlot N l4 l1 l5 l6 l7 u) fun _ u_3 => some (0, u_3))
set_option maxHeartbeats 4000000 in
theorem b_one_150 {r : Int32} (X : RC p s m args c cX12_one 9 (Cond.code yX12_one cX12_one 9 none) D kA V A) (hE : REv p l e R s m args below meth c cX12_one D kA Z A Q w) (hF : 4 ≤ R.frames) (hL : 84 ≤ R.locals) {l1 : Int32} {l2 : Int32} {l3 : Int32} {l4 : Int32} {l5 : Int32} {l6 : Int32} {l7 : Int64}  {u : RSt} (h : B_one_150 N l1 l2 l3 l4 l5 l6 l7 u = some (r, w)) (hS : RS D kA Z A s u H locs) (hl : lv_has ls 9 [(0, .ref (Z 200)), (1, .int l1), (2, .int l2), (3, .int l3), (4, .int l4), (5, .int l5), (6, .int l6), (7, .long l7)]) : W p l e R s m args below meth c H locs 0 0 Q (F0 m 150 ls []) := by
  obtain ⟨⟨hx, hb, hml, hown, hts⟩, hK, hEV, hA⟩ := id X
  have hG : ∀ w ∈ GW, w.before args s = true := fun w h => hts w (List.mem_cons_of_mem _ h)
  unfold B_one_150 at h
  refine lv_iload_n hx hb dX12_one_150 rfl (lv_at hl 3 rfl) ?_
  refine lv_if_eq (tgt := 170) hx hb dX12_one_151 (by decide) (fun c_1 => ?_) (fun c_1 => ?_)
  · have h := ip (c_1) h
    refine lv_aload_n hx hb dX12_one_170 rfl (lv_at hl 0 rfl) ?_
    refine lv_iload hx hb dX12_one_171 (lv_at hl 4 rfl) ?_
    refine lv_iload_n hx hb dX12_one_173 rfl (lv_at hl 1 rfl) ?_
    refine lv_iload_n hx hb dX12_one_174 rfl (lv_at hl 2 rfl) ?_
    refine lv_iload hx hb dX12_one_175 (lv_at hl 5 rfl) ?_
    refine lv_iload hx hb dX12_one_177 (lv_at hl 6 rfl) ?_
    refine lv_iconst (v := (-1)) hx hb dX12_one_179 (by decide) ?_
    refine lv_lload hx hb dX12_one_180 (lv_at hl 7 rfl) ?_
    obtain ⟨r_u_2, u_2, h_u_2, h⟩ := bn_of h
    refine kc_addVariable X hS h_u_2 (Nat.le_trans (Nat.le_of_ble_eq_true rfl) hF) (Nat.le_trans (Nat.le_of_ble_eq_true rfl) hL) hl.1 (Nat.le_of_ble_eq_true rfl) dX12_one_182 (fun H locs hS => ?_)
    obtain ⟨-, rfl⟩ := so h
    exact hE _ _ _ _ hS dX12_one_185
  · have h := im (c_1) h
    refine lv_aload_n hx hb dX12_one_154 rfl (lv_at hl 0 rfl) ?_
    refine lv_iload hx hb dX12_one_155 (lv_at hl 4 rfl) ?_
    refine lv_iload_n hx hb dX12_one_157 rfl (lv_at hl 1 rfl) ?_
    refine lv_iload hx hb dX12_one_158 (lv_at hl 5 rfl) ?_
    refine lv_iload hx hb dX12_one_160 (lv_at hl 6 rfl) ?_
    refine lv_lload hx hb dX12_one_162 (lv_at hl 7 rfl) ?_
    obtain ⟨r_u_3, u_3, h_u_3, h⟩ := bn_of h
    refine kc_addSlot X hS h_u_3 (Nat.le_trans (Nat.le_of_ble_eq_true rfl) hF) (Nat.le_trans (Nat.le_of_ble_eq_true rfl) hL) hl.1 (Nat.le_of_ble_eq_true rfl) dX12_one_164 (fun H locs hS => ?_)
    refine lv_goto (tgt := 185) hx hb dX12_one_167 (by decide) ?_
    obtain ⟨-, rfl⟩ := so h
    exact hE _ _ _ _ hS dX12_one_185
def B_one_135 (N : Nat) (l1 : Int32) (l2 : Int32) (l3 : Int32) (l4 : Int32) (l5 : Int32) (l6 : Int32) (l7 : Int64) (s1 : Int32) (u : RSt) : Option (Int32 × RSt) := rd (u.2.2.1 3) 1502 ((u.1 65) - 1) fun v_4 => bn (F_wrong N s1 5 v_4 u) fun _ u_6 => B_one_150 N l1 l2 l3 l4 l5 l6 l7 u_6
set_option maxHeartbeats 4000000 in
theorem b_one_135 {r : Int32} (X : RC p s m args c cX12_one 9 (Cond.code yX12_one cX12_one 9 none) D kA V A) (hE : REv p l e R s m args below meth c cX12_one D kA Z A Q w) (hF : 4 ≤ R.frames) (hL : 84 ≤ R.locals) {l1 : Int32} {l2 : Int32} {l3 : Int32} {l4 : Int32} {l5 : Int32} {l6 : Int32} {l7 : Int64} {s1 : Int32}  {u : RSt} (h : B_one_135 N l1 l2 l3 l4 l5 l6 l7 s1 u = some (r, w)) (hS : RS D kA Z A s u H locs) (hl : lv_has ls 9 [(0, .ref (Z 200)), (1, .int l1), (2, .int l2), (3, .int l3), (4, .int l4), (5, .int l5), (6, .int l6), (7, .long l7)]) : W p l e R s m args below meth c H locs 0 0 Q (F0 m 135 ls [.int s1, .ref (Z 200)]) := by
  obtain ⟨⟨hx, hb, hml, hown, hts⟩, hK, hEV, hA⟩ := id X
  have hG : ∀ w ∈ GW, w.before args s = true := fun w h => hts w (List.mem_cons_of_mem _ h)
  unfold B_one_135 at h
  refine lv_iconst (v := 5) hx hb dX12_one_135 (by decide) ?_
  refine lv_aload_n hx hb dX12_one_136 rfl (lv_at hl 0 rfl) ?_
  refine rg_3 X hS dX12_one_137 ?_
  refine lv_aload_n hx hb dX12_one_140 rfl (lv_at hl 0 rfl) ?_
  refine rg_65 X hS dX12_one_141 ?_
  refine lv_iconst (v := 1) hx hb dX12_one_144 (by decide) ?_
  refine lv_isub hx hb dX12_one_145 ?_
  obtain ⟨v_4, e_v_4, i_5, h⟩ := rd_of h
  refine ra_3 X hS i_5 e_v_4 dX12_one_146 ?_
  obtain ⟨r_u_6, u_6, h_u_6, h⟩ := bn_of h
  refine kc_wrong X hS h_u_6 (Nat.le_trans (Nat.le_of_ble_eq_true rfl) hF) (Nat.le_trans (Nat.le_of_ble_eq_true rfl) hL) hl.1 (Nat.le_of_ble_eq_true rfl) dX12_one_147 (fun H locs hS => ?_)
  exact b_one_150 X hE hF hL  h hS (lv_sub hl [0, 1, 2, 3, 4, 5, 6, 7] rfl)
def B_one_97 (N : Nat) (l1 : Int32) (l2 : Int32) (l3 : Int32) (l4 : Int32) (l5 : Int32) (l6 : Int32) (u : RSt) : Option (Int32 × RSt) := bn (F_has N 234 u) fun r_8 u_7 => if r_8 = (0 : Int32) then (B_one_150 N l1 l2 l3 l4 l5 l6 0 u_7) else (bn (F_constant N u_7) fun _ u_10 => if (r_has l1 (u_10.2.1 77)) = (0 : Int32) then (B_one_135 N l1 l2 l3 l4 l5 l6 (u_10.2.1 77) 1 u_10) else (B_one_135 N l1 l2 l3 l4 l5 l6 (u_10.2.1 77) 0 u_10))
set_option maxHeartbeats 4000000 in
theorem b_one_97 {r : Int32} (X : RC p s m args c cX12_one 9 (Cond.code yX12_one cX12_one 9 none) D kA V A) (hE : REv p l e R s m args below meth c cX12_one D kA Z A Q w) (hF : 4 ≤ R.frames) (hL : 84 ≤ R.locals) {l1 : Int32} {l2 : Int32} {l3 : Int32} {l4 : Int32} {l5 : Int32} {l6 : Int32}  {u : RSt} (h : B_one_97 N l1 l2 l3 l4 l5 l6 u = some (r, w)) (hS : RS D kA Z A s u H locs) (hl : lv_has ls 9 [(0, .ref (Z 200)), (1, .int l1), (2, .int l2), (3, .int l3), (4, .int l4), (5, .int l5), (6, .int l6)]) : W p l e R s m args below meth c H locs 0 0 Q (F0 m 97 ls []) := by
  obtain ⟨⟨hx, hb, hml, hown, hts⟩, hK, hEV, hA⟩ := id X
  have hG : ∀ w ∈ GW, w.before args s = true := fun w h => hts w (List.mem_cons_of_mem _ h)
  unfold B_one_97 at h
  refine lv_lconst (v := 0) hx hb dX12_one_97 (by decide) ?_
  refine lv_lstore (lv' := [(7, .long 0), (0, .ref (Z 200)), (1, .int l1), (2, .int l2), (3, .int l3), (4, .int l4), (5, .int l5), (6, .int l6)]) hx hb dX12_one_98 hl (by decide) rfl (fun ls hl => ?_)
  refine lv_aload_n hx hb dX12_one_100 rfl (lv_at hl 1 rfl) ?_
  refine lv_sipush (v := 234) hx hb dX12_one_101 (by decide) ?_
  obtain ⟨r_8, u_7, h_u_7, h⟩ := bn_of h
  refine kc_has X hS h_u_7 (Nat.le_trans (Nat.le_of_ble_eq_true rfl) hF) (Nat.le_trans (Nat.le_of_ble_eq_true rfl) hL) hl.1 (Nat.le_of_ble_eq_true rfl) dX12_one_104 (fun H locs hS => ?_)
  refine lv_if_eq (tgt := 150) hx hb dX12_one_107 (by decide) (fun c_9 => ?_) (fun c_9 => ?_)
  · have h := ip (c_9) h
    exact b_one_150 X hE hF hL  h hS (lv_sub hl [1, 2, 3, 4, 5, 6, 7, 0] rfl)
  · have h := im (c_9) h
    refine lv_aload_n hx hb dX12_one_110 rfl (lv_at hl 1 rfl) ?_
    obtain ⟨r_u_10, u_10, h_u_10, h⟩ := bn_of h
    refine kc_constant X hS h_u_10 (Nat.le_trans (Nat.le_of_ble_eq_true rfl) hF) (Nat.le_trans (Nat.le_of_ble_eq_true rfl) hL) hl.1 (Nat.le_of_ble_eq_true rfl) dX12_one_111 (fun H locs hS => ?_)
    refine lv_aload_n hx hb dX12_one_114 rfl (lv_at hl 1 rfl) ?_
    refine rg_77 X hS dX12_one_115 ?_
    refine lv_lstore (lv' := [(7, .long (u_10.2.1 77)), (0, .ref (Z 200)), (1, .int l1), (2, .int l2), (3, .int l3), (4, .int l4), (5, .int l5), (6, .int l6)]) hx hb dX12_one_118 hl (by decide) rfl (fun ls hl => ?_)
    refine lv_aload_n hx hb dX12_one_120 rfl (lv_at hl 1 rfl) ?_
    refine lv_iload_n hx hb dX12_one_121 rfl (lv_at hl 2 rfl) ?_
    refine lv_lload hx hb dX12_one_122 (lv_at hl 0 rfl) ?_
    refine vp_callSi (W.runS (As := [.int l1, .long (u_10.2.1 77)]) (rest := [.ref (Z 200)]) X.1 (c_X12_canHave l l1 (u_10.2.1 77)) (va_cwS 2 hts (gw_P gw_2410 gw_2411 gw_16 gwp_X12_canHave) rfl rfl rfl (by decide +kernel) ⟨Nat.le_trans (Nat.le_of_ble_eq_true rfl) hF, Nat.le_trans (Nat.le_of_ble_eq_true rfl) hL⟩) ⟨fun _ _ _ _ q => q, fun _ _ _ => ⟨rfl, trivial⟩⟩ rfl rfl hl.1 rfl (lv_room (Nat.le_of_ble_eq_true rfl)) dX12_one_124 ⟨Nat.zero_le _, Nat.zero_le _⟩) (fun r_11 q_12 => ?_)
    subst q_12
    refine lv_if_ne (tgt := 134) hx hb dX12_one_127 (by decide) (fun c_13 => ?_) (fun c_13 => ?_)
    · have h := im (c_13) h
      refine lv_iconst (v := 0) hx hb dX12_one_134 (by decide) ?_
      exact b_one_135 X hE hF hL  h hS (lv_sub hl [1, 2, 3, 4, 5, 6, 7, 0] rfl)
    · have h := ip (c_13) h
      refine lv_iconst (v := 1) hx hb dX12_one_130 (by decide) ?_
      refine lv_goto (tgt := 135) hx hb dX12_one_131 (by decide) ?_
      exact b_one_135 X hE hF hL  h hS (lv_sub hl [1, 2, 3, 4, 5, 6, 7, 0] rfl)
def B_one_46 (N : Nat) (l1 : Int32) (l2 : Int32) (l3 : Int32) (l4 : Int32) (u : RSt) : Option (Int32 × RSt) := pu (sI u 65 ((u.1 65) + 1)) fun u_14 => bn (F_is N 227 u_14) fun r_16 u_15 => if r_16 = (0 : Int32) then (B_one_97 N l1 l2 l3 l4 1 r_16 u_15) else (bn (F_begins N 227 u_15) fun _ u_18 => bn (F_bounded N 1 200 u_18) fun r_20 u_19 => bn (F_ends N 228 u_19) fun _ u_21 => B_one_97 N l1 l2 l3 l4 r_20 r_16 u_21)
set_option maxHeartbeats 4000000 in
theorem b_one_46 {r : Int32} (X : RC p s m args c cX12_one 9 (Cond.code yX12_one cX12_one 9 none) D kA V A) (hE : REv p l e R s m args below meth c cX12_one D kA Z A Q w) (hF : 4 ≤ R.frames) (hL : 84 ≤ R.locals) {l1 : Int32} {l2 : Int32} {l3 : Int32} {l4 : Int32}  {u : RSt} (h : B_one_46 N l1 l2 l3 l4 u = some (r, w)) (hS : RS D kA Z A s u H locs) (hl : lv_has ls 9 [(0, .ref (Z 200)), (1, .int l1), (2, .int l2), (3, .int l3), (4, .int l4)]) : W p l e R s m args below meth c H locs 0 0 Q (F0 m 46 ls []) := by
  obtain ⟨⟨hx, hb, hml, hown, hts⟩, hK, hEV, hA⟩ := id X
  have hG : ∀ w ∈ GW, w.before args s = true := fun w h => hts w (List.mem_cons_of_mem _ h)
  unfold B_one_46 at h
  refine lv_aload_n hx hb dX12_one_46 rfl (lv_at hl 0 rfl) ?_
  refine lv_dup hx hb dX12_one_47 rfl ?_
  refine rg_65 X hS dX12_one_48 ?_
  refine lv_iconst (v := 1) hx hb dX12_one_51 (by decide) ?_
  refine lv_iadd hx hb dX12_one_52 ?_
  obtain ⟨u_14, e_u_14, h⟩ := pu_of h
  refine rp_65 X hS e_u_14 dX12_one_53 (fun H locs hS => ?_)
  refine lv_iconst (v := 1) hx hb dX12_one_56 (by decide) ?_
  refine lv_istore (lv' := [(5, .int 1), (0, .ref (Z 200)), (1, .int l1), (2, .int l2), (3, .int l3), (4, .int l4)]) hx hb dX12_one_57 hl (by decide) rfl (fun ls hl => ?_)
  refine lv_aload_n hx hb dX12_one_59 rfl (lv_at hl 1 rfl) ?_
  refine lv_sipush (v := 227) hx hb dX12_one_60 (by decide) ?_
  obtain ⟨r_16, u_15, h_u_15, h⟩ := bn_of h
  refine kc_is X hS h_u_15 (Nat.le_trans (Nat.le_of_ble_eq_true rfl) hF) (Nat.le_trans (Nat.le_of_ble_eq_true rfl) hL) hl.1 (Nat.le_of_ble_eq_true rfl) dX12_one_63 (fun H locs hS => ?_)
  refine lv_istore (lv' := [(6, .int r_16), (5, .int 1), (0, .ref (Z 200)), (1, .int l1), (2, .int l2), (3, .int l3), (4, .int l4)]) hx hb dX12_one_66 hl (by decide) rfl (fun ls hl => ?_)
  refine lv_iload hx hb dX12_one_68 (lv_at hl 0 rfl) ?_
  refine lv_if_eq (tgt := 97) hx hb dX12_one_70 (by decide) (fun c_17 => ?_) (fun c_17 => ?_)
  · have h := ip (c_17) h
    exact b_one_97 X hE hF hL  h hS (lv_sub hl [2, 3, 4, 5, 6, 1, 0] rfl)
  · have h := im (c_17) h
    refine lv_aload_n hx hb dX12_one_73 rfl (lv_at hl 2 rfl) ?_
    refine lv_sipush (v := 227) hx hb dX12_one_74 (by decide) ?_
    obtain ⟨r_u_18, u_18, h_u_18, h⟩ := bn_of h
    refine kc_begins X hS h_u_18 (Nat.le_trans (Nat.le_of_ble_eq_true rfl) hF) (Nat.le_trans (Nat.le_of_ble_eq_true rfl) hL) hl.1 (Nat.le_of_ble_eq_true rfl) dX12_one_77 (fun H locs hS => ?_)
    refine lv_aload_n hx hb dX12_one_80 rfl (lv_at hl 2 rfl) ?_
    refine lv_iconst (v := 1) hx hb dX12_one_81 (by decide) ?_
    refine lv_sipush (v := 200) hx hb dX12_one_82 (by decide) ?_
    obtain ⟨r_20, u_19, h_u_19, h⟩ := bn_of h
    refine kc_bounded X hS h_u_19 (Nat.le_trans (Nat.le_of_ble_eq_true rfl) hF) (Nat.le_trans (Nat.le_of_ble_eq_true rfl) hL) hl.1 (Nat.le_of_ble_eq_true rfl) dX12_one_85 (fun H locs hS => ?_)
    refine lv_istore (lv' := [(5, .int r_20), (6, .int r_16), (0, .ref (Z 200)), (1, .int l1), (2, .int l2), (3, .int l3), (4, .int l4)]) hx hb dX12_one_88 hl (by decide) rfl (fun ls hl => ?_)
    refine lv_aload_n hx hb dX12_one_90 rfl (lv_at hl 2 rfl) ?_
    refine lv_sipush (v := 228) hx hb dX12_one_91 (by decide) ?_
    obtain ⟨r_u_21, u_21, h_u_21, h⟩ := bn_of h
    refine kc_ends X hS h_u_21 (Nat.le_trans (Nat.le_of_ble_eq_true rfl) hF) (Nat.le_trans (Nat.le_of_ble_eq_true rfl) hL) hl.1 (Nat.le_of_ble_eq_true rfl) dX12_one_94 (fun H locs hS => ?_)
    exact b_one_97 X hE hF hL  h hS (lv_sub hl [2, 3, 4, 5, 6, 0, 1] rfl)
def B_one_0 (N : Nat) (l1 : Int32) (l2 : Int32) (l3 : Int32) (u : RSt) : Option (Int32 × RSt) := bn (F_is N 1 u) fun r_23 u_22 => if r_23 = (0 : Int32) then (bn (F_stuck N u_22) fun _ u_30 => some (0, u_30)) else (if l3 = (0 : Int32) then (rd (u_22.2.2.1 19) 2 (u_22.1 56) fun v_26 => bn (F_telling N 0 v_26 0 u_22) fun _ u_28 => B_one_46 N l1 l2 l3 (u.1 65) u_28) else (bn (F_local N 0 u_22) fun _ u_29 => B_one_46 N l1 l2 l3 (u.1 65) u_29))
set_option maxHeartbeats 4000000 in
theorem b_one_0 {r : Int32} (X : RC p s m args c cX12_one 9 (Cond.code yX12_one cX12_one 9 none) D kA V A) (hE : REv p l e R s m args below meth c cX12_one D kA Z A Q w) (hF : 4 ≤ R.frames) (hL : 84 ≤ R.locals) {l1 : Int32} {l2 : Int32} {l3 : Int32}  {u : RSt} (h : B_one_0 N l1 l2 l3 u = some (r, w)) (hS : RS D kA Z A s u H locs) (hl : lv_has ls 9 [(0, .ref (Z 200)), (1, .int l1), (2, .int l2), (3, .int l3)]) : W p l e R s m args below meth c H locs 0 0 Q (F0 m 0 ls []) := by
  obtain ⟨⟨hx, hb, hml, hown, hts⟩, hK, hEV, hA⟩ := id X
  have hG : ∀ w ∈ GW, w.before args s = true := fun w h => hts w (List.mem_cons_of_mem _ h)
  unfold B_one_0 at h
  refine lv_aload_n hx hb dX12_one_0 rfl (lv_at hl 0 rfl) ?_
  refine rg_65 X hS dX12_one_1 ?_
  refine lv_istore (lv' := [(4, .int (u.1 65)), (0, .ref (Z 200)), (1, .int l1), (2, .int l2), (3, .int l3)]) hx hb dX12_one_4 hl (by decide) rfl (fun ls hl => ?_)
  refine lv_aload_n hx hb dX12_one_6 rfl (lv_at hl 1 rfl) ?_
  refine lv_iconst (v := 1) hx hb dX12_one_7 (by decide) ?_
  obtain ⟨r_23, u_22, h_u_22, h⟩ := bn_of h
  refine kc_is X hS h_u_22 (Nat.le_trans (Nat.le_of_ble_eq_true rfl) hF) (Nat.le_trans (Nat.le_of_ble_eq_true rfl) hL) hl.1 (Nat.le_of_ble_eq_true rfl) dX12_one_8 (fun H locs hS => ?_)
  refine lv_if_ne (tgt := 19) hx hb dX12_one_11 (by decide) (fun c_24 => ?_) (fun c_24 => ?_)
  · have h := im (c_24) h
    refine lv_iload_n hx hb dX12_one_19 rfl (lv_at hl 4 rfl) ?_
    refine lv_if_eq (tgt := 31) hx hb dX12_one_20 (by decide) (fun c_25 => ?_) (fun c_25 => ?_)
    · have h := ip (c_25) h
      refine lv_aload_n hx hb dX12_one_31 rfl (lv_at hl 1 rfl) ?_
      refine lv_iconst (v := 0) hx hb dX12_one_32 (by decide) ?_
      refine lv_aload_n hx hb dX12_one_33 rfl (lv_at hl 1 rfl) ?_
      refine rg_19 X hS dX12_one_34 ?_
      refine lv_aload_n hx hb dX12_one_37 rfl (lv_at hl 1 rfl) ?_
      refine rg_56 X hS dX12_one_38 ?_
      obtain ⟨v_26, e_v_26, i_27, h⟩ := rd_of h
      refine ra_19 X hS i_27 e_v_26 dX12_one_41 ?_
      refine lv_iconst (v := 0) hx hb dX12_one_42 (by decide) ?_
      obtain ⟨r_u_28, u_28, h_u_28, h⟩ := bn_of h
      refine kc_telling X hS h_u_28 (Nat.le_trans (Nat.le_of_ble_eq_true rfl) hF) (Nat.le_trans (Nat.le_of_ble_eq_true rfl) hL) hl.1 (Nat.le_of_ble_eq_true rfl) dX12_one_43 (fun H locs hS => ?_)
      exact b_one_46 X hE hF hL  h hS (lv_sub hl [1, 2, 3, 4, 0] rfl)
    · have h := im (c_25) h
      refine lv_aload_n hx hb dX12_one_23 rfl (lv_at hl 1 rfl) ?_
      refine lv_iconst (v := 0) hx hb dX12_one_24 (by decide) ?_
      obtain ⟨r_u_29, u_29, h_u_29, h⟩ := bn_of h
      refine kc_local X hS h_u_29 (Nat.le_trans (Nat.le_of_ble_eq_true rfl) hF) (Nat.le_trans (Nat.le_of_ble_eq_true rfl) hL) hl.1 (Nat.le_of_ble_eq_true rfl) dX12_one_25 (fun H locs hS => ?_)
      refine lv_goto (tgt := 46) hx hb dX12_one_28 (by decide) ?_
      exact b_one_46 X hE hF hL  h hS (lv_sub hl [1, 2, 3, 4, 0] rfl)
  · have h := ip (c_24) h
    refine lv_aload_n hx hb dX12_one_14 rfl (lv_at hl 1 rfl) ?_
    obtain ⟨r_u_30, u_30, h_u_30, h⟩ := bn_of h
    refine kc_stuck X hS h_u_30 (Nat.le_trans (Nat.le_of_ble_eq_true rfl) hF) (Nat.le_trans (Nat.le_of_ble_eq_true rfl) hL) hl.1 (Nat.le_of_ble_eq_true rfl) dX12_one_15 (fun H locs hS => ?_)
    obtain ⟨-, rfl⟩ := so h
    exact hE _ _ _ _ hS dX12_one_18
def F_one (N : Nat) (l1 : Int32) (l2 : Int32) (l3 : Int32) (u : RSt) : Option (Int32 × RSt) := B_one_0 N l1 l2 l3 u
set_option maxHeartbeats 4000000 in
theorem k_one (l : Launch) (D : va_G) (kA : Nat → ClassId) (V Z : Nat → Nat) (N : Nat) (l1 : Int32) (l2 : Int32) (l3 : Int32) (u : RSt) (sz : Nat) {r : Int32} {w : RSt} (h : F_one N l1 l2 l3 u = some (r, w)) : Met l yX12_one (Cond.code yX12_one cX12_one 9 none :: GW) { frames := 4, cells := 0, slots := 0, locals := 84 } (rPc D kA V Z [.int l1, .int l2, .int l3] u sz) (rQv D kA Z u sz w) 0 0 (va_A (RW kA Z u) sz) := by
  refine Met.ofW (cc := cX12_one) (maxL := 9) (ret := none) (by decide) rfl ?_
  intro p e s m args below meth c s₁ Bd hml hv
  obtain ⟨rfl, hsz, hP, hK, hD0, hE⟩ := hv
  have hts := atoms_spec (ws := Cond.code yX12_one cX12_one 9 none :: GW) Bd.pre
  have hl := lv_entry (.ref (Z 200) :: [.int l1, .int l2, .int l3]) (n := 9) (Nat.le_of_ble_eq_true rfl)
  rw [lg_entry_eq]
  generalize (lg_sl (.ref (Z 200) :: [.int l1, .int l2, .int l3]) ++ List.replicate (9 - (lg_sl (.ref (Z 200) :: [.int l1, .int l2, .int l3])).length) Slot.unset).toArray = ls at hl ⊢
  have hl : lv_has ls 9 [(0, .ref (Z 200)), (1, .int l1), (2, .int l2), (3, .int l3)] := hl
  subst hsz
  have X : RC p s m (.ref (Z 200) :: [.int l1, .int l2, .int l3]).toArray c cX12_one 9 (Cond.code yX12_one cX12_one 9 none) D kA V (va_A (RW kA Z u) s.heap.size) := ⟨⟨Bd.exec, Bd.bytes, hml, findClass_of_methodNamed Bd.named, hts⟩, hK, hE, fun q h => Or.inr h⟩
  exact b_one_0 X (rend_v (cy := cX12_one) X Bd.returns Bd.notSynchronized) (Nat.le_refl _) (Nat.le_refl _) h ⟨hP, hD0.self, va_S.rf⟩ (lv_sub hl [0, 1, 2, 3] rfl)
theorem kc_one {r : Int32} {cc : ByteArray} {pc nL : Nat} {c0 : Cond} {rest : List Value} {l1 : Int32} {l2 : Int32} {l3 : Int32} {u : RSt} (X : RC p s m args c cc nL c0 D kA V A) (hS : RS D kA Z A s u H locs) (h : F_one N l1 l2 l3 u = some (r, w)) (hF : 4 + 1 ≤ R.frames) (hL : 8 + (9 + 11) + 84 ≤ R.locals) (hl : ls.size = nL) (hc : (rest.map fun v => v.category).sum ≤ 8) (hdg : decode cc pc = .ok (.invokevirtual 334, 3)) (kk : ∀ H locs, RS D kA Z A s w H locs → W p l e R s m args below meth c H locs 0 0 Q (F0 m (pc + 3) ls (rest))) : W p l e R s m args below meth c H locs 0 0 Q (F0 m pc ls (.int l3 :: .int l2 :: .int l1 :: .ref (Z 200) :: rest)) :=
  rcall_v (n := 3) X hS (k_one l D kA V Z N l1 l2 l3 u H.size h) (gw_V gw_2340 gw_2342 gs_8_5 gw_16 gw_2343) (by decide +kernel) hF hL rfl hl hc rfl hdg kk
def B_variables_22 (N : Nat) (R_22 : Int32 × Int32 × Int32 × RSt → Option (Int32 × RSt)) (l1 : Int32) (l2 : Int32) (l3 : Int32) (u : RSt) : Option (Int32 × RSt) := bn (F_has N 230 u) fun r_2 u_1 => if r_2 = (0 : Int32) then (bn (F_take N 229 u_1) fun _ u_4 => some (0, u_4)) else (bn (F_one N l3 l1 l2 u_1) fun _ u_5 => R_22 (l1, l2, l3, u_5))
set_option maxHeartbeats 4000000 in
theorem b_variables_22 {r : Int32} (X : RC p s m args c cX12_variables 4 (Cond.code yX12_variables cX12_variables 4 none) D kA V A) (hE : REv p l e R s m args below meth c cX12_variables D kA Z A Q w) (hF : 5 ≤ R.frames) (hL : 112 ≤ R.locals) {R_22 : Int32 × Int32 × Int32 × RSt → Option (Int32 × RSt)} {l1 : Int32} {l2 : Int32} {l3 : Int32} (hR_22 : ∀ (l1 : Int32) (l2 : Int32) (l3 : Int32) (u : RSt), R_22 (l1, l2, l3, u) = some (r, w) → ∀ (H : Heap) (locs : List Loc) (ls : Array Slot), RS D kA Z A s u H locs → lv_has ls 4 [(0, .ref (Z 200)), (1, .int l1), (2, .int l2), (3, .int l3)] → W p l e R s m args below meth c H locs 0 0 Q (F0 m 22 ls [])) {u : RSt} (h : B_variables_22 N R_22 l1 l2 l3 u = some (r, w)) (hS : RS D kA Z A s u H locs) (hl : lv_has ls 4 [(0, .ref (Z 200)), (1, .int l1), (2, .int l2), (3, .int l3)]) : W p l e R s m args below meth c H locs 0 0 Q (F0 m 22 ls []) := by
  obtain ⟨⟨hx, hb, hml, hown, hts⟩, hK, hEV, hA⟩ := id X
  have hG : ∀ w ∈ GW, w.before args s = true := fun w h => hts w (List.mem_cons_of_mem _ h)
  unfold B_variables_22 at h
  refine lv_aload_n hx hb dX12_variables_22 rfl (lv_at hl 0 rfl) ?_
  refine lv_sipush (v := 230) hx hb dX12_variables_23 (by decide) ?_
  obtain ⟨r_2, u_1, h_u_1, h⟩ := bn_of h
  refine kc_has X hS h_u_1 (Nat.le_trans (Nat.le_of_ble_eq_true rfl) hF) (Nat.le_trans (Nat.le_of_ble_eq_true rfl) hL) hl.1 (Nat.le_of_ble_eq_true rfl) dX12_variables_26 (fun H locs hS => ?_)
  refine lv_if_eq (tgt := 42) hx hb dX12_variables_29 (by decide) (fun c_3 => ?_) (fun c_3 => ?_)
  · have h := ip (c_3) h
    refine lv_aload_n hx hb dX12_variables_42 rfl (lv_at hl 0 rfl) ?_
    refine lv_sipush (v := 229) hx hb dX12_variables_43 (by decide) ?_
    obtain ⟨r_u_4, u_4, h_u_4, h⟩ := bn_of h
    refine kc_take X hS h_u_4 (Nat.le_trans (Nat.le_of_ble_eq_true rfl) hF) (Nat.le_trans (Nat.le_of_ble_eq_true rfl) hL) hl.1 (Nat.le_of_ble_eq_true rfl) dX12_variables_46 (fun H locs hS => ?_)
    obtain ⟨-, rfl⟩ := so h
    exact hE _ _ _ _ hS dX12_variables_49
  · have h := im (c_3) h
    refine lv_aload_n hx hb dX12_variables_32 rfl (lv_at hl 0 rfl) ?_
    refine lv_iload_n hx hb dX12_variables_33 rfl (lv_at hl 3 rfl) ?_
    refine lv_iload_n hx hb dX12_variables_34 rfl (lv_at hl 1 rfl) ?_
    refine lv_iload_n hx hb dX12_variables_35 rfl (lv_at hl 2 rfl) ?_
    obtain ⟨r_u_5, u_5, h_u_5, h⟩ := bn_of h
    refine kc_one X hS h_u_5 (Nat.le_trans (Nat.le_of_ble_eq_true rfl) hF) (Nat.le_trans (Nat.le_of_ble_eq_true rfl) hL) hl.1 (Nat.le_of_ble_eq_true rfl) dX12_variables_36 (fun H locs hS => ?_)
    refine lv_goto (tgt := 22) hx hb dX12_variables_39 (by decide) ?_
    exact hR_22 _ _ _ _ h _ _ _ hS (lv_sub hl [0, 1, 2, 3] rfl)
def LP_variables_22 (N : Nat) : Nat → Int32 × Int32 × Int32 × RSt → Option (Int32 × RSt) := lp (fun R a => B_variables_22 N R a.1 a.2.1 a.2.2.1 a.2.2.2)
theorem bl_variables_22 {r : Int32} (X : RC p s m args c cX12_variables 4 (Cond.code yX12_variables cX12_variables 4 none) D kA V A) (hE : REv p l e R s m args below meth c cX12_variables D kA Z A Q w) (hF : 5 ≤ R.frames) (hL : 112 ≤ R.locals)  : ∀ (n : Nat) (l1 : Int32) (l2 : Int32) (l3 : Int32) (u : RSt), LP_variables_22 N n (l1, l2, l3, u) = some (r, w) → ∀ (H : Heap) (locs : List Loc) (ls : Array Slot), RS D kA Z A s u H locs → lv_has ls 4 [(0, .ref (Z 200)), (1, .int l1), (2, .int l2), (3, .int l3)] → W p l e R s m args below meth c H locs 0 0 Q (F0 m 22 ls []) := by
  intro n
  induction n with
  | zero => intro l1 l2 l3 u h; exact nomatch h
  | succ n ih => intro l1 l2 l3 u h H locs ls hS hl; exact b_variables_22 (N := N) (R_22 := LP_variables_22 N n) X hE hF hL  ih h hS hl
def B_variables_0 (N : Nat) (l1 : Int32) (l2 : Int32) (u : RSt) : Option (Int32 × RSt) := pu (sI u 65 ((u.1 65) + 1)) fun u_6 => bn (F_kind N u_6) fun r_8 u_7 => bn (F_one N r_8 l1 l2 u_7) fun _ u_9 => LP_variables_22 N N (l1, l2, r_8, u_9)
set_option maxHeartbeats 4000000 in
theorem b_variables_0 {r : Int32} (X : RC p s m args c cX12_variables 4 (Cond.code yX12_variables cX12_variables 4 none) D kA V A) (hE : REv p l e R s m args below meth c cX12_variables D kA Z A Q w) (hF : 5 ≤ R.frames) (hL : 112 ≤ R.locals) {l1 : Int32} {l2 : Int32}  {u : RSt} (h : B_variables_0 N l1 l2 u = some (r, w)) (hS : RS D kA Z A s u H locs) (hl : lv_has ls 4 [(0, .ref (Z 200)), (1, .int l1), (2, .int l2)]) : W p l e R s m args below meth c H locs 0 0 Q (F0 m 0 ls []) := by
  obtain ⟨⟨hx, hb, hml, hown, hts⟩, hK, hEV, hA⟩ := id X
  have hG : ∀ w ∈ GW, w.before args s = true := fun w h => hts w (List.mem_cons_of_mem _ h)
  unfold B_variables_0 at h
  refine lv_aload_n hx hb dX12_variables_0 rfl (lv_at hl 0 rfl) ?_
  refine lv_dup hx hb dX12_variables_1 rfl ?_
  refine rg_65 X hS dX12_variables_2 ?_
  refine lv_iconst (v := 1) hx hb dX12_variables_5 (by decide) ?_
  refine lv_iadd hx hb dX12_variables_6 ?_
  obtain ⟨u_6, e_u_6, h⟩ := pu_of h
  refine rp_65 X hS e_u_6 dX12_variables_7 (fun H locs hS => ?_)
  refine lv_aload_n hx hb dX12_variables_10 rfl (lv_at hl 0 rfl) ?_
  obtain ⟨r_8, u_7, h_u_7, h⟩ := bn_of h
  refine kc_kind X hS h_u_7 (Nat.le_trans (Nat.le_of_ble_eq_true rfl) hF) (Nat.le_trans (Nat.le_of_ble_eq_true rfl) hL) hl.1 (Nat.le_of_ble_eq_true rfl) dX12_variables_11 (fun H locs hS => ?_)
  refine lv_istore_n (lv' := [(3, .int r_8), (0, .ref (Z 200)), (1, .int l1), (2, .int l2)]) hx hb dX12_variables_14 rfl hl (by decide) rfl (fun ls hl => ?_)
  refine lv_aload_n hx hb dX12_variables_15 rfl (lv_at hl 1 rfl) ?_
  refine lv_iload_n hx hb dX12_variables_16 rfl (lv_at hl 0 rfl) ?_
  refine lv_iload_n hx hb dX12_variables_17 rfl (lv_at hl 2 rfl) ?_
  refine lv_iload_n hx hb dX12_variables_18 rfl (lv_at hl 3 rfl) ?_
  obtain ⟨r_u_9, u_9, h_u_9, h⟩ := bn_of h
  refine kc_one X hS h_u_9 (Nat.le_trans (Nat.le_of_ble_eq_true rfl) hF) (Nat.le_trans (Nat.le_of_ble_eq_true rfl) hL) hl.1 (Nat.le_of_ble_eq_true rfl) dX12_variables_19 (fun H locs hS => ?_)
  exact bl_variables_22 X hE hF hL  _ _ _ _ _ h _ _ _ hS (lv_sub hl [1, 2, 3, 0] rfl)
def F_variables (N : Nat) (l1 : Int32) (l2 : Int32) (u : RSt) : Option (Int32 × RSt) := B_variables_0 N l1 l2 u
set_option maxHeartbeats 4000000 in
theorem k_variables (l : Launch) (D : va_G) (kA : Nat → ClassId) (V Z : Nat → Nat) (N : Nat) (l1 : Int32) (l2 : Int32) (u : RSt) (sz : Nat) {r : Int32} {w : RSt} (h : F_variables N l1 l2 u = some (r, w)) : Met l yX12_variables (Cond.code yX12_variables cX12_variables 4 none :: GW) { frames := 5, cells := 0, slots := 0, locals := 112 } (rPc D kA V Z [.int l1, .int l2] u sz) (rQv D kA Z u sz w) 0 0 (va_A (RW kA Z u) sz) := by
  refine Met.ofW (cc := cX12_variables) (maxL := 4) (ret := none) (by decide) rfl ?_
  intro p e s m args below meth c s₁ Bd hml hv
  obtain ⟨rfl, hsz, hP, hK, hD0, hE⟩ := hv
  have hts := atoms_spec (ws := Cond.code yX12_variables cX12_variables 4 none :: GW) Bd.pre
  have hl := lv_entry (.ref (Z 200) :: [.int l1, .int l2]) (n := 4) (Nat.le_of_ble_eq_true rfl)
  rw [lg_entry_eq]
  generalize (lg_sl (.ref (Z 200) :: [.int l1, .int l2]) ++ List.replicate (4 - (lg_sl (.ref (Z 200) :: [.int l1, .int l2])).length) Slot.unset).toArray = ls at hl ⊢
  have hl : lv_has ls 4 [(0, .ref (Z 200)), (1, .int l1), (2, .int l2)] := hl
  subst hsz
  have X : RC p s m (.ref (Z 200) :: [.int l1, .int l2]).toArray c cX12_variables 4 (Cond.code yX12_variables cX12_variables 4 none) D kA V (va_A (RW kA Z u) s.heap.size) := ⟨⟨Bd.exec, Bd.bytes, hml, findClass_of_methodNamed Bd.named, hts⟩, hK, hE, fun q h => Or.inr h⟩
  exact b_variables_0 X (rend_v (cy := cX12_variables) X Bd.returns Bd.notSynchronized) (Nat.le_refl _) (Nat.le_refl _) h ⟨hP, hD0.self, va_S.rf⟩ (lv_sub hl [0, 1, 2] rfl)
theorem kc_variables {r : Int32} {cc : ByteArray} {pc nL : Nat} {c0 : Cond} {rest : List Value} {l1 : Int32} {l2 : Int32} {u : RSt} (X : RC p s m args c cc nL c0 D kA V A) (hS : RS D kA Z A s u H locs) (h : F_variables N l1 l2 u = some (r, w)) (hF : 5 + 1 ≤ R.frames) (hL : 8 + (4 + 11) + 112 ≤ R.locals) (hl : ls.size = nL) (hc : (rest.map fun v => v.category).sum ≤ 8) (hdg : decode cc pc = .ok (.invokevirtual 367, 3)) (kk : ∀ H locs, RS D kA Z A s w H locs → W p l e R s m args below meth c H locs 0 0 Q (F0 m (pc + 3) ls (rest))) : W p l e R s m args below meth c H locs 0 0 Q (F0 m pc ls (.int l2 :: .int l1 :: .ref (Z 200) :: rest)) :=
  rcall_v (n := 2) X hS (k_variables l D kA V Z N l1 l2 u H.size h) (gw_V gw_2324 gw_2326 gs_8_1 gw_16 gw_2327) (by decide +kernel) hF hL rfl hl hc rfl hdg kk
def B_image_0 (N : Nat) (l1 : Int32) (u : RSt) : Option (Int32 × RSt) := pu (sI u 65 ((u.1 65) + 1)) fun u_1 => bn (F_kind N u_1) fun r_3 u_2 => bn (F_is N 1 u_2) fun r_5 u_4 => if r_5 = (0 : Int32) then (bn (F_stuck N u_4) fun _ u_18 => some (0, u_18)) else (rd (u_4.2.2.1 19) 2 (u_4.1 56) fun v_7 => bn (F_telling N 0 v_7 0 u_4) fun _ u_9 => pu (sI u_9 65 ((u_9.1 65) + 1)) fun u_10 => bn (F_take N 104 u_10) fun _ u_11 => bn (F_bounded N 0 (64 - ((r_bits r_3) / 8)) u_11) fun r_15 u_14 => bn (F_take N 229 u_14) fun _ u_16 => bn (F_addVariable N (u_2.1 65) r_3 l1 1 0 r_15 0 u_16) fun _ u_17 => some (0, u_17))
set_option maxHeartbeats 4000000 in
theorem b_image_0 {r : Int32} (X : RC p s m args c cX12_image 5 (Cond.code yX12_image cX12_image 5 none) D kA V A) (hE : REv p l e R s m args below meth c cX12_image D kA Z A Q w) (hF : 3 ≤ R.frames) (hL : 74 ≤ R.locals) {l1 : Int32}  {u : RSt} (h : B_image_0 N l1 u = some (r, w)) (hS : RS D kA Z A s u H locs) (hl : lv_has ls 5 [(0, .ref (Z 200)), (1, .int l1)]) : W p l e R s m args below meth c H locs 0 0 Q (F0 m 0 ls []) := by
  obtain ⟨⟨hx, hb, hml, hown, hts⟩, hK, hEV, hA⟩ := id X
  have hG : ∀ w ∈ GW, w.before args s = true := fun w h => hts w (List.mem_cons_of_mem _ h)
  unfold B_image_0 at h
  refine lv_aload_n hx hb dX12_image_0 rfl (lv_at hl 0 rfl) ?_
  refine lv_dup hx hb dX12_image_1 rfl ?_
  refine rg_65 X hS dX12_image_2 ?_
  refine lv_iconst (v := 1) hx hb dX12_image_5 (by decide) ?_
  refine lv_iadd hx hb dX12_image_6 ?_
  obtain ⟨u_1, e_u_1, h⟩ := pu_of h
  refine rp_65 X hS e_u_1 dX12_image_7 (fun H locs hS => ?_)
  refine lv_aload_n hx hb dX12_image_10 rfl (lv_at hl 0 rfl) ?_
  obtain ⟨r_3, u_2, h_u_2, h⟩ := bn_of h
  refine kc_kind X hS h_u_2 (Nat.le_trans (Nat.le_of_ble_eq_true rfl) hF) (Nat.le_trans (Nat.le_of_ble_eq_true rfl) hL) hl.1 (Nat.le_of_ble_eq_true rfl) dX12_image_11 (fun H locs hS => ?_)
  refine lv_istore_n (lv' := [(2, .int r_3), (0, .ref (Z 200)), (1, .int l1)]) hx hb dX12_image_14 rfl hl (by decide) rfl (fun ls hl => ?_)
  refine lv_aload_n hx hb dX12_image_15 rfl (lv_at hl 1 rfl) ?_
  refine rg_65 X hS dX12_image_16 ?_
  refine lv_istore_n (lv' := [(3, .int (u_2.1 65)), (2, .int r_3), (0, .ref (Z 200)), (1, .int l1)]) hx hb dX12_image_19 rfl hl (by decide) rfl (fun ls hl => ?_)
  refine lv_aload_n hx hb dX12_image_20 rfl (lv_at hl 2 rfl) ?_
  refine lv_iconst (v := 1) hx hb dX12_image_21 (by decide) ?_
  obtain ⟨r_5, u_4, h_u_4, h⟩ := bn_of h
  refine kc_is X hS h_u_4 (Nat.le_trans (Nat.le_of_ble_eq_true rfl) hF) (Nat.le_trans (Nat.le_of_ble_eq_true rfl) hL) hl.1 (Nat.le_of_ble_eq_true rfl) dX12_image_22 (fun H locs hS => ?_)
  refine lv_if_ne (tgt := 33) hx hb dX12_image_25 (by decide) (fun c_6 => ?_) (fun c_6 => ?_)
  · have h := im (c_6) h
    refine lv_aload_n hx hb dX12_image_33 rfl (lv_at hl 2 rfl) ?_
    refine lv_iconst (v := 0) hx hb dX12_image_34 (by decide) ?_
    refine lv_aload_n hx hb dX12_image_35 rfl (lv_at hl 2 rfl) ?_
    refine rg_19 X hS dX12_image_36 ?_
    refine lv_aload_n hx hb dX12_image_39 rfl (lv_at hl 2 rfl) ?_
    refine rg_56 X hS dX12_image_40 ?_
    obtain ⟨v_7, e_v_7, i_8, h⟩ := rd_of h
    refine ra_19 X hS i_8 e_v_7 dX12_image_43 ?_
    refine lv_iconst (v := 0) hx hb dX12_image_44 (by decide) ?_
    obtain ⟨r_u_9, u_9, h_u_9, h⟩ := bn_of h
    refine kc_telling X hS h_u_9 (Nat.le_trans (Nat.le_of_ble_eq_true rfl) hF) (Nat.le_trans (Nat.le_of_ble_eq_true rfl) hL) hl.1 (Nat.le_of_ble_eq_true rfl) dX12_image_45 (fun H locs hS => ?_)
    refine lv_aload_n hx hb dX12_image_48 rfl (lv_at hl 2 rfl) ?_
    refine lv_dup hx hb dX12_image_49 rfl ?_
    refine rg_65 X hS dX12_image_50 ?_
    refine lv_iconst (v := 1) hx hb dX12_image_53 (by decide) ?_
    refine lv_iadd hx hb dX12_image_54 ?_
    obtain ⟨u_10, e_u_10, h⟩ := pu_of h
    refine rp_65 X hS e_u_10 dX12_image_55 (fun H locs hS => ?_)
    refine lv_aload_n hx hb dX12_image_58 rfl (lv_at hl 2 rfl) ?_
    refine lv_bipush (v := 104) hx hb dX12_image_59 (by decide) ?_
    obtain ⟨r_u_11, u_11, h_u_11, h⟩ := bn_of h
    refine kc_take X hS h_u_11 (Nat.le_trans (Nat.le_of_ble_eq_true rfl) hF) (Nat.le_trans (Nat.le_of_ble_eq_true rfl) hL) hl.1 (Nat.le_of_ble_eq_true rfl) dX12_image_61 (fun H locs hS => ?_)
    refine lv_aload_n hx hb dX12_image_64 rfl (lv_at hl 2 rfl) ?_
    refine lv_iconst (v := 0) hx hb dX12_image_65 (by decide) ?_
    refine lv_bipush (v := 64) hx hb dX12_image_66 (by decide) ?_
    refine lv_iload_n hx hb dX12_image_68 rfl (lv_at hl 1 rfl) ?_
    refine vp_callSi (W.runS (As := [.int r_3]) (rest := [.int 64, .int 0, .ref (Z 200)]) X.1 (c_X12_bitsOf l r_3) (va_cwS 1 hts (gw_P gw_2425 gw_2426 gw_16 gwp_X12_bitsOf) rfl rfl rfl (by decide +kernel) ⟨Nat.le_trans (Nat.le_of_ble_eq_true rfl) hF, Nat.le_trans (Nat.le_of_ble_eq_true rfl) hL⟩) ⟨fun _ _ _ _ q => q, fun _ _ _ => ⟨rfl, trivial⟩⟩ rfl rfl hl.1 rfl (lv_room (Nat.le_of_ble_eq_true rfl)) dX12_image_69 ⟨Nat.zero_le _, Nat.zero_le _⟩) (fun r_12 q_13 => ?_)
    subst q_13
    refine lv_bipush (v := 8) hx hb dX12_image_72 (by decide) ?_
    refine lv_idiv hx hb dX12_image_74 (by decide) ?_
    refine lv_isub hx hb dX12_image_75 ?_
    obtain ⟨r_15, u_14, h_u_14, h⟩ := bn_of h
    refine kc_bounded X hS h_u_14 (Nat.le_trans (Nat.le_of_ble_eq_true rfl) hF) (Nat.le_trans (Nat.le_of_ble_eq_true rfl) hL) hl.1 (Nat.le_of_ble_eq_true rfl) dX12_image_76 (fun H locs hS => ?_)
    refine lv_istore (lv' := [(4, .int r_15), (3, .int (u_2.1 65)), (2, .int r_3), (0, .ref (Z 200)), (1, .int l1)]) hx hb dX12_image_79 hl (by decide) rfl (fun ls hl => ?_)
    refine lv_aload_n hx hb dX12_image_81 rfl (lv_at hl 3 rfl) ?_
    refine lv_sipush (v := 229) hx hb dX12_image_82 (by decide) ?_
    obtain ⟨r_u_16, u_16, h_u_16, h⟩ := bn_of h
    refine kc_take X hS h_u_16 (Nat.le_trans (Nat.le_of_ble_eq_true rfl) hF) (Nat.le_trans (Nat.le_of_ble_eq_true rfl) hL) hl.1 (Nat.le_of_ble_eq_true rfl) dX12_image_85 (fun H locs hS => ?_)
    refine lv_aload_n hx hb dX12_image_88 rfl (lv_at hl 3 rfl) ?_
    refine lv_iload_n hx hb dX12_image_89 rfl (lv_at hl 1 rfl) ?_
    refine lv_iload_n hx hb dX12_image_90 rfl (lv_at hl 2 rfl) ?_
    refine lv_iload_n hx hb dX12_image_91 rfl (lv_at hl 4 rfl) ?_
    refine lv_iconst (v := 1) hx hb dX12_image_92 (by decide) ?_
    refine lv_iconst (v := 0) hx hb dX12_image_93 (by decide) ?_
    refine lv_iload hx hb dX12_image_94 (lv_at hl 0 rfl) ?_
    refine lv_lconst (v := 0) hx hb dX12_image_96 (by decide) ?_
    obtain ⟨r_u_17, u_17, h_u_17, h⟩ := bn_of h
    refine kc_addVariable X hS h_u_17 (Nat.le_trans (Nat.le_of_ble_eq_true rfl) hF) (Nat.le_trans (Nat.le_of_ble_eq_true rfl) hL) hl.1 (Nat.le_of_ble_eq_true rfl) dX12_image_97 (fun H locs hS => ?_)
    obtain ⟨-, rfl⟩ := so h
    exact hE _ _ _ _ hS dX12_image_100
  · have h := ip (c_6) h
    refine lv_aload_n hx hb dX12_image_28 rfl (lv_at hl 2 rfl) ?_
    obtain ⟨r_u_18, u_18, h_u_18, h⟩ := bn_of h
    refine kc_stuck X hS h_u_18 (Nat.le_trans (Nat.le_of_ble_eq_true rfl) hF) (Nat.le_trans (Nat.le_of_ble_eq_true rfl) hL) hl.1 (Nat.le_of_ble_eq_true rfl) dX12_image_29 (fun H locs hS => ?_)
    obtain ⟨-, rfl⟩ := so h
    exact hE _ _ _ _ hS dX12_image_32
def F_image (N : Nat) (l1 : Int32) (u : RSt) : Option (Int32 × RSt) := B_image_0 N l1 u
set_option maxHeartbeats 4000000 in
theorem k_image (l : Launch) (D : va_G) (kA : Nat → ClassId) (V Z : Nat → Nat) (N : Nat) (l1 : Int32) (u : RSt) (sz : Nat) {r : Int32} {w : RSt} (h : F_image N l1 u = some (r, w)) : Met l yX12_image (Cond.code yX12_image cX12_image 5 none :: GW) { frames := 3, cells := 0, slots := 0, locals := 74 } (rPc D kA V Z [.int l1] u sz) (rQv D kA Z u sz w) 0 0 (va_A (RW kA Z u) sz) := by
  refine Met.ofW (cc := cX12_image) (maxL := 5) (ret := none) (by decide) rfl ?_
  intro p e s m args below meth c s₁ Bd hml hv
  obtain ⟨rfl, hsz, hP, hK, hD0, hE⟩ := hv
  have hts := atoms_spec (ws := Cond.code yX12_image cX12_image 5 none :: GW) Bd.pre
  have hl := lv_entry (.ref (Z 200) :: [.int l1]) (n := 5) (Nat.le_of_ble_eq_true rfl)
  rw [lg_entry_eq]
  generalize (lg_sl (.ref (Z 200) :: [.int l1]) ++ List.replicate (5 - (lg_sl (.ref (Z 200) :: [.int l1])).length) Slot.unset).toArray = ls at hl ⊢
  have hl : lv_has ls 5 [(0, .ref (Z 200)), (1, .int l1)] := hl
  subst hsz
  have X : RC p s m (.ref (Z 200) :: [.int l1]).toArray c cX12_image 5 (Cond.code yX12_image cX12_image 5 none) D kA V (va_A (RW kA Z u) s.heap.size) := ⟨⟨Bd.exec, Bd.bytes, hml, findClass_of_methodNamed Bd.named, hts⟩, hK, hE, fun q h => Or.inr h⟩
  exact b_image_0 X (rend_v (cy := cX12_image) X Bd.returns Bd.notSynchronized) (Nat.le_refl _) (Nat.le_refl _) h ⟨hP, hD0.self, va_S.rf⟩ (lv_sub hl [0, 1] rfl)
theorem kc_image {r : Int32} {cc : ByteArray} {pc nL : Nat} {c0 : Cond} {rest : List Value} {l1 : Int32} {u : RSt} (X : RC p s m args c cc nL c0 D kA V A) (hS : RS D kA Z A s u H locs) (h : F_image N l1 u = some (r, w)) (hF : 3 + 1 ≤ R.frames) (hL : 8 + (5 + 11) + 74 ≤ R.locals) (hl : ls.size = nL) (hc : (rest.map fun v => v.category).sum ≤ 8) (hdg : decode cc pc = .ok (.invokevirtual 420, 3)) (kk : ∀ H locs, RS D kA Z A s w H locs → W p l e R s m args below meth c H locs 0 0 Q (F0 m (pc + 3) ls (rest))) : W p l e R s m args below meth c H locs 0 0 Q (F0 m pc ls (.int l1 :: .ref (Z 200) :: rest)) :=
  rcall_v (n := 1) X hS (k_image l D kA V Z N l1 u H.size h) (gw_V gw_2421 gw_2423 gs_9_5 gw_16 gw_2424) (by decide +kernel) hF hL rfl hl hc rfl hdg kk
def B_parameter_62 (N : Nat) (u : RSt) : Option (Int32 × RSt) := pu (sI u 65 ((u.1 65) + 1)) fun u_1 => some (0, u_1)
set_option maxHeartbeats 4000000 in
theorem b_parameter_62 {r : Int32} (X : RC p s m args c cX12_parameter 2 (Cond.code yX12_parameter cX12_parameter 2 none) D kA V A) (hE : REv p l e R s m args below meth c cX12_parameter D kA Z A Q w) (hF : 3 ≤ R.frames) (hL : 72 ≤ R.locals)  {u : RSt} (h : B_parameter_62 N u = some (r, w)) (hS : RS D kA Z A s u H locs) (hl : lv_has ls 2 [(0, .ref (Z 200))]) : W p l e R s m args below meth c H locs 0 0 Q (F0 m 62 ls []) := by
  obtain ⟨⟨hx, hb, hml, hown, hts⟩, hK, hEV, hA⟩ := id X
  have hG : ∀ w ∈ GW, w.before args s = true := fun w h => hts w (List.mem_cons_of_mem _ h)
  unfold B_parameter_62 at h
  refine lv_aload_n hx hb dX12_parameter_62 rfl (lv_at hl 0 rfl) ?_
  refine lv_dup hx hb dX12_parameter_63 rfl ?_
  refine rg_65 X hS dX12_parameter_64 ?_
  refine lv_iconst (v := 1) hx hb dX12_parameter_67 (by decide) ?_
  refine lv_iadd hx hb dX12_parameter_68 ?_
  obtain ⟨u_1, e_u_1, h⟩ := pu_of h
  refine rp_65 X hS e_u_1 dX12_parameter_69 (fun H locs hS => ?_)
  obtain ⟨-, rfl⟩ := so h
  exact hE _ _ _ _ hS dX12_parameter_72
def B_parameter_0 (N : Nat) (u : RSt) : Option (Int32 × RSt) := bn (F_kind N u) fun r_3 u_2 => bn (F_is N 1 u_2) fun r_5 u_4 => if r_5 = (0 : Int32) then (bn (F_stuck N u_4) fun _ u_15 => some (0, u_15)) else (bn (F_local N 1 u_4) fun _ u_7 => bn (F_addSlot N (u_7.1 65) r_3 1 0 0 u_7) fun _ u_8 => if (u_8.1 69) = (0 : Int32) then (B_parameter_62 N u_8) else (if (u_8.1 67) = (0 : Int32) then (rd (u_8.2.2.1 30) 48 (u_8.1 71) fun v_11 => wr 48 (u_8.1 71) (sA u_8 30 (u_8.1 71).toNatClampNeg (v_11 + 1)) fun u_13 => B_parameter_62 N u_13) else (B_parameter_62 N u_8)))
set_option maxHeartbeats 4000000 in
theorem b_parameter_0 {r : Int32} (X : RC p s m args c cX12_parameter 2 (Cond.code yX12_parameter cX12_parameter 2 none) D kA V A) (hE : REv p l e R s m args below meth c cX12_parameter D kA Z A Q w) (hF : 3 ≤ R.frames) (hL : 72 ≤ R.locals)  {u : RSt} (h : B_parameter_0 N u = some (r, w)) (hS : RS D kA Z A s u H locs) (hl : lv_has ls 2 [(0, .ref (Z 200))]) : W p l e R s m args below meth c H locs 0 0 Q (F0 m 0 ls []) := by
  obtain ⟨⟨hx, hb, hml, hown, hts⟩, hK, hEV, hA⟩ := id X
  have hG : ∀ w ∈ GW, w.before args s = true := fun w h => hts w (List.mem_cons_of_mem _ h)
  unfold B_parameter_0 at h
  refine lv_aload_n hx hb dX12_parameter_0 rfl (lv_at hl 0 rfl) ?_
  obtain ⟨r_3, u_2, h_u_2, h⟩ := bn_of h
  refine kc_kind X hS h_u_2 (Nat.le_trans (Nat.le_of_ble_eq_true rfl) hF) (Nat.le_trans (Nat.le_of_ble_eq_true rfl) hL) hl.1 (Nat.le_of_ble_eq_true rfl) dX12_parameter_1 (fun H locs hS => ?_)
  refine lv_istore_n (lv' := [(1, .int r_3), (0, .ref (Z 200))]) hx hb dX12_parameter_4 rfl hl (by decide) rfl (fun ls hl => ?_)
  refine lv_aload_n hx hb dX12_parameter_5 rfl (lv_at hl 1 rfl) ?_
  refine lv_iconst (v := 1) hx hb dX12_parameter_6 (by decide) ?_
  obtain ⟨r_5, u_4, h_u_4, h⟩ := bn_of h
  refine kc_is X hS h_u_4 (Nat.le_trans (Nat.le_of_ble_eq_true rfl) hF) (Nat.le_trans (Nat.le_of_ble_eq_true rfl) hL) hl.1 (Nat.le_of_ble_eq_true rfl) dX12_parameter_7 (fun H locs hS => ?_)
  refine lv_if_ne (tgt := 18) hx hb dX12_parameter_10 (by decide) (fun c_6 => ?_) (fun c_6 => ?_)
  · have h := im (c_6) h
    refine lv_aload_n hx hb dX12_parameter_18 rfl (lv_at hl 1 rfl) ?_
    refine lv_iconst (v := 1) hx hb dX12_parameter_19 (by decide) ?_
    obtain ⟨r_u_7, u_7, h_u_7, h⟩ := bn_of h
    refine kc_local X hS h_u_7 (Nat.le_trans (Nat.le_of_ble_eq_true rfl) hF) (Nat.le_trans (Nat.le_of_ble_eq_true rfl) hL) hl.1 (Nat.le_of_ble_eq_true rfl) dX12_parameter_20 (fun H locs hS => ?_)
    refine lv_aload_n hx hb dX12_parameter_23 rfl (lv_at hl 1 rfl) ?_
    refine lv_aload_n hx hb dX12_parameter_24 rfl (lv_at hl 1 rfl) ?_
    refine rg_65 X hS dX12_parameter_25 ?_
    refine lv_iload_n hx hb dX12_parameter_28 rfl (lv_at hl 0 rfl) ?_
    refine lv_iconst (v := 1) hx hb dX12_parameter_29 (by decide) ?_
    refine lv_iconst (v := 0) hx hb dX12_parameter_30 (by decide) ?_
    refine lv_lconst (v := 0) hx hb dX12_parameter_31 (by decide) ?_
    obtain ⟨r_u_8, u_8, h_u_8, h⟩ := bn_of h
    refine kc_addSlot X hS h_u_8 (Nat.le_trans (Nat.le_of_ble_eq_true rfl) hF) (Nat.le_trans (Nat.le_of_ble_eq_true rfl) hL) hl.1 (Nat.le_of_ble_eq_true rfl) dX12_parameter_32 (fun H locs hS => ?_)
    refine lv_aload_n hx hb dX12_parameter_35 rfl (lv_at hl 1 rfl) ?_
    refine rg_69 X hS dX12_parameter_36 ?_
    refine lv_if_eq (tgt := 62) hx hb dX12_parameter_39 (by decide) (fun c_9 => ?_) (fun c_9 => ?_)
    · have h := ip (c_9) h
      exact b_parameter_62 X hE hF hL  h hS (lv_sub hl [1] rfl)
    · have h := im (c_9) h
      refine lv_aload_n hx hb dX12_parameter_42 rfl (lv_at hl 1 rfl) ?_
      refine rg_67 X hS dX12_parameter_43 ?_
      refine lv_if_ne (tgt := 62) hx hb dX12_parameter_46 (by decide) (fun c_10 => ?_) (fun c_10 => ?_)
      · have h := im (c_10) h
        exact b_parameter_62 X hE hF hL  h hS (lv_sub hl [1] rfl)
      · have h := ip (c_10) h
        refine lv_aload_n hx hb dX12_parameter_49 rfl (lv_at hl 1 rfl) ?_
        refine rg_30 X hS dX12_parameter_50 ?_
        refine lv_aload_n hx hb dX12_parameter_53 rfl (lv_at hl 1 rfl) ?_
        refine rg_71 X hS dX12_parameter_54 ?_
        refine lv_dup2_11 hx hb dX12_parameter_57 rfl rfl ?_
        obtain ⟨v_11, e_v_11, i_12, h⟩ := rd_of h
        refine ra_30 X hS i_12 e_v_11 dX12_parameter_58 ?_
        refine lv_iconst (v := 1) hx hb dX12_parameter_59 (by decide) ?_
        refine lv_iadd hx hb dX12_parameter_60 ?_
        obtain ⟨u_13, e_u_13, i_14, h⟩ := wr_of h
        refine rs_30 X hS i_14 e_u_13 dX12_parameter_61 (fun H locs hS => ?_)
        exact b_parameter_62 X hE hF hL  h hS (lv_sub hl [1] rfl)
  · have h := ip (c_6) h
    refine lv_aload_n hx hb dX12_parameter_13 rfl (lv_at hl 1 rfl) ?_
    obtain ⟨r_u_15, u_15, h_u_15, h⟩ := bn_of h
    refine kc_stuck X hS h_u_15 (Nat.le_trans (Nat.le_of_ble_eq_true rfl) hF) (Nat.le_trans (Nat.le_of_ble_eq_true rfl) hL) hl.1 (Nat.le_of_ble_eq_true rfl) dX12_parameter_14 (fun H locs hS => ?_)
    obtain ⟨-, rfl⟩ := so h
    exact hE _ _ _ _ hS dX12_parameter_17
def F_parameter (N : Nat) (u : RSt) : Option (Int32 × RSt) := B_parameter_0 N u
set_option maxHeartbeats 4000000 in
theorem k_parameter (l : Launch) (D : va_G) (kA : Nat → ClassId) (V Z : Nat → Nat) (N : Nat) (u : RSt) (sz : Nat) {r : Int32} {w : RSt} (h : F_parameter N u = some (r, w)) : Met l yX12_parameter (Cond.code yX12_parameter cX12_parameter 2 none :: GW) { frames := 3, cells := 0, slots := 0, locals := 72 } (rPc D kA V Z [] u sz) (rQv D kA Z u sz w) 0 0 (va_A (RW kA Z u) sz) := by
  refine Met.ofW (cc := cX12_parameter) (maxL := 2) (ret := none) (by decide) rfl ?_
  intro p e s m args below meth c s₁ Bd hml hv
  obtain ⟨rfl, hsz, hP, hK, hD0, hE⟩ := hv
  have hts := atoms_spec (ws := Cond.code yX12_parameter cX12_parameter 2 none :: GW) Bd.pre
  have hl := lv_entry (.ref (Z 200) :: []) (n := 2) (Nat.le_of_ble_eq_true rfl)
  rw [lg_entry_eq]
  generalize (lg_sl (.ref (Z 200) :: []) ++ List.replicate (2 - (lg_sl (.ref (Z 200) :: [])).length) Slot.unset).toArray = ls at hl ⊢
  have hl : lv_has ls 2 [(0, .ref (Z 200))] := hl
  subst hsz
  have X : RC p s m (.ref (Z 200) :: []).toArray c cX12_parameter 2 (Cond.code yX12_parameter cX12_parameter 2 none) D kA V (va_A (RW kA Z u) s.heap.size) := ⟨⟨Bd.exec, Bd.bytes, hml, findClass_of_methodNamed Bd.named, hts⟩, hK, hE, fun q h => Or.inr h⟩
  exact b_parameter_0 X (rend_v (cy := cX12_parameter) X Bd.returns Bd.notSynchronized) (Nat.le_refl _) (Nat.le_refl _) h ⟨hP, hD0.self, va_S.rf⟩ (lv_sub hl [0] rfl)
theorem kc_parameter {r : Int32} {cc : ByteArray} {pc nL : Nat} {c0 : Cond} {rest : List Value} {u : RSt} (X : RC p s m args c cc nL c0 D kA V A) (hS : RS D kA Z A s u H locs) (h : F_parameter N u = some (r, w)) (hF : 3 + 1 ≤ R.frames) (hL : 8 + (2 + 11) + 72 ≤ R.locals) (hl : ls.size = nL) (hc : (rest.map fun v => v.category).sum ≤ 8) (hdg : decode cc pc = .ok (.invokevirtual 361, 3)) (kk : ∀ H locs, RS D kA Z A s w H locs → W p l e R s m args below meth c H locs 0 0 Q (F0 m (pc + 3) ls (rest))) : W p l e R s m args below meth c H locs 0 0 Q (F0 m pc ls (.ref (Z 200) :: rest)) :=
  rcall_v (n := 0) X hS (k_parameter l D kA V Z N  u H.size h) (gw_V gw_2432 gw_2434 gs_9_7 gw_16 gw_2435) (by decide +kernel) hF hL rfl hl hc rfl hdg kk
def B_part_438 (N : Nat) (l1 : Int32) (l2 : Int32) (u : RSt) : Option (Int32 × RSt) := bn (F_ends N 226 u) fun _ u_1 => if l1 = (0 : Int32) then (bn (F_emit N 33 0 0 u_1) fun r_4 u_3 => pu (sI u_3 70 0) fun u_5 => some (0, u_5)) else (bn (F_push N 0 u_1) fun _ u_6 => bn (F_emit N 34 l2 0 u_6) fun r_8 u_7 => pu (sI u_7 70 0) fun u_9 => some (0, u_9))
set_option maxHeartbeats 4000000 in
theorem b_part_438 {r : Int32} (X : RC p s m args c cX12_part 5 (Cond.code yX12_part cX12_part 5 none) D kA V A) (hE : REv p l e R s m args below meth c cX12_part D kA Z A Q w) (hF : 531 ≤ R.frames) (hL : 32024 ≤ R.locals) {l1 : Int32} {l2 : Int32}  {u : RSt} (h : B_part_438 N l1 l2 u = some (r, w)) (hS : RS D kA Z A s u H locs) (hl : lv_has ls 5 [(0, .ref (Z 200)), (1, .int l1), (2, .int l2)]) : W p l e R s m args below meth c H locs 0 0 Q (F0 m 438 ls []) := by
  obtain ⟨⟨hx, hb, hml, hown, hts⟩, hK, hEV, hA⟩ := id X
  have hG : ∀ w ∈ GW, w.before args s = true := fun w h => hts w (List.mem_cons_of_mem _ h)
  unfold B_part_438 at h
  refine lv_aload_n hx hb dX12_part_438 rfl (lv_at hl 0 rfl) ?_
  refine lv_sipush (v := 226) hx hb dX12_part_439 (by decide) ?_
  obtain ⟨r_u_1, u_1, h_u_1, h⟩ := bn_of h
  refine kc_ends X hS h_u_1 (Nat.le_trans (Nat.le_of_ble_eq_true rfl) hF) (Nat.le_trans (Nat.le_of_ble_eq_true rfl) hL) hl.1 (Nat.le_of_ble_eq_true rfl) dX12_part_442 (fun H locs hS => ?_)
  refine lv_iload_n hx hb dX12_part_445 rfl (lv_at hl 1 rfl) ?_
  refine lv_if_eq (tgt := 467) hx hb dX12_part_446 (by decide) (fun c_2 => ?_) (fun c_2 => ?_)
  · have h := ip (c_2) h
    refine lv_aload_n hx hb dX12_part_467 rfl (lv_at hl 0 rfl) ?_
    refine lv_bipush (v := 33) hx hb dX12_part_468 (by decide) ?_
    refine lv_iconst (v := 0) hx hb dX12_part_470 (by decide) ?_
    refine lv_iconst (v := 0) hx hb dX12_part_471 (by decide) ?_
    obtain ⟨r_4, u_3, h_u_3, h⟩ := bn_of h
    refine kc_emit X hS h_u_3 (Nat.le_trans (Nat.le_of_ble_eq_true rfl) hF) (Nat.le_trans (Nat.le_of_ble_eq_true rfl) hL) hl.1 (Nat.le_of_ble_eq_true rfl) dX12_part_472 (fun H locs hS => ?_)
    refine lv_istore (lv' := [(4, .int r_4), (0, .ref (Z 200)), (1, .int l1), (2, .int l2)]) hx hb dX12_part_475 hl (by decide) rfl (fun ls hl => ?_)
    refine lv_aload_n hx hb dX12_part_477 rfl (lv_at hl 1 rfl) ?_
    refine lv_iconst (v := 0) hx hb dX12_part_478 (by decide) ?_
    obtain ⟨u_5, e_u_5, h⟩ := pu_of h
    refine rp_70 X hS e_u_5 dX12_part_479 (fun H locs hS => ?_)
    obtain ⟨-, rfl⟩ := so h
    exact hE _ _ _ _ hS dX12_part_482
  · have h := im (c_2) h
    refine lv_aload_n hx hb dX12_part_449 rfl (lv_at hl 0 rfl) ?_
    refine lv_lconst (v := 0) hx hb dX12_part_450 (by decide) ?_
    obtain ⟨r_u_6, u_6, h_u_6, h⟩ := bn_of h
    refine kc_push X hS h_u_6 (Nat.le_trans (Nat.le_of_ble_eq_true rfl) hF) (Nat.le_trans (Nat.le_of_ble_eq_true rfl) hL) hl.1 (Nat.le_of_ble_eq_true rfl) dX12_part_451 (fun H locs hS => ?_)
    refine lv_aload_n hx hb dX12_part_454 rfl (lv_at hl 0 rfl) ?_
    refine lv_bipush (v := 34) hx hb dX12_part_455 (by decide) ?_
    refine lv_iload_n hx hb dX12_part_457 rfl (lv_at hl 2 rfl) ?_
    refine lv_iconst (v := 0) hx hb dX12_part_458 (by decide) ?_
    obtain ⟨r_8, u_7, h_u_7, h⟩ := bn_of h
    refine kc_emit X hS h_u_7 (Nat.le_trans (Nat.le_of_ble_eq_true rfl) hF) (Nat.le_trans (Nat.le_of_ble_eq_true rfl) hL) hl.1 (Nat.le_of_ble_eq_true rfl) dX12_part_459 (fun H locs hS => ?_)
    refine lv_istore (lv' := [(4, .int r_8), (0, .ref (Z 200)), (1, .int l1), (2, .int l2)]) hx hb dX12_part_462 hl (by decide) rfl (fun ls hl => ?_)
    refine lv_goto (tgt := 477) hx hb dX12_part_464 (by decide) ?_
    refine lv_aload_n hx hb dX12_part_477 rfl (lv_at hl 1 rfl) ?_
    refine lv_iconst (v := 0) hx hb dX12_part_478 (by decide) ?_
    obtain ⟨u_9, e_u_9, h⟩ := pu_of h
    refine rp_70 X hS e_u_9 dX12_part_479 (fun H locs hS => ?_)
    obtain ⟨-, rfl⟩ := so h
    exact hE _ _ _ _ hS dX12_part_482
def B_part_414 (N : Nat) (R_414 : Int32 × Int32 × RSt → Option (Int32 × RSt)) (l1 : Int32) (l2 : Int32) (u : RSt) : Option (Int32 × RSt) := if (u.1 67) = (0 : Int32) then (bn (F_is N 226 u) fun r_12 u_11 => if r_12 = (0 : Int32) then (bn (G_stat N u_11) fun _ u_14 => R_414 (l1, l2, u_14)) else (B_part_438 N l1 l2 u_11)) else (B_part_438 N l1 l2 u)
set_option maxHeartbeats 4000000 in
theorem b_part_414 {r : Int32} (X : RC p s m args c cX12_part 5 (Cond.code yX12_part cX12_part 5 none) D kA V A) (hE : REv p l e R s m args below meth c cX12_part D kA Z A Q w) (hF : 531 ≤ R.frames) (hL : 32024 ≤ R.locals) {R_414 : Int32 × Int32 × RSt → Option (Int32 × RSt)} {l1 : Int32} {l2 : Int32} (hR_414 : ∀ (l1 : Int32) (l2 : Int32) (u : RSt), R_414 (l1, l2, u) = some (r, w) → ∀ (H : Heap) (locs : List Loc) (ls : Array Slot), RS D kA Z A s u H locs → lv_has ls 5 [(0, .ref (Z 200)), (1, .int l1), (2, .int l2)] → W p l e R s m args below meth c H locs 0 0 Q (F0 m 414 ls [])) {u : RSt} (h : B_part_414 N R_414 l1 l2 u = some (r, w)) (hS : RS D kA Z A s u H locs) (hl : lv_has ls 5 [(0, .ref (Z 200)), (1, .int l1), (2, .int l2)]) : W p l e R s m args below meth c H locs 0 0 Q (F0 m 414 ls []) := by
  obtain ⟨⟨hx, hb, hml, hown, hts⟩, hK, hEV, hA⟩ := id X
  have hG : ∀ w ∈ GW, w.before args s = true := fun w h => hts w (List.mem_cons_of_mem _ h)
  unfold B_part_414 at h
  refine lv_aload_n hx hb dX12_part_414 rfl (lv_at hl 0 rfl) ?_
  refine rg_67 X hS dX12_part_415 ?_
  refine lv_if_ne (tgt := 438) hx hb dX12_part_418 (by decide) (fun c_10 => ?_) (fun c_10 => ?_)
  · have h := im (c_10) h
    exact b_part_438 X hE hF hL  h hS (lv_sub hl [0, 1, 2] rfl)
  · have h := ip (c_10) h
    refine lv_aload_n hx hb dX12_part_421 rfl (lv_at hl 0 rfl) ?_
    refine lv_sipush (v := 226) hx hb dX12_part_422 (by decide) ?_
    obtain ⟨r_12, u_11, h_u_11, h⟩ := bn_of h
    refine kc_is X hS h_u_11 (Nat.le_trans (Nat.le_of_ble_eq_true rfl) hF) (Nat.le_trans (Nat.le_of_ble_eq_true rfl) hL) hl.1 (Nat.le_of_ble_eq_true rfl) dX12_part_425 (fun H locs hS => ?_)
    refine lv_if_ne (tgt := 438) hx hb dX12_part_428 (by decide) (fun c_13 => ?_) (fun c_13 => ?_)
    · have h := im (c_13) h
      exact b_part_438 X hE hF hL  h hS (lv_sub hl [0, 1, 2] rfl)
    · have h := ip (c_13) h
      refine lv_aload_n hx hb dX12_part_431 rfl (lv_at hl 0 rfl) ?_
      obtain ⟨r_u_14, u_14, h_u_14, h⟩ := bn_of h
      refine kg_stat X hS h_u_14 (Nat.le_trans (Nat.le_of_ble_eq_true rfl) hF) (Nat.le_trans (Nat.le_of_ble_eq_true rfl) hL) hl.1 (Nat.le_of_ble_eq_true rfl) dX12_part_432 (fun H locs hS => ?_)
      refine lv_goto (tgt := 414) hx hb dX12_part_435 (by decide) ?_
      exact hR_414 _ _ _ h _ _ _ hS (lv_sub hl [0, 1, 2] rfl)
def LP_part_414 (N : Nat) : Nat → Int32 × Int32 × RSt → Option (Int32 × RSt) := lp (fun R a => B_part_414 N R a.1 a.2.1 a.2.2)
theorem bl_part_414 {r : Int32} (X : RC p s m args c cX12_part 5 (Cond.code yX12_part cX12_part 5 none) D kA V A) (hE : REv p l e R s m args below meth c cX12_part D kA Z A Q w) (hF : 531 ≤ R.frames) (hL : 32024 ≤ R.locals)  : ∀ (n : Nat) (l1 : Int32) (l2 : Int32) (u : RSt), LP_part_414 N n (l1, l2, u) = some (r, w) → ∀ (H : Heap) (locs : List Loc) (ls : Array Slot), RS D kA Z A s u H locs → lv_has ls 5 [(0, .ref (Z 200)), (1, .int l1), (2, .int l2)] → W p l e R s m args below meth c H locs 0 0 Q (F0 m 414 ls []) := by
  intro n
  induction n with
  | zero => intro l1 l2 u h; exact nomatch h
  | succ n ih => intro l1 l2 u h H locs ls hS hl; exact b_part_414 (N := N) (R_414 := LP_part_414 N n) X hE hF hL  ih h hS hl
def B_part_396 (N : Nat) (R_396 : Int32 × Int32 × RSt → Option (Int32 × RSt)) (l1 : Int32) (l2 : Int32) (u : RSt) : Option (Int32 × RSt) := bn (F_is N 100 u) fun r_16 u_15 => if r_16 = (0 : Int32) then (LP_part_414 N N (l1, l2, u_15)) else (bn (F_variables N 0 1 u_15) fun _ u_18 => R_396 (l1, l2, u_18))
set_option maxHeartbeats 4000000 in
theorem b_part_396 {r : Int32} (X : RC p s m args c cX12_part 5 (Cond.code yX12_part cX12_part 5 none) D kA V A) (hE : REv p l e R s m args below meth c cX12_part D kA Z A Q w) (hF : 531 ≤ R.frames) (hL : 32024 ≤ R.locals) {R_396 : Int32 × Int32 × RSt → Option (Int32 × RSt)} {l1 : Int32} {l2 : Int32} (hR_396 : ∀ (l1 : Int32) (l2 : Int32) (u : RSt), R_396 (l1, l2, u) = some (r, w) → ∀ (H : Heap) (locs : List Loc) (ls : Array Slot), RS D kA Z A s u H locs → lv_has ls 5 [(0, .ref (Z 200)), (1, .int l1), (2, .int l2)] → W p l e R s m args below meth c H locs 0 0 Q (F0 m 396 ls [])) {u : RSt} (h : B_part_396 N R_396 l1 l2 u = some (r, w)) (hS : RS D kA Z A s u H locs) (hl : lv_has ls 5 [(0, .ref (Z 200)), (1, .int l1), (2, .int l2)]) : W p l e R s m args below meth c H locs 0 0 Q (F0 m 396 ls []) := by
  obtain ⟨⟨hx, hb, hml, hown, hts⟩, hK, hEV, hA⟩ := id X
  have hG : ∀ w ∈ GW, w.before args s = true := fun w h => hts w (List.mem_cons_of_mem _ h)
  unfold B_part_396 at h
  refine lv_aload_n hx hb dX12_part_396 rfl (lv_at hl 0 rfl) ?_
  refine lv_bipush (v := 100) hx hb dX12_part_397 (by decide) ?_
  obtain ⟨r_16, u_15, h_u_15, h⟩ := bn_of h
  refine kc_is X hS h_u_15 (Nat.le_trans (Nat.le_of_ble_eq_true rfl) hF) (Nat.le_trans (Nat.le_of_ble_eq_true rfl) hL) hl.1 (Nat.le_of_ble_eq_true rfl) dX12_part_399 (fun H locs hS => ?_)
  refine lv_if_eq (tgt := 414) hx hb dX12_part_402 (by decide) (fun c_17 => ?_) (fun c_17 => ?_)
  · have h := ip (c_17) h
    exact bl_part_414 X hE hF hL  _ _ _ _ h _ _ _ hS (lv_sub hl [0, 1, 2] rfl)
  · have h := im (c_17) h
    refine lv_aload_n hx hb dX12_part_405 rfl (lv_at hl 0 rfl) ?_
    refine lv_iconst (v := 0) hx hb dX12_part_406 (by decide) ?_
    refine lv_iconst (v := 1) hx hb dX12_part_407 (by decide) ?_
    obtain ⟨r_u_18, u_18, h_u_18, h⟩ := bn_of h
    refine kc_variables X hS h_u_18 (Nat.le_trans (Nat.le_of_ble_eq_true rfl) hF) (Nat.le_trans (Nat.le_of_ble_eq_true rfl) hL) hl.1 (Nat.le_of_ble_eq_true rfl) dX12_part_408 (fun H locs hS => ?_)
    refine lv_goto (tgt := 396) hx hb dX12_part_411 (by decide) ?_
    exact hR_396 _ _ _ h _ _ _ hS (lv_sub hl [0, 1, 2] rfl)
def LP_part_396 (N : Nat) : Nat → Int32 × Int32 × RSt → Option (Int32 × RSt) := lp (fun R a => B_part_396 N R a.1 a.2.1 a.2.2)
theorem bl_part_396 {r : Int32} (X : RC p s m args c cX12_part 5 (Cond.code yX12_part cX12_part 5 none) D kA V A) (hE : REv p l e R s m args below meth c cX12_part D kA Z A Q w) (hF : 531 ≤ R.frames) (hL : 32024 ≤ R.locals)  : ∀ (n : Nat) (l1 : Int32) (l2 : Int32) (u : RSt), LP_part_396 N n (l1, l2, u) = some (r, w) → ∀ (H : Heap) (locs : List Loc) (ls : Array Slot), RS D kA Z A s u H locs → lv_has ls 5 [(0, .ref (Z 200)), (1, .int l1), (2, .int l2)] → W p l e R s m args below meth c H locs 0 0 Q (F0 m 396 ls []) := by
  intro n
  induction n with
  | zero => intro l1 l2 u h; exact nomatch h
  | succ n ih => intro l1 l2 u h H locs ls hS hl; exact b_part_396 (N := N) (R_396 := LP_part_396 N n) X hE hF hL  ih h hS hl
def B_part_355 (N : Nat) (l1 : Int32) (l2 : Int32) (u : RSt) : Option (Int32 × RSt) := bn (F_ends N 224 u) fun _ u_19 => bn (F_begins N 225 u_19) fun _ u_20 => if (u_20.1 69) = (0 : Int32) then (LP_part_396 N N (l1, l2, u_20)) else (if (u_20.1 67) = (0 : Int32) then (bn (F_here N u_20) fun r_24 u_23 => wr 48 (u_20.1 71) (sA u_23 32 (u_20.1 71).toNatClampNeg r_24) fun u_25 => LP_part_396 N N (l1, l2, u_25)) else (LP_part_396 N N (l1, l2, u_20)))
set_option maxHeartbeats 4000000 in
theorem b_part_355 {r : Int32} (X : RC p s m args c cX12_part 5 (Cond.code yX12_part cX12_part 5 none) D kA V A) (hE : REv p l e R s m args below meth c cX12_part D kA Z A Q w) (hF : 531 ≤ R.frames) (hL : 32024 ≤ R.locals) {l1 : Int32} {l2 : Int32}  {u : RSt} (h : B_part_355 N l1 l2 u = some (r, w)) (hS : RS D kA Z A s u H locs) (hl : lv_has ls 5 [(0, .ref (Z 200)), (1, .int l1), (2, .int l2)]) : W p l e R s m args below meth c H locs 0 0 Q (F0 m 355 ls []) := by
  obtain ⟨⟨hx, hb, hml, hown, hts⟩, hK, hEV, hA⟩ := id X
  have hG : ∀ w ∈ GW, w.before args s = true := fun w h => hts w (List.mem_cons_of_mem _ h)
  unfold B_part_355 at h
  refine lv_aload_n hx hb dX12_part_355 rfl (lv_at hl 0 rfl) ?_
  refine lv_sipush (v := 224) hx hb dX12_part_356 (by decide) ?_
  obtain ⟨r_u_19, u_19, h_u_19, h⟩ := bn_of h
  refine kc_ends X hS h_u_19 (Nat.le_trans (Nat.le_of_ble_eq_true rfl) hF) (Nat.le_trans (Nat.le_of_ble_eq_true rfl) hL) hl.1 (Nat.le_of_ble_eq_true rfl) dX12_part_359 (fun H locs hS => ?_)
  refine lv_aload_n hx hb dX12_part_362 rfl (lv_at hl 0 rfl) ?_
  refine lv_sipush (v := 225) hx hb dX12_part_363 (by decide) ?_
  obtain ⟨r_u_20, u_20, h_u_20, h⟩ := bn_of h
  refine kc_begins X hS h_u_20 (Nat.le_trans (Nat.le_of_ble_eq_true rfl) hF) (Nat.le_trans (Nat.le_of_ble_eq_true rfl) hL) hl.1 (Nat.le_of_ble_eq_true rfl) dX12_part_366 (fun H locs hS => ?_)
  refine lv_aload_n hx hb dX12_part_369 rfl (lv_at hl 0 rfl) ?_
  refine rg_69 X hS dX12_part_370 ?_
  refine lv_if_eq (tgt := 396) hx hb dX12_part_373 (by decide) (fun c_21 => ?_) (fun c_21 => ?_)
  · have h := ip (c_21) h
    exact bl_part_396 X hE hF hL  _ _ _ _ h _ _ _ hS (lv_sub hl [0, 1, 2] rfl)
  · have h := im (c_21) h
    refine lv_aload_n hx hb dX12_part_376 rfl (lv_at hl 0 rfl) ?_
    refine rg_67 X hS dX12_part_377 ?_
    refine lv_if_ne (tgt := 396) hx hb dX12_part_380 (by decide) (fun c_22 => ?_) (fun c_22 => ?_)
    · have h := im (c_22) h
      exact bl_part_396 X hE hF hL  _ _ _ _ h _ _ _ hS (lv_sub hl [0, 1, 2] rfl)
    · have h := ip (c_22) h
      refine lv_aload_n hx hb dX12_part_383 rfl (lv_at hl 0 rfl) ?_
      refine rg_32 X hS dX12_part_384 ?_
      refine lv_aload_n hx hb dX12_part_387 rfl (lv_at hl 0 rfl) ?_
      refine rg_71 X hS dX12_part_388 ?_
      refine lv_aload_n hx hb dX12_part_391 rfl (lv_at hl 0 rfl) ?_
      obtain ⟨r_24, u_23, h_u_23, h⟩ := bn_of h
      refine kc_here X hS h_u_23 (Nat.le_trans (Nat.le_of_ble_eq_true rfl) hF) (Nat.le_trans (Nat.le_of_ble_eq_true rfl) hL) hl.1 (Nat.le_of_ble_eq_true rfl) dX12_part_392 (fun H locs hS => ?_)
      obtain ⟨u_25, e_u_25, i_26, h⟩ := wr_of h
      refine rs_32 X hS i_26 e_u_25 dX12_part_395 (fun H locs hS => ?_)
      exact bl_part_396 X hE hF hL  _ _ _ _ h _ _ _ hS (lv_sub hl [0, 1, 2] rfl)
def B_part_338 (N : Nat) (R_338 : Int32 × Int32 × RSt → Option (Int32 × RSt)) (l1 : Int32) (l2 : Int32) (u : RSt) : Option (Int32 × RSt) := bn (F_has N 230 u) fun r_28 u_27 => if r_28 = (0 : Int32) then (B_part_355 N l1 l2 u_27) else (bn (F_parameter N u_27) fun _ u_30 => R_338 (l1, l2, u_30))
set_option maxHeartbeats 4000000 in
theorem b_part_338 {r : Int32} (X : RC p s m args c cX12_part 5 (Cond.code yX12_part cX12_part 5 none) D kA V A) (hE : REv p l e R s m args below meth c cX12_part D kA Z A Q w) (hF : 531 ≤ R.frames) (hL : 32024 ≤ R.locals) {R_338 : Int32 × Int32 × RSt → Option (Int32 × RSt)} {l1 : Int32} {l2 : Int32} (hR_338 : ∀ (l1 : Int32) (l2 : Int32) (u : RSt), R_338 (l1, l2, u) = some (r, w) → ∀ (H : Heap) (locs : List Loc) (ls : Array Slot), RS D kA Z A s u H locs → lv_has ls 5 [(0, .ref (Z 200)), (1, .int l1), (2, .int l2)] → W p l e R s m args below meth c H locs 0 0 Q (F0 m 338 ls [])) {u : RSt} (h : B_part_338 N R_338 l1 l2 u = some (r, w)) (hS : RS D kA Z A s u H locs) (hl : lv_has ls 5 [(0, .ref (Z 200)), (1, .int l1), (2, .int l2)]) : W p l e R s m args below meth c H locs 0 0 Q (F0 m 338 ls []) := by
  obtain ⟨⟨hx, hb, hml, hown, hts⟩, hK, hEV, hA⟩ := id X
  have hG : ∀ w ∈ GW, w.before args s = true := fun w h => hts w (List.mem_cons_of_mem _ h)
  unfold B_part_338 at h
  refine lv_aload_n hx hb dX12_part_338 rfl (lv_at hl 0 rfl) ?_
  refine lv_sipush (v := 230) hx hb dX12_part_339 (by decide) ?_
  obtain ⟨r_28, u_27, h_u_27, h⟩ := bn_of h
  refine kc_has X hS h_u_27 (Nat.le_trans (Nat.le_of_ble_eq_true rfl) hF) (Nat.le_trans (Nat.le_of_ble_eq_true rfl) hL) hl.1 (Nat.le_of_ble_eq_true rfl) dX12_part_342 (fun H locs hS => ?_)
  refine lv_if_eq (tgt := 355) hx hb dX12_part_345 (by decide) (fun c_29 => ?_) (fun c_29 => ?_)
  · have h := ip (c_29) h
    exact b_part_355 X hE hF hL  h hS (lv_sub hl [0, 1, 2] rfl)
  · have h := im (c_29) h
    refine lv_aload_n hx hb dX12_part_348 rfl (lv_at hl 0 rfl) ?_
    obtain ⟨r_u_30, u_30, h_u_30, h⟩ := bn_of h
    refine kc_parameter X hS h_u_30 (Nat.le_trans (Nat.le_of_ble_eq_true rfl) hF) (Nat.le_trans (Nat.le_of_ble_eq_true rfl) hL) hl.1 (Nat.le_of_ble_eq_true rfl) dX12_part_349 (fun H locs hS => ?_)
    refine lv_goto (tgt := 338) hx hb dX12_part_352 (by decide) ?_
    exact hR_338 _ _ _ h _ _ _ hS (lv_sub hl [0, 1, 2] rfl)
def LP_part_338 (N : Nat) : Nat → Int32 × Int32 × RSt → Option (Int32 × RSt) := lp (fun R a => B_part_338 N R a.1 a.2.1 a.2.2)
theorem bl_part_338 {r : Int32} (X : RC p s m args c cX12_part 5 (Cond.code yX12_part cX12_part 5 none) D kA V A) (hE : REv p l e R s m args below meth c cX12_part D kA Z A Q w) (hF : 531 ≤ R.frames) (hL : 32024 ≤ R.locals)  : ∀ (n : Nat) (l1 : Int32) (l2 : Int32) (u : RSt), LP_part_338 N n (l1, l2, u) = some (r, w) → ∀ (H : Heap) (locs : List Loc) (ls : Array Slot), RS D kA Z A s u H locs → lv_has ls 5 [(0, .ref (Z 200)), (1, .int l1), (2, .int l2)] → W p l e R s m args below meth c H locs 0 0 Q (F0 m 338 ls []) := by
  intro n
  induction n with
  | zero => intro l1 l2 u h; exact nomatch h
  | succ n ih => intro l1 l2 u h H locs ls hS hl; exact b_part_338 (N := N) (R_338 := LP_part_338 N n) X hE hF hL  ih h hS hl
def B_part_300 (N : Nat) (l1 : Int32) (l2 : Int32) (u : RSt) : Option (Int32 × RSt) := pu (sI u 65 ((u.1 65) + 1)) fun u_31 => bn (F_begins N 223 u_31) fun _ u_32 => if (u_32.1 67) = (0 : Int32) then (bn (F_is N 224 u_32) fun r_35 u_34 => if r_35 = (0 : Int32) then (bn (F_parameter N u_34) fun _ u_37 => LP_part_338 N N (l1, l2, u_37)) else (B_part_355 N l1 l2 u_34)) else (B_part_355 N l1 l2 u_32)
set_option maxHeartbeats 4000000 in
theorem b_part_300 {r : Int32} (X : RC p s m args c cX12_part 5 (Cond.code yX12_part cX12_part 5 none) D kA V A) (hE : REv p l e R s m args below meth c cX12_part D kA Z A Q w) (hF : 531 ≤ R.frames) (hL : 32024 ≤ R.locals) {l1 : Int32} {l2 : Int32}  {u : RSt} (h : B_part_300 N l1 l2 u = some (r, w)) (hS : RS D kA Z A s u H locs) (hl : lv_has ls 5 [(0, .ref (Z 200)), (1, .int l1), (2, .int l2)]) : W p l e R s m args below meth c H locs 0 0 Q (F0 m 300 ls []) := by
  obtain ⟨⟨hx, hb, hml, hown, hts⟩, hK, hEV, hA⟩ := id X
  have hG : ∀ w ∈ GW, w.before args s = true := fun w h => hts w (List.mem_cons_of_mem _ h)
  unfold B_part_300 at h
  refine lv_aload_n hx hb dX12_part_300 rfl (lv_at hl 0 rfl) ?_
  refine lv_dup hx hb dX12_part_301 rfl ?_
  refine rg_65 X hS dX12_part_302 ?_
  refine lv_iconst (v := 1) hx hb dX12_part_305 (by decide) ?_
  refine lv_iadd hx hb dX12_part_306 ?_
  obtain ⟨u_31, e_u_31, h⟩ := pu_of h
  refine rp_65 X hS e_u_31 dX12_part_307 (fun H locs hS => ?_)
  refine lv_aload_n hx hb dX12_part_310 rfl (lv_at hl 0 rfl) ?_
  refine lv_sipush (v := 223) hx hb dX12_part_311 (by decide) ?_
  obtain ⟨r_u_32, u_32, h_u_32, h⟩ := bn_of h
  refine kc_begins X hS h_u_32 (Nat.le_trans (Nat.le_of_ble_eq_true rfl) hF) (Nat.le_trans (Nat.le_of_ble_eq_true rfl) hL) hl.1 (Nat.le_of_ble_eq_true rfl) dX12_part_314 (fun H locs hS => ?_)
  refine lv_aload_n hx hb dX12_part_317 rfl (lv_at hl 0 rfl) ?_
  refine rg_67 X hS dX12_part_318 ?_
  refine lv_if_ne (tgt := 355) hx hb dX12_part_321 (by decide) (fun c_33 => ?_) (fun c_33 => ?_)
  · have h := im (c_33) h
    exact b_part_355 X hE hF hL  h hS (lv_sub hl [0, 1, 2] rfl)
  · have h := ip (c_33) h
    refine lv_aload_n hx hb dX12_part_324 rfl (lv_at hl 0 rfl) ?_
    refine lv_sipush (v := 224) hx hb dX12_part_325 (by decide) ?_
    obtain ⟨r_35, u_34, h_u_34, h⟩ := bn_of h
    refine kc_is X hS h_u_34 (Nat.le_trans (Nat.le_of_ble_eq_true rfl) hF) (Nat.le_trans (Nat.le_of_ble_eq_true rfl) hL) hl.1 (Nat.le_of_ble_eq_true rfl) dX12_part_328 (fun H locs hS => ?_)
    refine lv_if_ne (tgt := 355) hx hb dX12_part_331 (by decide) (fun c_36 => ?_) (fun c_36 => ?_)
    · have h := im (c_36) h
      exact b_part_355 X hE hF hL  h hS (lv_sub hl [0, 1, 2] rfl)
    · have h := ip (c_36) h
      refine lv_aload_n hx hb dX12_part_334 rfl (lv_at hl 0 rfl) ?_
      obtain ⟨r_u_37, u_37, h_u_37, h⟩ := bn_of h
      refine kc_parameter X hS h_u_37 (Nat.le_trans (Nat.le_of_ble_eq_true rfl) hF) (Nat.le_trans (Nat.le_of_ble_eq_true rfl) hL) hl.1 (Nat.le_of_ble_eq_true rfl) dX12_part_335 (fun H locs hS => ?_)
      exact bl_part_338 X hE hF hL  _ _ _ _ h _ _ _ hS (lv_sub hl [0, 1, 2] rfl)
def B_part_138 (N : Nat) (l1 : Int32) (l2 : Int32) (s1 : Int32) (u : RSt) : Option (Int32 × RSt) := pu (sI u 70 s1) fun u_38 => rd (u_38.2.2.1 27) 2 (u_38.1 56) fun v_39 => pu (sI u_38 72 v_39) fun u_41 => pu (sI u_41 73 0) fun u_42 => pu (sI u_42 74 0) fun u_43 => if (u_43.1 69) = (0 : Int32) then (B_part_300 N l1 l2 u_43) else (if (u_43.1 67) = (0 : Int32) then (rd (u_43.2.2.2 6) 1502 (u_43.1 65) fun v_46 => wr 48 (u_43.1 71) (sB u_43 34 (u_43.1 71).toNatClampNeg v_46) fun u_48 => rd (u_48.2.2.2 7) 1502 (u_48.1 65) fun v_50 => wr 48 (u_48.1 71) (sB u_48 35 (u_48.1 71).toNatClampNeg v_50) fun u_52 => wr 48 (u_52.1 71) (sA u_52 33 (u_52.1 71).toNatClampNeg l2) fun u_54 => wr 48 (u_54.1 71) (sA u_54 28 (u_54.1 71).toNatClampNeg (u_54.1 72)) fun u_56 => wr 48 (u_56.1 71) (sA u_56 29 (u_56.1 71).toNatClampNeg 0) fun u_58 => wr 48 (u_58.1 71) (sA u_58 30 (u_58.1 71).toNatClampNeg 0) fun u_60 => wr 48 (u_60.1 71) (sA u_60 31 (u_60.1 71).toNatClampNeg 0) fun u_62 => if l1 = (0 : Int32) then (rd (u_62.2.2.1 36) 2 (u_62.1 56) fun v_65 => wr 2 (u_62.1 56) (sA u_62 36 (u_62.1 56).toNatClampNeg (v_65 + 1)) fun u_67 => B_part_300 N l1 l2 u_67) else (rd (u_62.2.2.1 37) 2 (u_62.1 56) fun v_69 => wr 2 (u_62.1 56) (sA u_62 37 (u_62.1 56).toNatClampNeg (v_69 + 1)) fun u_71 => B_part_300 N l1 l2 u_71)) else (B_part_300 N l1 l2 u_43))
set_option maxHeartbeats 4000000 in
theorem b_part_138 {r : Int32} (X : RC p s m args c cX12_part 5 (Cond.code yX12_part cX12_part 5 none) D kA V A) (hE : REv p l e R s m args below meth c cX12_part D kA Z A Q w) (hF : 531 ≤ R.frames) (hL : 32024 ≤ R.locals) {l1 : Int32} {l2 : Int32} {s1 : Int32}  {u : RSt} (h : B_part_138 N l1 l2 s1 u = some (r, w)) (hS : RS D kA Z A s u H locs) (hl : lv_has ls 5 [(0, .ref (Z 200)), (1, .int l1), (2, .int l2)]) : W p l e R s m args below meth c H locs 0 0 Q (F0 m 138 ls [.int s1, .ref (Z 200)]) := by
  obtain ⟨⟨hx, hb, hml, hown, hts⟩, hK, hEV, hA⟩ := id X
  have hG : ∀ w ∈ GW, w.before args s = true := fun w h => hts w (List.mem_cons_of_mem _ h)
  unfold B_part_138 at h
  obtain ⟨u_38, e_u_38, h⟩ := pu_of h
  refine rp_70 X hS e_u_38 dX12_part_138 (fun H locs hS => ?_)
  refine lv_aload_n hx hb dX12_part_141 rfl (lv_at hl 0 rfl) ?_
  refine lv_aload_n hx hb dX12_part_142 rfl (lv_at hl 0 rfl) ?_
  refine rg_27 X hS dX12_part_143 ?_
  refine lv_aload_n hx hb dX12_part_146 rfl (lv_at hl 0 rfl) ?_
  refine rg_56 X hS dX12_part_147 ?_
  obtain ⟨v_39, e_v_39, i_40, h⟩ := rd_of h
  refine ra_27 X hS i_40 e_v_39 dX12_part_150 ?_
  obtain ⟨u_41, e_u_41, h⟩ := pu_of h
  refine rp_72 X hS e_u_41 dX12_part_151 (fun H locs hS => ?_)
  refine lv_aload_n hx hb dX12_part_154 rfl (lv_at hl 0 rfl) ?_
  refine lv_iconst (v := 0) hx hb dX12_part_155 (by decide) ?_
  obtain ⟨u_42, e_u_42, h⟩ := pu_of h
  refine rp_73 X hS e_u_42 dX12_part_156 (fun H locs hS => ?_)
  refine lv_aload_n hx hb dX12_part_159 rfl (lv_at hl 0 rfl) ?_
  refine lv_iconst (v := 0) hx hb dX12_part_160 (by decide) ?_
  obtain ⟨u_43, e_u_43, h⟩ := pu_of h
  refine rp_74 X hS e_u_43 dX12_part_161 (fun H locs hS => ?_)
  refine lv_aload_n hx hb dX12_part_164 rfl (lv_at hl 0 rfl) ?_
  refine rg_69 X hS dX12_part_165 ?_
  refine lv_if_eq (tgt := 300) hx hb dX12_part_168 (by decide) (fun c_44 => ?_) (fun c_44 => ?_)
  · have h := ip (c_44) h
    exact b_part_300 X hE hF hL  h hS (lv_sub hl [0, 1, 2] rfl)
  · have h := im (c_44) h
    refine lv_aload_n hx hb dX12_part_171 rfl (lv_at hl 0 rfl) ?_
    refine rg_67 X hS dX12_part_172 ?_
    refine lv_if_ne (tgt := 300) hx hb dX12_part_175 (by decide) (fun c_45 => ?_) (fun c_45 => ?_)
    · have h := im (c_45) h
      exact b_part_300 X hE hF hL  h hS (lv_sub hl [0, 1, 2] rfl)
    · have h := ip (c_45) h
      refine lv_aload_n hx hb dX12_part_178 rfl (lv_at hl 0 rfl) ?_
      refine rg_34 X hS dX12_part_179 ?_
      refine lv_aload_n hx hb dX12_part_182 rfl (lv_at hl 0 rfl) ?_
      refine rg_71 X hS dX12_part_183 ?_
      refine lv_aload_n hx hb dX12_part_186 rfl (lv_at hl 0 rfl) ?_
      refine rg_6 X hS dX12_part_187 ?_
      refine lv_aload_n hx hb dX12_part_190 rfl (lv_at hl 0 rfl) ?_
      refine rg_65 X hS dX12_part_191 ?_
      obtain ⟨v_46, e_v_46, i_47, h⟩ := rd_of h
      refine ra_6 X hS i_47 e_v_46 dX12_part_194 ?_
      obtain ⟨u_48, e_u_48, i_49, h⟩ := wr_of h
      refine rs_34 X hS i_49 e_u_48 dX12_part_195 (fun H locs hS => ?_)
      refine lv_aload_n hx hb dX12_part_196 rfl (lv_at hl 0 rfl) ?_
      refine rg_35 X hS dX12_part_197 ?_
      refine lv_aload_n hx hb dX12_part_200 rfl (lv_at hl 0 rfl) ?_
      refine rg_71 X hS dX12_part_201 ?_
      refine lv_aload_n hx hb dX12_part_204 rfl (lv_at hl 0 rfl) ?_
      refine rg_7 X hS dX12_part_205 ?_
      refine lv_aload_n hx hb dX12_part_208 rfl (lv_at hl 0 rfl) ?_
      refine rg_65 X hS dX12_part_209 ?_
      obtain ⟨v_50, e_v_50, i_51, h⟩ := rd_of h
      refine ra_7 X hS i_51 e_v_50 dX12_part_212 ?_
      obtain ⟨u_52, e_u_52, i_53, h⟩ := wr_of h
      refine rs_35 X hS i_53 e_u_52 dX12_part_213 (fun H locs hS => ?_)
      refine lv_aload_n hx hb dX12_part_214 rfl (lv_at hl 0 rfl) ?_
      refine rg_33 X hS dX12_part_215 ?_
      refine lv_aload_n hx hb dX12_part_218 rfl (lv_at hl 0 rfl) ?_
      refine rg_71 X hS dX12_part_219 ?_
      refine lv_iload_n hx hb dX12_part_222 rfl (lv_at hl 2 rfl) ?_
      obtain ⟨u_54, e_u_54, i_55, h⟩ := wr_of h
      refine rs_33 X hS i_55 e_u_54 dX12_part_223 (fun H locs hS => ?_)
      refine lv_aload_n hx hb dX12_part_224 rfl (lv_at hl 0 rfl) ?_
      refine rg_28 X hS dX12_part_225 ?_
      refine lv_aload_n hx hb dX12_part_228 rfl (lv_at hl 0 rfl) ?_
      refine rg_71 X hS dX12_part_229 ?_
      refine lv_aload_n hx hb dX12_part_232 rfl (lv_at hl 0 rfl) ?_
      refine rg_72 X hS dX12_part_233 ?_
      obtain ⟨u_56, e_u_56, i_57, h⟩ := wr_of h
      refine rs_28 X hS i_57 e_u_56 dX12_part_236 (fun H locs hS => ?_)
      refine lv_aload_n hx hb dX12_part_237 rfl (lv_at hl 0 rfl) ?_
      refine rg_29 X hS dX12_part_238 ?_
      refine lv_aload_n hx hb dX12_part_241 rfl (lv_at hl 0 rfl) ?_
      refine rg_71 X hS dX12_part_242 ?_
      refine lv_iconst (v := 0) hx hb dX12_part_245 (by decide) ?_
      obtain ⟨u_58, e_u_58, i_59, h⟩ := wr_of h
      refine rs_29 X hS i_59 e_u_58 dX12_part_246 (fun H locs hS => ?_)
      refine lv_aload_n hx hb dX12_part_247 rfl (lv_at hl 0 rfl) ?_
      refine rg_30 X hS dX12_part_248 ?_
      refine lv_aload_n hx hb dX12_part_251 rfl (lv_at hl 0 rfl) ?_
      refine rg_71 X hS dX12_part_252 ?_
      refine lv_iconst (v := 0) hx hb dX12_part_255 (by decide) ?_
      obtain ⟨u_60, e_u_60, i_61, h⟩ := wr_of h
      refine rs_30 X hS i_61 e_u_60 dX12_part_256 (fun H locs hS => ?_)
      refine lv_aload_n hx hb dX12_part_257 rfl (lv_at hl 0 rfl) ?_
      refine rg_31 X hS dX12_part_258 ?_
      refine lv_aload_n hx hb dX12_part_261 rfl (lv_at hl 0 rfl) ?_
      refine rg_71 X hS dX12_part_262 ?_
      refine lv_iconst (v := 0) hx hb dX12_part_265 (by decide) ?_
      obtain ⟨u_62, e_u_62, i_63, h⟩ := wr_of h
      refine rs_31 X hS i_63 e_u_62 dX12_part_266 (fun H locs hS => ?_)
      refine lv_iload_n hx hb dX12_part_267 rfl (lv_at hl 1 rfl) ?_
      refine lv_if_eq (tgt := 287) hx hb dX12_part_268 (by decide) (fun c_64 => ?_) (fun c_64 => ?_)
      · have h := ip (c_64) h
        refine lv_aload_n hx hb dX12_part_287 rfl (lv_at hl 0 rfl) ?_
        refine rg_36 X hS dX12_part_288 ?_
        refine lv_aload_n hx hb dX12_part_291 rfl (lv_at hl 0 rfl) ?_
        refine rg_56 X hS dX12_part_292 ?_
        refine lv_dup2_11 hx hb dX12_part_295 rfl rfl ?_
        obtain ⟨v_65, e_v_65, i_66, h⟩ := rd_of h
        refine ra_36 X hS i_66 e_v_65 dX12_part_296 ?_
        refine lv_iconst (v := 1) hx hb dX12_part_297 (by decide) ?_
        refine lv_iadd hx hb dX12_part_298 ?_
        obtain ⟨u_67, e_u_67, i_68, h⟩ := wr_of h
        refine rs_36 X hS i_68 e_u_67 dX12_part_299 (fun H locs hS => ?_)
        exact b_part_300 X hE hF hL  h hS (lv_sub hl [0, 1, 2] rfl)
      · have h := im (c_64) h
        refine lv_aload_n hx hb dX12_part_271 rfl (lv_at hl 0 rfl) ?_
        refine rg_37 X hS dX12_part_272 ?_
        refine lv_aload_n hx hb dX12_part_275 rfl (lv_at hl 0 rfl) ?_
        refine rg_56 X hS dX12_part_276 ?_
        refine lv_dup2_11 hx hb dX12_part_279 rfl rfl ?_
        obtain ⟨v_69, e_v_69, i_70, h⟩ := rd_of h
        refine ra_37 X hS i_70 e_v_69 dX12_part_280 ?_
        refine lv_iconst (v := 1) hx hb dX12_part_281 (by decide) ?_
        refine lv_iadd hx hb dX12_part_282 ?_
        obtain ⟨u_71, e_u_71, i_72, h⟩ := wr_of h
        refine rs_37 X hS i_72 e_u_71 dX12_part_283 (fun H locs hS => ?_)
        refine lv_goto (tgt := 300) hx hb dX12_part_284 (by decide) ?_
        exact b_part_300 X hE hF hL  h hS (lv_sub hl [0, 1, 2] rfl)
def B_part_125 (N : Nat) (l1 : Int32) (l2 : Int32) (s1 : Int32) (u : RSt) : Option (Int32 × RSt) := pu (sI u 71 s1) fun u_73 => if l1 = (0 : Int32) then (B_part_138 N l1 l2 2 u_73) else (B_part_138 N l1 l2 3 u_73)
set_option maxHeartbeats 4000000 in
theorem b_part_125 {r : Int32} (X : RC p s m args c cX12_part 5 (Cond.code yX12_part cX12_part 5 none) D kA V A) (hE : REv p l e R s m args below meth c cX12_part D kA Z A Q w) (hF : 531 ≤ R.frames) (hL : 32024 ≤ R.locals) {l1 : Int32} {l2 : Int32} {s1 : Int32}  {u : RSt} (h : B_part_125 N l1 l2 s1 u = some (r, w)) (hS : RS D kA Z A s u H locs) (hl : lv_has ls 5 [(0, .ref (Z 200)), (1, .int l1), (2, .int l2)]) : W p l e R s m args below meth c H locs 0 0 Q (F0 m 125 ls [.int s1, .ref (Z 200)]) := by
  obtain ⟨⟨hx, hb, hml, hown, hts⟩, hK, hEV, hA⟩ := id X
  have hG : ∀ w ∈ GW, w.before args s = true := fun w h => hts w (List.mem_cons_of_mem _ h)
  unfold B_part_125 at h
  obtain ⟨u_73, e_u_73, h⟩ := pu_of h
  refine rp_71 X hS e_u_73 dX12_part_125 (fun H locs hS => ?_)
  refine lv_aload_n hx hb dX12_part_128 rfl (lv_at hl 0 rfl) ?_
  refine lv_iload_n hx hb dX12_part_129 rfl (lv_at hl 1 rfl) ?_
  refine lv_if_eq (tgt := 137) hx hb dX12_part_130 (by decide) (fun c_74 => ?_) (fun c_74 => ?_)
  · have h := ip (c_74) h
    refine lv_iconst (v := 2) hx hb dX12_part_137 (by decide) ?_
    exact b_part_138 X hE hF hL  h hS (lv_sub hl [0, 1, 2] rfl)
  · have h := im (c_74) h
    refine lv_iconst (v := 3) hx hb dX12_part_133 (by decide) ?_
    refine lv_goto (tgt := 138) hx hb dX12_part_134 (by decide) ?_
    exact b_part_138 X hE hF hL  h hS (lv_sub hl [0, 1, 2] rfl)
def B_part_93 (N : Nat) (l1 : Int32) (l2 : Int32) (l3 : Int32) (s1 : Int32) (s2 : Int32) (s3 : Int32) (u : RSt) : Option (Int32 × RSt) := bn (F_telling N s1 s2 s3 u) fun _ u_75 => if l1 = (0 : Int32) then (B_part_125 N l1 l2 ((24 * (u_75.1 56)) + l3) u_75) else (B_part_125 N l1 l2 (((24 * (u_75.1 56)) + 8) + l3) u_75)
set_option maxHeartbeats 4000000 in
theorem b_part_93 {r : Int32} (X : RC p s m args c cX12_part 5 (Cond.code yX12_part cX12_part 5 none) D kA V A) (hE : REv p l e R s m args below meth c cX12_part D kA Z A Q w) (hF : 531 ≤ R.frames) (hL : 32024 ≤ R.locals) {l1 : Int32} {l2 : Int32} {l3 : Int32} {s1 : Int32} {s2 : Int32} {s3 : Int32}  {u : RSt} (h : B_part_93 N l1 l2 l3 s1 s2 s3 u = some (r, w)) (hS : RS D kA Z A s u H locs) (hl : lv_has ls 5 [(0, .ref (Z 200)), (1, .int l1), (2, .int l2), (3, .int l3)]) : W p l e R s m args below meth c H locs 0 0 Q (F0 m 93 ls [.int s3, .int s2, .int s1, .ref (Z 200)]) := by
  obtain ⟨⟨hx, hb, hml, hown, hts⟩, hK, hEV, hA⟩ := id X
  have hG : ∀ w ∈ GW, w.before args s = true := fun w h => hts w (List.mem_cons_of_mem _ h)
  unfold B_part_93 at h
  obtain ⟨r_u_75, u_75, h_u_75, h⟩ := bn_of h
  refine kc_telling X hS h_u_75 (Nat.le_trans (Nat.le_of_ble_eq_true rfl) hF) (Nat.le_trans (Nat.le_of_ble_eq_true rfl) hL) hl.1 (Nat.le_of_ble_eq_true rfl) dX12_part_93 (fun H locs hS => ?_)
  refine lv_aload_n hx hb dX12_part_96 rfl (lv_at hl 0 rfl) ?_
  refine lv_iload_n hx hb dX12_part_97 rfl (lv_at hl 1 rfl) ?_
  refine lv_if_eq (tgt := 116) hx hb dX12_part_98 (by decide) (fun c_76 => ?_) (fun c_76 => ?_)
  · have h := ip (c_76) h
    refine lv_bipush (v := 24) hx hb dX12_part_116 (by decide) ?_
    refine lv_aload_n hx hb dX12_part_118 rfl (lv_at hl 0 rfl) ?_
    refine rg_56 X hS dX12_part_119 ?_
    refine lv_imul hx hb dX12_part_122 ?_
    refine lv_iload_n hx hb dX12_part_123 rfl (lv_at hl 3 rfl) ?_
    refine lv_iadd hx hb dX12_part_124 ?_
    exact b_part_125 X hE hF hL  h hS (lv_sub hl [0, 1, 2] rfl)
  · have h := im (c_76) h
    refine lv_bipush (v := 24) hx hb dX12_part_101 (by decide) ?_
    refine lv_aload_n hx hb dX12_part_103 rfl (lv_at hl 0 rfl) ?_
    refine rg_56 X hS dX12_part_104 ?_
    refine lv_imul hx hb dX12_part_107 ?_
    refine lv_bipush (v := 8) hx hb dX12_part_108 (by decide) ?_
    refine lv_iadd hx hb dX12_part_110 ?_
    refine lv_iload_n hx hb dX12_part_111 rfl (lv_at hl 3 rfl) ?_
    refine lv_iadd hx hb dX12_part_112 ?_
    refine lv_goto (tgt := 125) hx hb dX12_part_113 (by decide) ?_
    exact b_part_125 X hE hF hL  h hS (lv_sub hl [0, 1, 2] rfl)
def B_part_85 (N : Nat) (l1 : Int32) (l2 : Int32) (l3 : Int32) (s1 : Int32) (s2 : Int32) (s3 : Int32) (s4 : Int32) (u : RSt) : Option (Int32 × RSt) := if s3 = s4 then (B_part_93 N l1 l2 l3 s1 s2 1 u) else (B_part_93 N l1 l2 l3 s1 s2 0 u)
set_option maxHeartbeats 4000000 in
theorem b_part_85 {r : Int32} (X : RC p s m args c cX12_part 5 (Cond.code yX12_part cX12_part 5 none) D kA V A) (hE : REv p l e R s m args below meth c cX12_part D kA Z A Q w) (hF : 531 ≤ R.frames) (hL : 32024 ≤ R.locals) {l1 : Int32} {l2 : Int32} {l3 : Int32} {s1 : Int32} {s2 : Int32} {s3 : Int32} {s4 : Int32}  {u : RSt} (h : B_part_85 N l1 l2 l3 s1 s2 s3 s4 u = some (r, w)) (hS : RS D kA Z A s u H locs) (hl : lv_has ls 5 [(0, .ref (Z 200)), (1, .int l1), (2, .int l2), (3, .int l3)]) : W p l e R s m args below meth c H locs 0 0 Q (F0 m 85 ls [.int s4, .int s3, .int s2, .int s1, .ref (Z 200)]) := by
  obtain ⟨⟨hx, hb, hml, hown, hts⟩, hK, hEV, hA⟩ := id X
  have hG : ∀ w ∈ GW, w.before args s = true := fun w h => hts w (List.mem_cons_of_mem _ h)
  unfold B_part_85 at h
  refine lv_icmp_ne (tgt := 92) hx hb dX12_part_85 (by decide) (fun c_77 => ?_) (fun c_77 => ?_)
  · have h := im (c_77) h
    refine lv_iconst (v := 0) hx hb dX12_part_92 (by decide) ?_
    exact b_part_93 X hE hF hL  h hS (lv_sub hl [0, 1, 2, 3] rfl)
  · have h := ip (c_77) h
    refine lv_iconst (v := 1) hx hb dX12_part_88 (by decide) ?_
    refine lv_goto (tgt := 93) hx hb dX12_part_89 (by decide) ?_
    exact b_part_93 X hE hF hL  h hS (lv_sub hl [0, 1, 2, 3] rfl)
def B_part_72 (N : Nat) (l1 : Int32) (l2 : Int32) (l3 : Int32) (s1 : Int32) (u : RSt) : Option (Int32 × RSt) := if l1 = (0 : Int32) then (B_part_85 N l1 l2 l3 s1 l3 l3 8 u) else (B_part_85 N l1 l2 l3 s1 l3 l3 16 u)
set_option maxHeartbeats 4000000 in
theorem b_part_72 {r : Int32} (X : RC p s m args c cX12_part 5 (Cond.code yX12_part cX12_part 5 none) D kA V A) (hE : REv p l e R s m args below meth c cX12_part D kA Z A Q w) (hF : 531 ≤ R.frames) (hL : 32024 ≤ R.locals) {l1 : Int32} {l2 : Int32} {l3 : Int32} {s1 : Int32}  {u : RSt} (h : B_part_72 N l1 l2 l3 s1 u = some (r, w)) (hS : RS D kA Z A s u H locs) (hl : lv_has ls 5 [(0, .ref (Z 200)), (1, .int l1), (2, .int l2), (3, .int l3)]) : W p l e R s m args below meth c H locs 0 0 Q (F0 m 72 ls [.int s1, .ref (Z 200)]) := by
  obtain ⟨⟨hx, hb, hml, hown, hts⟩, hK, hEV, hA⟩ := id X
  have hG : ∀ w ∈ GW, w.before args s = true := fun w h => hts w (List.mem_cons_of_mem _ h)
  unfold B_part_72 at h
  refine lv_iload_n hx hb dX12_part_72 rfl (lv_at hl 3 rfl) ?_
  refine lv_iload_n hx hb dX12_part_73 rfl (lv_at hl 3 rfl) ?_
  refine lv_iload_n hx hb dX12_part_74 rfl (lv_at hl 1 rfl) ?_
  refine lv_if_eq (tgt := 83) hx hb dX12_part_75 (by decide) (fun c_78 => ?_) (fun c_78 => ?_)
  · have h := ip (c_78) h
    refine lv_bipush (v := 8) hx hb dX12_part_83 (by decide) ?_
    exact b_part_85 X hE hF hL  h hS (lv_sub hl [0, 1, 2, 3] rfl)
  · have h := im (c_78) h
    refine lv_bipush (v := 16) hx hb dX12_part_78 (by decide) ?_
    refine lv_goto (tgt := 85) hx hb dX12_part_80 (by decide) ?_
    exact b_part_85 X hE hF hL  h hS (lv_sub hl [0, 1, 2, 3] rfl)
def B_part_61 (N : Nat) (l1 : Int32) (l2 : Int32) (s0 : Int32) (u : RSt) : Option (Int32 × RSt) := if l1 = (0 : Int32) then (B_part_72 N l1 l2 s0 3 u) else (B_part_72 N l1 l2 s0 4 u)
set_option maxHeartbeats 4000000 in
theorem b_part_61 {r : Int32} (X : RC p s m args c cX12_part 5 (Cond.code yX12_part cX12_part 5 none) D kA V A) (hE : REv p l e R s m args below meth c cX12_part D kA Z A Q w) (hF : 531 ≤ R.frames) (hL : 32024 ≤ R.locals) {l1 : Int32} {l2 : Int32} {s0 : Int32}  {u : RSt} (h : B_part_61 N l1 l2 s0 u = some (r, w)) (hS : RS D kA Z A s u H locs) (hl : lv_has ls 5 [(0, .ref (Z 200)), (1, .int l1), (2, .int l2)]) : W p l e R s m args below meth c H locs 0 0 Q (F0 m 61 ls [.int s0]) := by
  obtain ⟨⟨hx, hb, hml, hown, hts⟩, hK, hEV, hA⟩ := id X
  have hG : ∀ w ∈ GW, w.before args s = true := fun w h => hts w (List.mem_cons_of_mem _ h)
  unfold B_part_61 at h
  refine lv_istore_n (lv' := [(3, .int s0), (0, .ref (Z 200)), (1, .int l1), (2, .int l2)]) hx hb dX12_part_61 rfl hl (by decide) rfl (fun ls hl => ?_)
  refine lv_aload_n hx hb dX12_part_62 rfl (lv_at hl 1 rfl) ?_
  refine lv_iload_n hx hb dX12_part_63 rfl (lv_at hl 2 rfl) ?_
  refine lv_if_eq (tgt := 71) hx hb dX12_part_64 (by decide) (fun c_79 => ?_) (fun c_79 => ?_)
  · have h := ip (c_79) h
    refine lv_iconst (v := 3) hx hb dX12_part_71 (by decide) ?_
    exact b_part_72 X hE hF hL  h hS (lv_sub hl [1, 2, 3, 0] rfl)
  · have h := im (c_79) h
    refine lv_iconst (v := 4) hx hb dX12_part_67 (by decide) ?_
    refine lv_goto (tgt := 72) hx hb dX12_part_68 (by decide) ?_
    exact b_part_72 X hE hF hL  h hS (lv_sub hl [1, 2, 3, 0] rfl)
def B_part_22 (N : Nat) (l1 : Int32) (s0 : Int32) (u : RSt) : Option (Int32 × RSt) := bn (F_is N 1 u) fun r_81 u_80 => if r_81 = (0 : Int32) then (bn (F_stuck N u_80) fun _ u_88 => some (0, u_88)) else (if l1 = (0 : Int32) then (rd (u_80.2.2.1 36) 2 (u_80.1 56) fun v_84 => B_part_61 N l1 s0 v_84 u_80) else (rd (u_80.2.2.1 37) 2 (u_80.1 56) fun v_86 => B_part_61 N l1 s0 v_86 u_80))
set_option maxHeartbeats 4000000 in
theorem b_part_22 {r : Int32} (X : RC p s m args c cX12_part 5 (Cond.code yX12_part cX12_part 5 none) D kA V A) (hE : REv p l e R s m args below meth c cX12_part D kA Z A Q w) (hF : 531 ≤ R.frames) (hL : 32024 ≤ R.locals) {l1 : Int32} {s0 : Int32}  {u : RSt} (h : B_part_22 N l1 s0 u = some (r, w)) (hS : RS D kA Z A s u H locs) (hl : lv_has ls 5 [(0, .ref (Z 200)), (1, .int l1)]) : W p l e R s m args below meth c H locs 0 0 Q (F0 m 22 ls [.int s0]) := by
  obtain ⟨⟨hx, hb, hml, hown, hts⟩, hK, hEV, hA⟩ := id X
  have hG : ∀ w ∈ GW, w.before args s = true := fun w h => hts w (List.mem_cons_of_mem _ h)
  unfold B_part_22 at h
  refine lv_istore_n (lv' := [(2, .int s0), (0, .ref (Z 200)), (1, .int l1)]) hx hb dX12_part_22 rfl hl (by decide) rfl (fun ls hl => ?_)
  refine lv_aload_n hx hb dX12_part_23 rfl (lv_at hl 1 rfl) ?_
  refine lv_iconst (v := 1) hx hb dX12_part_24 (by decide) ?_
  obtain ⟨r_81, u_80, h_u_80, h⟩ := bn_of h
  refine kc_is X hS h_u_80 (Nat.le_trans (Nat.le_of_ble_eq_true rfl) hF) (Nat.le_trans (Nat.le_of_ble_eq_true rfl) hL) hl.1 (Nat.le_of_ble_eq_true rfl) dX12_part_25 (fun H locs hS => ?_)
  refine lv_if_ne (tgt := 36) hx hb dX12_part_28 (by decide) (fun c_82 => ?_) (fun c_82 => ?_)
  · have h := im (c_82) h
    refine lv_iload_n hx hb dX12_part_36 rfl (lv_at hl 2 rfl) ?_
    refine lv_if_eq (tgt := 52) hx hb dX12_part_37 (by decide) (fun c_83 => ?_) (fun c_83 => ?_)
    · have h := ip (c_83) h
      refine lv_aload_n hx hb dX12_part_52 rfl (lv_at hl 1 rfl) ?_
      refine rg_36 X hS dX12_part_53 ?_
      refine lv_aload_n hx hb dX12_part_56 rfl (lv_at hl 1 rfl) ?_
      refine rg_56 X hS dX12_part_57 ?_
      obtain ⟨v_84, e_v_84, i_85, h⟩ := rd_of h
      refine ra_36 X hS i_85 e_v_84 dX12_part_60 ?_
      exact b_part_61 X hE hF hL  h hS (lv_sub hl [1, 2, 0] rfl)
    · have h := im (c_83) h
      refine lv_aload_n hx hb dX12_part_40 rfl (lv_at hl 1 rfl) ?_
      refine rg_37 X hS dX12_part_41 ?_
      refine lv_aload_n hx hb dX12_part_44 rfl (lv_at hl 1 rfl) ?_
      refine rg_56 X hS dX12_part_45 ?_
      obtain ⟨v_86, e_v_86, i_87, h⟩ := rd_of h
      refine ra_37 X hS i_87 e_v_86 dX12_part_48 ?_
      refine lv_goto (tgt := 61) hx hb dX12_part_49 (by decide) ?_
      exact b_part_61 X hE hF hL  h hS (lv_sub hl [1, 2, 0] rfl)
  · have h := ip (c_82) h
    refine lv_aload_n hx hb dX12_part_31 rfl (lv_at hl 1 rfl) ?_
    obtain ⟨r_u_88, u_88, h_u_88, h⟩ := bn_of h
    refine kc_stuck X hS h_u_88 (Nat.le_trans (Nat.le_of_ble_eq_true rfl) hF) (Nat.le_trans (Nat.le_of_ble_eq_true rfl) hL) hl.1 (Nat.le_of_ble_eq_true rfl) dX12_part_32 (fun H locs hS => ?_)
    obtain ⟨-, rfl⟩ := so h
    exact hE _ _ _ _ hS dX12_part_35
def B_part_0 (N : Nat) (l1 : Int32) (u : RSt) : Option (Int32 × RSt) := pu (sI u 65 ((u.1 65) + 1)) fun u_89 => if l1 = (0 : Int32) then (B_part_22 N l1 0 u_89) else (bn (F_kind N u_89) fun r_92 u_91 => B_part_22 N l1 r_92 u_91)
set_option maxHeartbeats 4000000 in
theorem b_part_0 {r : Int32} (X : RC p s m args c cX12_part 5 (Cond.code yX12_part cX12_part 5 none) D kA V A) (hE : REv p l e R s m args below meth c cX12_part D kA Z A Q w) (hF : 531 ≤ R.frames) (hL : 32024 ≤ R.locals) {l1 : Int32}  {u : RSt} (h : B_part_0 N l1 u = some (r, w)) (hS : RS D kA Z A s u H locs) (hl : lv_has ls 5 [(0, .ref (Z 200)), (1, .int l1)]) : W p l e R s m args below meth c H locs 0 0 Q (F0 m 0 ls []) := by
  obtain ⟨⟨hx, hb, hml, hown, hts⟩, hK, hEV, hA⟩ := id X
  have hG : ∀ w ∈ GW, w.before args s = true := fun w h => hts w (List.mem_cons_of_mem _ h)
  unfold B_part_0 at h
  refine lv_aload_n hx hb dX12_part_0 rfl (lv_at hl 0 rfl) ?_
  refine lv_dup hx hb dX12_part_1 rfl ?_
  refine rg_65 X hS dX12_part_2 ?_
  refine lv_iconst (v := 1) hx hb dX12_part_5 (by decide) ?_
  refine lv_iadd hx hb dX12_part_6 ?_
  obtain ⟨u_89, e_u_89, h⟩ := pu_of h
  refine rp_65 X hS e_u_89 dX12_part_7 (fun H locs hS => ?_)
  refine lv_iload_n hx hb dX12_part_10 rfl (lv_at hl 1 rfl) ?_
  refine lv_if_eq (tgt := 21) hx hb dX12_part_11 (by decide) (fun c_90 => ?_) (fun c_90 => ?_)
  · have h := ip (c_90) h
    refine lv_iconst (v := 0) hx hb dX12_part_21 (by decide) ?_
    exact b_part_22 X hE hF hL  h hS (lv_sub hl [0, 1] rfl)
  · have h := im (c_90) h
    refine lv_aload_n hx hb dX12_part_14 rfl (lv_at hl 0 rfl) ?_
    obtain ⟨r_92, u_91, h_u_91, h⟩ := bn_of h
    refine kc_kind X hS h_u_91 (Nat.le_trans (Nat.le_of_ble_eq_true rfl) hF) (Nat.le_trans (Nat.le_of_ble_eq_true rfl) hL) hl.1 (Nat.le_of_ble_eq_true rfl) dX12_part_15 (fun H locs hS => ?_)
    refine lv_goto (tgt := 22) hx hb dX12_part_18 (by decide) ?_
    exact b_part_22 X hE hF hL  h hS (lv_sub hl [0, 1] rfl)
def F_part (N : Nat) (l1 : Int32) (u : RSt) : Option (Int32 × RSt) := B_part_0 N l1 u
set_option maxHeartbeats 4000000 in
theorem k_part (l : Launch) (D : va_G) (kA : Nat → ClassId) (V Z : Nat → Nat) (N : Nat) (l1 : Int32) (u : RSt) (sz : Nat) {r : Int32} {w : RSt} (h : F_part N l1 u = some (r, w)) : Met l yX12_part (Cond.code yX12_part cX12_part 5 none :: GW) { frames := 531, cells := 0, slots := 0, locals := 32024 } (rPc D kA V Z [.int l1] u sz) (rQv D kA Z u sz w) 0 0 (va_A (RW kA Z u) sz) := by
  refine Met.ofW (cc := cX12_part) (maxL := 5) (ret := none) (by decide) rfl ?_
  intro p e s m args below meth c s₁ Bd hml hv
  obtain ⟨rfl, hsz, hP, hK, hD0, hE⟩ := hv
  have hts := atoms_spec (ws := Cond.code yX12_part cX12_part 5 none :: GW) Bd.pre
  have hl := lv_entry (.ref (Z 200) :: [.int l1]) (n := 5) (Nat.le_of_ble_eq_true rfl)
  rw [lg_entry_eq]
  generalize (lg_sl (.ref (Z 200) :: [.int l1]) ++ List.replicate (5 - (lg_sl (.ref (Z 200) :: [.int l1])).length) Slot.unset).toArray = ls at hl ⊢
  have hl : lv_has ls 5 [(0, .ref (Z 200)), (1, .int l1)] := hl
  subst hsz
  have X : RC p s m (.ref (Z 200) :: [.int l1]).toArray c cX12_part 5 (Cond.code yX12_part cX12_part 5 none) D kA V (va_A (RW kA Z u) s.heap.size) := ⟨⟨Bd.exec, Bd.bytes, hml, findClass_of_methodNamed Bd.named, hts⟩, hK, hE, fun q h => Or.inr h⟩
  exact b_part_0 X (rend_v (cy := cX12_part) X Bd.returns Bd.notSynchronized) (Nat.le_refl _) (Nat.le_refl _) h ⟨hP, hD0.self, va_S.rf⟩ (lv_sub hl [0, 1] rfl)
theorem kc_part {r : Int32} {cc : ByteArray} {pc nL : Nat} {c0 : Cond} {rest : List Value} {l1 : Int32} {u : RSt} (X : RC p s m args c cc nL c0 D kA V A) (hS : RS D kA Z A s u H locs) (h : F_part N l1 u = some (r, w)) (hF : 531 + 1 ≤ R.frames) (hL : 8 + (5 + 11) + 32024 ≤ R.locals) (hl : ls.size = nL) (hc : (rest.map fun v => v.category).sum ≤ 8) (hdg : decode cc pc = .ok (.invokevirtual 423, 3)) (kk : ∀ H locs, RS D kA Z A s w H locs → W p l e R s m args below meth c H locs 0 0 Q (F0 m (pc + 3) ls (rest))) : W p l e R s m args below meth c H locs 0 0 Q (F0 m pc ls (.int l1 :: .ref (Z 200) :: rest)) :=
  rcall_v (n := 1) X hS (k_part l D kA V Z N l1 u H.size h) (gw_V gw_2428 gw_2430 gs_9_6 gw_16 gw_2431) (by decide +kernel) hF hL rfl hl hc rfl hdg kk
def B_instance_158 (N : Nat) (R_50 : Int32 × Int32 × Int32 × RSt → Option (Int32 × RSt)) (l1 : Int32) (l3 : Int32) (s0 : Int32) (u : RSt) : Option (Int32 × RSt) := R_50 (l1, s0, (l3 + 1), u)
set_option maxHeartbeats 4000000 in
theorem b_instance_158 {r : Int32} (X : RC p s m args c cX12_instance 5 (Cond.code yX12_instance cX12_instance 5 none) D kA V A) (hE : REv p l e R s m args below meth c cX12_instance D kA Z A Q w) (hF : 3 ≤ R.frames) (hL : 68 ≤ R.locals) {R_50 : Int32 × Int32 × Int32 × RSt → Option (Int32 × RSt)} {l1 : Int32} {l3 : Int32} {s0 : Int32} (hR_50 : ∀ (l1 : Int32) (l2 : Int32) (l3 : Int32) (u : RSt), R_50 (l1, l2, l3, u) = some (r, w) → ∀ (H : Heap) (locs : List Loc) (ls : Array Slot), RS D kA Z A s u H locs → lv_has ls 5 [(0, .ref (Z 200)), (1, .int l1), (2, .int l2), (3, .int l3)] → W p l e R s m args below meth c H locs 0 0 Q (F0 m 50 ls [])) {u : RSt} (h : B_instance_158 N R_50 l1 l3 s0 u = some (r, w)) (hS : RS D kA Z A s u H locs) (hl : lv_has ls 5 [(0, .ref (Z 200)), (1, .int l1), (3, .int l3)]) : W p l e R s m args below meth c H locs 0 0 Q (F0 m 158 ls [.int s0]) := by
  obtain ⟨⟨hx, hb, hml, hown, hts⟩, hK, hEV, hA⟩ := id X
  have hG : ∀ w ∈ GW, w.before args s = true := fun w h => hts w (List.mem_cons_of_mem _ h)
  unfold B_instance_158 at h
  refine lv_istore_n (lv' := [(2, .int s0), (0, .ref (Z 200)), (1, .int l1), (3, .int l3)]) hx hb dX12_instance_158 rfl hl (by decide) rfl (fun ls hl => ?_)
  refine lv_iinc (v := l3 + 1) (lv' := [(3, .int (l3 + 1)), (2, .int s0), (0, .ref (Z 200)), (1, .int l1)]) hx hb dX12_instance_159 hl (k := 3) rfl rfl (by decide) rfl (fun ls hl => ?_)
  refine lv_goto (tgt := 50) hx hb dX12_instance_162 (by decide) ?_
  exact hR_50 _ _ _ _ h _ _ _ hS (lv_sub hl [2, 3, 1, 0] rfl)
def B_instance_153 (N : Nat) (R_50 : Int32 × Int32 × Int32 × RSt → Option (Int32 × RSt)) (l1 : Int32) (l3 : Int32) (u : RSt) : Option (Int32 × RSt) := B_instance_158 N R_50 l1 l3 1 u
set_option maxHeartbeats 4000000 in
theorem b_instance_153 {r : Int32} (X : RC p s m args c cX12_instance 5 (Cond.code yX12_instance cX12_instance 5 none) D kA V A) (hE : REv p l e R s m args below meth c cX12_instance D kA Z A Q w) (hF : 3 ≤ R.frames) (hL : 68 ≤ R.locals) {R_50 : Int32 × Int32 × Int32 × RSt → Option (Int32 × RSt)} {l1 : Int32} {l3 : Int32} (hR_50 : ∀ (l1 : Int32) (l2 : Int32) (l3 : Int32) (u : RSt), R_50 (l1, l2, l3, u) = some (r, w) → ∀ (H : Heap) (locs : List Loc) (ls : Array Slot), RS D kA Z A s u H locs → lv_has ls 5 [(0, .ref (Z 200)), (1, .int l1), (2, .int l2), (3, .int l3)] → W p l e R s m args below meth c H locs 0 0 Q (F0 m 50 ls [])) {u : RSt} (h : B_instance_153 N R_50 l1 l3 u = some (r, w)) (hS : RS D kA Z A s u H locs) (hl : lv_has ls 5 [(0, .ref (Z 200)), (1, .int l1), (3, .int l3)]) : W p l e R s m args below meth c H locs 0 0 Q (F0 m 153 ls []) := by
  obtain ⟨⟨hx, hb, hml, hown, hts⟩, hK, hEV, hA⟩ := id X
  have hG : ∀ w ∈ GW, w.before args s = true := fun w h => hts w (List.mem_cons_of_mem _ h)
  unfold B_instance_153 at h
  refine lv_iconst (v := 1) hx hb dX12_instance_153 (by decide) ?_
  refine lv_goto (tgt := 158) hx hb dX12_instance_154 (by decide) ?_
  exact b_instance_158 X hE hF hL hR_50 h hS (lv_sub hl [0, 1, 2] rfl)
def B_instance_303 (N : Nat) (u : RSt) : Option (Int32 × RSt) := pu (sI u 65 ((u.1 65) + 1)) fun u_1 => some (0, u_1)
set_option maxHeartbeats 4000000 in
theorem b_instance_303 {r : Int32} (X : RC p s m args c cX12_instance 5 (Cond.code yX12_instance cX12_instance 5 none) D kA V A) (hE : REv p l e R s m args below meth c cX12_instance D kA Z A Q w) (hF : 3 ≤ R.frames) (hL : 68 ≤ R.locals)  {u : RSt} (h : B_instance_303 N u = some (r, w)) (hS : RS D kA Z A s u H locs) (hl : lv_has ls 5 [(0, .ref (Z 200))]) : W p l e R s m args below meth c H locs 0 0 Q (F0 m 303 ls []) := by
  obtain ⟨⟨hx, hb, hml, hown, hts⟩, hK, hEV, hA⟩ := id X
  have hG : ∀ w ∈ GW, w.before args s = true := fun w h => hts w (List.mem_cons_of_mem _ h)
  unfold B_instance_303 at h
  refine lv_aload_n hx hb dX12_instance_303 rfl (lv_at hl 0 rfl) ?_
  refine lv_dup hx hb dX12_instance_304 rfl ?_
  refine rg_65 X hS dX12_instance_305 ?_
  refine lv_iconst (v := 1) hx hb dX12_instance_308 (by decide) ?_
  refine lv_iadd hx hb dX12_instance_309 ?_
  obtain ⟨u_1, e_u_1, h⟩ := pu_of h
  refine rp_65 X hS e_u_1 dX12_instance_310 (fun H locs hS => ?_)
  obtain ⟨-, rfl⟩ := so h
  exact hE _ _ _ _ hS dX12_instance_313
def B_instance_165 (N : Nat) (l1 : Int32) (l2 : Int32) (u : RSt) : Option (Int32 × RSt) := rd (u.2.2.1 3) 1502 (u.1 65) fun v_2 => bn (F_wrong N l2 5 v_2 u) fun _ u_4 => if (u_4.1 69) = (0 : Int32) then (B_instance_303 N u_4) else (if (u_4.1 67) = (0 : Int32) then (rd (u_4.2.2.1 42) 2 (u_4.1 56) fun v_7 => wr 48 ((24 * (u_4.1 56)) + v_7) (sA u_4 38 ((24 * (u_4.1 56)) + v_7).toNatClampNeg ((24 * (u_4.1 56)) + l1)) fun u_9 => wr 48 ((24 * (u_4.1 56)) + v_7) (sA u_9 39 ((24 * (u_4.1 56)) + v_7).toNatClampNeg (u_9.1 63)) fun u_11 => rd (u_11.2.2.2 6) 1502 (u_11.1 65) fun v_13 => wr 48 ((24 * (u_4.1 56)) + v_7) (sB u_11 40 ((24 * (u_4.1 56)) + v_7).toNatClampNeg v_13) fun u_15 => rd (u_15.2.2.2 7) 1502 (u_15.1 65) fun v_17 => wr 48 ((24 * (u_4.1 56)) + v_7) (sB u_15 41 ((24 * (u_4.1 56)) + v_7).toNatClampNeg v_17) fun u_19 => rd (u_19.2.2.1 31) 48 ((24 * (u_19.1 56)) + l1) fun v_21 => pu (sI u_19 63 ((u_19.1 63) + v_21)) fun u_23 => rd (u_23.2.2.1 42) 2 (u_23.1 56) fun v_24 => wr 2 (u_23.1 56) (sA u_23 42 (u_23.1 56).toNatClampNeg (v_24 + 1)) fun u_26 => B_instance_303 N u_26) else (B_instance_303 N u_4))
set_option maxHeartbeats 4000000 in
theorem b_instance_165 {r : Int32} (X : RC p s m args c cX12_instance 5 (Cond.code yX12_instance cX12_instance 5 none) D kA V A) (hE : REv p l e R s m args below meth c cX12_instance D kA Z A Q w) (hF : 3 ≤ R.frames) (hL : 68 ≤ R.locals) {l1 : Int32} {l2 : Int32}  {u : RSt} (h : B_instance_165 N l1 l2 u = some (r, w)) (hS : RS D kA Z A s u H locs) (hl : lv_has ls 5 [(0, .ref (Z 200)), (1, .int l1), (2, .int l2)]) : W p l e R s m args below meth c H locs 0 0 Q (F0 m 165 ls []) := by
  obtain ⟨⟨hx, hb, hml, hown, hts⟩, hK, hEV, hA⟩ := id X
  have hG : ∀ w ∈ GW, w.before args s = true := fun w h => hts w (List.mem_cons_of_mem _ h)
  unfold B_instance_165 at h
  refine lv_aload_n hx hb dX12_instance_165 rfl (lv_at hl 0 rfl) ?_
  refine lv_iload_n hx hb dX12_instance_166 rfl (lv_at hl 2 rfl) ?_
  refine lv_iconst (v := 5) hx hb dX12_instance_167 (by decide) ?_
  refine lv_aload_n hx hb dX12_instance_168 rfl (lv_at hl 0 rfl) ?_
  refine rg_3 X hS dX12_instance_169 ?_
  refine lv_aload_n hx hb dX12_instance_172 rfl (lv_at hl 0 rfl) ?_
  refine rg_65 X hS dX12_instance_173 ?_
  obtain ⟨v_2, e_v_2, i_3, h⟩ := rd_of h
  refine ra_3 X hS i_3 e_v_2 dX12_instance_176 ?_
  obtain ⟨r_u_4, u_4, h_u_4, h⟩ := bn_of h
  refine kc_wrong X hS h_u_4 (Nat.le_trans (Nat.le_of_ble_eq_true rfl) hF) (Nat.le_trans (Nat.le_of_ble_eq_true rfl) hL) hl.1 (Nat.le_of_ble_eq_true rfl) dX12_instance_177 (fun H locs hS => ?_)
  refine lv_aload_n hx hb dX12_instance_180 rfl (lv_at hl 0 rfl) ?_
  refine rg_69 X hS dX12_instance_181 ?_
  refine lv_if_eq (tgt := 303) hx hb dX12_instance_184 (by decide) (fun c_5 => ?_) (fun c_5 => ?_)
  · have h := ip (c_5) h
    exact b_instance_303 X hE hF hL  h hS (lv_sub hl [0] rfl)
  · have h := im (c_5) h
    refine lv_aload_n hx hb dX12_instance_187 rfl (lv_at hl 0 rfl) ?_
    refine rg_67 X hS dX12_instance_188 ?_
    refine lv_if_ne (tgt := 303) hx hb dX12_instance_191 (by decide) (fun c_6 => ?_) (fun c_6 => ?_)
    · have h := im (c_6) h
      exact b_instance_303 X hE hF hL  h hS (lv_sub hl [0] rfl)
    · have h := ip (c_6) h
      refine lv_bipush (v := 24) hx hb dX12_instance_194 (by decide) ?_
      refine lv_aload_n hx hb dX12_instance_196 rfl (lv_at hl 0 rfl) ?_
      refine rg_56 X hS dX12_instance_197 ?_
      refine lv_imul hx hb dX12_instance_200 ?_
      refine lv_aload_n hx hb dX12_instance_201 rfl (lv_at hl 0 rfl) ?_
      refine rg_42 X hS dX12_instance_202 ?_
      refine lv_aload_n hx hb dX12_instance_205 rfl (lv_at hl 0 rfl) ?_
      refine rg_56 X hS dX12_instance_206 ?_
      obtain ⟨v_7, e_v_7, i_8, h⟩ := rd_of h
      refine ra_42 X hS i_8 e_v_7 dX12_instance_209 ?_
      refine lv_iadd hx hb dX12_instance_210 ?_
      refine lv_istore_n (lv' := [(3, .int ((24 * (u_4.1 56)) + v_7)), (0, .ref (Z 200)), (1, .int l1), (2, .int l2)]) hx hb dX12_instance_211 rfl hl (by decide) rfl (fun ls hl => ?_)
      refine lv_aload_n hx hb dX12_instance_212 rfl (lv_at hl 1 rfl) ?_
      refine rg_38 X hS dX12_instance_213 ?_
      refine lv_iload_n hx hb dX12_instance_216 rfl (lv_at hl 0 rfl) ?_
      refine lv_bipush (v := 24) hx hb dX12_instance_217 (by decide) ?_
      refine lv_aload_n hx hb dX12_instance_219 rfl (lv_at hl 1 rfl) ?_
      refine rg_56 X hS dX12_instance_220 ?_
      refine lv_imul hx hb dX12_instance_223 ?_
      refine lv_iload_n hx hb dX12_instance_224 rfl (lv_at hl 2 rfl) ?_
      refine lv_iadd hx hb dX12_instance_225 ?_
      obtain ⟨u_9, e_u_9, i_10, h⟩ := wr_of h
      refine rs_38 X hS i_10 e_u_9 dX12_instance_226 (fun H locs hS => ?_)
      refine lv_aload_n hx hb dX12_instance_227 rfl (lv_at hl 1 rfl) ?_
      refine rg_39 X hS dX12_instance_228 ?_
      refine lv_iload_n hx hb dX12_instance_231 rfl (lv_at hl 0 rfl) ?_
      refine lv_aload_n hx hb dX12_instance_232 rfl (lv_at hl 1 rfl) ?_
      refine rg_63 X hS dX12_instance_233 ?_
      obtain ⟨u_11, e_u_11, i_12, h⟩ := wr_of h
      refine rs_39 X hS i_12 e_u_11 dX12_instance_236 (fun H locs hS => ?_)
      refine lv_aload_n hx hb dX12_instance_237 rfl (lv_at hl 1 rfl) ?_
      refine rg_40 X hS dX12_instance_238 ?_
      refine lv_iload_n hx hb dX12_instance_241 rfl (lv_at hl 0 rfl) ?_
      refine lv_aload_n hx hb dX12_instance_242 rfl (lv_at hl 1 rfl) ?_
      refine rg_6 X hS dX12_instance_243 ?_
      refine lv_aload_n hx hb dX12_instance_246 rfl (lv_at hl 1 rfl) ?_
      refine rg_65 X hS dX12_instance_247 ?_
      obtain ⟨v_13, e_v_13, i_14, h⟩ := rd_of h
      refine ra_6 X hS i_14 e_v_13 dX12_instance_250 ?_
      obtain ⟨u_15, e_u_15, i_16, h⟩ := wr_of h
      refine rs_40 X hS i_16 e_u_15 dX12_instance_251 (fun H locs hS => ?_)
      refine lv_aload_n hx hb dX12_instance_252 rfl (lv_at hl 1 rfl) ?_
      refine rg_41 X hS dX12_instance_253 ?_
      refine lv_iload_n hx hb dX12_instance_256 rfl (lv_at hl 0 rfl) ?_
      refine lv_aload_n hx hb dX12_instance_257 rfl (lv_at hl 1 rfl) ?_
      refine rg_7 X hS dX12_instance_258 ?_
      refine lv_aload_n hx hb dX12_instance_261 rfl (lv_at hl 1 rfl) ?_
      refine rg_65 X hS dX12_instance_262 ?_
      obtain ⟨v_17, e_v_17, i_18, h⟩ := rd_of h
      refine ra_7 X hS i_18 e_v_17 dX12_instance_265 ?_
      obtain ⟨u_19, e_u_19, i_20, h⟩ := wr_of h
      refine rs_41 X hS i_20 e_u_19 dX12_instance_266 (fun H locs hS => ?_)
      refine lv_aload_n hx hb dX12_instance_267 rfl (lv_at hl 1 rfl) ?_
      refine lv_dup hx hb dX12_instance_268 rfl ?_
      refine rg_63 X hS dX12_instance_269 ?_
      refine lv_aload_n hx hb dX12_instance_272 rfl (lv_at hl 1 rfl) ?_
      refine rg_31 X hS dX12_instance_273 ?_
      refine lv_bipush (v := 24) hx hb dX12_instance_276 (by decide) ?_
      refine lv_aload_n hx hb dX12_instance_278 rfl (lv_at hl 1 rfl) ?_
      refine rg_56 X hS dX12_instance_279 ?_
      refine lv_imul hx hb dX12_instance_282 ?_
      refine lv_iload_n hx hb dX12_instance_283 rfl (lv_at hl 2 rfl) ?_
      refine lv_iadd hx hb dX12_instance_284 ?_
      obtain ⟨v_21, e_v_21, i_22, h⟩ := rd_of h
      refine ra_31 X hS i_22 e_v_21 dX12_instance_285 ?_
      refine lv_iadd hx hb dX12_instance_286 ?_
      obtain ⟨u_23, e_u_23, h⟩ := pu_of h
      refine rp_63 X hS e_u_23 dX12_instance_287 (fun H locs hS => ?_)
      refine lv_aload_n hx hb dX12_instance_290 rfl (lv_at hl 1 rfl) ?_
      refine rg_42 X hS dX12_instance_291 ?_
      refine lv_aload_n hx hb dX12_instance_294 rfl (lv_at hl 1 rfl) ?_
      refine rg_56 X hS dX12_instance_295 ?_
      refine lv_dup2_11 hx hb dX12_instance_298 rfl rfl ?_
      obtain ⟨v_24, e_v_24, i_25, h⟩ := rd_of h
      refine ra_42 X hS i_25 e_v_24 dX12_instance_299 ?_
      refine lv_iconst (v := 1) hx hb dX12_instance_300 (by decide) ?_
      refine lv_iadd hx hb dX12_instance_301 ?_
      obtain ⟨u_26, e_u_26, i_27, h⟩ := wr_of h
      refine rs_42 X hS i_27 e_u_26 dX12_instance_302 (fun H locs hS => ?_)
      exact b_instance_303 X hE hF hL  h hS (lv_sub hl [1] rfl)
def B_instance_50 (N : Nat) (R_50 : Int32 × Int32 × Int32 × RSt → Option (Int32 × RSt)) (l1 : Int32) (l2 : Int32) (l3 : Int32) (u : RSt) : Option (Int32 × RSt) := if (u.1 69) = (0 : Int32) then (B_instance_165 N l1 l2 u) else (if (u.1 67) = (0 : Int32) then (rd (u.2.2.1 29) 48 ((24 * (u.1 56)) + l1) fun v_30 => if v_30 ≤ l3 then (B_instance_165 N l1 l2 u) else (rd (u.2.2.1 28) 48 ((24 * (u.1 56)) + l1) fun v_33 => rd (u.2.2.1 20) 320 (((160 * (u.1 56)) + v_33) + l3) fun v_35 => rd (u.2.2.1 64) 5 v_35 fun v_37 => rd (u.2.2.1 21) 320 (((160 * (u.1 56)) + v_33) + l3) fun v_39 => wr 5 v_35 (sA u 64 v_35.toNatClampNeg (v_37 + v_39)) fun u_41 => if l2 = (0 : Int32) then (rd (u_41.2.2.1 20) 320 (((160 * (u.1 56)) + v_33) + l3) fun v_44 => rd (u_41.2.2.1 64) 5 v_44 fun v_46 => if v_46 ≤ (400 : Int32) then (B_instance_158 N R_50 l1 l3 0 u_41) else (B_instance_153 N R_50 l1 l3 u_41)) else (B_instance_153 N R_50 l1 l3 u_41))) else (B_instance_165 N l1 l2 u))
set_option maxHeartbeats 4000000 in
theorem b_instance_50 {r : Int32} (X : RC p s m args c cX12_instance 5 (Cond.code yX12_instance cX12_instance 5 none) D kA V A) (hE : REv p l e R s m args below meth c cX12_instance D kA Z A Q w) (hF : 3 ≤ R.frames) (hL : 68 ≤ R.locals) {R_50 : Int32 × Int32 × Int32 × RSt → Option (Int32 × RSt)} {l1 : Int32} {l2 : Int32} {l3 : Int32} (hR_50 : ∀ (l1 : Int32) (l2 : Int32) (l3 : Int32) (u : RSt), R_50 (l1, l2, l3, u) = some (r, w) → ∀ (H : Heap) (locs : List Loc) (ls : Array Slot), RS D kA Z A s u H locs → lv_has ls 5 [(0, .ref (Z 200)), (1, .int l1), (2, .int l2), (3, .int l3)] → W p l e R s m args below meth c H locs 0 0 Q (F0 m 50 ls [])) {u : RSt} (h : B_instance_50 N R_50 l1 l2 l3 u = some (r, w)) (hS : RS D kA Z A s u H locs) (hl : lv_has ls 5 [(0, .ref (Z 200)), (1, .int l1), (2, .int l2), (3, .int l3)]) : W p l e R s m args below meth c H locs 0 0 Q (F0 m 50 ls []) := by
  obtain ⟨⟨hx, hb, hml, hown, hts⟩, hK, hEV, hA⟩ := id X
  have hG : ∀ w ∈ GW, w.before args s = true := fun w h => hts w (List.mem_cons_of_mem _ h)
  unfold B_instance_50 at h
  refine lv_aload_n hx hb dX12_instance_50 rfl (lv_at hl 0 rfl) ?_
  refine rg_69 X hS dX12_instance_51 ?_
  refine lv_if_eq (tgt := 165) hx hb dX12_instance_54 (by decide) (fun c_28 => ?_) (fun c_28 => ?_)
  · have h := ip (c_28) h
    exact b_instance_165 X hE hF hL  h hS (lv_sub hl [0, 1, 2] rfl)
  · have h := im (c_28) h
    refine lv_aload_n hx hb dX12_instance_57 rfl (lv_at hl 0 rfl) ?_
    refine rg_67 X hS dX12_instance_58 ?_
    refine lv_if_ne (tgt := 165) hx hb dX12_instance_61 (by decide) (fun c_29 => ?_) (fun c_29 => ?_)
    · have h := im (c_29) h
      exact b_instance_165 X hE hF hL  h hS (lv_sub hl [0, 1, 2] rfl)
    · have h := ip (c_29) h
      refine lv_iload_n hx hb dX12_instance_64 rfl (lv_at hl 3 rfl) ?_
      refine lv_aload_n hx hb dX12_instance_65 rfl (lv_at hl 0 rfl) ?_
      refine rg_29 X hS dX12_instance_66 ?_
      refine lv_bipush (v := 24) hx hb dX12_instance_69 (by decide) ?_
      refine lv_aload_n hx hb dX12_instance_71 rfl (lv_at hl 0 rfl) ?_
      refine rg_56 X hS dX12_instance_72 ?_
      refine lv_imul hx hb dX12_instance_75 ?_
      refine lv_iload_n hx hb dX12_instance_76 rfl (lv_at hl 1 rfl) ?_
      refine lv_iadd hx hb dX12_instance_77 ?_
      obtain ⟨v_30, e_v_30, i_31, h⟩ := rd_of h
      refine ra_29 X hS i_31 e_v_30 dX12_instance_78 ?_
      refine lv_icmp_ge (tgt := 165) hx hb dX12_instance_79 (by decide) (fun c_32 => ?_) (fun c_32 => ?_)
      · have h := ip (c_32) h
        exact b_instance_165 X hE hF hL  h hS (lv_sub hl [0, 1, 2] rfl)
      · have h := im (c_32) h
        refine lv_sipush (v := 160) hx hb dX12_instance_82 (by decide) ?_
        refine lv_aload_n hx hb dX12_instance_85 rfl (lv_at hl 0 rfl) ?_
        refine rg_56 X hS dX12_instance_86 ?_
        refine lv_imul hx hb dX12_instance_89 ?_
        refine lv_aload_n hx hb dX12_instance_90 rfl (lv_at hl 0 rfl) ?_
        refine rg_28 X hS dX12_instance_91 ?_
        refine lv_bipush (v := 24) hx hb dX12_instance_94 (by decide) ?_
        refine lv_aload_n hx hb dX12_instance_96 rfl (lv_at hl 0 rfl) ?_
        refine rg_56 X hS dX12_instance_97 ?_
        refine lv_imul hx hb dX12_instance_100 ?_
        refine lv_iload_n hx hb dX12_instance_101 rfl (lv_at hl 1 rfl) ?_
        refine lv_iadd hx hb dX12_instance_102 ?_
        obtain ⟨v_33, e_v_33, i_34, h⟩ := rd_of h
        refine ra_28 X hS i_34 e_v_33 dX12_instance_103 ?_
        refine lv_iadd hx hb dX12_instance_104 ?_
        refine lv_iload_n hx hb dX12_instance_105 rfl (lv_at hl 3 rfl) ?_
        refine lv_iadd hx hb dX12_instance_106 ?_
        refine lv_istore (lv' := [(4, .int (((160 * (u.1 56)) + v_33) + l3)), (0, .ref (Z 200)), (1, .int l1), (2, .int l2), (3, .int l3)]) hx hb dX12_instance_107 hl (by decide) rfl (fun ls hl => ?_)
        refine lv_aload_n hx hb dX12_instance_109 rfl (lv_at hl 1 rfl) ?_
        refine rg_64 X hS dX12_instance_110 ?_
        refine lv_aload_n hx hb dX12_instance_113 rfl (lv_at hl 1 rfl) ?_
        refine rg_20 X hS dX12_instance_114 ?_
        refine lv_iload hx hb dX12_instance_117 (lv_at hl 0 rfl) ?_
        obtain ⟨v_35, e_v_35, i_36, h⟩ := rd_of h
        refine ra_20 X hS i_36 e_v_35 dX12_instance_119 ?_
        refine lv_dup2_11 hx hb dX12_instance_120 rfl rfl ?_
        obtain ⟨v_37, e_v_37, i_38, h⟩ := rd_of h
        refine ra_64 X hS i_38 e_v_37 dX12_instance_121 ?_
        refine lv_aload_n hx hb dX12_instance_122 rfl (lv_at hl 1 rfl) ?_
        refine rg_21 X hS dX12_instance_123 ?_
        refine lv_iload hx hb dX12_instance_126 (lv_at hl 0 rfl) ?_
        obtain ⟨v_39, e_v_39, i_40, h⟩ := rd_of h
        refine ra_21 X hS i_40 e_v_39 dX12_instance_128 ?_
        refine lv_iadd hx hb dX12_instance_129 ?_
        obtain ⟨u_41, e_u_41, i_42, h⟩ := wr_of h
        refine rs_64 X hS i_42 e_u_41 dX12_instance_130 (fun H locs hS => ?_)
        refine lv_iload_n hx hb dX12_instance_131 rfl (lv_at hl 3 rfl) ?_
        refine lv_if_ne (tgt := 153) hx hb dX12_instance_132 (by decide) (fun c_43 => ?_) (fun c_43 => ?_)
        · have h := im (c_43) h
          exact b_instance_153 X hE hF hL hR_50 h hS (lv_sub hl [1, 2, 4] rfl)
        · have h := ip (c_43) h
          refine lv_aload_n hx hb dX12_instance_135 rfl (lv_at hl 1 rfl) ?_
          refine rg_64 X hS dX12_instance_136 ?_
          refine lv_aload_n hx hb dX12_instance_139 rfl (lv_at hl 1 rfl) ?_
          refine rg_20 X hS dX12_instance_140 ?_
          refine lv_iload hx hb dX12_instance_143 (lv_at hl 0 rfl) ?_
          obtain ⟨v_44, e_v_44, i_45, h⟩ := rd_of h
          refine ra_20 X hS i_45 e_v_44 dX12_instance_145 ?_
          obtain ⟨v_46, e_v_46, i_47, h⟩ := rd_of h
          refine ra_64 X hS i_47 e_v_46 dX12_instance_146 ?_
          refine lv_sipush (v := 400) hx hb dX12_instance_147 (by decide) ?_
          refine lv_icmp_le (tgt := 157) hx hb dX12_instance_150 (by decide) (fun c_48 => ?_) (fun c_48 => ?_)
          · have h := ip (c_48) h
            refine lv_iconst (v := 0) hx hb dX12_instance_157 (by decide) ?_
            exact b_instance_158 X hE hF hL hR_50 h hS (lv_sub hl [1, 2, 4] rfl)
          · have h := im (c_48) h
            exact b_instance_153 X hE hF hL hR_50 h hS (lv_sub hl [1, 2, 4] rfl)
def LP_instance_50 (N : Nat) : Nat → Int32 × Int32 × Int32 × RSt → Option (Int32 × RSt) := lp (fun R a => B_instance_50 N R a.1 a.2.1 a.2.2.1 a.2.2.2)
theorem bl_instance_50 {r : Int32} (X : RC p s m args c cX12_instance 5 (Cond.code yX12_instance cX12_instance 5 none) D kA V A) (hE : REv p l e R s m args below meth c cX12_instance D kA Z A Q w) (hF : 3 ≤ R.frames) (hL : 68 ≤ R.locals)  : ∀ (n : Nat) (l1 : Int32) (l2 : Int32) (l3 : Int32) (u : RSt), LP_instance_50 N n (l1, l2, l3, u) = some (r, w) → ∀ (H : Heap) (locs : List Loc) (ls : Array Slot), RS D kA Z A s u H locs → lv_has ls 5 [(0, .ref (Z 200)), (1, .int l1), (2, .int l2), (3, .int l3)] → W p l e R s m args below meth c H locs 0 0 Q (F0 m 50 ls []) := by
  intro n
  induction n with
  | zero => intro l1 l2 l3 u h; exact nomatch h
  | succ n ih => intro l1 l2 l3 u h H locs ls hS hl; exact b_instance_50 (N := N) (R_50 := LP_instance_50 N n) X hE hF hL  ih h hS hl
def B_instance_43 (N : Nat) (l1 : Int32) (s1 : Int32) (s2 : Int32) (s3 : Int32) (u : RSt) : Option (Int32 × RSt) := bn (F_telling N s1 s2 s3 u) fun _ u_49 => LP_instance_50 N N (l1, 0, 0, u_49)
set_option maxHeartbeats 4000000 in
theorem b_instance_43 {r : Int32} (X : RC p s m args c cX12_instance 5 (Cond.code yX12_instance cX12_instance 5 none) D kA V A) (hE : REv p l e R s m args below meth c cX12_instance D kA Z A Q w) (hF : 3 ≤ R.frames) (hL : 68 ≤ R.locals) {l1 : Int32} {s1 : Int32} {s2 : Int32} {s3 : Int32}  {u : RSt} (h : B_instance_43 N l1 s1 s2 s3 u = some (r, w)) (hS : RS D kA Z A s u H locs) (hl : lv_has ls 5 [(0, .ref (Z 200)), (1, .int l1)]) : W p l e R s m args below meth c H locs 0 0 Q (F0 m 43 ls [.int s3, .int s2, .int s1, .ref (Z 200)]) := by
  obtain ⟨⟨hx, hb, hml, hown, hts⟩, hK, hEV, hA⟩ := id X
  have hG : ∀ w ∈ GW, w.before args s = true := fun w h => hts w (List.mem_cons_of_mem _ h)
  unfold B_instance_43 at h
  obtain ⟨r_u_49, u_49, h_u_49, h⟩ := bn_of h
  refine kc_telling X hS h_u_49 (Nat.le_trans (Nat.le_of_ble_eq_true rfl) hF) (Nat.le_trans (Nat.le_of_ble_eq_true rfl) hL) hl.1 (Nat.le_of_ble_eq_true rfl) dX12_instance_43 (fun H locs hS => ?_)
  refine lv_iconst (v := 0) hx hb dX12_instance_46 (by decide) ?_
  refine lv_istore_n (lv' := [(2, .int 0), (0, .ref (Z 200)), (1, .int l1)]) hx hb dX12_instance_47 rfl hl (by decide) rfl (fun ls hl => ?_)
  refine lv_iconst (v := 0) hx hb dX12_instance_48 (by decide) ?_
  refine lv_istore_n (lv' := [(3, .int 0), (2, .int 0), (0, .ref (Z 200)), (1, .int l1)]) hx hb dX12_instance_49 rfl hl (by decide) rfl (fun ls hl => ?_)
  exact bl_instance_50 X hE hF hL  _ _ _ _ _ h _ _ _ hS (lv_sub hl [2, 3, 1, 0] rfl)
def B_instance_0 (N : Nat) (l1 : Int32) (u : RSt) : Option (Int32 × RSt) := bn (F_is N 1 u) fun r_51 u_50 => if r_51 = (0 : Int32) then (bn (F_stuck N u_50) fun _ u_58 => some (0, u_58)) else (rd (u_50.2.2.1 42) 2 (u_50.1 56) fun v_53 => rd (u_50.2.2.1 42) 2 (u_50.1 56) fun v_55 => if v_55 = (24 : Int32) then (B_instance_43 N l1 1 v_53 1 u_50) else (B_instance_43 N l1 1 v_53 0 u_50))
set_option maxHeartbeats 4000000 in
theorem b_instance_0 {r : Int32} (X : RC p s m args c cX12_instance 5 (Cond.code yX12_instance cX12_instance 5 none) D kA V A) (hE : REv p l e R s m args below meth c cX12_instance D kA Z A Q w) (hF : 3 ≤ R.frames) (hL : 68 ≤ R.locals) {l1 : Int32}  {u : RSt} (h : B_instance_0 N l1 u = some (r, w)) (hS : RS D kA Z A s u H locs) (hl : lv_has ls 5 [(0, .ref (Z 200)), (1, .int l1)]) : W p l e R s m args below meth c H locs 0 0 Q (F0 m 0 ls []) := by
  obtain ⟨⟨hx, hb, hml, hown, hts⟩, hK, hEV, hA⟩ := id X
  have hG : ∀ w ∈ GW, w.before args s = true := fun w h => hts w (List.mem_cons_of_mem _ h)
  unfold B_instance_0 at h
  refine lv_aload_n hx hb dX12_instance_0 rfl (lv_at hl 0 rfl) ?_
  refine lv_iconst (v := 1) hx hb dX12_instance_1 (by decide) ?_
  obtain ⟨r_51, u_50, h_u_50, h⟩ := bn_of h
  refine kc_is X hS h_u_50 (Nat.le_trans (Nat.le_of_ble_eq_true rfl) hF) (Nat.le_trans (Nat.le_of_ble_eq_true rfl) hL) hl.1 (Nat.le_of_ble_eq_true rfl) dX12_instance_2 (fun H locs hS => ?_)
  refine lv_if_ne (tgt := 13) hx hb dX12_instance_5 (by decide) (fun c_52 => ?_) (fun c_52 => ?_)
  · have h := im (c_52) h
    refine lv_aload_n hx hb dX12_instance_13 rfl (lv_at hl 0 rfl) ?_
    refine lv_iconst (v := 1) hx hb dX12_instance_14 (by decide) ?_
    refine lv_aload_n hx hb dX12_instance_15 rfl (lv_at hl 0 rfl) ?_
    refine rg_42 X hS dX12_instance_16 ?_
    refine lv_aload_n hx hb dX12_instance_19 rfl (lv_at hl 0 rfl) ?_
    refine rg_56 X hS dX12_instance_20 ?_
    obtain ⟨v_53, e_v_53, i_54, h⟩ := rd_of h
    refine ra_42 X hS i_54 e_v_53 dX12_instance_23 ?_
    refine lv_aload_n hx hb dX12_instance_24 rfl (lv_at hl 0 rfl) ?_
    refine rg_42 X hS dX12_instance_25 ?_
    refine lv_aload_n hx hb dX12_instance_28 rfl (lv_at hl 0 rfl) ?_
    refine rg_56 X hS dX12_instance_29 ?_
    obtain ⟨v_55, e_v_55, i_56, h⟩ := rd_of h
    refine ra_42 X hS i_56 e_v_55 dX12_instance_32 ?_
    refine lv_bipush (v := 24) hx hb dX12_instance_33 (by decide) ?_
    refine lv_icmp_ne (tgt := 42) hx hb dX12_instance_35 (by decide) (fun c_57 => ?_) (fun c_57 => ?_)
    · have h := im (c_57) h
      refine lv_iconst (v := 0) hx hb dX12_instance_42 (by decide) ?_
      exact b_instance_43 X hE hF hL  h hS (lv_sub hl [0, 1] rfl)
    · have h := ip (c_57) h
      refine lv_iconst (v := 1) hx hb dX12_instance_38 (by decide) ?_
      refine lv_goto (tgt := 43) hx hb dX12_instance_39 (by decide) ?_
      exact b_instance_43 X hE hF hL  h hS (lv_sub hl [0, 1] rfl)
  · have h := ip (c_52) h
    refine lv_aload_n hx hb dX12_instance_8 rfl (lv_at hl 0 rfl) ?_
    obtain ⟨r_u_58, u_58, h_u_58, h⟩ := bn_of h
    refine kc_stuck X hS h_u_58 (Nat.le_trans (Nat.le_of_ble_eq_true rfl) hF) (Nat.le_trans (Nat.le_of_ble_eq_true rfl) hL) hl.1 (Nat.le_of_ble_eq_true rfl) dX12_instance_9 (fun H locs hS => ?_)
    obtain ⟨-, rfl⟩ := so h
    exact hE _ _ _ _ hS dX12_instance_12
def F_instance (N : Nat) (l1 : Int32) (u : RSt) : Option (Int32 × RSt) := B_instance_0 N l1 u
set_option maxHeartbeats 4000000 in
theorem k_instance (l : Launch) (D : va_G) (kA : Nat → ClassId) (V Z : Nat → Nat) (N : Nat) (l1 : Int32) (u : RSt) (sz : Nat) {r : Int32} {w : RSt} (h : F_instance N l1 u = some (r, w)) : Met l yX12_instance (Cond.code yX12_instance cX12_instance 5 none :: GW) { frames := 3, cells := 0, slots := 0, locals := 68 } (rPc D kA V Z [.int l1] u sz) (rQv D kA Z u sz w) 0 0 (va_A (RW kA Z u) sz) := by
  refine Met.ofW (cc := cX12_instance) (maxL := 5) (ret := none) (by decide) rfl ?_
  intro p e s m args below meth c s₁ Bd hml hv
  obtain ⟨rfl, hsz, hP, hK, hD0, hE⟩ := hv
  have hts := atoms_spec (ws := Cond.code yX12_instance cX12_instance 5 none :: GW) Bd.pre
  have hl := lv_entry (.ref (Z 200) :: [.int l1]) (n := 5) (Nat.le_of_ble_eq_true rfl)
  rw [lg_entry_eq]
  generalize (lg_sl (.ref (Z 200) :: [.int l1]) ++ List.replicate (5 - (lg_sl (.ref (Z 200) :: [.int l1])).length) Slot.unset).toArray = ls at hl ⊢
  have hl : lv_has ls 5 [(0, .ref (Z 200)), (1, .int l1)] := hl
  subst hsz
  have X : RC p s m (.ref (Z 200) :: [.int l1]).toArray c cX12_instance 5 (Cond.code yX12_instance cX12_instance 5 none) D kA V (va_A (RW kA Z u) s.heap.size) := ⟨⟨Bd.exec, Bd.bytes, hml, findClass_of_methodNamed Bd.named, hts⟩, hK, hE, fun q h => Or.inr h⟩
  exact b_instance_0 X (rend_v (cy := cX12_instance) X Bd.returns Bd.notSynchronized) (Nat.le_refl _) (Nat.le_refl _) h ⟨hP, hD0.self, va_S.rf⟩ (lv_sub hl [0, 1] rfl)
theorem kc_instance {r : Int32} {cc : ByteArray} {pc nL : Nat} {c0 : Cond} {rest : List Value} {l1 : Int32} {u : RSt} (X : RC p s m args c cc nL c0 D kA V A) (hS : RS D kA Z A s u H locs) (h : F_instance N l1 u = some (r, w)) (hF : 3 + 1 ≤ R.frames) (hL : 8 + (5 + 11) + 68 ≤ R.locals) (hl : ls.size = nL) (hc : (rest.map fun v => v.category).sum ≤ 8) (hdg : decode cc pc = .ok (.invokevirtual 381, 3)) (kk : ∀ H locs, RS D kA Z A s w H locs → W p l e R s m args below meth c H locs 0 0 Q (F0 m (pc + 3) ls (rest))) : W p l e R s m args below meth c H locs 0 0 Q (F0 m pc ls (.int l1 :: .ref (Z 200) :: rest)) :=
  rcall_v (n := 1) X hS (k_instance l D kA V Z N l1 u H.size h) (gw_V gw_2572 gw_2574 gs_11_10 gw_16 gw_2575) (by decide +kernel) hF hL rfl hl hc rfl hdg kk
def B_use_68 (N : Nat) (R_68 : Int32 × RSt → Option (Int32 × RSt)) (l1 : Int32) (u : RSt) : Option (Int32 × RSt) := bn (F_has N 230 u) fun r_2 u_1 => if r_2 = (0 : Int32) then (bn (F_take N 229 u_1) fun _ u_4 => some (0, u_4)) else (bn (F_instance N l1 u_1) fun _ u_5 => R_68 (l1, u_5))
set_option maxHeartbeats 4000000 in
theorem b_use_68 {r : Int32} (X : RC p s m args c cX12_use 2 (Cond.code yX12_use cX12_use 2 none) D kA V A) (hE : REv p l e R s m args below meth c cX12_use D kA Z A Q w) (hF : 4 ≤ R.frames) (hL : 92 ≤ R.locals) {R_68 : Int32 × RSt → Option (Int32 × RSt)} {l1 : Int32} (hR_68 : ∀ (l1 : Int32) (u : RSt), R_68 (l1, u) = some (r, w) → ∀ (H : Heap) (locs : List Loc) (ls : Array Slot), RS D kA Z A s u H locs → lv_has ls 2 [(0, .ref (Z 200)), (1, .int l1)] → W p l e R s m args below meth c H locs 0 0 Q (F0 m 68 ls [])) {u : RSt} (h : B_use_68 N R_68 l1 u = some (r, w)) (hS : RS D kA Z A s u H locs) (hl : lv_has ls 2 [(0, .ref (Z 200)), (1, .int l1)]) : W p l e R s m args below meth c H locs 0 0 Q (F0 m 68 ls []) := by
  obtain ⟨⟨hx, hb, hml, hown, hts⟩, hK, hEV, hA⟩ := id X
  have hG : ∀ w ∈ GW, w.before args s = true := fun w h => hts w (List.mem_cons_of_mem _ h)
  unfold B_use_68 at h
  refine lv_aload_n hx hb dX12_use_68 rfl (lv_at hl 0 rfl) ?_
  refine lv_sipush (v := 230) hx hb dX12_use_69 (by decide) ?_
  obtain ⟨r_2, u_1, h_u_1, h⟩ := bn_of h
  refine kc_has X hS h_u_1 (Nat.le_trans (Nat.le_of_ble_eq_true rfl) hF) (Nat.le_trans (Nat.le_of_ble_eq_true rfl) hL) hl.1 (Nat.le_of_ble_eq_true rfl) dX12_use_72 (fun H locs hS => ?_)
  refine lv_if_eq (tgt := 86) hx hb dX12_use_75 (by decide) (fun c_3 => ?_) (fun c_3 => ?_)
  · have h := ip (c_3) h
    refine lv_aload_n hx hb dX12_use_86 rfl (lv_at hl 0 rfl) ?_
    refine lv_sipush (v := 229) hx hb dX12_use_87 (by decide) ?_
    obtain ⟨r_u_4, u_4, h_u_4, h⟩ := bn_of h
    refine kc_take X hS h_u_4 (Nat.le_trans (Nat.le_of_ble_eq_true rfl) hF) (Nat.le_trans (Nat.le_of_ble_eq_true rfl) hL) hl.1 (Nat.le_of_ble_eq_true rfl) dX12_use_90 (fun H locs hS => ?_)
    obtain ⟨-, rfl⟩ := so h
    exact hE _ _ _ _ hS dX12_use_93
  · have h := im (c_3) h
    refine lv_aload_n hx hb dX12_use_78 rfl (lv_at hl 0 rfl) ?_
    refine lv_iload_n hx hb dX12_use_79 rfl (lv_at hl 1 rfl) ?_
    obtain ⟨r_u_5, u_5, h_u_5, h⟩ := bn_of h
    refine kc_instance X hS h_u_5 (Nat.le_trans (Nat.le_of_ble_eq_true rfl) hF) (Nat.le_trans (Nat.le_of_ble_eq_true rfl) hL) hl.1 (Nat.le_of_ble_eq_true rfl) dX12_use_80 (fun H locs hS => ?_)
    refine lv_goto (tgt := 68) hx hb dX12_use_83 (by decide) ?_
    exact hR_68 _ _ h _ _ _ hS (lv_sub hl [0, 1] rfl)
def LP_use_68 (N : Nat) : Nat → Int32 × RSt → Option (Int32 × RSt) := lp (fun R a => B_use_68 N R a.1 a.2)
theorem bl_use_68 {r : Int32} (X : RC p s m args c cX12_use 2 (Cond.code yX12_use cX12_use 2 none) D kA V A) (hE : REv p l e R s m args below meth c cX12_use D kA Z A Q w) (hF : 4 ≤ R.frames) (hL : 92 ≤ R.locals)  : ∀ (n : Nat) (l1 : Int32) (u : RSt), LP_use_68 N n (l1, u) = some (r, w) → ∀ (H : Heap) (locs : List Loc) (ls : Array Slot), RS D kA Z A s u H locs → lv_has ls 2 [(0, .ref (Z 200)), (1, .int l1)] → W p l e R s m args below meth c H locs 0 0 Q (F0 m 68 ls []) := by
  intro n
  induction n with
  | zero => intro l1 u h; exact nomatch h
  | succ n ih => intro l1 u h H locs ls hS hl; exact b_use_68 (N := N) (R_68 := LP_use_68 N n) X hE hF hL  ih h hS hl
def B_use_40 (N : Nat) (l1 : Int32) (s1 : Int32) (u : RSt) : Option (Int32 × RSt) := rd (u.2.2.1 3) 1502 (u.1 65) fun v_6 => bn (F_wrong N s1 3 v_6 u) fun _ u_8 => pu (sI u_8 65 ((u_8.1 65) + 1)) fun u_9 => bn (F_instance N l1 u_9) fun _ u_10 => LP_use_68 N N (l1, u_10)
set_option maxHeartbeats 4000000 in
theorem b_use_40 {r : Int32} (X : RC p s m args c cX12_use 2 (Cond.code yX12_use cX12_use 2 none) D kA V A) (hE : REv p l e R s m args below meth c cX12_use D kA Z A Q w) (hF : 4 ≤ R.frames) (hL : 92 ≤ R.locals) {l1 : Int32} {s1 : Int32}  {u : RSt} (h : B_use_40 N l1 s1 u = some (r, w)) (hS : RS D kA Z A s u H locs) (hl : lv_has ls 2 [(0, .ref (Z 200)), (1, .int l1)]) : W p l e R s m args below meth c H locs 0 0 Q (F0 m 40 ls [.int s1, .ref (Z 200)]) := by
  obtain ⟨⟨hx, hb, hml, hown, hts⟩, hK, hEV, hA⟩ := id X
  have hG : ∀ w ∈ GW, w.before args s = true := fun w h => hts w (List.mem_cons_of_mem _ h)
  unfold B_use_40 at h
  refine lv_iconst (v := 3) hx hb dX12_use_40 (by decide) ?_
  refine lv_aload_n hx hb dX12_use_41 rfl (lv_at hl 0 rfl) ?_
  refine rg_3 X hS dX12_use_42 ?_
  refine lv_aload_n hx hb dX12_use_45 rfl (lv_at hl 0 rfl) ?_
  refine rg_65 X hS dX12_use_46 ?_
  obtain ⟨v_6, e_v_6, i_7, h⟩ := rd_of h
  refine ra_3 X hS i_7 e_v_6 dX12_use_49 ?_
  obtain ⟨r_u_8, u_8, h_u_8, h⟩ := bn_of h
  refine kc_wrong X hS h_u_8 (Nat.le_trans (Nat.le_of_ble_eq_true rfl) hF) (Nat.le_trans (Nat.le_of_ble_eq_true rfl) hL) hl.1 (Nat.le_of_ble_eq_true rfl) dX12_use_50 (fun H locs hS => ?_)
  refine lv_aload_n hx hb dX12_use_53 rfl (lv_at hl 0 rfl) ?_
  refine lv_dup hx hb dX12_use_54 rfl ?_
  refine rg_65 X hS dX12_use_55 ?_
  refine lv_iconst (v := 1) hx hb dX12_use_58 (by decide) ?_
  refine lv_iadd hx hb dX12_use_59 ?_
  obtain ⟨u_9, e_u_9, h⟩ := pu_of h
  refine rp_65 X hS e_u_9 dX12_use_60 (fun H locs hS => ?_)
  refine lv_aload_n hx hb dX12_use_63 rfl (lv_at hl 0 rfl) ?_
  refine lv_iload_n hx hb dX12_use_64 rfl (lv_at hl 1 rfl) ?_
  obtain ⟨r_u_10, u_10, h_u_10, h⟩ := bn_of h
  refine kc_instance X hS h_u_10 (Nat.le_trans (Nat.le_of_ble_eq_true rfl) hF) (Nat.le_trans (Nat.le_of_ble_eq_true rfl) hL) hl.1 (Nat.le_of_ble_eq_true rfl) dX12_use_65 (fun H locs hS => ?_)
  exact bl_use_68 X hE hF hL  _ _ _ h _ _ _ hS (lv_sub hl [0, 1] rfl)
def B_use_0 (N : Nat) (u : RSt) : Option (Int32 × RSt) := pu (sI u 65 ((u.1 65) + 1)) fun u_11 => bn (F_is N 1 u_11) fun r_13 u_12 => if r_13 = (0 : Int32) then (bn (F_stuck N u_12) fun _ u_18 => some (0, u_18)) else (bn (F_own N 3 u_12) fun r_16 u_15 => if r_16 = ((-1) : Int32) then (B_use_40 N r_16 1 u_15) else (B_use_40 N r_16 0 u_15))
set_option maxHeartbeats 4000000 in
theorem b_use_0 {r : Int32} (X : RC p s m args c cX12_use 2 (Cond.code yX12_use cX12_use 2 none) D kA V A) (hE : REv p l e R s m args below meth c cX12_use D kA Z A Q w) (hF : 4 ≤ R.frames) (hL : 92 ≤ R.locals)  {u : RSt} (h : B_use_0 N u = some (r, w)) (hS : RS D kA Z A s u H locs) (hl : lv_has ls 2 [(0, .ref (Z 200))]) : W p l e R s m args below meth c H locs 0 0 Q (F0 m 0 ls []) := by
  obtain ⟨⟨hx, hb, hml, hown, hts⟩, hK, hEV, hA⟩ := id X
  have hG : ∀ w ∈ GW, w.before args s = true := fun w h => hts w (List.mem_cons_of_mem _ h)
  unfold B_use_0 at h
  refine lv_aload_n hx hb dX12_use_0 rfl (lv_at hl 0 rfl) ?_
  refine lv_dup hx hb dX12_use_1 rfl ?_
  refine rg_65 X hS dX12_use_2 ?_
  refine lv_iconst (v := 1) hx hb dX12_use_5 (by decide) ?_
  refine lv_iadd hx hb dX12_use_6 ?_
  obtain ⟨u_11, e_u_11, h⟩ := pu_of h
  refine rp_65 X hS e_u_11 dX12_use_7 (fun H locs hS => ?_)
  refine lv_aload_n hx hb dX12_use_10 rfl (lv_at hl 0 rfl) ?_
  refine lv_iconst (v := 1) hx hb dX12_use_11 (by decide) ?_
  obtain ⟨r_13, u_12, h_u_12, h⟩ := bn_of h
  refine kc_is X hS h_u_12 (Nat.le_trans (Nat.le_of_ble_eq_true rfl) hF) (Nat.le_trans (Nat.le_of_ble_eq_true rfl) hL) hl.1 (Nat.le_of_ble_eq_true rfl) dX12_use_12 (fun H locs hS => ?_)
  refine lv_if_ne (tgt := 23) hx hb dX12_use_15 (by decide) (fun c_14 => ?_) (fun c_14 => ?_)
  · have h := im (c_14) h
    refine lv_aload_n hx hb dX12_use_23 rfl (lv_at hl 0 rfl) ?_
    refine lv_iconst (v := 3) hx hb dX12_use_24 (by decide) ?_
    obtain ⟨r_16, u_15, h_u_15, h⟩ := bn_of h
    refine kc_own X hS h_u_15 (Nat.le_trans (Nat.le_of_ble_eq_true rfl) hF) (Nat.le_trans (Nat.le_of_ble_eq_true rfl) hL) hl.1 (Nat.le_of_ble_eq_true rfl) dX12_use_25 (fun H locs hS => ?_)
    refine lv_istore_n (lv' := [(1, .int r_16), (0, .ref (Z 200))]) hx hb dX12_use_28 rfl hl (by decide) rfl (fun ls hl => ?_)
    refine lv_aload_n hx hb dX12_use_29 rfl (lv_at hl 1 rfl) ?_
    refine lv_iload_n hx hb dX12_use_30 rfl (lv_at hl 0 rfl) ?_
    refine lv_iconst (v := (-1)) hx hb dX12_use_31 (by decide) ?_
    refine lv_icmp_ne (tgt := 39) hx hb dX12_use_32 (by decide) (fun c_17 => ?_) (fun c_17 => ?_)
    · have h := im (c_17) h
      refine lv_iconst (v := 0) hx hb dX12_use_39 (by decide) ?_
      exact b_use_40 X hE hF hL  h hS (lv_sub hl [1, 0] rfl)
    · have h := ip (c_17) h
      refine lv_iconst (v := 1) hx hb dX12_use_35 (by decide) ?_
      refine lv_goto (tgt := 40) hx hb dX12_use_36 (by decide) ?_
      exact b_use_40 X hE hF hL  h hS (lv_sub hl [1, 0] rfl)
  · have h := ip (c_14) h
    refine lv_aload_n hx hb dX12_use_18 rfl (lv_at hl 0 rfl) ?_
    obtain ⟨r_u_18, u_18, h_u_18, h⟩ := bn_of h
    refine kc_stuck X hS h_u_18 (Nat.le_trans (Nat.le_of_ble_eq_true rfl) hF) (Nat.le_trans (Nat.le_of_ble_eq_true rfl) hL) hl.1 (Nat.le_of_ble_eq_true rfl) dX12_use_19 (fun H locs hS => ?_)
    obtain ⟨-, rfl⟩ := so h
    exact hE _ _ _ _ hS dX12_use_22
def F_use (N : Nat) (u : RSt) : Option (Int32 × RSt) := B_use_0 N u
set_option maxHeartbeats 4000000 in
theorem k_use (l : Launch) (D : va_G) (kA : Nat → ClassId) (V Z : Nat → Nat) (N : Nat) (u : RSt) (sz : Nat) {r : Int32} {w : RSt} (h : F_use N u = some (r, w)) : Met l yX12_use (Cond.code yX12_use cX12_use 2 none :: GW) { frames := 4, cells := 0, slots := 0, locals := 92 } (rPc D kA V Z [] u sz) (rQv D kA Z u sz w) 0 0 (va_A (RW kA Z u) sz) := by
  refine Met.ofW (cc := cX12_use) (maxL := 2) (ret := none) (by decide) rfl ?_
  intro p e s m args below meth c s₁ Bd hml hv
  obtain ⟨rfl, hsz, hP, hK, hD0, hE⟩ := hv
  have hts := atoms_spec (ws := Cond.code yX12_use cX12_use 2 none :: GW) Bd.pre
  have hl := lv_entry (.ref (Z 200) :: []) (n := 2) (Nat.le_of_ble_eq_true rfl)
  rw [lg_entry_eq]
  generalize (lg_sl (.ref (Z 200) :: []) ++ List.replicate (2 - (lg_sl (.ref (Z 200) :: [])).length) Slot.unset).toArray = ls at hl ⊢
  have hl : lv_has ls 2 [(0, .ref (Z 200))] := hl
  subst hsz
  have X : RC p s m (.ref (Z 200) :: []).toArray c cX12_use 2 (Cond.code yX12_use cX12_use 2 none) D kA V (va_A (RW kA Z u) s.heap.size) := ⟨⟨Bd.exec, Bd.bytes, hml, findClass_of_methodNamed Bd.named, hts⟩, hK, hE, fun q h => Or.inr h⟩
  exact b_use_0 X (rend_v (cy := cX12_use) X Bd.returns Bd.notSynchronized) (Nat.le_refl _) (Nat.le_refl _) h ⟨hP, hD0.self, va_S.rf⟩ (lv_sub hl [0] rfl)
theorem kc_use {r : Int32} {cc : ByteArray} {pc nL : Nat} {c0 : Cond} {rest : List Value} {u : RSt} (X : RC p s m args c cc nL c0 D kA V A) (hS : RS D kA Z A s u H locs) (h : F_use N u = some (r, w)) (hF : 4 + 1 ≤ R.frames) (hL : 8 + (2 + 11) + 92 ≤ R.locals) (hl : ls.size = nL) (hc : (rest.map fun v => v.category).sum ≤ 8) (hdg : decode cc pc = .ok (.invokevirtual 426, 3)) (kk : ∀ H locs, RS D kA Z A s w H locs → W p l e R s m args below meth c H locs 0 0 Q (F0 m (pc + 3) ls (rest))) : W p l e R s m args below meth c H locs 0 0 Q (F0 m pc ls (.ref (Z 200) :: rest)) :=
  rcall_v (n := 0) X hS (k_use l D kA V Z N  u H.size h) (gw_V gw_2568 gw_2570 gs_11_9 gw_16 gw_2571) (by decide +kernel) hF hL rfl hl hc rfl hdg kk
def B_tasked_213 (N : Nat) (u : RSt) : Option (Int32 × RSt) := bn (G_body N u) fun _ u_1 => bn (F_emit N 33 0 0 u_1) fun r_3 u_2 => pu (sI u_2 70 0) fun u_4 => some (0, u_4)
set_option maxHeartbeats 4000000 in
theorem b_tasked_213 {r : Int32} (X : RC p s m args c cX12_tasked 6 (Cond.code yX12_tasked cX12_tasked 6 none) D kA V A) (hE : REv p l e R s m args below meth c cX12_tasked D kA Z A Q w) (hF : 531 ≤ R.frames) (hL : 32020 ≤ R.locals)  {u : RSt} (h : B_tasked_213 N u = some (r, w)) (hS : RS D kA Z A s u H locs) (hl : lv_has ls 6 [(0, .ref (Z 200))]) : W p l e R s m args below meth c H locs 0 0 Q (F0 m 213 ls []) := by
  obtain ⟨⟨hx, hb, hml, hown, hts⟩, hK, hEV, hA⟩ := id X
  have hG : ∀ w ∈ GW, w.before args s = true := fun w h => hts w (List.mem_cons_of_mem _ h)
  unfold B_tasked_213 at h
  refine lv_aload_n hx hb dX12_tasked_213 rfl (lv_at hl 0 rfl) ?_
  obtain ⟨r_u_1, u_1, h_u_1, h⟩ := bn_of h
  refine kg_body X hS h_u_1 (Nat.le_trans (Nat.le_of_ble_eq_true rfl) hF) (Nat.le_trans (Nat.le_of_ble_eq_true rfl) hL) hl.1 (Nat.le_of_ble_eq_true rfl) dX12_tasked_214 (fun H locs hS => ?_)
  refine lv_aload_n hx hb dX12_tasked_217 rfl (lv_at hl 0 rfl) ?_
  refine lv_bipush (v := 33) hx hb dX12_tasked_218 (by decide) ?_
  refine lv_iconst (v := 0) hx hb dX12_tasked_220 (by decide) ?_
  refine lv_iconst (v := 0) hx hb dX12_tasked_221 (by decide) ?_
  obtain ⟨r_3, u_2, h_u_2, h⟩ := bn_of h
  refine kc_emit X hS h_u_2 (Nat.le_trans (Nat.le_of_ble_eq_true rfl) hF) (Nat.le_trans (Nat.le_of_ble_eq_true rfl) hL) hl.1 (Nat.le_of_ble_eq_true rfl) dX12_tasked_222 (fun H locs hS => ?_)
  refine lv_istore (lv' := [(5, .int r_3), (0, .ref (Z 200))]) hx hb dX12_tasked_225 hl (by decide) rfl (fun ls hl => ?_)
  refine lv_aload_n hx hb dX12_tasked_227 rfl (lv_at hl 1 rfl) ?_
  refine lv_iconst (v := 0) hx hb dX12_tasked_228 (by decide) ?_
  obtain ⟨u_4, e_u_4, h⟩ := pu_of h
  refine rp_70 X hS e_u_4 dX12_tasked_229 (fun H locs hS => ?_)
  obtain ⟨-, rfl⟩ := so h
  exact hE _ _ _ _ hS dX12_tasked_232
def B_tasked_125 (N : Nat) (l1 : Int32) (l2 : Int32) (l3 : Int32) (s0 : Int32) (u : RSt) : Option (Int32 × RSt) := pu (sI u 70 1) fun u_5 => pu (sI u_5 74 0) fun u_6 => if (u_6.1 69) = (0 : Int32) then (B_tasked_213 N u_6) else (if (u_6.1 67) = (0 : Int32) then (wr 16 l1 (sA u_6 43 l1.toNatClampNeg l3) fun u_9 => wr 16 l1 (sA u_9 44 l1.toNatClampNeg s0) fun u_11 => bn (F_here N u_11) fun r_14 u_13 => wr 16 l1 (sA u_13 45 l1.toNatClampNeg r_14) fun u_15 => rd (u_15.2.2.2 6) 1502 l2 fun v_17 => wr 16 l1 (sB u_15 46 l1.toNatClampNeg v_17) fun u_19 => rd (u_19.2.2.2 7) 1502 l2 fun v_21 => wr 16 l1 (sB u_19 47 l1.toNatClampNeg v_21) fun u_23 => rd (u_23.2.2.1 48) 2 (u_23.1 56) fun v_25 => wr 2 (u_23.1 56) (sA u_23 48 (u_23.1 56).toNatClampNeg (v_25 + 1)) fun u_27 => B_tasked_213 N u_27) else (B_tasked_213 N u_6))
set_option maxHeartbeats 4000000 in
theorem b_tasked_125 {r : Int32} (X : RC p s m args c cX12_tasked 6 (Cond.code yX12_tasked cX12_tasked 6 none) D kA V A) (hE : REv p l e R s m args below meth c cX12_tasked D kA Z A Q w) (hF : 531 ≤ R.frames) (hL : 32020 ≤ R.locals) {l1 : Int32} {l2 : Int32} {l3 : Int32} {s0 : Int32}  {u : RSt} (h : B_tasked_125 N l1 l2 l3 s0 u = some (r, w)) (hS : RS D kA Z A s u H locs) (hl : lv_has ls 6 [(0, .ref (Z 200)), (1, .int l1), (2, .int l2), (3, .int l3)]) : W p l e R s m args below meth c H locs 0 0 Q (F0 m 125 ls [.int s0]) := by
  obtain ⟨⟨hx, hb, hml, hown, hts⟩, hK, hEV, hA⟩ := id X
  have hG : ∀ w ∈ GW, w.before args s = true := fun w h => hts w (List.mem_cons_of_mem _ h)
  unfold B_tasked_125 at h
  refine lv_istore (lv' := [(4, .int s0), (0, .ref (Z 200)), (1, .int l1), (2, .int l2), (3, .int l3)]) hx hb dX12_tasked_125 hl (by decide) rfl (fun ls hl => ?_)
  refine lv_aload_n hx hb dX12_tasked_127 rfl (lv_at hl 1 rfl) ?_
  refine lv_iconst (v := 1) hx hb dX12_tasked_128 (by decide) ?_
  obtain ⟨u_5, e_u_5, h⟩ := pu_of h
  refine rp_70 X hS e_u_5 dX12_tasked_129 (fun H locs hS => ?_)
  refine lv_aload_n hx hb dX12_tasked_132 rfl (lv_at hl 1 rfl) ?_
  refine lv_iconst (v := 0) hx hb dX12_tasked_133 (by decide) ?_
  obtain ⟨u_6, e_u_6, h⟩ := pu_of h
  refine rp_74 X hS e_u_6 dX12_tasked_134 (fun H locs hS => ?_)
  refine lv_aload_n hx hb dX12_tasked_137 rfl (lv_at hl 1 rfl) ?_
  refine rg_69 X hS dX12_tasked_138 ?_
  refine lv_if_eq (tgt := 213) hx hb dX12_tasked_141 (by decide) (fun c_7 => ?_) (fun c_7 => ?_)
  · have h := ip (c_7) h
    exact b_tasked_213 X hE hF hL  h hS (lv_sub hl [1] rfl)
  · have h := im (c_7) h
    refine lv_aload_n hx hb dX12_tasked_144 rfl (lv_at hl 1 rfl) ?_
    refine rg_67 X hS dX12_tasked_145 ?_
    refine lv_if_ne (tgt := 213) hx hb dX12_tasked_148 (by decide) (fun c_8 => ?_) (fun c_8 => ?_)
    · have h := im (c_8) h
      exact b_tasked_213 X hE hF hL  h hS (lv_sub hl [1] rfl)
    · have h := ip (c_8) h
      refine lv_aload_n hx hb dX12_tasked_151 rfl (lv_at hl 1 rfl) ?_
      refine rg_43 X hS dX12_tasked_152 ?_
      refine lv_iload_n hx hb dX12_tasked_155 rfl (lv_at hl 2 rfl) ?_
      refine lv_iload_n hx hb dX12_tasked_156 rfl (lv_at hl 4 rfl) ?_
      obtain ⟨u_9, e_u_9, i_10, h⟩ := wr_of h
      refine rs_43 X hS i_10 e_u_9 dX12_tasked_157 (fun H locs hS => ?_)
      refine lv_aload_n hx hb dX12_tasked_158 rfl (lv_at hl 1 rfl) ?_
      refine rg_44 X hS dX12_tasked_159 ?_
      refine lv_iload_n hx hb dX12_tasked_162 rfl (lv_at hl 2 rfl) ?_
      refine lv_iload hx hb dX12_tasked_163 (lv_at hl 0 rfl) ?_
      obtain ⟨u_11, e_u_11, i_12, h⟩ := wr_of h
      refine rs_44 X hS i_12 e_u_11 dX12_tasked_165 (fun H locs hS => ?_)
      refine lv_aload_n hx hb dX12_tasked_166 rfl (lv_at hl 1 rfl) ?_
      refine rg_45 X hS dX12_tasked_167 ?_
      refine lv_iload_n hx hb dX12_tasked_170 rfl (lv_at hl 2 rfl) ?_
      refine lv_aload_n hx hb dX12_tasked_171 rfl (lv_at hl 1 rfl) ?_
      obtain ⟨r_14, u_13, h_u_13, h⟩ := bn_of h
      refine kc_here X hS h_u_13 (Nat.le_trans (Nat.le_of_ble_eq_true rfl) hF) (Nat.le_trans (Nat.le_of_ble_eq_true rfl) hL) hl.1 (Nat.le_of_ble_eq_true rfl) dX12_tasked_172 (fun H locs hS => ?_)
      obtain ⟨u_15, e_u_15, i_16, h⟩ := wr_of h
      refine rs_45 X hS i_16 e_u_15 dX12_tasked_175 (fun H locs hS => ?_)
      refine lv_aload_n hx hb dX12_tasked_176 rfl (lv_at hl 1 rfl) ?_
      refine rg_46 X hS dX12_tasked_177 ?_
      refine lv_iload_n hx hb dX12_tasked_180 rfl (lv_at hl 2 rfl) ?_
      refine lv_aload_n hx hb dX12_tasked_181 rfl (lv_at hl 1 rfl) ?_
      refine rg_6 X hS dX12_tasked_182 ?_
      refine lv_iload_n hx hb dX12_tasked_185 rfl (lv_at hl 3 rfl) ?_
      obtain ⟨v_17, e_v_17, i_18, h⟩ := rd_of h
      refine ra_6 X hS i_18 e_v_17 dX12_tasked_186 ?_
      obtain ⟨u_19, e_u_19, i_20, h⟩ := wr_of h
      refine rs_46 X hS i_20 e_u_19 dX12_tasked_187 (fun H locs hS => ?_)
      refine lv_aload_n hx hb dX12_tasked_188 rfl (lv_at hl 1 rfl) ?_
      refine rg_47 X hS dX12_tasked_189 ?_
      refine lv_iload_n hx hb dX12_tasked_192 rfl (lv_at hl 2 rfl) ?_
      refine lv_aload_n hx hb dX12_tasked_193 rfl (lv_at hl 1 rfl) ?_
      refine rg_7 X hS dX12_tasked_194 ?_
      refine lv_iload_n hx hb dX12_tasked_197 rfl (lv_at hl 3 rfl) ?_
      obtain ⟨v_21, e_v_21, i_22, h⟩ := rd_of h
      refine ra_7 X hS i_22 e_v_21 dX12_tasked_198 ?_
      obtain ⟨u_23, e_u_23, i_24, h⟩ := wr_of h
      refine rs_47 X hS i_24 e_u_23 dX12_tasked_199 (fun H locs hS => ?_)
      refine lv_aload_n hx hb dX12_tasked_200 rfl (lv_at hl 1 rfl) ?_
      refine rg_48 X hS dX12_tasked_201 ?_
      refine lv_aload_n hx hb dX12_tasked_204 rfl (lv_at hl 1 rfl) ?_
      refine rg_56 X hS dX12_tasked_205 ?_
      refine lv_dup2_11 hx hb dX12_tasked_208 rfl rfl ?_
      obtain ⟨v_25, e_v_25, i_26, h⟩ := rd_of h
      refine ra_48 X hS i_26 e_v_25 dX12_tasked_209 ?_
      refine lv_iconst (v := 1) hx hb dX12_tasked_210 (by decide) ?_
      refine lv_iadd hx hb dX12_tasked_211 ?_
      obtain ⟨u_27, e_u_27, i_28, h⟩ := wr_of h
      refine rs_48 X hS i_28 e_u_27 dX12_tasked_212 (fun H locs hS => ?_)
      exact b_tasked_213 X hE hF hL  h hS (lv_sub hl [1] rfl)
def B_tasked_53 (N : Nat) (s1 : Int32) (s2 : Int32) (s3 : Int32) (u : RSt) : Option (Int32 × RSt) := bn (F_telling N s1 s2 s3 u) fun _ u_29 => rd (u_29.2.2.1 48) 2 (u_29.1 56) fun v_30 => pu (sI u_29 65 ((u_29.1 65) + 1)) fun u_32 => bn (F_take N 109 u_32) fun _ u_33 => bn (F_bounded N 1 1000 u_33) fun r_35 u_34 => bn (F_has N 110 u_34) fun r_37 u_36 => if r_37 = (0 : Int32) then (B_tasked_125 N ((8 * (u_29.1 56)) + v_30) (u_29.1 65) r_35 0 u_36) else (bn (F_bounded N 0 (r_35 - 1) u_36) fun r_40 u_39 => B_tasked_125 N ((8 * (u_29.1 56)) + v_30) (u_29.1 65) r_35 r_40 u_39)
set_option maxHeartbeats 4000000 in
theorem b_tasked_53 {r : Int32} (X : RC p s m args c cX12_tasked 6 (Cond.code yX12_tasked cX12_tasked 6 none) D kA V A) (hE : REv p l e R s m args below meth c cX12_tasked D kA Z A Q w) (hF : 531 ≤ R.frames) (hL : 32020 ≤ R.locals) {s1 : Int32} {s2 : Int32} {s3 : Int32}  {u : RSt} (h : B_tasked_53 N s1 s2 s3 u = some (r, w)) (hS : RS D kA Z A s u H locs) (hl : lv_has ls 6 [(0, .ref (Z 200))]) : W p l e R s m args below meth c H locs 0 0 Q (F0 m 53 ls [.int s3, .int s2, .int s1, .ref (Z 200)]) := by
  obtain ⟨⟨hx, hb, hml, hown, hts⟩, hK, hEV, hA⟩ := id X
  have hG : ∀ w ∈ GW, w.before args s = true := fun w h => hts w (List.mem_cons_of_mem _ h)
  unfold B_tasked_53 at h
  obtain ⟨r_u_29, u_29, h_u_29, h⟩ := bn_of h
  refine kc_telling X hS h_u_29 (Nat.le_trans (Nat.le_of_ble_eq_true rfl) hF) (Nat.le_trans (Nat.le_of_ble_eq_true rfl) hL) hl.1 (Nat.le_of_ble_eq_true rfl) dX12_tasked_53 (fun H locs hS => ?_)
  refine lv_bipush (v := 8) hx hb dX12_tasked_56 (by decide) ?_
  refine lv_aload_n hx hb dX12_tasked_58 rfl (lv_at hl 0 rfl) ?_
  refine rg_56 X hS dX12_tasked_59 ?_
  refine lv_imul hx hb dX12_tasked_62 ?_
  refine lv_aload_n hx hb dX12_tasked_63 rfl (lv_at hl 0 rfl) ?_
  refine rg_48 X hS dX12_tasked_64 ?_
  refine lv_aload_n hx hb dX12_tasked_67 rfl (lv_at hl 0 rfl) ?_
  refine rg_56 X hS dX12_tasked_68 ?_
  obtain ⟨v_30, e_v_30, i_31, h⟩ := rd_of h
  refine ra_48 X hS i_31 e_v_30 dX12_tasked_71 ?_
  refine lv_iadd hx hb dX12_tasked_72 ?_
  refine lv_istore_n (lv' := [(1, .int ((8 * (u_29.1 56)) + v_30)), (0, .ref (Z 200))]) hx hb dX12_tasked_73 rfl hl (by decide) rfl (fun ls hl => ?_)
  refine lv_aload_n hx hb dX12_tasked_74 rfl (lv_at hl 1 rfl) ?_
  refine rg_65 X hS dX12_tasked_75 ?_
  refine lv_istore_n (lv' := [(2, .int (u_29.1 65)), (1, .int ((8 * (u_29.1 56)) + v_30)), (0, .ref (Z 200))]) hx hb dX12_tasked_78 rfl hl (by decide) rfl (fun ls hl => ?_)
  refine lv_aload_n hx hb dX12_tasked_79 rfl (lv_at hl 2 rfl) ?_
  refine lv_dup hx hb dX12_tasked_80 rfl ?_
  refine rg_65 X hS dX12_tasked_81 ?_
  refine lv_iconst (v := 1) hx hb dX12_tasked_84 (by decide) ?_
  refine lv_iadd hx hb dX12_tasked_85 ?_
  obtain ⟨u_32, e_u_32, h⟩ := pu_of h
  refine rp_65 X hS e_u_32 dX12_tasked_86 (fun H locs hS => ?_)
  refine lv_aload_n hx hb dX12_tasked_89 rfl (lv_at hl 2 rfl) ?_
  refine lv_bipush (v := 109) hx hb dX12_tasked_90 (by decide) ?_
  obtain ⟨r_u_33, u_33, h_u_33, h⟩ := bn_of h
  refine kc_take X hS h_u_33 (Nat.le_trans (Nat.le_of_ble_eq_true rfl) hF) (Nat.le_trans (Nat.le_of_ble_eq_true rfl) hL) hl.1 (Nat.le_of_ble_eq_true rfl) dX12_tasked_92 (fun H locs hS => ?_)
  refine lv_aload_n hx hb dX12_tasked_95 rfl (lv_at hl 2 rfl) ?_
  refine lv_iconst (v := 1) hx hb dX12_tasked_96 (by decide) ?_
  refine lv_sipush (v := 1000) hx hb dX12_tasked_97 (by decide) ?_
  obtain ⟨r_35, u_34, h_u_34, h⟩ := bn_of h
  refine kc_bounded X hS h_u_34 (Nat.le_trans (Nat.le_of_ble_eq_true rfl) hF) (Nat.le_trans (Nat.le_of_ble_eq_true rfl) hL) hl.1 (Nat.le_of_ble_eq_true rfl) dX12_tasked_100 (fun H locs hS => ?_)
  refine lv_istore_n (lv' := [(3, .int r_35), (2, .int (u_29.1 65)), (1, .int ((8 * (u_29.1 56)) + v_30)), (0, .ref (Z 200))]) hx hb dX12_tasked_103 rfl hl (by decide) rfl (fun ls hl => ?_)
  refine lv_aload_n hx hb dX12_tasked_104 rfl (lv_at hl 3 rfl) ?_
  refine lv_bipush (v := 110) hx hb dX12_tasked_105 (by decide) ?_
  obtain ⟨r_37, u_36, h_u_36, h⟩ := bn_of h
  refine kc_has X hS h_u_36 (Nat.le_trans (Nat.le_of_ble_eq_true rfl) hF) (Nat.le_trans (Nat.le_of_ble_eq_true rfl) hL) hl.1 (Nat.le_of_ble_eq_true rfl) dX12_tasked_107 (fun H locs hS => ?_)
  refine lv_if_eq (tgt := 124) hx hb dX12_tasked_110 (by decide) (fun c_38 => ?_) (fun c_38 => ?_)
  · have h := ip (c_38) h
    refine lv_iconst (v := 0) hx hb dX12_tasked_124 (by decide) ?_
    exact b_tasked_125 X hE hF hL  h hS (lv_sub hl [3, 2, 1, 0] rfl)
  · have h := im (c_38) h
    refine lv_aload_n hx hb dX12_tasked_113 rfl (lv_at hl 3 rfl) ?_
    refine lv_iconst (v := 0) hx hb dX12_tasked_114 (by decide) ?_
    refine lv_iload_n hx hb dX12_tasked_115 rfl (lv_at hl 0 rfl) ?_
    refine lv_iconst (v := 1) hx hb dX12_tasked_116 (by decide) ?_
    refine lv_isub hx hb dX12_tasked_117 ?_
    obtain ⟨r_40, u_39, h_u_39, h⟩ := bn_of h
    refine kc_bounded X hS h_u_39 (Nat.le_trans (Nat.le_of_ble_eq_true rfl) hF) (Nat.le_trans (Nat.le_of_ble_eq_true rfl) hL) hl.1 (Nat.le_of_ble_eq_true rfl) dX12_tasked_118 (fun H locs hS => ?_)
    refine lv_goto (tgt := 125) hx hb dX12_tasked_121 (by decide) ?_
    exact b_tasked_125 X hE hF hL  h hS (lv_sub hl [3, 2, 1, 0] rfl)
def B_tasked_0 (N : Nat) (u : RSt) : Option (Int32 × RSt) := pu (sI u 65 ((u.1 65) + 1)) fun u_41 => bn (F_is N 1 u_41) fun r_43 u_42 => if r_43 = (0 : Int32) then (bn (F_stuck N u_42) fun _ u_50 => some (0, u_50)) else (rd (u_42.2.2.1 48) 2 (u_42.1 56) fun v_45 => rd (u_42.2.2.1 48) 2 (u_42.1 56) fun v_47 => if v_47 = (8 : Int32) then (B_tasked_53 N 2 v_45 1 u_42) else (B_tasked_53 N 2 v_45 0 u_42))
set_option maxHeartbeats 4000000 in
theorem b_tasked_0 {r : Int32} (X : RC p s m args c cX12_tasked 6 (Cond.code yX12_tasked cX12_tasked 6 none) D kA V A) (hE : REv p l e R s m args below meth c cX12_tasked D kA Z A Q w) (hF : 531 ≤ R.frames) (hL : 32020 ≤ R.locals)  {u : RSt} (h : B_tasked_0 N u = some (r, w)) (hS : RS D kA Z A s u H locs) (hl : lv_has ls 6 [(0, .ref (Z 200))]) : W p l e R s m args below meth c H locs 0 0 Q (F0 m 0 ls []) := by
  obtain ⟨⟨hx, hb, hml, hown, hts⟩, hK, hEV, hA⟩ := id X
  have hG : ∀ w ∈ GW, w.before args s = true := fun w h => hts w (List.mem_cons_of_mem _ h)
  unfold B_tasked_0 at h
  refine lv_aload_n hx hb dX12_tasked_0 rfl (lv_at hl 0 rfl) ?_
  refine lv_dup hx hb dX12_tasked_1 rfl ?_
  refine rg_65 X hS dX12_tasked_2 ?_
  refine lv_iconst (v := 1) hx hb dX12_tasked_5 (by decide) ?_
  refine lv_iadd hx hb dX12_tasked_6 ?_
  obtain ⟨u_41, e_u_41, h⟩ := pu_of h
  refine rp_65 X hS e_u_41 dX12_tasked_7 (fun H locs hS => ?_)
  refine lv_aload_n hx hb dX12_tasked_10 rfl (lv_at hl 0 rfl) ?_
  refine lv_iconst (v := 1) hx hb dX12_tasked_11 (by decide) ?_
  obtain ⟨r_43, u_42, h_u_42, h⟩ := bn_of h
  refine kc_is X hS h_u_42 (Nat.le_trans (Nat.le_of_ble_eq_true rfl) hF) (Nat.le_trans (Nat.le_of_ble_eq_true rfl) hL) hl.1 (Nat.le_of_ble_eq_true rfl) dX12_tasked_12 (fun H locs hS => ?_)
  refine lv_if_ne (tgt := 23) hx hb dX12_tasked_15 (by decide) (fun c_44 => ?_) (fun c_44 => ?_)
  · have h := im (c_44) h
    refine lv_aload_n hx hb dX12_tasked_23 rfl (lv_at hl 0 rfl) ?_
    refine lv_iconst (v := 2) hx hb dX12_tasked_24 (by decide) ?_
    refine lv_aload_n hx hb dX12_tasked_25 rfl (lv_at hl 0 rfl) ?_
    refine rg_48 X hS dX12_tasked_26 ?_
    refine lv_aload_n hx hb dX12_tasked_29 rfl (lv_at hl 0 rfl) ?_
    refine rg_56 X hS dX12_tasked_30 ?_
    obtain ⟨v_45, e_v_45, i_46, h⟩ := rd_of h
    refine ra_48 X hS i_46 e_v_45 dX12_tasked_33 ?_
    refine lv_aload_n hx hb dX12_tasked_34 rfl (lv_at hl 0 rfl) ?_
    refine rg_48 X hS dX12_tasked_35 ?_
    refine lv_aload_n hx hb dX12_tasked_38 rfl (lv_at hl 0 rfl) ?_
    refine rg_56 X hS dX12_tasked_39 ?_
    obtain ⟨v_47, e_v_47, i_48, h⟩ := rd_of h
    refine ra_48 X hS i_48 e_v_47 dX12_tasked_42 ?_
    refine lv_bipush (v := 8) hx hb dX12_tasked_43 (by decide) ?_
    refine lv_icmp_ne (tgt := 52) hx hb dX12_tasked_45 (by decide) (fun c_49 => ?_) (fun c_49 => ?_)
    · have h := im (c_49) h
      refine lv_iconst (v := 0) hx hb dX12_tasked_52 (by decide) ?_
      exact b_tasked_53 X hE hF hL  h hS (lv_sub hl [0] rfl)
    · have h := ip (c_49) h
      refine lv_iconst (v := 1) hx hb dX12_tasked_48 (by decide) ?_
      refine lv_goto (tgt := 53) hx hb dX12_tasked_49 (by decide) ?_
      exact b_tasked_53 X hE hF hL  h hS (lv_sub hl [0] rfl)
  · have h := ip (c_44) h
    refine lv_aload_n hx hb dX12_tasked_18 rfl (lv_at hl 0 rfl) ?_
    obtain ⟨r_u_50, u_50, h_u_50, h⟩ := bn_of h
    refine kc_stuck X hS h_u_50 (Nat.le_trans (Nat.le_of_ble_eq_true rfl) hF) (Nat.le_trans (Nat.le_of_ble_eq_true rfl) hL) hl.1 (Nat.le_of_ble_eq_true rfl) dX12_tasked_19 (fun H locs hS => ?_)
    obtain ⟨-, rfl⟩ := so h
    exact hE _ _ _ _ hS dX12_tasked_22
def F_tasked (N : Nat) (u : RSt) : Option (Int32 × RSt) := B_tasked_0 N u
set_option maxHeartbeats 4000000 in
theorem k_tasked (l : Launch) (D : va_G) (kA : Nat → ClassId) (V Z : Nat → Nat) (N : Nat) (u : RSt) (sz : Nat) {r : Int32} {w : RSt} (h : F_tasked N u = some (r, w)) : Met l yX12_tasked (Cond.code yX12_tasked cX12_tasked 6 none :: GW) { frames := 531, cells := 0, slots := 0, locals := 32020 } (rPc D kA V Z [] u sz) (rQv D kA Z u sz w) 0 0 (va_A (RW kA Z u) sz) := by
  refine Met.ofW (cc := cX12_tasked) (maxL := 6) (ret := none) (by decide) rfl ?_
  intro p e s m args below meth c s₁ Bd hml hv
  obtain ⟨rfl, hsz, hP, hK, hD0, hE⟩ := hv
  have hts := atoms_spec (ws := Cond.code yX12_tasked cX12_tasked 6 none :: GW) Bd.pre
  have hl := lv_entry (.ref (Z 200) :: []) (n := 6) (Nat.le_of_ble_eq_true rfl)
  rw [lg_entry_eq]
  generalize (lg_sl (.ref (Z 200) :: []) ++ List.replicate (6 - (lg_sl (.ref (Z 200) :: [])).length) Slot.unset).toArray = ls at hl ⊢
  have hl : lv_has ls 6 [(0, .ref (Z 200))] := hl
  subst hsz
  have X : RC p s m (.ref (Z 200) :: []).toArray c cX12_tasked 6 (Cond.code yX12_tasked cX12_tasked 6 none) D kA V (va_A (RW kA Z u) s.heap.size) := ⟨⟨Bd.exec, Bd.bytes, hml, findClass_of_methodNamed Bd.named, hts⟩, hK, hE, fun q h => Or.inr h⟩
  exact b_tasked_0 X (rend_v (cy := cX12_tasked) X Bd.returns Bd.notSynchronized) (Nat.le_refl _) (Nat.le_refl _) h ⟨hP, hD0.self, va_S.rf⟩ (lv_sub hl [0] rfl)
theorem kc_tasked {r : Int32} {cc : ByteArray} {pc nL : Nat} {c0 : Cond} {rest : List Value} {u : RSt} (X : RC p s m args c cc nL c0 D kA V A) (hS : RS D kA Z A s u H locs) (h : F_tasked N u = some (r, w)) (hF : 531 + 1 ≤ R.frames) (hL : 8 + (6 + 11) + 32020 ≤ R.locals) (hl : ls.size = nL) (hc : (rest.map fun v => v.category).sum ≤ 8) (hdg : decode cc pc = .ok (.invokevirtual 429, 3)) (kk : ∀ H locs, RS D kA Z A s w H locs → W p l e R s m args below meth c H locs 0 0 Q (F0 m (pc + 3) ls (rest))) : W p l e R s m args below meth c H locs 0 0 Q (F0 m pc ls (.ref (Z 200) :: rest)) :=
  rcall_v (n := 0) X hS (k_tasked l D kA V Z N  u H.size h) (gw_V gw_2576 gw_2578 gs_11_11 gw_16 gw_2579) (by decide +kernel) hF hL rfl hl hc rfl hdg kk
def B_text_0 (N : Nat) (R_0 : RSt → Option (Int32 × RSt)) (u : RSt) : Option (Int32 × RSt) := if (u.1 67) = (0 : Int32) then (bn (F_is N 5 u) fun r_3 u_2 => if r_3 = (0 : Int32) then (rd (u_2.2.2.1 2) 1502 (u_2.1 65) fun v_5 => if v_5 = 100 then (bn (F_variables N 0 0 u_2) fun _ u_8 => R_0 (u_8)) else (if v_5 = 101 then (bn (F_variables N 1 0 u_2) fun _ u_10 => R_0 (u_10)) else (if v_5 = 102 then (bn (F_image N 2 u_2) fun _ u_12 => R_0 (u_12)) else (if v_5 = 103 then (bn (F_image N 3 u_2) fun _ u_14 => R_0 (u_14)) else (if v_5 = 105 then (bn (F_part N 0 u_2) fun _ u_16 => R_0 (u_16)) else (if v_5 = 106 then (bn (F_use N u_2) fun _ u_18 => R_0 (u_18)) else (if v_5 = 107 then (bn (F_part N 1 u_2) fun _ u_20 => R_0 (u_20)) else (if v_5 = 108 then (bn (F_tasked N u_2) fun _ u_22 => R_0 (u_22)) else (bn (F_stuck N u_2) fun _ u_23 => R_0 (u_23)))))))))) else (some (0, u_2))) else (some (0, u))
set_option maxHeartbeats 4000000 in
theorem b_text_0 {r : Int32} (X : RC p s m args c cX12_text 1 (Cond.code yX12_text cX12_text 1 none) D kA V A) (hE : REv p l e R s m args below meth c cX12_text D kA Z A Q w) (hF : 532 ≤ R.frames) (hL : 32048 ≤ R.locals) {R_0 : RSt → Option (Int32 × RSt)} (hR_0 : ∀ (u : RSt), R_0 (u) = some (r, w) → ∀ (H : Heap) (locs : List Loc) (ls : Array Slot), RS D kA Z A s u H locs → lv_has ls 1 [(0, .ref (Z 200))] → W p l e R s m args below meth c H locs 0 0 Q (F0 m 0 ls [])) {u : RSt} (h : B_text_0 N R_0 u = some (r, w)) (hS : RS D kA Z A s u H locs) (hl : lv_has ls 1 [(0, .ref (Z 200))]) : W p l e R s m args below meth c H locs 0 0 Q (F0 m 0 ls []) := by
  obtain ⟨⟨hx, hb, hml, hown, hts⟩, hK, hEV, hA⟩ := id X
  have hG : ∀ w ∈ GW, w.before args s = true := fun w h => hts w (List.mem_cons_of_mem _ h)
  unfold B_text_0 at h
  refine lv_aload_n hx hb dX12_text_0 rfl (lv_at hl 0 rfl) ?_
  refine rg_67 X hS dX12_text_1 ?_
  refine lv_if_ne (tgt := 147) hx hb dX12_text_4 (by decide) (fun c_1 => ?_) (fun c_1 => ?_)
  · have h := im (c_1) h
    obtain ⟨-, rfl⟩ := so h
    exact hE _ _ _ _ hS dX12_text_147
  · have h := ip (c_1) h
    refine lv_aload_n hx hb dX12_text_7 rfl (lv_at hl 0 rfl) ?_
    refine lv_iconst (v := 5) hx hb dX12_text_8 (by decide) ?_
    obtain ⟨r_3, u_2, h_u_2, h⟩ := bn_of h
    refine kc_is X hS h_u_2 (Nat.le_trans (Nat.le_of_ble_eq_true rfl) hF) (Nat.le_trans (Nat.le_of_ble_eq_true rfl) hL) hl.1 (Nat.le_of_ble_eq_true rfl) dX12_text_9 (fun H locs hS => ?_)
    refine lv_if_ne (tgt := 147) hx hb dX12_text_12 (by decide) (fun c_4 => ?_) (fun c_4 => ?_)
    · have h := im (c_4) h
      obtain ⟨-, rfl⟩ := so h
      exact hE _ _ _ _ hS dX12_text_147
    · have h := ip (c_4) h
      refine lv_aload_n hx hb dX12_text_15 rfl (lv_at hl 0 rfl) ?_
      refine rg_2 X hS dX12_text_16 ?_
      refine lv_aload_n hx hb dX12_text_19 rfl (lv_at hl 0 rfl) ?_
      refine rg_65 X hS dX12_text_20 ?_
      obtain ⟨v_5, e_v_5, i_6, h⟩ := rd_of h
      refine ra_2 X hS i_6 e_v_5 dX12_text_23 ?_
      by_cases e_7 : v_5 = 100
      · have h := ip e_7 h
        refine lv_tableIn (off := 52) (tgt := 76) hx hb dX12_text_24 (by rw [e_7]; decide) (by rw [e_7]; decide) (by rw [e_7]; rfl) (by decide) ?_
        refine lv_aload_n hx hb dX12_text_76 rfl (lv_at hl 0 rfl) ?_
        refine lv_iconst (v := 0) hx hb dX12_text_77 (by decide) ?_
        refine lv_iconst (v := 0) hx hb dX12_text_78 (by decide) ?_
        obtain ⟨r_u_8, u_8, h_u_8, h⟩ := bn_of h
        refine kc_variables X hS h_u_8 (Nat.le_trans (Nat.le_of_ble_eq_true rfl) hF) (Nat.le_trans (Nat.le_of_ble_eq_true rfl) hL) hl.1 (Nat.le_of_ble_eq_true rfl) dX12_text_79 (fun H locs hS => ?_)
        refine lv_goto (tgt := 0) hx hb dX12_text_82 (by decide) ?_
        exact hR_0 _ h _ _ _ hS (lv_sub hl [0] rfl)
      have h := im e_7 h
      by_cases e_9 : v_5 = 101
      · have h := ip e_9 h
        refine lv_tableIn (off := 61) (tgt := 85) hx hb dX12_text_24 (by rw [e_9]; decide) (by rw [e_9]; decide) (by rw [e_9]; rfl) (by decide) ?_
        refine lv_aload_n hx hb dX12_text_85 rfl (lv_at hl 0 rfl) ?_
        refine lv_iconst (v := 1) hx hb dX12_text_86 (by decide) ?_
        refine lv_iconst (v := 0) hx hb dX12_text_87 (by decide) ?_
        obtain ⟨r_u_10, u_10, h_u_10, h⟩ := bn_of h
        refine kc_variables X hS h_u_10 (Nat.le_trans (Nat.le_of_ble_eq_true rfl) hF) (Nat.le_trans (Nat.le_of_ble_eq_true rfl) hL) hl.1 (Nat.le_of_ble_eq_true rfl) dX12_text_88 (fun H locs hS => ?_)
        refine lv_goto (tgt := 0) hx hb dX12_text_91 (by decide) ?_
        exact hR_0 _ h _ _ _ hS (lv_sub hl [0] rfl)
      have h := im e_9 h
      by_cases e_11 : v_5 = 102
      · have h := ip e_11 h
        refine lv_tableIn (off := 70) (tgt := 94) hx hb dX12_text_24 (by rw [e_11]; decide) (by rw [e_11]; decide) (by rw [e_11]; rfl) (by decide) ?_
        refine lv_aload_n hx hb dX12_text_94 rfl (lv_at hl 0 rfl) ?_
        refine lv_iconst (v := 2) hx hb dX12_text_95 (by decide) ?_
        obtain ⟨r_u_12, u_12, h_u_12, h⟩ := bn_of h
        refine kc_image X hS h_u_12 (Nat.le_trans (Nat.le_of_ble_eq_true rfl) hF) (Nat.le_trans (Nat.le_of_ble_eq_true rfl) hL) hl.1 (Nat.le_of_ble_eq_true rfl) dX12_text_96 (fun H locs hS => ?_)
        refine lv_goto (tgt := 0) hx hb dX12_text_99 (by decide) ?_
        exact hR_0 _ h _ _ _ hS (lv_sub hl [0] rfl)
      have h := im e_11 h
      by_cases e_13 : v_5 = 103
      · have h := ip e_13 h
        refine lv_tableIn (off := 78) (tgt := 102) hx hb dX12_text_24 (by rw [e_13]; decide) (by rw [e_13]; decide) (by rw [e_13]; rfl) (by decide) ?_
        refine lv_aload_n hx hb dX12_text_102 rfl (lv_at hl 0 rfl) ?_
        refine lv_iconst (v := 3) hx hb dX12_text_103 (by decide) ?_
        obtain ⟨r_u_14, u_14, h_u_14, h⟩ := bn_of h
        refine kc_image X hS h_u_14 (Nat.le_trans (Nat.le_of_ble_eq_true rfl) hF) (Nat.le_trans (Nat.le_of_ble_eq_true rfl) hL) hl.1 (Nat.le_of_ble_eq_true rfl) dX12_text_104 (fun H locs hS => ?_)
        refine lv_goto (tgt := 0) hx hb dX12_text_107 (by decide) ?_
        exact hR_0 _ h _ _ _ hS (lv_sub hl [0] rfl)
      have h := im e_13 h
      by_cases e_15 : v_5 = 105
      · have h := ip e_15 h
        refine lv_tableIn (off := 86) (tgt := 110) hx hb dX12_text_24 (by rw [e_15]; decide) (by rw [e_15]; decide) (by rw [e_15]; rfl) (by decide) ?_
        refine lv_aload_n hx hb dX12_text_110 rfl (lv_at hl 0 rfl) ?_
        refine lv_iconst (v := 0) hx hb dX12_text_111 (by decide) ?_
        obtain ⟨r_u_16, u_16, h_u_16, h⟩ := bn_of h
        refine kc_part X hS h_u_16 (Nat.le_trans (Nat.le_of_ble_eq_true rfl) hF) (Nat.le_trans (Nat.le_of_ble_eq_true rfl) hL) hl.1 (Nat.le_of_ble_eq_true rfl) dX12_text_112 (fun H locs hS => ?_)
        refine lv_goto (tgt := 0) hx hb dX12_text_115 (by decide) ?_
        exact hR_0 _ h _ _ _ hS (lv_sub hl [0] rfl)
      have h := im e_15 h
      by_cases e_17 : v_5 = 106
      · have h := ip e_17 h
        refine lv_tableIn (off := 94) (tgt := 118) hx hb dX12_text_24 (by rw [e_17]; decide) (by rw [e_17]; decide) (by rw [e_17]; rfl) (by decide) ?_
        refine lv_aload_n hx hb dX12_text_118 rfl (lv_at hl 0 rfl) ?_
        obtain ⟨r_u_18, u_18, h_u_18, h⟩ := bn_of h
        refine kc_use X hS h_u_18 (Nat.le_trans (Nat.le_of_ble_eq_true rfl) hF) (Nat.le_trans (Nat.le_of_ble_eq_true rfl) hL) hl.1 (Nat.le_of_ble_eq_true rfl) dX12_text_119 (fun H locs hS => ?_)
        refine lv_goto (tgt := 0) hx hb dX12_text_122 (by decide) ?_
        exact hR_0 _ h _ _ _ hS (lv_sub hl [0] rfl)
      have h := im e_17 h
      by_cases e_19 : v_5 = 107
      · have h := ip e_19 h
        refine lv_tableIn (off := 101) (tgt := 125) hx hb dX12_text_24 (by rw [e_19]; decide) (by rw [e_19]; decide) (by rw [e_19]; rfl) (by decide) ?_
        refine lv_aload_n hx hb dX12_text_125 rfl (lv_at hl 0 rfl) ?_
        refine lv_iconst (v := 1) hx hb dX12_text_126 (by decide) ?_
        obtain ⟨r_u_20, u_20, h_u_20, h⟩ := bn_of h
        refine kc_part X hS h_u_20 (Nat.le_trans (Nat.le_of_ble_eq_true rfl) hF) (Nat.le_trans (Nat.le_of_ble_eq_true rfl) hL) hl.1 (Nat.le_of_ble_eq_true rfl) dX12_text_127 (fun H locs hS => ?_)
        refine lv_goto (tgt := 0) hx hb dX12_text_130 (by decide) ?_
        exact hR_0 _ h _ _ _ hS (lv_sub hl [0] rfl)
      have h := im e_19 h
      by_cases e_21 : v_5 = 108
      · have h := ip e_21 h
        refine lv_tableIn (off := 109) (tgt := 133) hx hb dX12_text_24 (by rw [e_21]; decide) (by rw [e_21]; decide) (by rw [e_21]; rfl) (by decide) ?_
        refine lv_aload_n hx hb dX12_text_133 rfl (lv_at hl 0 rfl) ?_
        obtain ⟨r_u_22, u_22, h_u_22, h⟩ := bn_of h
        refine kc_tasked X hS h_u_22 (Nat.le_trans (Nat.le_of_ble_eq_true rfl) hF) (Nat.le_trans (Nat.le_of_ble_eq_true rfl) hL) hl.1 (Nat.le_of_ble_eq_true rfl) dX12_text_134 (fun H locs hS => ?_)
        refine lv_goto (tgt := 0) hx hb dX12_text_137 (by decide) ?_
        exact hR_0 _ h _ _ _ hS (lv_sub hl [0] rfl)
      have h := im e_21 h
      refine lv_tableDef (tgt := 140) hx hb dX12_text_24 (by decide) (fun off h1 h2 ho => by
        have hI : (v_5).toInt = 100 ∨ (v_5).toInt = 101 ∨ (v_5).toInt = 102 ∨ (v_5).toInt = 103 ∨ (v_5).toInt = 104 ∨ (v_5).toInt = 105 ∨ (v_5).toInt = 106 ∨ (v_5).toInt = 107 ∨ (v_5).toInt = 108 := by omega
        rcases hI with q | q | q | q | q | q | q | q | q
        · exact absurd (Int32.toInt_inj.mp (q.trans (by decide))) e_7
        · exact absurd (Int32.toInt_inj.mp (q.trans (by decide))) e_9
        · exact absurd (Int32.toInt_inj.mp (q.trans (by decide))) e_11
        · exact absurd (Int32.toInt_inj.mp (q.trans (by decide))) e_13
        · rw [q] at ho; simpa using ho
        · exact absurd (Int32.toInt_inj.mp (q.trans (by decide))) e_15
        · exact absurd (Int32.toInt_inj.mp (q.trans (by decide))) e_17
        · exact absurd (Int32.toInt_inj.mp (q.trans (by decide))) e_19
        · exact absurd (Int32.toInt_inj.mp (q.trans (by decide))) e_21) (by decide) ?_
      refine lv_aload_n hx hb dX12_text_140 rfl (lv_at hl 0 rfl) ?_
      obtain ⟨r_u_23, u_23, h_u_23, h⟩ := bn_of h
      refine kc_stuck X hS h_u_23 (Nat.le_trans (Nat.le_of_ble_eq_true rfl) hF) (Nat.le_trans (Nat.le_of_ble_eq_true rfl) hL) hl.1 (Nat.le_of_ble_eq_true rfl) dX12_text_141 (fun H locs hS => ?_)
      refine lv_goto (tgt := 0) hx hb dX12_text_144 (by decide) ?_
      exact hR_0 _ h _ _ _ hS (lv_sub hl [0] rfl)
def LP_text_0 (N : Nat) : Nat → RSt → Option (Int32 × RSt) := lp (fun R a => B_text_0 N R a)
theorem bl_text_0 {r : Int32} (X : RC p s m args c cX12_text 1 (Cond.code yX12_text cX12_text 1 none) D kA V A) (hE : REv p l e R s m args below meth c cX12_text D kA Z A Q w) (hF : 532 ≤ R.frames) (hL : 32048 ≤ R.locals)  : ∀ (n : Nat) (u : RSt), LP_text_0 N n (u) = some (r, w) → ∀ (H : Heap) (locs : List Loc) (ls : Array Slot), RS D kA Z A s u H locs → lv_has ls 1 [(0, .ref (Z 200))] → W p l e R s m args below meth c H locs 0 0 Q (F0 m 0 ls []) := by
  intro n
  induction n with
  | zero => intro u h; exact nomatch h
  | succ n ih => intro u h H locs ls hS hl; exact b_text_0 (N := N) (R_0 := LP_text_0 N n) X hE hF hL  ih h hS hl
def F_text (N : Nat) (u : RSt) : Option (Int32 × RSt) := LP_text_0 N N (u)
set_option maxHeartbeats 4000000 in
theorem k_text (l : Launch) (D : va_G) (kA : Nat → ClassId) (V Z : Nat → Nat) (N : Nat) (u : RSt) (sz : Nat) {r : Int32} {w : RSt} (h : F_text N u = some (r, w)) : Met l yX12_text (Cond.code yX12_text cX12_text 1 none :: GW) { frames := 532, cells := 0, slots := 0, locals := 32048 } (rPc D kA V Z [] u sz) (rQv D kA Z u sz w) 0 0 (va_A (RW kA Z u) sz) := by
  refine Met.ofW (cc := cX12_text) (maxL := 1) (ret := none) (by decide) rfl ?_
  intro p e s m args below meth c s₁ Bd hml hv
  obtain ⟨rfl, hsz, hP, hK, hD0, hE⟩ := hv
  have hts := atoms_spec (ws := Cond.code yX12_text cX12_text 1 none :: GW) Bd.pre
  have hl := lv_entry (.ref (Z 200) :: []) (n := 1) (Nat.le_of_ble_eq_true rfl)
  rw [lg_entry_eq]
  generalize (lg_sl (.ref (Z 200) :: []) ++ List.replicate (1 - (lg_sl (.ref (Z 200) :: [])).length) Slot.unset).toArray = ls at hl ⊢
  have hl : lv_has ls 1 [(0, .ref (Z 200))] := hl
  subst hsz
  have X : RC p s m (.ref (Z 200) :: []).toArray c cX12_text 1 (Cond.code yX12_text cX12_text 1 none) D kA V (va_A (RW kA Z u) s.heap.size) := ⟨⟨Bd.exec, Bd.bytes, hml, findClass_of_methodNamed Bd.named, hts⟩, hK, hE, fun q h => Or.inr h⟩
  exact bl_text_0 X (rend_v (cy := cX12_text) X Bd.returns Bd.notSynchronized) (Nat.le_refl _) (Nat.le_refl _) N u h _ _ _ ⟨hP, hD0.self, va_S.rf⟩ (lv_sub hl [0] rfl)
theorem kc_text {r : Int32} {cc : ByteArray} {pc nL : Nat} {c0 : Cond} {rest : List Value} {u : RSt} (X : RC p s m args c cc nL c0 D kA V A) (hS : RS D kA Z A s u H locs) (h : F_text N u = some (r, w)) (hF : 532 + 1 ≤ R.frames) (hL : 8 + (1 + 11) + 32048 ≤ R.locals) (hl : ls.size = nL) (hc : (rest.map fun v => v.category).sum ≤ 8) (hdg : decode cc pc = .ok (.invokevirtual 709, 3)) (kk : ∀ H locs, RS D kA Z A s w H locs → W p l e R s m args below meth c H locs 0 0 Q (F0 m (pc + 3) ls (rest))) : W p l e R s m args below meth c H locs 0 0 Q (F0 m pc ls (.ref (Z 200) :: rest)) :=
  rcall_v (n := 0) X hS (k_text l D kA V Z N  u H.size h) (gw_V gw_2316 gw_2318 gs_7_15 gw_16 gw_2319) (by decide +kernel) hF hL rfl hl hc rfl hdg kk
def B_goThrough_0 (N : Nat) (l1 : Int32) (u : RSt) : Option (Int32 × RSt) := zr l1 <| pu (sI u 69 l1) fun u_1 => pu (sI u_1 65 0) fun u_3 => pu (sI u_3 66 0) fun u_4 => pu (sI u_4 70 0) fun u_5 => pu (sI u_5 74 0) fun u_6 => bn (F_text N u_6) fun _ u_7 => some (0, u_7)
set_option maxHeartbeats 4000000 in
theorem b_goThrough_0 {r : Int32} (X : RC p s m args c cX12_goThrough 2 (Cond.code yX12_goThrough cX12_goThrough 2 none) D kA V A) (hE : REv p l e R s m args below meth c cX12_goThrough D kA Z A Q w) (hF : 533 ≤ R.frames) (hL : 32068 ≤ R.locals) {l1 : Int32}  {u : RSt} (h : B_goThrough_0 N l1 u = some (r, w)) (hS : RS D kA Z A s u H locs) (hl : lv_has ls 2 [(0, .ref (Z 200)), (1, .int l1)]) : W p l e R s m args below meth c H locs 0 0 Q (F0 m 0 ls []) := by
  obtain ⟨⟨hx, hb, hml, hown, hts⟩, hK, hEV, hA⟩ := id X
  have hG : ∀ w ∈ GW, w.before args s = true := fun w h => hts w (List.mem_cons_of_mem _ h)
  unfold B_goThrough_0 at h
  refine lv_aload_n hx hb dX12_goThrough_0 rfl (lv_at hl 0 rfl) ?_
  refine lv_iload_n hx hb dX12_goThrough_1 rfl (lv_at hl 1 rfl) ?_
  obtain ⟨z_2, h⟩ := zr_of h
  obtain ⟨u_1, e_u_1, h⟩ := pu_of h
  refine rp_69 X hS e_u_1 z_2 dX12_goThrough_2 (fun H locs hS => ?_)
  refine lv_aload_n hx hb dX12_goThrough_5 rfl (lv_at hl 0 rfl) ?_
  refine lv_iconst (v := 0) hx hb dX12_goThrough_6 (by decide) ?_
  obtain ⟨u_3, e_u_3, h⟩ := pu_of h
  refine rp_65 X hS e_u_3 dX12_goThrough_7 (fun H locs hS => ?_)
  refine lv_aload_n hx hb dX12_goThrough_10 rfl (lv_at hl 0 rfl) ?_
  refine lv_iconst (v := 0) hx hb dX12_goThrough_11 (by decide) ?_
  obtain ⟨u_4, e_u_4, h⟩ := pu_of h
  refine rp_66 X hS e_u_4 dX12_goThrough_12 (fun H locs hS => ?_)
  refine lv_aload_n hx hb dX12_goThrough_15 rfl (lv_at hl 0 rfl) ?_
  refine lv_iconst (v := 0) hx hb dX12_goThrough_16 (by decide) ?_
  obtain ⟨u_5, e_u_5, h⟩ := pu_of h
  refine rp_70 X hS e_u_5 dX12_goThrough_17 (fun H locs hS => ?_)
  refine lv_aload_n hx hb dX12_goThrough_20 rfl (lv_at hl 0 rfl) ?_
  refine lv_iconst (v := 0) hx hb dX12_goThrough_21 (by decide) ?_
  obtain ⟨u_6, e_u_6, h⟩ := pu_of h
  refine rp_74 X hS e_u_6 dX12_goThrough_22 (fun H locs hS => ?_)
  refine lv_aload_n hx hb dX12_goThrough_25 rfl (lv_at hl 0 rfl) ?_
  obtain ⟨r_u_7, u_7, h_u_7, h⟩ := bn_of h
  refine kc_text X hS h_u_7 (Nat.le_trans (Nat.le_of_ble_eq_true rfl) hF) (Nat.le_trans (Nat.le_of_ble_eq_true rfl) hL) hl.1 (Nat.le_of_ble_eq_true rfl) dX12_goThrough_26 (fun H locs hS => ?_)
  obtain ⟨-, rfl⟩ := so h
  exact hE _ _ _ _ hS dX12_goThrough_29
def F_goThrough (N : Nat) (l1 : Int32) (u : RSt) : Option (Int32 × RSt) := B_goThrough_0 N l1 u
set_option maxHeartbeats 4000000 in
theorem k_goThrough (l : Launch) (D : va_G) (kA : Nat → ClassId) (V Z : Nat → Nat) (N : Nat) (l1 : Int32) (u : RSt) (sz : Nat) {r : Int32} {w : RSt} (h : F_goThrough N l1 u = some (r, w)) : Met l yX12_goThrough (Cond.code yX12_goThrough cX12_goThrough 2 none :: GW) { frames := 533, cells := 0, slots := 0, locals := 32068 } (rPc D kA V Z [.int l1] u sz) (rQv D kA Z u sz w) 0 0 (va_A (RW kA Z u) sz) := by
  refine Met.ofW (cc := cX12_goThrough) (maxL := 2) (ret := none) (by decide) rfl ?_
  intro p e s m args below meth c s₁ Bd hml hv
  obtain ⟨rfl, hsz, hP, hK, hD0, hE⟩ := hv
  have hts := atoms_spec (ws := Cond.code yX12_goThrough cX12_goThrough 2 none :: GW) Bd.pre
  have hl := lv_entry (.ref (Z 200) :: [.int l1]) (n := 2) (Nat.le_of_ble_eq_true rfl)
  rw [lg_entry_eq]
  generalize (lg_sl (.ref (Z 200) :: [.int l1]) ++ List.replicate (2 - (lg_sl (.ref (Z 200) :: [.int l1])).length) Slot.unset).toArray = ls at hl ⊢
  have hl : lv_has ls 2 [(0, .ref (Z 200)), (1, .int l1)] := hl
  subst hsz
  have X : RC p s m (.ref (Z 200) :: [.int l1]).toArray c cX12_goThrough 2 (Cond.code yX12_goThrough cX12_goThrough 2 none) D kA V (va_A (RW kA Z u) s.heap.size) := ⟨⟨Bd.exec, Bd.bytes, hml, findClass_of_methodNamed Bd.named, hts⟩, hK, hE, fun q h => Or.inr h⟩
  exact b_goThrough_0 X (rend_v (cy := cX12_goThrough) X Bd.returns Bd.notSynchronized) (Nat.le_refl _) (Nat.le_refl _) h ⟨hP, hD0.self, va_S.rf⟩ (lv_sub hl [0, 1] rfl)
theorem kc_goThrough {r : Int32} {cc : ByteArray} {pc nL : Nat} {c0 : Cond} {rest : List Value} {l1 : Int32} {u : RSt} (X : RC p s m args c cc nL c0 D kA V A) (hS : RS D kA Z A s u H locs) (h : F_goThrough N l1 u = some (r, w)) (hF : 533 + 1 ≤ R.frames) (hL : 8 + (2 + 11) + 32068 ≤ R.locals) (hl : ls.size = nL) (hc : (rest.map fun v => v.category).sum ≤ 8) (hdg : decode cc pc = .ok (.invokevirtual 715, 3)) (kk : ∀ H locs, RS D kA Z A s w H locs → W p l e R s m args below meth c H locs 0 0 Q (F0 m (pc + 3) ls (rest))) : W p l e R s m args below meth c H locs 0 0 Q (F0 m pc ls (.int l1 :: .ref (Z 200) :: rest)) :=
  rcall_v (n := 1) X hS (k_goThrough l D kA V Z N l1 u H.size h) (gw_V gw_2312 gw_2314 gs_7_14 gw_16 gw_2315) (by decide +kernel) hF hL rfl hl hc rfl hdg kk
end ItemsRows
