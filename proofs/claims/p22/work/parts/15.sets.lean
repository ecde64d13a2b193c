abbrev cX12_returns : ByteArray := prog_14_method_78_code
def yX12_returns : MethodName := ⟨RX12, "returns", "(I)V"⟩
theorem dX12_returns_0 : decode cX12_returns 0 = .ok (.aload_n 0, 1) := by decide +kernel
theorem dX12_returns_1 : decode cX12_returns 1 = .ok (.getfield 95, 3) := by decide +kernel
theorem dX12_returns_4 : decode cX12_returns 4 = .ok (.ifCond .ne 17, 3) := by decide +kernel
theorem dX12_returns_7 : decode cX12_returns 7 = .ok (.aload_n 0, 1) := by decide +kernel
theorem dX12_returns_8 : decode cX12_returns 8 = .ok (.sipush 229, 3) := by decide +kernel
theorem dX12_returns_11 : decode cX12_returns 11 = .ok (.invokevirtual 112, 3) := by decide +kernel
theorem dX12_returns_14 : decode cX12_returns 14 = .ok (.ifCond .ne 7, 3) := by decide +kernel
theorem dX12_returns_17 : decode cX12_returns 17 = .ok (.iconst 1, 1) := by decide +kernel
theorem dX12_returns_18 : decode cX12_returns 18 = .ok (.goto 4, 3) := by decide +kernel
theorem dX12_returns_21 : decode cX12_returns 21 = .ok (.iconst 0, 1) := by decide +kernel
theorem dX12_returns_22 : decode cX12_returns 22 = .ok (.istore_n 2, 1) := by decide +kernel
theorem dX12_returns_23 : decode cX12_returns 23 = .ok (.aload_n 0, 1) := by decide +kernel
theorem dX12_returns_24 : decode cX12_returns 24 = .ok (.iload_n 2, 1) := by decide +kernel
theorem dX12_returns_25 : decode cX12_returns 25 = .ok (.aload_n 0, 1) := by decide +kernel
theorem dX12_returns_26 : decode cX12_returns 26 = .ok (.getfield 186, 3) := by decide +kernel
theorem dX12_returns_29 : decode cX12_returns 29 = .ok (.iconst 3, 1) := by decide +kernel
theorem dX12_returns_30 : decode cX12_returns 30 = .ok (.if_icmp .ne 7, 3) := by decide +kernel
theorem dX12_returns_33 : decode cX12_returns 33 = .ok (.iconst 1, 1) := by decide +kernel
theorem dX12_returns_34 : decode cX12_returns 34 = .ok (.goto 4, 3) := by decide +kernel
theorem dX12_returns_37 : decode cX12_returns 37 = .ok (.iconst 0, 1) := by decide +kernel
theorem dX12_returns_38 : decode cX12_returns 38 = .ok (.if_icmp .eq 7, 3) := by decide +kernel
theorem dX12_returns_41 : decode cX12_returns 41 = .ok (.iconst 1, 1) := by decide +kernel
theorem dX12_returns_42 : decode cX12_returns 42 = .ok (.goto 4, 3) := by decide +kernel
theorem dX12_returns_45 : decode cX12_returns 45 = .ok (.iconst 0, 1) := by decide +kernel
theorem dX12_returns_46 : decode cX12_returns 46 = .ok (.iconst 3, 1) := by decide +kernel
theorem dX12_returns_47 : decode cX12_returns 47 = .ok (.iload_n 1, 1) := by decide +kernel
theorem dX12_returns_48 : decode cX12_returns 48 = .ok (.invokevirtual 202, 3) := by decide +kernel
theorem dX12_returns_51 : decode cX12_returns 51 = .ok (.iload_n 2, 1) := by decide +kernel
theorem dX12_returns_52 : decode cX12_returns 52 = .ok (.ifCond .eq 75, 3) := by decide +kernel
theorem dX12_returns_55 : decode cX12_returns 55 = .ok (.aload_n 0, 1) := by decide +kernel
theorem dX12_returns_56 : decode cX12_returns 56 = .ok (.getfield 35, 3) := by decide +kernel
theorem dX12_returns_59 : decode cX12_returns 59 = .ok (.aload_n 0, 1) := by decide +kernel
theorem dX12_returns_60 : decode cX12_returns 60 = .ok (.getfield 109, 3) := by decide +kernel
theorem dX12_returns_63 : decode cX12_returns 63 = .ok (.iaload, 1) := by decide +kernel
theorem dX12_returns_64 : decode cX12_returns 64 = .ok (.istore_n 3, 1) := by decide +kernel
theorem dX12_returns_65 : decode cX12_returns 65 = .ok (.aload_n 0, 1) := by decide +kernel
theorem dX12_returns_66 : decode cX12_returns 66 = .ok (.invokevirtual 444, 3) := by decide +kernel
theorem dX12_returns_69 : decode cX12_returns 69 = .ok (.istore 4, 2) := by decide +kernel
theorem dX12_returns_71 : decode cX12_returns 71 = .ok (.aload_n 0, 1) := by decide +kernel
theorem dX12_returns_72 : decode cX12_returns 72 = .ok (.getfield 101, 3) := by decide +kernel
theorem dX12_returns_75 : decode cX12_returns 75 = .ok (.ifCond .eq 49, 3) := by decide +kernel
theorem dX12_returns_78 : decode cX12_returns 78 = .ok (.aload_n 0, 1) := by decide +kernel
theorem dX12_returns_79 : decode cX12_returns 79 = .ok (.getfield 95, 3) := by decide +kernel
theorem dX12_returns_82 : decode cX12_returns 82 = .ok (.ifCond .ne 42, 3) := by decide +kernel
theorem dX12_returns_85 : decode cX12_returns 85 = .ok (.aload_n 0, 1) := by decide +kernel
theorem dX12_returns_86 : decode cX12_returns 86 = .ok (.aload_n 0, 1) := by decide +kernel
theorem dX12_returns_87 : decode cX12_returns 87 = .ok (.iload 4, 2) := by decide +kernel
theorem dX12_returns_89 : decode cX12_returns 89 = .ok (.aload_n 0, 1) := by decide +kernel
theorem dX12_returns_90 : decode cX12_returns 90 = .ok (.getfield 355, 3) := by decide +kernel
theorem dX12_returns_93 : decode cX12_returns 93 = .ok (.aload_n 0, 1) := by decide +kernel
theorem dX12_returns_94 : decode cX12_returns 94 = .ok (.getfield 236, 3) := by decide +kernel
theorem dX12_returns_97 : decode cX12_returns 97 = .ok (.iaload, 1) := by decide +kernel
theorem dX12_returns_98 : decode cX12_returns 98 = .ok (.invokevirtual 487, 3) := by decide +kernel
theorem dX12_returns_101 : decode cX12_returns 101 = .ok (.iconst 4, 1) := by decide +kernel
theorem dX12_returns_102 : decode cX12_returns 102 = .ok (.iload_n 3, 1) := by decide +kernel
theorem dX12_returns_103 : decode cX12_returns 103 = .ok (.invokevirtual 202, 3) := by decide +kernel
theorem dX12_returns_106 : decode cX12_returns 106 = .ok (.aload_n 0, 1) := by decide +kernel
theorem dX12_returns_107 : decode cX12_returns 107 = .ok (.bipush 34, 2) := by decide +kernel
theorem dX12_returns_109 : decode cX12_returns 109 = .ok (.aload_n 0, 1) := by decide +kernel
theorem dX12_returns_110 : decode cX12_returns 110 = .ok (.getfield 355, 3) := by decide +kernel
theorem dX12_returns_113 : decode cX12_returns 113 = .ok (.aload_n 0, 1) := by decide +kernel
theorem dX12_returns_114 : decode cX12_returns 114 = .ok (.getfield 236, 3) := by decide +kernel
theorem dX12_returns_117 : decode cX12_returns 117 = .ok (.iaload, 1) := by decide +kernel
theorem dX12_returns_118 : decode cX12_returns 118 = .ok (.iconst 0, 1) := by decide +kernel
theorem dX12_returns_119 : decode cX12_returns 119 = .ok (.invokevirtual 144, 3) := by decide +kernel
theorem dX12_returns_122 : decode cX12_returns 122 = .ok (.istore 4, 2) := by decide +kernel
theorem dX12_returns_124 : decode cX12_returns 124 = .ok (.goto 12, 3) := by decide +kernel
theorem dX12_returns_127 : decode cX12_returns 127 = .ok (.aload_n 0, 1) := by decide +kernel
theorem dX12_returns_128 : decode cX12_returns 128 = .ok (.bipush 33, 2) := by decide +kernel
theorem dX12_returns_130 : decode cX12_returns 130 = .ok (.iconst 0, 1) := by decide +kernel
theorem dX12_returns_131 : decode cX12_returns 131 = .ok (.iconst 0, 1) := by decide +kernel
theorem dX12_returns_132 : decode cX12_returns 132 = .ok (.invokevirtual 144, 3) := by decide +kernel
theorem dX12_returns_135 : decode cX12_returns 135 = .ok (.istore_n 3, 1) := by decide +kernel
theorem dX12_returns_136 : decode cX12_returns 136 = .ok (.aload_n 0, 1) := by decide +kernel
theorem dX12_returns_137 : decode cX12_returns 137 = .ok (.sipush 229, 3) := by decide +kernel
theorem dX12_returns_140 : decode cX12_returns 140 = .ok (.invokevirtual 125, 3) := by decide +kernel
theorem dX12_returns_143 : decode cX12_returns 143 = .ok (.return_, 1) := by decide +kernel
abbrev cX12_runs : ByteArray := prog_14_method_68_code
def yX12_runs : MethodName := ⟨RX12, "runs", "()V"⟩
theorem dX12_runs_0 : decode cX12_runs 0 = .ok (.aload_n 0, 1) := by decide +kernel
theorem dX12_runs_1 : decode cX12_runs 1 = .ok (.getfield 35, 3) := by decide +kernel
theorem dX12_runs_4 : decode cX12_runs 4 = .ok (.aload_n 0, 1) := by decide +kernel
theorem dX12_runs_5 : decode cX12_runs 5 = .ok (.getfield 109, 3) := by decide +kernel
theorem dX12_runs_8 : decode cX12_runs 8 = .ok (.iaload, 1) := by decide +kernel
theorem dX12_runs_9 : decode cX12_runs 9 = .ok (.istore_n 1, 1) := by decide +kernel
theorem dX12_runs_10 : decode cX12_runs 10 = .ok (.aload_n 0, 1) := by decide +kernel
theorem dX12_runs_11 : decode cX12_runs 11 = .ok (.iconst 1, 1) := by decide +kernel
theorem dX12_runs_12 : decode cX12_runs 12 = .ok (.invokevirtual 378, 3) := by decide +kernel
theorem dX12_runs_15 : decode cX12_runs 15 = .ok (.istore_n 2, 1) := by decide +kernel
theorem dX12_runs_16 : decode cX12_runs 16 = .ok (.aload_n 0, 1) := by decide +kernel
theorem dX12_runs_17 : decode cX12_runs 17 = .ok (.iload_n 2, 1) := by decide +kernel
theorem dX12_runs_18 : decode cX12_runs 18 = .ok (.iconst (-1), 1) := by decide +kernel
theorem dX12_runs_19 : decode cX12_runs 19 = .ok (.if_icmp .ne 7, 3) := by decide +kernel
theorem dX12_runs_22 : decode cX12_runs 22 = .ok (.iconst 1, 1) := by decide +kernel
theorem dX12_runs_23 : decode cX12_runs 23 = .ok (.goto 4, 3) := by decide +kernel
theorem dX12_runs_26 : decode cX12_runs 26 = .ok (.iconst 0, 1) := by decide +kernel
theorem dX12_runs_27 : decode cX12_runs 27 = .ok (.iconst 3, 1) := by decide +kernel
theorem dX12_runs_28 : decode cX12_runs 28 = .ok (.iload_n 1, 1) := by decide +kernel
theorem dX12_runs_29 : decode cX12_runs 29 = .ok (.invokevirtual 202, 3) := by decide +kernel
theorem dX12_runs_32 : decode cX12_runs 32 = .ok (.aload_n 0, 1) := by decide +kernel
theorem dX12_runs_33 : decode cX12_runs 33 = .ok (.iload_n 1, 1) := by decide +kernel
theorem dX12_runs_34 : decode cX12_runs 34 = .ok (.invokevirtual 441, 3) := by decide +kernel
theorem dX12_runs_37 : decode cX12_runs 37 = .ok (.aload_n 0, 1) := by decide +kernel
theorem dX12_runs_38 : decode cX12_runs 38 = .ok (.dup, 1) := by decide +kernel
theorem dX12_runs_39 : decode cX12_runs 39 = .ok (.getfield 109, 3) := by decide +kernel
theorem dX12_runs_42 : decode cX12_runs 42 = .ok (.iconst 1, 1) := by decide +kernel
theorem dX12_runs_43 : decode cX12_runs 43 = .ok (.iadd, 1) := by decide +kernel
theorem dX12_runs_44 : decode cX12_runs 44 = .ok (.putfield 109, 3) := by decide +kernel
theorem dX12_runs_47 : decode cX12_runs 47 = .ok (.bipush 24, 2) := by decide +kernel
theorem dX12_runs_49 : decode cX12_runs 49 = .ok (.aload_n 0, 1) := by decide +kernel
theorem dX12_runs_50 : decode cX12_runs 50 = .ok (.getfield 129, 3) := by decide +kernel
theorem dX12_runs_53 : decode cX12_runs 53 = .ok (.imul, 1) := by decide +kernel
theorem dX12_runs_54 : decode cX12_runs 54 = .ok (.iload_n 2, 1) := by decide +kernel
theorem dX12_runs_55 : decode cX12_runs 55 = .ok (.iadd, 1) := by decide +kernel
theorem dX12_runs_56 : decode cX12_runs 56 = .ok (.istore_n 3, 1) := by decide +kernel
theorem dX12_runs_57 : decode cX12_runs 57 = .ok (.aload_n 0, 1) := by decide +kernel
theorem dX12_runs_58 : decode cX12_runs 58 = .ok (.getfield 101, 3) := by decide +kernel
theorem dX12_runs_61 : decode cX12_runs 61 = .ok (.ifCond .eq 19, 3) := by decide +kernel
theorem dX12_runs_64 : decode cX12_runs 64 = .ok (.aload_n 0, 1) := by decide +kernel
theorem dX12_runs_65 : decode cX12_runs 65 = .ok (.getfield 95, 3) := by decide +kernel
theorem dX12_runs_68 : decode cX12_runs 68 = .ok (.ifCond .ne 12, 3) := by decide +kernel
theorem dX12_runs_71 : decode cX12_runs 71 = .ok (.aload_n 0, 1) := by decide +kernel
theorem dX12_runs_72 : decode cX12_runs 72 = .ok (.getfield 387, 3) := by decide +kernel
theorem dX12_runs_75 : decode cX12_runs 75 = .ok (.iload_n 3, 1) := by decide +kernel
theorem dX12_runs_76 : decode cX12_runs 76 = .ok (.iaload, 1) := by decide +kernel
theorem dX12_runs_77 : decode cX12_runs 77 = .ok (.goto 4, 3) := by decide +kernel
theorem dX12_runs_80 : decode cX12_runs 80 = .ok (.iconst 0, 1) := by decide +kernel
theorem dX12_runs_81 : decode cX12_runs 81 = .ok (.istore 4, 2) := by decide +kernel
theorem dX12_runs_83 : decode cX12_runs 83 = .ok (.iconst 0, 1) := by decide +kernel
theorem dX12_runs_84 : decode cX12_runs 84 = .ok (.istore 5, 2) := by decide +kernel
theorem dX12_runs_86 : decode cX12_runs 86 = .ok (.aload_n 0, 1) := by decide +kernel
theorem dX12_runs_87 : decode cX12_runs 87 = .ok (.sipush 223, 3) := by decide +kernel
theorem dX12_runs_90 : decode cX12_runs 90 = .ok (.invokevirtual 307, 3) := by decide +kernel
theorem dX12_runs_93 : decode cX12_runs 93 = .ok (.aload_n 0, 1) := by decide +kernel
theorem dX12_runs_94 : decode cX12_runs 94 = .ok (.getfield 95, 3) := by decide +kernel
theorem dX12_runs_97 : decode cX12_runs 97 = .ok (.ifCond .ne 17, 3) := by decide +kernel
theorem dX12_runs_100 : decode cX12_runs 100 = .ok (.aload_n 0, 1) := by decide +kernel
theorem dX12_runs_101 : decode cX12_runs 101 = .ok (.sipush 224, 3) := by decide +kernel
theorem dX12_runs_104 : decode cX12_runs 104 = .ok (.invokevirtual 112, 3) := by decide +kernel
theorem dX12_runs_107 : decode cX12_runs 107 = .ok (.ifCond .ne 7, 3) := by decide +kernel
theorem dX12_runs_110 : decode cX12_runs 110 = .ok (.iconst 1, 1) := by decide +kernel
theorem dX12_runs_111 : decode cX12_runs 111 = .ok (.goto 4, 3) := by decide +kernel
theorem dX12_runs_114 : decode cX12_runs 114 = .ok (.iconst 0, 1) := by decide +kernel
theorem dX12_runs_115 : decode cX12_runs 115 = .ok (.istore 6, 2) := by decide +kernel
theorem dX12_runs_117 : decode cX12_runs 117 = .ok (.iload 6, 2) := by decide +kernel
theorem dX12_runs_119 : decode cX12_runs 119 = .ok (.ifCond .eq 171, 3) := by decide +kernel
theorem dX12_runs_122 : decode cX12_runs 122 = .ok (.aload_n 0, 1) := by decide +kernel
theorem dX12_runs_123 : decode cX12_runs 123 = .ok (.getfield 101, 3) := by decide +kernel
theorem dX12_runs_126 : decode cX12_runs 126 = .ok (.ifCond .eq 26, 3) := by decide +kernel
theorem dX12_runs_129 : decode cX12_runs 129 = .ok (.aload_n 0, 1) := by decide +kernel
theorem dX12_runs_130 : decode cX12_runs 130 = .ok (.getfield 95, 3) := by decide +kernel
theorem dX12_runs_133 : decode cX12_runs 133 = .ok (.ifCond .ne 19, 3) := by decide +kernel
theorem dX12_runs_136 : decode cX12_runs 136 = .ok (.iload 5, 2) := by decide +kernel
theorem dX12_runs_138 : decode cX12_runs 138 = .ok (.aload_n 0, 1) := by decide +kernel
theorem dX12_runs_139 : decode cX12_runs 139 = .ok (.getfield 233, 3) := by decide +kernel
theorem dX12_runs_142 : decode cX12_runs 142 = .ok (.iload 4, 2) := by decide +kernel
theorem dX12_runs_144 : decode cX12_runs 144 = .ok (.iaload, 1) := by decide +kernel
theorem dX12_runs_145 : decode cX12_runs 145 = .ok (.if_icmp .ge 7, 3) := by decide +kernel
theorem dX12_runs_148 : decode cX12_runs 148 = .ok (.iconst 1, 1) := by decide +kernel
theorem dX12_runs_149 : decode cX12_runs 149 = .ok (.goto 4, 3) := by decide +kernel
theorem dX12_runs_152 : decode cX12_runs 152 = .ok (.iconst 0, 1) := by decide +kernel
theorem dX12_runs_153 : decode cX12_runs 153 = .ok (.istore 7, 2) := by decide +kernel
theorem dX12_runs_155 : decode cX12_runs 155 = .ok (.iload 7, 2) := by decide +kernel
theorem dX12_runs_157 : decode cX12_runs 157 = .ok (.ifCond .eq 25, 3) := by decide +kernel
theorem dX12_runs_160 : decode cX12_runs 160 = .ok (.sipush 160, 3) := by decide +kernel
theorem dX12_runs_163 : decode cX12_runs 163 = .ok (.aload_n 0, 1) := by decide +kernel
theorem dX12_runs_164 : decode cX12_runs 164 = .ok (.getfield 129, 3) := by decide +kernel
theorem dX12_runs_167 : decode cX12_runs 167 = .ok (.imul, 1) := by decide +kernel
theorem dX12_runs_168 : decode cX12_runs 168 = .ok (.aload_n 0, 1) := by decide +kernel
theorem dX12_runs_169 : decode cX12_runs 169 = .ok (.getfield 358, 3) := by decide +kernel
theorem dX12_runs_172 : decode cX12_runs 172 = .ok (.iload 4, 2) := by decide +kernel
theorem dX12_runs_174 : decode cX12_runs 174 = .ok (.iaload, 1) := by decide +kernel
theorem dX12_runs_175 : decode cX12_runs 175 = .ok (.iadd, 1) := by decide +kernel
theorem dX12_runs_176 : decode cX12_runs 176 = .ok (.iload 5, 2) := by decide +kernel
theorem dX12_runs_178 : decode cX12_runs 178 = .ok (.iadd, 1) := by decide +kernel
theorem dX12_runs_179 : decode cX12_runs 179 = .ok (.goto 4, 3) := by decide +kernel
theorem dX12_runs_182 : decode cX12_runs 182 = .ok (.iconst 0, 1) := by decide +kernel
theorem dX12_runs_183 : decode cX12_runs 183 = .ok (.istore 8, 2) := by decide +kernel
theorem dX12_runs_185 : decode cX12_runs 185 = .ok (.iload 7, 2) := by decide +kernel
theorem dX12_runs_187 : decode cX12_runs 187 = .ok (.ifCond .eq 27, 3) := by decide +kernel
theorem dX12_runs_190 : decode cX12_runs 190 = .ok (.aload_n 0, 1) := by decide +kernel
theorem dX12_runs_191 : decode cX12_runs 191 = .ok (.bipush 10, 2) := by decide +kernel
theorem dX12_runs_193 : decode cX12_runs 193 = .ok (.aload_n 0, 1) := by decide +kernel
theorem dX12_runs_194 : decode cX12_runs 194 = .ok (.getfield 390, 3) := by decide +kernel
theorem dX12_runs_197 : decode cX12_runs 197 = .ok (.iload_n 3, 1) := by decide +kernel
theorem dX12_runs_198 : decode cX12_runs 198 = .ok (.iaload, 1) := by decide +kernel
theorem dX12_runs_199 : decode cX12_runs 199 = .ok (.aload_n 0, 1) := by decide +kernel
theorem dX12_runs_200 : decode cX12_runs 200 = .ok (.getfield 251, 3) := by decide +kernel
theorem dX12_runs_203 : decode cX12_runs 203 = .ok (.iload 8, 2) := by decide +kernel
theorem dX12_runs_205 : decode cX12_runs 205 = .ok (.iaload, 1) := by decide +kernel
theorem dX12_runs_206 : decode cX12_runs 206 = .ok (.iadd, 1) := by decide +kernel
theorem dX12_runs_207 : decode cX12_runs 207 = .ok (.iconst 0, 1) := by decide +kernel
theorem dX12_runs_208 : decode cX12_runs 208 = .ok (.invokevirtual 144, 3) := by decide +kernel
theorem dX12_runs_211 : decode cX12_runs 211 = .ok (.goto 4, 3) := by decide +kernel
theorem dX12_runs_214 : decode cX12_runs 214 = .ok (.iconst 0, 1) := by decide +kernel
theorem dX12_runs_215 : decode cX12_runs 215 = .ok (.istore 9, 2) := by decide +kernel
theorem dX12_runs_217 : decode cX12_runs 217 = .ok (.aload_n 0, 1) := by decide +kernel
theorem dX12_runs_218 : decode cX12_runs 218 = .ok (.getfield 35, 3) := by decide +kernel
theorem dX12_runs_221 : decode cX12_runs 221 = .ok (.aload_n 0, 1) := by decide +kernel
theorem dX12_runs_222 : decode cX12_runs 222 = .ok (.getfield 109, 3) := by decide +kernel
theorem dX12_runs_225 : decode cX12_runs 225 = .ok (.iaload, 1) := by decide +kernel
theorem dX12_runs_226 : decode cX12_runs 226 = .ok (.istore 10, 2) := by decide +kernel
theorem dX12_runs_228 : decode cX12_runs 228 = .ok (.aload_n 0, 1) := by decide +kernel
theorem dX12_runs_229 : decode cX12_runs 229 = .ok (.invokevirtual 444, 3) := by decide +kernel
theorem dX12_runs_232 : decode cX12_runs 232 = .ok (.istore 11, 2) := by decide +kernel
theorem dX12_runs_234 : decode cX12_runs 234 = .ok (.iload 7, 2) := by decide +kernel
theorem dX12_runs_236 : decode cX12_runs 236 = .ok (.ifCond .eq 39, 3) := by decide +kernel
theorem dX12_runs_239 : decode cX12_runs 239 = .ok (.aload_n 0, 1) := by decide +kernel
theorem dX12_runs_240 : decode cX12_runs 240 = .ok (.aload_n 0, 1) := by decide +kernel
theorem dX12_runs_241 : decode cX12_runs 241 = .ok (.iload 11, 2) := by decide +kernel
theorem dX12_runs_243 : decode cX12_runs 243 = .ok (.aload_n 0, 1) := by decide +kernel
theorem dX12_runs_244 : decode cX12_runs 244 = .ok (.getfield 242, 3) := by decide +kernel
theorem dX12_runs_247 : decode cX12_runs 247 = .ok (.iload 8, 2) := by decide +kernel
theorem dX12_runs_249 : decode cX12_runs 249 = .ok (.iaload, 1) := by decide +kernel
theorem dX12_runs_250 : decode cX12_runs 250 = .ok (.invokevirtual 487, 3) := by decide +kernel
theorem dX12_runs_253 : decode cX12_runs 253 = .ok (.iconst 4, 1) := by decide +kernel
theorem dX12_runs_254 : decode cX12_runs 254 = .ok (.iload 10, 2) := by decide +kernel
theorem dX12_runs_256 : decode cX12_runs 256 = .ok (.invokevirtual 202, 3) := by decide +kernel
theorem dX12_runs_259 : decode cX12_runs 259 = .ok (.aload_n 0, 1) := by decide +kernel
theorem dX12_runs_260 : decode cX12_runs 260 = .ok (.bipush 18, 2) := by decide +kernel
theorem dX12_runs_262 : decode cX12_runs 262 = .ok (.aload_n 0, 1) := by decide +kernel
theorem dX12_runs_263 : decode cX12_runs 263 = .ok (.getfield 242, 3) := by decide +kernel
theorem dX12_runs_266 : decode cX12_runs 266 = .ok (.iload 8, 2) := by decide +kernel
theorem dX12_runs_268 : decode cX12_runs 268 = .ok (.iaload, 1) := by decide +kernel
theorem dX12_runs_269 : decode cX12_runs 269 = .ok (.iconst 0, 1) := by decide +kernel
theorem dX12_runs_270 : decode cX12_runs 270 = .ok (.invokevirtual 144, 3) := by decide +kernel
theorem dX12_runs_273 : decode cX12_runs 273 = .ok (.istore 9, 2) := by decide +kernel
theorem dX12_runs_275 : decode cX12_runs 275 = .ok (.iinc 5 1, 3) := by decide +kernel
theorem dX12_runs_278 : decode cX12_runs 278 = .ok (.aload_n 0, 1) := by decide +kernel
theorem dX12_runs_279 : decode cX12_runs 279 = .ok (.sipush 230, 3) := by decide +kernel
theorem dX12_runs_282 : decode cX12_runs 282 = .ok (.invokevirtual 218, 3) := by decide +kernel
theorem dX12_runs_285 : decode cX12_runs 285 = .ok (.istore 6, 2) := by decide +kernel
theorem dX12_runs_287 : decode cX12_runs 287 = .ok (.goto (-170), 3) := by decide +kernel
theorem dX12_runs_290 : decode cX12_runs 290 = .ok (.aload_n 0, 1) := by decide +kernel
theorem dX12_runs_291 : decode cX12_runs 291 = .ok (.sipush 224, 3) := by decide +kernel
theorem dX12_runs_294 : decode cX12_runs 294 = .ok (.invokevirtual 314, 3) := by decide +kernel
theorem dX12_runs_297 : decode cX12_runs 297 = .ok (.aload_n 0, 1) := by decide +kernel
theorem dX12_runs_298 : decode cX12_runs 298 = .ok (.getfield 101, 3) := by decide +kernel
theorem dX12_runs_301 : decode cX12_runs 301 = .ok (.ifCond .eq 43, 3) := by decide +kernel
theorem dX12_runs_304 : decode cX12_runs 304 = .ok (.aload_n 0, 1) := by decide +kernel
theorem dX12_runs_305 : decode cX12_runs 305 = .ok (.getfield 95, 3) := by decide +kernel
theorem dX12_runs_308 : decode cX12_runs 308 = .ok (.ifCond .ne 36, 3) := by decide +kernel
theorem dX12_runs_311 : decode cX12_runs 311 = .ok (.aload_n 0, 1) := by decide +kernel
theorem dX12_runs_312 : decode cX12_runs 312 = .ok (.iload 5, 2) := by decide +kernel
theorem dX12_runs_314 : decode cX12_runs 314 = .ok (.aload_n 0, 1) := by decide +kernel
theorem dX12_runs_315 : decode cX12_runs 315 = .ok (.getfield 233, 3) := by decide +kernel
theorem dX12_runs_318 : decode cX12_runs 318 = .ok (.iload 4, 2) := by decide +kernel
theorem dX12_runs_320 : decode cX12_runs 320 = .ok (.iaload, 1) := by decide +kernel
theorem dX12_runs_321 : decode cX12_runs 321 = .ok (.if_icmp .eq 7, 3) := by decide +kernel
theorem dX12_runs_324 : decode cX12_runs 324 = .ok (.iconst 1, 1) := by decide +kernel
theorem dX12_runs_325 : decode cX12_runs 325 = .ok (.goto 4, 3) := by decide +kernel
theorem dX12_runs_328 : decode cX12_runs 328 = .ok (.iconst 0, 1) := by decide +kernel
theorem dX12_runs_329 : decode cX12_runs 329 = .ok (.iconst 4, 1) := by decide +kernel
theorem dX12_runs_330 : decode cX12_runs 330 = .ok (.iload_n 1, 1) := by decide +kernel
theorem dX12_runs_331 : decode cX12_runs 331 = .ok (.invokevirtual 202, 3) := by decide +kernel
theorem dX12_runs_334 : decode cX12_runs 334 = .ok (.aload_n 0, 1) := by decide +kernel
theorem dX12_runs_335 : decode cX12_runs 335 = .ok (.bipush 32, 2) := by decide +kernel
theorem dX12_runs_337 : decode cX12_runs 337 = .ok (.iload_n 3, 1) := by decide +kernel
theorem dX12_runs_338 : decode cX12_runs 338 = .ok (.iload_n 1, 1) := by decide +kernel
theorem dX12_runs_339 : decode cX12_runs 339 = .ok (.invokevirtual 144, 3) := by decide +kernel
theorem dX12_runs_342 : decode cX12_runs 342 = .ok (.istore 7, 2) := by decide +kernel
theorem dX12_runs_344 : decode cX12_runs 344 = .ok (.aload_n 0, 1) := by decide +kernel
theorem dX12_runs_345 : decode cX12_runs 345 = .ok (.sipush 229, 3) := by decide +kernel
theorem dX12_runs_348 : decode cX12_runs 348 = .ok (.invokevirtual 125, 3) := by decide +kernel
theorem dX12_runs_351 : decode cX12_runs 351 = .ok (.return_, 1) := by decide +kernel
abbrev cX12_sets : ByteArray := prog_14_method_69_code
def yX12_sets : MethodName := ⟨RX12, "sets", "()V"⟩
theorem dX12_sets_0 : decode cX12_sets 0 = .ok (.aload_n 0, 1) := by decide +kernel
theorem dX12_sets_1 : decode cX12_sets 1 = .ok (.iconst 1, 1) := by decide +kernel
theorem dX12_sets_2 : decode cX12_sets 2 = .ok (.invokevirtual 478, 3) := by decide +kernel
theorem dX12_sets_5 : decode cX12_sets 5 = .ok (.aload_n 0, 1) := by decide +kernel
theorem dX12_sets_6 : decode cX12_sets 6 = .ok (.getfield 481, 3) := by decide +kernel
theorem dX12_sets_9 : decode cX12_sets 9 = .ok (.istore_n 1, 1) := by decide +kernel
theorem dX12_sets_10 : decode cX12_sets 10 = .ok (.aload_n 0, 1) := by decide +kernel
theorem dX12_sets_11 : decode cX12_sets 11 = .ok (.getfield 484, 3) := by decide +kernel
theorem dX12_sets_14 : decode cX12_sets 14 = .ok (.istore_n 2, 1) := by decide +kernel
theorem dX12_sets_15 : decode cX12_sets 15 = .ok (.aload_n 0, 1) := by decide +kernel
theorem dX12_sets_16 : decode cX12_sets 16 = .ok (.getfield 38, 3) := by decide +kernel
theorem dX12_sets_19 : decode cX12_sets 19 = .ok (.aload_n 0, 1) := by decide +kernel
theorem dX12_sets_20 : decode cX12_sets 20 = .ok (.getfield 109, 3) := by decide +kernel
theorem dX12_sets_23 : decode cX12_sets 23 = .ok (.iaload, 1) := by decide +kernel
theorem dX12_sets_24 : decode cX12_sets 24 = .ok (.istore_n 3, 1) := by decide +kernel
theorem dX12_sets_25 : decode cX12_sets 25 = .ok (.aload_n 0, 1) := by decide +kernel
theorem dX12_sets_26 : decode cX12_sets 26 = .ok (.getfield 35, 3) := by decide +kernel
theorem dX12_sets_29 : decode cX12_sets 29 = .ok (.aload_n 0, 1) := by decide +kernel
theorem dX12_sets_30 : decode cX12_sets 30 = .ok (.getfield 109, 3) := by decide +kernel
theorem dX12_sets_33 : decode cX12_sets 33 = .ok (.iaload, 1) := by decide +kernel
theorem dX12_sets_34 : decode cX12_sets 34 = .ok (.istore 4, 2) := by decide +kernel
theorem dX12_sets_36 : decode cX12_sets 36 = .ok (.iload_n 3, 1) := by decide +kernel
theorem dX12_sets_37 : decode cX12_sets 37 = .ok (.sipush 205, 3) := by decide +kernel
theorem dX12_sets_40 : decode cX12_sets 40 = .ok (.if_icmp .lt 10, 3) := by decide +kernel
theorem dX12_sets_43 : decode cX12_sets 43 = .ok (.iload_n 3, 1) := by decide +kernel
theorem dX12_sets_44 : decode cX12_sets 44 = .ok (.sipush 212, 3) := by decide +kernel
theorem dX12_sets_47 : decode cX12_sets 47 = .ok (.if_icmp .le 24, 3) := by decide +kernel
theorem dX12_sets_50 : decode cX12_sets 50 = .ok (.iload_n 3, 1) := by decide +kernel
theorem dX12_sets_51 : decode cX12_sets 51 = .ok (.sipush 200, 3) := by decide +kernel
theorem dX12_sets_54 : decode cX12_sets 54 = .ok (.if_icmp .eq 17, 3) := by decide +kernel
theorem dX12_sets_57 : decode cX12_sets 57 = .ok (.iload_n 3, 1) := by decide +kernel
theorem dX12_sets_58 : decode cX12_sets 58 = .ok (.sipush 201, 3) := by decide +kernel
theorem dX12_sets_61 : decode cX12_sets 61 = .ok (.if_icmp .eq 10, 3) := by decide +kernel
theorem dX12_sets_64 : decode cX12_sets 64 = .ok (.iload_n 3, 1) := by decide +kernel
theorem dX12_sets_65 : decode cX12_sets 65 = .ok (.sipush 202, 3) := by decide +kernel
theorem dX12_sets_68 : decode cX12_sets 68 = .ok (.if_icmp .ne 7, 3) := by decide +kernel
theorem dX12_sets_71 : decode cX12_sets 71 = .ok (.iconst 1, 1) := by decide +kernel
theorem dX12_sets_72 : decode cX12_sets 72 = .ok (.goto 4, 3) := by decide +kernel
theorem dX12_sets_75 : decode cX12_sets 75 = .ok (.iconst 0, 1) := by decide +kernel
theorem dX12_sets_76 : decode cX12_sets 76 = .ok (.istore 5, 2) := by decide +kernel
theorem dX12_sets_78 : decode cX12_sets 78 = .ok (.iload_n 3, 1) := by decide +kernel
theorem dX12_sets_79 : decode cX12_sets 79 = .ok (.sipush 213, 3) := by decide +kernel
theorem dX12_sets_82 : decode cX12_sets 82 = .ok (.if_icmp .eq 10, 3) := by decide +kernel
theorem dX12_sets_85 : decode cX12_sets 85 = .ok (.iload_n 3, 1) := by decide +kernel
theorem dX12_sets_86 : decode cX12_sets 86 = .ok (.sipush 214, 3) := by decide +kernel
theorem dX12_sets_89 : decode cX12_sets 89 = .ok (.if_icmp .ne 7, 3) := by decide +kernel
theorem dX12_sets_92 : decode cX12_sets 92 = .ok (.iconst 1, 1) := by decide +kernel
theorem dX12_sets_93 : decode cX12_sets 93 = .ok (.goto 4, 3) := by decide +kernel
theorem dX12_sets_96 : decode cX12_sets 96 = .ok (.iconst 0, 1) := by decide +kernel
theorem dX12_sets_97 : decode cX12_sets 97 = .ok (.istore 6, 2) := by decide +kernel
theorem dX12_sets_99 : decode cX12_sets 99 = .ok (.aload_n 0, 1) := by decide +kernel
theorem dX12_sets_100 : decode cX12_sets 100 = .ok (.getfield 95, 3) := by decide +kernel
theorem dX12_sets_103 : decode cX12_sets 103 = .ok (.ifCond .ne 24, 3) := by decide +kernel
theorem dX12_sets_106 : decode cX12_sets 106 = .ok (.iload_n 3, 1) := by decide +kernel
theorem dX12_sets_107 : decode cX12_sets 107 = .ok (.sipush 234, 3) := by decide +kernel
theorem dX12_sets_110 : decode cX12_sets 110 = .ok (.if_icmp .eq 17, 3) := by decide +kernel
theorem dX12_sets_113 : decode cX12_sets 113 = .ok (.iload 5, 2) := by decide +kernel
theorem dX12_sets_115 : decode cX12_sets 115 = .ok (.ifCond .ne 12, 3) := by decide +kernel
theorem dX12_sets_118 : decode cX12_sets 118 = .ok (.iload 6, 2) := by decide +kernel
theorem dX12_sets_120 : decode cX12_sets 120 = .ok (.ifCond .ne 7, 3) := by decide +kernel
theorem dX12_sets_123 : decode cX12_sets 123 = .ok (.aload_n 0, 1) := by decide +kernel
theorem dX12_sets_124 : decode cX12_sets 124 = .ok (.invokevirtual 115, 3) := by decide +kernel
theorem dX12_sets_127 : decode cX12_sets 127 = .ok (.aload_n 0, 1) := by decide +kernel
theorem dX12_sets_128 : decode cX12_sets 128 = .ok (.iload_n 2, 1) := by decide +kernel
theorem dX12_sets_129 : decode cX12_sets 129 = .ok (.iconst (-1), 1) := by decide +kernel
theorem dX12_sets_130 : decode cX12_sets 130 = .ok (.if_icmp .eq 14, 3) := by decide +kernel
theorem dX12_sets_133 : decode cX12_sets 133 = .ok (.iload_n 3, 1) := by decide +kernel
theorem dX12_sets_134 : decode cX12_sets 134 = .ok (.sipush 234, 3) := by decide +kernel
theorem dX12_sets_137 : decode cX12_sets 137 = .ok (.if_icmp .eq 7, 3) := by decide +kernel
theorem dX12_sets_140 : decode cX12_sets 140 = .ok (.iconst 1, 1) := by decide +kernel
theorem dX12_sets_141 : decode cX12_sets 141 = .ok (.goto 4, 3) := by decide +kernel
theorem dX12_sets_144 : decode cX12_sets 144 = .ok (.iconst 0, 1) := by decide +kernel
theorem dX12_sets_145 : decode cX12_sets 145 = .ok (.iconst 4, 1) := by decide +kernel
theorem dX12_sets_146 : decode cX12_sets 146 = .ok (.iload 4, 2) := by decide +kernel
theorem dX12_sets_148 : decode cX12_sets 148 = .ok (.invokevirtual 202, 3) := by decide +kernel
theorem dX12_sets_151 : decode cX12_sets 151 = .ok (.aload_n 0, 1) := by decide +kernel
theorem dX12_sets_152 : decode cX12_sets 152 = .ok (.getfield 95, 3) := by decide +kernel
theorem dX12_sets_155 : decode cX12_sets 155 = .ok (.ifCond .eq 4, 3) := by decide +kernel
theorem dX12_sets_158 : decode cX12_sets 158 = .ok (.return_, 1) := by decide +kernel
theorem dX12_sets_159 : decode cX12_sets 159 = .ok (.aload_n 0, 1) := by decide +kernel
theorem dX12_sets_160 : decode cX12_sets 160 = .ok (.dup, 1) := by decide +kernel
theorem dX12_sets_161 : decode cX12_sets 161 = .ok (.getfield 109, 3) := by decide +kernel
theorem dX12_sets_164 : decode cX12_sets 164 = .ok (.iconst 1, 1) := by decide +kernel
theorem dX12_sets_165 : decode cX12_sets 165 = .ok (.iadd, 1) := by decide +kernel
theorem dX12_sets_166 : decode cX12_sets 166 = .ok (.putfield 109, 3) := by decide +kernel
theorem dX12_sets_169 : decode cX12_sets 169 = .ok (.iload_n 3, 1) := by decide +kernel
theorem dX12_sets_170 : decode cX12_sets 170 = .ok (.sipush 234, 3) := by decide +kernel
theorem dX12_sets_173 : decode cX12_sets 173 = .ok (.if_icmp .ne 65, 3) := by decide +kernel
theorem dX12_sets_176 : decode cX12_sets 176 = .ok (.aload_n 0, 1) := by decide +kernel
theorem dX12_sets_177 : decode cX12_sets 177 = .ok (.invokevirtual 444, 3) := by decide +kernel
theorem dX12_sets_180 : decode cX12_sets 180 = .ok (.istore 7, 2) := by decide +kernel
theorem dX12_sets_182 : decode cX12_sets 182 = .ok (.aload_n 0, 1) := by decide +kernel
theorem dX12_sets_183 : decode cX12_sets 183 = .ok (.iload_n 2, 1) := by decide +kernel
theorem dX12_sets_184 : decode cX12_sets 184 = .ok (.iconst (-1), 1) := by decide +kernel
theorem dX12_sets_185 : decode cX12_sets 185 = .ok (.if_icmp .ne 17, 3) := by decide +kernel
theorem dX12_sets_188 : decode cX12_sets 188 = .ok (.aload_n 0, 1) := by decide +kernel
theorem dX12_sets_189 : decode cX12_sets 189 = .ok (.iload 7, 2) := by decide +kernel
theorem dX12_sets_191 : decode cX12_sets 191 = .ok (.iload_n 1, 1) := by decide +kernel
theorem dX12_sets_192 : decode cX12_sets 192 = .ok (.invokevirtual 487, 3) := by decide +kernel
theorem dX12_sets_195 : decode cX12_sets 195 = .ok (.ifCond .eq 7, 3) := by decide +kernel
theorem dX12_sets_198 : decode cX12_sets 198 = .ok (.iconst 1, 1) := by decide +kernel
theorem dX12_sets_199 : decode cX12_sets 199 = .ok (.goto 4, 3) := by decide +kernel
theorem dX12_sets_202 : decode cX12_sets 202 = .ok (.iconst 0, 1) := by decide +kernel
theorem dX12_sets_203 : decode cX12_sets 203 = .ok (.iconst 4, 1) := by decide +kernel
theorem dX12_sets_204 : decode cX12_sets 204 = .ok (.iload 4, 2) := by decide +kernel
theorem dX12_sets_206 : decode cX12_sets 206 = .ok (.invokevirtual 202, 3) := by decide +kernel
theorem dX12_sets_209 : decode cX12_sets 209 = .ok (.iload_n 2, 1) := by decide +kernel
theorem dX12_sets_210 : decode cX12_sets 210 = .ok (.iconst (-1), 1) := by decide +kernel
theorem dX12_sets_211 : decode cX12_sets 211 = .ok (.if_icmp .ne 14, 3) := by decide +kernel
theorem dX12_sets_214 : decode cX12_sets 214 = .ok (.aload_n 0, 1) := by decide +kernel
theorem dX12_sets_215 : decode cX12_sets 215 = .ok (.bipush 18, 2) := by decide +kernel
theorem dX12_sets_217 : decode cX12_sets 217 = .ok (.iload_n 1, 1) := by decide +kernel
theorem dX12_sets_218 : decode cX12_sets 218 = .ok (.iconst 0, 1) := by decide +kernel
theorem dX12_sets_219 : decode cX12_sets 219 = .ok (.invokevirtual 144, 3) := by decide +kernel
theorem dX12_sets_222 : decode cX12_sets 222 = .ok (.goto 11, 3) := by decide +kernel
theorem dX12_sets_225 : decode cX12_sets 225 = .ok (.aload_n 0, 1) := by decide +kernel
theorem dX12_sets_226 : decode cX12_sets 226 = .ok (.bipush 19, 2) := by decide +kernel
theorem dX12_sets_228 : decode cX12_sets 228 = .ok (.iload_n 2, 1) := by decide +kernel
theorem dX12_sets_229 : decode cX12_sets 229 = .ok (.iload_n 1, 1) := by decide +kernel
theorem dX12_sets_230 : decode cX12_sets 230 = .ok (.invokevirtual 144, 3) := by decide +kernel
theorem dX12_sets_233 : decode cX12_sets 233 = .ok (.istore 7, 2) := by decide +kernel
theorem dX12_sets_235 : decode cX12_sets 235 = .ok (.goto 207, 3) := by decide +kernel
theorem dX12_sets_238 : decode cX12_sets 238 = .ok (.aload_n 0, 1) := by decide +kernel
theorem dX12_sets_239 : decode cX12_sets 239 = .ok (.bipush 17, 2) := by decide +kernel
theorem dX12_sets_241 : decode cX12_sets 241 = .ok (.iload_n 1, 1) := by decide +kernel
theorem dX12_sets_242 : decode cX12_sets 242 = .ok (.iconst 0, 1) := by decide +kernel
theorem dX12_sets_243 : decode cX12_sets 243 = .ok (.invokevirtual 144, 3) := by decide +kernel
theorem dX12_sets_246 : decode cX12_sets 246 = .ok (.istore 7, 2) := by decide +kernel
theorem dX12_sets_248 : decode cX12_sets 248 = .ok (.iconst 3, 1) := by decide +kernel
theorem dX12_sets_249 : decode cX12_sets 249 = .ok (.istore 8, 2) := by decide +kernel
theorem dX12_sets_251 : decode cX12_sets 251 = .ok (.iload 5, 2) := by decide +kernel
theorem dX12_sets_253 : decode cX12_sets 253 = .ok (.ifCond .eq 12, 3) := by decide +kernel
theorem dX12_sets_256 : decode cX12_sets 256 = .ok (.aload_n 0, 1) := by decide +kernel
theorem dX12_sets_257 : decode cX12_sets 257 = .ok (.invokevirtual 444, 3) := by decide +kernel
theorem dX12_sets_260 : decode cX12_sets 260 = .ok (.istore 8, 2) := by decide +kernel
theorem dX12_sets_262 : decode cX12_sets 262 = .ok (.goto 8, 3) := by decide +kernel
theorem dX12_sets_265 : decode cX12_sets 265 = .ok (.aload_n 0, 1) := by decide +kernel
theorem dX12_sets_266 : decode cX12_sets 266 = .ok (.lconst 1, 1) := by decide +kernel
theorem dX12_sets_267 : decode cX12_sets 267 = .ok (.invokevirtual 374, 3) := by decide +kernel
theorem dX12_sets_270 : decode cX12_sets 270 = .ok (.iload_n 3, 1) := by decide +kernel
theorem dX12_sets_271 : decode cX12_sets 271 = .ok (.sipush 200, 3) := by decide +kernel
theorem dX12_sets_274 : decode cX12_sets 274 = .ok (.if_icmp .ne 9, 3) := by decide +kernel
theorem dX12_sets_277 : decode cX12_sets 277 = .ok (.sipush 203, 3) := by decide +kernel
theorem dX12_sets_280 : decode cX12_sets 280 = .ok (.goto 137, 3) := by decide +kernel
theorem dX12_sets_283 : decode cX12_sets 283 = .ok (.iload_n 3, 1) := by decide +kernel
theorem dX12_sets_284 : decode cX12_sets 284 = .ok (.sipush 201, 3) := by decide +kernel
theorem dX12_sets_287 : decode cX12_sets 287 = .ok (.if_icmp .ne 9, 3) := by decide +kernel
theorem dX12_sets_290 : decode cX12_sets 290 = .ok (.sipush 221, 3) := by decide +kernel
theorem dX12_sets_293 : decode cX12_sets 293 = .ok (.goto 124, 3) := by decide +kernel
theorem dX12_sets_296 : decode cX12_sets 296 = .ok (.iload_n 3, 1) := by decide +kernel
theorem dX12_sets_297 : decode cX12_sets 297 = .ok (.sipush 202, 3) := by decide +kernel
theorem dX12_sets_300 : decode cX12_sets 300 = .ok (.if_icmp .ne 9, 3) := by decide +kernel
theorem dX12_sets_303 : decode cX12_sets 303 = .ok (.sipush 222, 3) := by decide +kernel
theorem dX12_sets_306 : decode cX12_sets 306 = .ok (.goto 111, 3) := by decide +kernel
theorem dX12_sets_309 : decode cX12_sets 309 = .ok (.iload_n 3, 1) := by decide +kernel
theorem dX12_sets_310 : decode cX12_sets 310 = .ok (.sipush 213, 3) := by decide +kernel
theorem dX12_sets_313 : decode cX12_sets 313 = .ok (.if_icmp .eq 10, 3) := by decide +kernel
theorem dX12_sets_316 : decode cX12_sets 316 = .ok (.iload_n 3, 1) := by decide +kernel
theorem dX12_sets_317 : decode cX12_sets 317 = .ok (.sipush 205, 3) := by decide +kernel
theorem dX12_sets_320 : decode cX12_sets 320 = .ok (.if_icmp .ne 9, 3) := by decide +kernel
theorem dX12_sets_323 : decode cX12_sets 323 = .ok (.sipush 240, 3) := by decide +kernel
theorem dX12_sets_326 : decode cX12_sets 326 = .ok (.goto 91, 3) := by decide +kernel
theorem dX12_sets_329 : decode cX12_sets 329 = .ok (.iload_n 3, 1) := by decide +kernel
theorem dX12_sets_330 : decode cX12_sets 330 = .ok (.sipush 214, 3) := by decide +kernel
theorem dX12_sets_333 : decode cX12_sets 333 = .ok (.if_icmp .eq 10, 3) := by decide +kernel
theorem dX12_sets_336 : decode cX12_sets 336 = .ok (.iload_n 3, 1) := by decide +kernel
theorem dX12_sets_337 : decode cX12_sets 337 = .ok (.sipush 206, 3) := by decide +kernel
theorem dX12_sets_340 : decode cX12_sets 340 = .ok (.if_icmp .ne 9, 3) := by decide +kernel
theorem dX12_sets_343 : decode cX12_sets 343 = .ok (.sipush 241, 3) := by decide +kernel
theorem dX12_sets_346 : decode cX12_sets 346 = .ok (.goto 71, 3) := by decide +kernel
theorem dX12_sets_349 : decode cX12_sets 349 = .ok (.iload_n 3, 1) := by decide +kernel
theorem dX12_sets_350 : decode cX12_sets 350 = .ok (.sipush 207, 3) := by decide +kernel
theorem dX12_sets_353 : decode cX12_sets 353 = .ok (.if_icmp .ne 9, 3) := by decide +kernel
theorem dX12_sets_356 : decode cX12_sets 356 = .ok (.sipush 242, 3) := by decide +kernel
theorem dX12_sets_359 : decode cX12_sets 359 = .ok (.goto 58, 3) := by decide +kernel
theorem dX12_sets_362 : decode cX12_sets 362 = .ok (.iload_n 3, 1) := by decide +kernel
theorem dX12_sets_363 : decode cX12_sets 363 = .ok (.sipush 208, 3) := by decide +kernel
theorem dX12_sets_366 : decode cX12_sets 366 = .ok (.if_icmp .ne 9, 3) := by decide +kernel
theorem dX12_sets_369 : decode cX12_sets 369 = .ok (.sipush 243, 3) := by decide +kernel
theorem dX12_sets_372 : decode cX12_sets 372 = .ok (.goto 45, 3) := by decide +kernel
theorem dX12_sets_375 : decode cX12_sets 375 = .ok (.iload_n 3, 1) := by decide +kernel
theorem dX12_sets_376 : decode cX12_sets 376 = .ok (.sipush 209, 3) := by decide +kernel
theorem dX12_sets_379 : decode cX12_sets 379 = .ok (.if_icmp .ne 9, 3) := by decide +kernel
theorem dX12_sets_382 : decode cX12_sets 382 = .ok (.sipush 244, 3) := by decide +kernel
theorem dX12_sets_385 : decode cX12_sets 385 = .ok (.goto 32, 3) := by decide +kernel
theorem dX12_sets_388 : decode cX12_sets 388 = .ok (.iload_n 3, 1) := by decide +kernel
theorem dX12_sets_389 : decode cX12_sets 389 = .ok (.sipush 210, 3) := by decide +kernel
theorem dX12_sets_392 : decode cX12_sets 392 = .ok (.if_icmp .ne 9, 3) := by decide +kernel
theorem dX12_sets_395 : decode cX12_sets 395 = .ok (.sipush 237, 3) := by decide +kernel
theorem dX12_sets_398 : decode cX12_sets 398 = .ok (.goto 19, 3) := by decide +kernel
theorem dX12_sets_401 : decode cX12_sets 401 = .ok (.iload_n 3, 1) := by decide +kernel
theorem dX12_sets_402 : decode cX12_sets 402 = .ok (.sipush 211, 3) := by decide +kernel
theorem dX12_sets_405 : decode cX12_sets 405 = .ok (.if_icmp .ne 9, 3) := by decide +kernel
theorem dX12_sets_408 : decode cX12_sets 408 = .ok (.sipush 235, 3) := by decide +kernel
theorem dX12_sets_411 : decode cX12_sets 411 = .ok (.goto 6, 3) := by decide +kernel
theorem dX12_sets_414 : decode cX12_sets 414 = .ok (.sipush 236, 3) := by decide +kernel
theorem dX12_sets_417 : decode cX12_sets 417 = .ok (.istore 9, 2) := by decide +kernel
theorem dX12_sets_419 : decode cX12_sets 419 = .ok (.aload_n 0, 1) := by decide +kernel
theorem dX12_sets_420 : decode cX12_sets 420 = .ok (.iload 9, 2) := by decide +kernel
theorem dX12_sets_422 : decode cX12_sets 422 = .ok (.iload 4, 2) := by decide +kernel
theorem dX12_sets_424 : decode cX12_sets 424 = .ok (.iload_n 1, 1) := by decide +kernel
theorem dX12_sets_425 : decode cX12_sets 425 = .ok (.iload 8, 2) := by decide +kernel
theorem dX12_sets_427 : decode cX12_sets 427 = .ok (.invokevirtual 456, 3) := by decide +kernel
theorem dX12_sets_430 : decode cX12_sets 430 = .ok (.istore 8, 2) := by decide +kernel
theorem dX12_sets_432 : decode cX12_sets 432 = .ok (.aload_n 0, 1) := by decide +kernel
theorem dX12_sets_433 : decode cX12_sets 433 = .ok (.bipush 18, 2) := by decide +kernel
theorem dX12_sets_435 : decode cX12_sets 435 = .ok (.iload_n 1, 1) := by decide +kernel
theorem dX12_sets_436 : decode cX12_sets 436 = .ok (.iconst 0, 1) := by decide +kernel
theorem dX12_sets_437 : decode cX12_sets 437 = .ok (.invokevirtual 144, 3) := by decide +kernel
theorem dX12_sets_440 : decode cX12_sets 440 = .ok (.istore 7, 2) := by decide +kernel
theorem dX12_sets_442 : decode cX12_sets 442 = .ok (.aload_n 0, 1) := by decide +kernel
theorem dX12_sets_443 : decode cX12_sets 443 = .ok (.sipush 229, 3) := by decide +kernel
theorem dX12_sets_446 : decode cX12_sets 446 = .ok (.invokevirtual 125, 3) := by decide +kernel
theorem dX12_sets_449 : decode cX12_sets 449 = .ok (.return_, 1) := by decide +kernel
theorem gs_10_14 : Cond.selects "SoftControllerModel" ⟨"SoftControllerModel", "sets", "()V"⟩ ⟨"SoftControllerModel", "sets", "()V"⟩ ∈ GW := gw_s (List.mem_map.mpr ⟨_, pin_10 _ (List.mem_of_getElem? (i := 14) rfl), rfl⟩) rfl
theorem gs_11_8 : Cond.selects "SoftControllerModel" ⟨"SoftControllerModel", "returns", "(I)V"⟩ ⟨"SoftControllerModel", "returns", "(I)V"⟩ ∈ GW := gw_s (List.mem_map.mpr ⟨_, pin_11 _ (List.mem_of_getElem? (i := 8) rfl), rfl⟩) rfl
theorem gs_9_13 : Cond.selects "SoftControllerModel" ⟨"SoftControllerModel", "runs", "()V"⟩ ⟨"SoftControllerModel", "runs", "()V"⟩ ∈ GW := gw_s (List.mem_map.mpr ⟨_, pin_9 _ (List.mem_of_getElem? (i := 13) rfl), rfl⟩) rfl
theorem gw_2456 : (Jvm.Cond.methodLink "SoftControllerModel" (494 : Nat) ({ cls := "SoftControllerModel", name := "runs", desc := "()V" } : Jvm.MethodName)) ∈ GW := gw_t (tin_11 _ (List.mem_of_getElem? (i := 56) rfl)) rfl
theorem gw_2458 : (Jvm.Cond.instanceMethod ({ cls := "SoftControllerModel", name := "runs", desc := "()V" } : Jvm.MethodName)) ∈ GW := gw_t (tin_11 _ (List.mem_of_getElem? (i := 58) rfl)) rfl
theorem gw_2459 : (Jvm.Cond.code ({ cls := "SoftControllerModel", name := "runs", desc := "()V" } : Jvm.MethodName) prog_14_method_68_code (12 : Nat) (Option.none : Option Jvm.ClassFile.FieldType)) ∈ GW := gw_t (tin_11 _ (List.mem_of_getElem? (i := 59) rfl)) rfl
theorem gw_2524 : (Jvm.Cond.methodLink "SoftControllerModel" (497 : Nat) ({ cls := "SoftControllerModel", name := "sets", desc := "()V" } : Jvm.MethodName)) ∈ GW := gw_t (tin_11 _ (List.mem_of_getElem? (i := 124) rfl)) rfl
theorem gw_2526 : (Jvm.Cond.instanceMethod ({ cls := "SoftControllerModel", name := "sets", desc := "()V" } : Jvm.MethodName)) ∈ GW := gw_t (tin_11 _ (List.mem_of_getElem? (i := 126) rfl)) rfl
theorem gw_2527 : (Jvm.Cond.code ({ cls := "SoftControllerModel", name := "sets", desc := "()V" } : Jvm.MethodName) prog_14_method_69_code (10 : Nat) (Option.none : Option Jvm.ClassFile.FieldType)) ∈ GW := gw_t (tin_11 _ (List.mem_of_getElem? (i := 127) rfl)) rfl
theorem gw_2564 : (Jvm.Cond.methodLink "SoftControllerModel" (515 : Nat) ({ cls := "SoftControllerModel", name := "returns", desc := "(I)V" } : Jvm.MethodName)) ∈ GW := gw_t (tin_11 _ (List.mem_of_getElem? (i := 164) rfl)) rfl
theorem gw_2566 : (Jvm.Cond.instanceMethod ({ cls := "SoftControllerModel", name := "returns", desc := "(I)V" } : Jvm.MethodName)) ∈ GW := gw_t (tin_11 _ (List.mem_of_getElem? (i := 166) rfl)) rfl
theorem gw_2567 : (Jvm.Cond.code ({ cls := "SoftControllerModel", name := "returns", desc := "(I)V" } : Jvm.MethodName) prog_14_method_78_code (5 : Nat) (Option.none : Option Jvm.ClassFile.FieldType)) ∈ GW := gw_t (tin_11 _ (List.mem_of_getElem? (i := 167) rfl)) rfl
section SetsRows
variable {p : Program} {l : Launch} {e : Env} {R : Room} {s : State} {m : MethodId} {args : Array Value} {below : List Frame} {meth : Method} {c : Code} {H : Heap} {locs : List Loc} {Q : State → Prop}
variable {ls : Array Slot} {D : va_G} {kA : Nat → ClassId} {V Z : Nat → Nat} {A : Nat → Prop} {N d : Nat} {w : RSt}
def B_returns_136 (N : Nat) (u : RSt) : Option (Int32 × RSt) := bn (F_take N 229 u) fun _ u_1 => some (0, u_1)
set_option maxHeartbeats 4000000 in
theorem b_returns_136 {r : Int32} (X : RC p s m args c cX12_returns 5 (Cond.code yX12_returns cX12_returns 5 none) D kA V A) (hE : REv p l e R s m args below meth c cX12_returns D kA Z A Q w) (hF : 413 ≤ R.frames) (hL : 24525 ≤ R.locals)  {u : RSt} (h : B_returns_136 N u = some (r, w)) (hS : RS D kA Z A s u H locs) (hl : lv_has ls 5 [(0, .ref (Z 200))]) : W p l e R s m args below meth c H locs 0 0 Q (F0 m 136 ls []) := by
  obtain ⟨⟨hx, hb, hml, hown, hts⟩, hK, hEV, hA⟩ := id X
  have hG : ∀ w ∈ GW, w.before args s = true := fun w h => hts w (List.mem_cons_of_mem _ h)
  unfold B_returns_136 at h
  refine lv_aload_n hx hb dX12_returns_136 rfl (lv_at hl 0 rfl) ?_
  refine lv_sipush (v := 229) hx hb dX12_returns_137 (by decide) ?_
  obtain ⟨r_u_1, u_1, h_u_1, h⟩ := bn_of h
  refine kc_take X hS h_u_1 (Nat.le_trans (Nat.le_of_ble_eq_true rfl) hF) (Nat.le_trans (Nat.le_of_ble_eq_true rfl) hL) hl.1 (Nat.le_of_ble_eq_true rfl) dX12_returns_140 (fun H locs hS => ?_)
  obtain ⟨-, rfl⟩ := so h
  exact hE _ _ _ _ hS dX12_returns_143
def B_returns_124 (N : Nat) (u : RSt) : Option (Int32 × RSt) := B_returns_136 N u
set_option maxHeartbeats 4000000 in
theorem b_returns_124 {r : Int32} (X : RC p s m args c cX12_returns 5 (Cond.code yX12_returns cX12_returns 5 none) D kA V A) (hE : REv p l e R s m args below meth c cX12_returns D kA Z A Q w) (hF : 413 ≤ R.frames) (hL : 24525 ≤ R.locals)  {u : RSt} (h : B_returns_124 N u = some (r, w)) (hS : RS D kA Z A s u H locs) (hl : lv_has ls 5 [(0, .ref (Z 200))]) : W p l e R s m args below meth c H locs 0 0 Q (F0 m 124 ls []) := by
  obtain ⟨⟨hx, hb, hml, hown, hts⟩, hK, hEV, hA⟩ := id X
  have hG : ∀ w ∈ GW, w.before args s = true := fun w h => hts w (List.mem_cons_of_mem _ h)
  unfold B_returns_124 at h
  refine lv_goto (tgt := 136) hx hb dX12_returns_124 (by decide) ?_
  exact b_returns_136 X hE hF hL  h hS (lv_sub hl [0] rfl)
def B_returns_46 (N : Nat) (l1 : Int32) (l2 : Int32) (s1 : Int32) (u : RSt) : Option (Int32 × RSt) := bn (F_wrong N s1 3 l1 u) fun _ u_2 => if l2 = (0 : Int32) then (bn (F_emit N 33 0 0 u_2) fun r_5 u_4 => B_returns_136 N u_4) else (rd (u_2.2.2.1 3) 1502 (u_2.1 65) fun v_6 => bn (G_expression N u_2) fun r_9 u_8 => if (u_8.1 69) = (0 : Int32) then (B_returns_124 N u_8) else (if (u_8.1 67) = (0 : Int32) then (rd (u_8.2.2.1 33) 48 (u_8.1 71) fun v_12 => bn (F_isTooWide N r_9 v_12 u_8) fun r_15 u_14 => bn (F_wrong N r_15 4 v_6 u_14) fun _ u_16 => rd (u_16.2.2.1 33) 48 (u_16.1 71) fun v_17 => bn (F_emit N 34 v_17 0 u_16) fun r_20 u_19 => B_returns_124 N u_19) else (B_returns_124 N u_8)))
set_option maxHeartbeats 4000000 in
theorem b_returns_46 {r : Int32} (X : RC p s m args c cX12_returns 5 (Cond.code yX12_returns cX12_returns 5 none) D kA V A) (hE : REv p l e R s m args below meth c cX12_returns D kA Z A Q w) (hF : 413 ≤ R.frames) (hL : 24525 ≤ R.locals) {l1 : Int32} {l2 : Int32} {s1 : Int32}  {u : RSt} (h : B_returns_46 N l1 l2 s1 u = some (r, w)) (hS : RS D kA Z A s u H locs) (hl : lv_has ls 5 [(0, .ref (Z 200)), (1, .int l1), (2, .int l2)]) : W p l e R s m args below meth c H locs 0 0 Q (F0 m 46 ls [.int s1, .ref (Z 200)]) := by
  obtain ⟨⟨hx, hb, hml, hown, hts⟩, hK, hEV, hA⟩ := id X
  have hG : ∀ w ∈ GW, w.before args s = true := fun w h => hts w (List.mem_cons_of_mem _ h)
  unfold B_returns_46 at h
  refine lv_iconst (v := 3) hx hb dX12_returns_46 (by decide) ?_
  refine lv_iload_n hx hb dX12_returns_47 rfl (lv_at hl 1 rfl) ?_
  obtain ⟨r_u_2, u_2, h_u_2, h⟩ := bn_of h
  refine kc_wrong X hS h_u_2 (Nat.le_trans (Nat.le_of_ble_eq_true rfl) hF) (Nat.le_trans (Nat.le_of_ble_eq_true rfl) hL) hl.1 (Nat.le_of_ble_eq_true rfl) dX12_returns_48 (fun H locs hS => ?_)
  refine lv_iload_n hx hb dX12_returns_51 rfl (lv_at hl 2 rfl) ?_
  refine lv_if_eq (tgt := 127) hx hb dX12_returns_52 (by decide) (fun c_3 => ?_) (fun c_3 => ?_)
  · have h := ip (c_3) h
    refine lv_aload_n hx hb dX12_returns_127 rfl (lv_at hl 0 rfl) ?_
    refine lv_bipush (v := 33) hx hb dX12_returns_128 (by decide) ?_
    refine lv_iconst (v := 0) hx hb dX12_returns_130 (by decide) ?_
    refine lv_iconst (v := 0) hx hb dX12_returns_131 (by decide) ?_
    obtain ⟨r_5, u_4, h_u_4, h⟩ := bn_of h
    refine kc_emit X hS h_u_4 (Nat.le_trans (Nat.le_of_ble_eq_true rfl) hF) (Nat.le_trans (Nat.le_of_ble_eq_true rfl) hL) hl.1 (Nat.le_of_ble_eq_true rfl) dX12_returns_132 (fun H locs hS => ?_)
    refine lv_istore_n (lv' := [(3, .int r_5), (0, .ref (Z 200)), (1, .int l1), (2, .int l2)]) hx hb dX12_returns_135 rfl hl (by decide) rfl (fun ls hl => ?_)
    exact b_returns_136 X hE hF hL  h hS (lv_sub hl [1] rfl)
  · have h := im (c_3) h
    refine lv_aload_n hx hb dX12_returns_55 rfl (lv_at hl 0 rfl) ?_
    refine rg_3 X hS dX12_returns_56 ?_
    refine lv_aload_n hx hb dX12_returns_59 rfl (lv_at hl 0 rfl) ?_
    refine rg_65 X hS dX12_returns_60 ?_
    obtain ⟨v_6, e_v_6, i_7, h⟩ := rd_of h
    refine ra_3 X hS i_7 e_v_6 dX12_returns_63 ?_
    refine lv_istore_n (lv' := [(3, .int v_6), (0, .ref (Z 200)), (1, .int l1), (2, .int l2)]) hx hb dX12_returns_64 rfl hl (by decide) rfl (fun ls hl => ?_)
    refine lv_aload_n hx hb dX12_returns_65 rfl (lv_at hl 1 rfl) ?_
    obtain ⟨r_9, u_8, h_u_8, h⟩ := bn_of h
    refine kg_expression X hS h_u_8 (Nat.le_trans (Nat.le_of_ble_eq_true rfl) hF) (Nat.le_trans (Nat.le_of_ble_eq_true rfl) hL) hl.1 (Nat.le_of_ble_eq_true rfl) dX12_returns_66 (fun H locs hS => ?_)
    refine lv_istore (lv' := [(4, .int r_9), (3, .int v_6), (0, .ref (Z 200)), (1, .int l1), (2, .int l2)]) hx hb dX12_returns_69 hl (by decide) rfl (fun ls hl => ?_)
    refine lv_aload_n hx hb dX12_returns_71 rfl (lv_at hl 2 rfl) ?_
    refine rg_69 X hS dX12_returns_72 ?_
    refine lv_if_eq (tgt := 124) hx hb dX12_returns_75 (by decide) (fun c_10 => ?_) (fun c_10 => ?_)
    · have h := ip (c_10) h
      exact b_returns_124 X hE hF hL  h hS (lv_sub hl [2] rfl)
    · have h := im (c_10) h
      refine lv_aload_n hx hb dX12_returns_78 rfl (lv_at hl 2 rfl) ?_
      refine rg_67 X hS dX12_returns_79 ?_
      refine lv_if_ne (tgt := 124) hx hb dX12_returns_82 (by decide) (fun c_11 => ?_) (fun c_11 => ?_)
      · have h := im (c_11) h
        exact b_returns_124 X hE hF hL  h hS (lv_sub hl [2] rfl)
      · have h := ip (c_11) h
        refine lv_aload_n hx hb dX12_returns_85 rfl (lv_at hl 2 rfl) ?_
        refine lv_aload_n hx hb dX12_returns_86 rfl (lv_at hl 2 rfl) ?_
        refine lv_iload hx hb dX12_returns_87 (lv_at hl 0 rfl) ?_
        refine lv_aload_n hx hb dX12_returns_89 rfl (lv_at hl 2 rfl) ?_
        refine rg_33 X hS dX12_returns_90 ?_
        refine lv_aload_n hx hb dX12_returns_93 rfl (lv_at hl 2 rfl) ?_
        refine rg_71 X hS dX12_returns_94 ?_
        obtain ⟨v_12, e_v_12, i_13, h⟩ := rd_of h
        refine ra_33 X hS i_13 e_v_12 dX12_returns_97 ?_
        obtain ⟨r_15, u_14, h_u_14, h⟩ := bn_of h
        refine kc_isTooWide X hS h_u_14 (Nat.le_trans (Nat.le_of_ble_eq_true rfl) hF) (Nat.le_trans (Nat.le_of_ble_eq_true rfl) hL) hl.1 (Nat.le_of_ble_eq_true rfl) dX12_returns_98 (fun H locs hS => ?_)
        refine lv_iconst (v := 4) hx hb dX12_returns_101 (by decide) ?_
        refine lv_iload_n hx hb dX12_returns_102 rfl (lv_at hl 1 rfl) ?_
        obtain ⟨r_u_16, u_16, h_u_16, h⟩ := bn_of h
        refine kc_wrong X hS h_u_16 (Nat.le_trans (Nat.le_of_ble_eq_true rfl) hF) (Nat.le_trans (Nat.le_of_ble_eq_true rfl) hL) hl.1 (Nat.le_of_ble_eq_true rfl) dX12_returns_103 (fun H locs hS => ?_)
        refine lv_aload_n hx hb dX12_returns_106 rfl (lv_at hl 2 rfl) ?_
        refine lv_bipush (v := 34) hx hb dX12_returns_107 (by decide) ?_
        refine lv_aload_n hx hb dX12_returns_109 rfl (lv_at hl 2 rfl) ?_
        refine rg_33 X hS dX12_returns_110 ?_
        refine lv_aload_n hx hb dX12_returns_113 rfl (lv_at hl 2 rfl) ?_
        refine rg_71 X hS dX12_returns_114 ?_
        obtain ⟨v_17, e_v_17, i_18, h⟩ := rd_of h
        refine ra_33 X hS i_18 e_v_17 dX12_returns_117 ?_
        refine lv_iconst (v := 0) hx hb dX12_returns_118 (by decide) ?_
        obtain ⟨r_20, u_19, h_u_19, h⟩ := bn_of h
        refine kc_emit X hS h_u_19 (Nat.le_trans (Nat.le_of_ble_eq_true rfl) hF) (Nat.le_trans (Nat.le_of_ble_eq_true rfl) hL) hl.1 (Nat.le_of_ble_eq_true rfl) dX12_returns_119 (fun H locs hS => ?_)
        refine lv_istore (lv' := [(4, .int r_20), (3, .int v_6), (0, .ref (Z 200)), (1, .int l1), (2, .int l2)]) hx hb dX12_returns_122 hl (by decide) rfl (fun ls hl => ?_)
        exact b_returns_124 X hE hF hL  h hS (lv_sub hl [2] rfl)
def B_returns_38 (N : Nat) (l1 : Int32) (l2 : Int32) (s1 : Int32) (s2 : Int32) (u : RSt) : Option (Int32 × RSt) := if s1 = s2 then (B_returns_46 N l1 l2 0 u) else (B_returns_46 N l1 l2 1 u)
set_option maxHeartbeats 4000000 in
theorem b_returns_38 {r : Int32} (X : RC p s m args c cX12_returns 5 (Cond.code yX12_returns cX12_returns 5 none) D kA V A) (hE : REv p l e R s m args below meth c cX12_returns D kA Z A Q w) (hF : 413 ≤ R.frames) (hL : 24525 ≤ R.locals) {l1 : Int32} {l2 : Int32} {s1 : Int32} {s2 : Int32}  {u : RSt} (h : B_returns_38 N l1 l2 s1 s2 u = some (r, w)) (hS : RS D kA Z A s u H locs) (hl : lv_has ls 5 [(0, .ref (Z 200)), (1, .int l1), (2, .int l2)]) : W p l e R s m args below meth c H locs 0 0 Q (F0 m 38 ls [.int s2, .int s1, .ref (Z 200)]) := by
  obtain ⟨⟨hx, hb, hml, hown, hts⟩, hK, hEV, hA⟩ := id X
  have hG : ∀ w ∈ GW, w.before args s = true := fun w h => hts w (List.mem_cons_of_mem _ h)
  unfold B_returns_38 at h
  refine lv_icmp_eq (tgt := 45) hx hb dX12_returns_38 (by decide) (fun c_21 => ?_) (fun c_21 => ?_)
  · have h := ip (c_21) h
    refine lv_iconst (v := 0) hx hb dX12_returns_45 (by decide) ?_
    exact b_returns_46 X hE hF hL  h hS (lv_sub hl [0, 1, 2] rfl)
  · have h := im (c_21) h
    refine lv_iconst (v := 1) hx hb dX12_returns_41 (by decide) ?_
    refine lv_goto (tgt := 46) hx hb dX12_returns_42 (by decide) ?_
    exact b_returns_46 X hE hF hL  h hS (lv_sub hl [0, 1, 2] rfl)
def B_returns_22 (N : Nat) (l1 : Int32) (s0 : Int32) (u : RSt) : Option (Int32 × RSt) := if (u.1 70) = (3 : Int32) then (B_returns_38 N l1 s0 s0 1 u) else (B_returns_38 N l1 s0 s0 0 u)
set_option maxHeartbeats 4000000 in
theorem b_returns_22 {r : Int32} (X : RC p s m args c cX12_returns 5 (Cond.code yX12_returns cX12_returns 5 none) D kA V A) (hE : REv p l e R s m args below meth c cX12_returns D kA Z A Q w) (hF : 413 ≤ R.frames) (hL : 24525 ≤ R.locals) {l1 : Int32} {s0 : Int32}  {u : RSt} (h : B_returns_22 N l1 s0 u = some (r, w)) (hS : RS D kA Z A s u H locs) (hl : lv_has ls 5 [(0, .ref (Z 200)), (1, .int l1)]) : W p l e R s m args below meth c H locs 0 0 Q (F0 m 22 ls [.int s0]) := by
  obtain ⟨⟨hx, hb, hml, hown, hts⟩, hK, hEV, hA⟩ := id X
  have hG : ∀ w ∈ GW, w.before args s = true := fun w h => hts w (List.mem_cons_of_mem _ h)
  unfold B_returns_22 at h
  refine lv_istore_n (lv' := [(2, .int s0), (0, .ref (Z 200)), (1, .int l1)]) hx hb dX12_returns_22 rfl hl (by decide) rfl (fun ls hl => ?_)
  refine lv_aload_n hx hb dX12_returns_23 rfl (lv_at hl 1 rfl) ?_
  refine lv_iload_n hx hb dX12_returns_24 rfl (lv_at hl 0 rfl) ?_
  refine lv_aload_n hx hb dX12_returns_25 rfl (lv_at hl 1 rfl) ?_
  refine rg_70 X hS dX12_returns_26 ?_
  refine lv_iconst (v := 3) hx hb dX12_returns_29 (by decide) ?_
  refine lv_icmp_ne (tgt := 37) hx hb dX12_returns_30 (by decide) (fun c_22 => ?_) (fun c_22 => ?_)
  · have h := im (c_22) h
    refine lv_iconst (v := 0) hx hb dX12_returns_37 (by decide) ?_
    exact b_returns_38 X hE hF hL  h hS (lv_sub hl [1, 2, 0] rfl)
  · have h := ip (c_22) h
    refine lv_iconst (v := 1) hx hb dX12_returns_33 (by decide) ?_
    refine lv_goto (tgt := 38) hx hb dX12_returns_34 (by decide) ?_
    exact b_returns_38 X hE hF hL  h hS (lv_sub hl [1, 2, 0] rfl)
def B_returns_21 (N : Nat) (l1 : Int32) (u : RSt) : Option (Int32 × RSt) := B_returns_22 N l1 0 u
set_option maxHeartbeats 4000000 in
theorem b_returns_21 {r : Int32} (X : RC p s m args c cX12_returns 5 (Cond.code yX12_returns cX12_returns 5 none) D kA V A) (hE : REv p l e R s m args below meth c cX12_returns D kA Z A Q w) (hF : 413 ≤ R.frames) (hL : 24525 ≤ R.locals) {l1 : Int32}  {u : RSt} (h : B_returns_21 N l1 u = some (r, w)) (hS : RS D kA Z A s u H locs) (hl : lv_has ls 5 [(0, .ref (Z 200)), (1, .int l1)]) : W p l e R s m args below meth c H locs 0 0 Q (F0 m 21 ls []) := by
  obtain ⟨⟨hx, hb, hml, hown, hts⟩, hK, hEV, hA⟩ := id X
  have hG : ∀ w ∈ GW, w.before args s = true := fun w h => hts w (List.mem_cons_of_mem _ h)
  unfold B_returns_21 at h
  refine lv_iconst (v := 0) hx hb dX12_returns_21 (by decide) ?_
  exact b_returns_22 X hE hF hL  h hS (lv_sub hl [0, 1] rfl)
def B_returns_0 (N : Nat) (l1 : Int32) (u : RSt) : Option (Int32 × RSt) := if (u.1 67) = (0 : Int32) then (bn (F_is N 229 u) fun r_25 u_24 => if r_25 = (0 : Int32) then (B_returns_22 N l1 1 u_24) else (B_returns_21 N l1 u_24)) else (B_returns_21 N l1 u)
set_option maxHeartbeats 4000000 in
theorem b_returns_0 {r : Int32} (X : RC p s m args c cX12_returns 5 (Cond.code yX12_returns cX12_returns 5 none) D kA V A) (hE : REv p l e R s m args below meth c cX12_returns D kA Z A Q w) (hF : 413 ≤ R.frames) (hL : 24525 ≤ R.locals) {l1 : Int32}  {u : RSt} (h : B_returns_0 N l1 u = some (r, w)) (hS : RS D kA Z A s u H locs) (hl : lv_has ls 5 [(0, .ref (Z 200)), (1, .int l1)]) : W p l e R s m args below meth c H locs 0 0 Q (F0 m 0 ls []) := by
  obtain ⟨⟨hx, hb, hml, hown, hts⟩, hK, hEV, hA⟩ := id X
  have hG : ∀ w ∈ GW, w.before args s = true := fun w h => hts w (List.mem_cons_of_mem _ h)
  unfold B_returns_0 at h
  refine lv_aload_n hx hb dX12_returns_0 rfl (lv_at hl 0 rfl) ?_
  refine rg_67 X hS dX12_returns_1 ?_
  refine lv_if_ne (tgt := 21) hx hb dX12_returns_4 (by decide) (fun c_23 => ?_) (fun c_23 => ?_)
  · have h := im (c_23) h
    exact b_returns_21 X hE hF hL  h hS (lv_sub hl [0, 1] rfl)
  · have h := ip (c_23) h
    refine lv_aload_n hx hb dX12_returns_7 rfl (lv_at hl 0 rfl) ?_
    refine lv_sipush (v := 229) hx hb dX12_returns_8 (by decide) ?_
    obtain ⟨r_25, u_24, h_u_24, h⟩ := bn_of h
    refine kc_is X hS h_u_24 (Nat.le_trans (Nat.le_of_ble_eq_true rfl) hF) (Nat.le_trans (Nat.le_of_ble_eq_true rfl) hL) hl.1 (Nat.le_of_ble_eq_true rfl) dX12_returns_11 (fun H locs hS => ?_)
    refine lv_if_ne (tgt := 21) hx hb dX12_returns_14 (by decide) (fun c_26 => ?_) (fun c_26 => ?_)
    · have h := im (c_26) h
      exact b_returns_21 X hE hF hL  h hS (lv_sub hl [0, 1] rfl)
    · have h := ip (c_26) h
      refine lv_iconst (v := 1) hx hb dX12_returns_17 (by decide) ?_
      refine lv_goto (tgt := 22) hx hb dX12_returns_18 (by decide) ?_
      exact b_returns_22 X hE hF hL  h hS (lv_sub hl [0, 1] rfl)
def F_returns (N : Nat) (l1 : Int32) (u : RSt) : Option (Int32 × RSt) := B_returns_0 N l1 u
set_option maxHeartbeats 4000000 in
theorem k_returns (l : Launch) (D : va_G) (kA : Nat → ClassId) (V Z : Nat → Nat) (N : Nat) (l1 : Int32) (u : RSt) (sz : Nat) {r : Int32} {w : RSt} (h : F_returns N l1 u = some (r, w)) : Met l yX12_returns (Cond.code yX12_returns cX12_returns 5 none :: GW) { frames := 413, cells := 0, slots := 0, locals := 24525 } (rPc D kA V Z [.int l1] u sz) (rQv D kA Z u sz w) 0 0 (va_A (RW kA Z u) sz) := by
  refine Met.ofW (cc := cX12_returns) (maxL := 5) (ret := none) (by decide) rfl ?_
  intro p e s m args below meth c s₁ Bd hml hv
  obtain ⟨rfl, hsz, hP, hK, hD0, hE⟩ := hv
  have hts := atoms_spec (ws := Cond.code yX12_returns cX12_returns 5 none :: GW) Bd.pre
  have hl := lv_entry (.ref (Z 200) :: [.int l1]) (n := 5) (Nat.le_of_ble_eq_true rfl)
  rw [lg_entry_eq]
  generalize (lg_sl (.ref (Z 200) :: [.int l1]) ++ List.replicate (5 - (lg_sl (.ref (Z 200) :: [.int l1])).length) Slot.unset).toArray = ls at hl ⊢
  have hl : lv_has ls 5 [(0, .ref (Z 200)), (1, .int l1)] := hl
  subst hsz
  have X : RC p s m (.ref (Z 200) :: [.int l1]).toArray c cX12_returns 5 (Cond.code yX12_returns cX12_returns 5 none) D kA V (va_A (RW kA Z u) s.heap.size) := ⟨⟨Bd.exec, Bd.bytes, hml, findClass_of_methodNamed Bd.named, hts⟩, hK, hE, fun q h => Or.inr h⟩
  exact b_returns_0 X (rend_v (cy := cX12_returns) X Bd.returns Bd.notSynchronized) (Nat.le_refl _) (Nat.le_refl _) h ⟨hP, hD0.self, va_S.rf⟩ (lv_sub hl [0, 1] rfl)
theorem kc_returns {r : Int32} {cc : ByteArray} {pc nL : Nat} {c0 : Cond} {rest : List Value} {l1 : Int32} {u : RSt} (X : RC p s m args c cc nL c0 D kA V A) (hS : RS D kA Z A s u H locs) (h : F_returns N l1 u = some (r, w)) (hF : 413 + 1 ≤ R.frames) (hL : 8 + (5 + 11) + 24525 ≤ R.locals) (hl : ls.size = nL) (hc : (rest.map fun v => v.category).sum ≤ 8) (hdg : decode cc pc = .ok (.invokevirtual 515, 3)) (kk : ∀ H locs, RS D kA Z A s w H locs → W p l e R s m args below meth c H locs 0 0 Q (F0 m (pc + 3) ls (rest))) : W p l e R s m args below meth c H locs 0 0 Q (F0 m pc ls (.int l1 :: .ref (Z 200) :: rest)) :=
  rcall_v (n := 1) X hS (k_returns l D kA V Z N l1 u H.size h) (gw_V gw_2564 gw_2566 gs_11_8 gw_16 gw_2567) (by decide +kernel) hF hL rfl hl hc rfl hdg kk
def B_runs_275 (N : Nat) (R_117 : Int32 × Int32 × Int32 × Int32 × Int32 × RSt → Option (Int32 × RSt)) (l1 : Int32) (l3 : Int32) (l4 : Int32) (l5 : Int32) (u : RSt) : Option (Int32 × RSt) := bn (F_has N 230 u) fun r_2 u_1 => R_117 (l1, l3, l4, (l5 + 1), r_2, u_1)
set_option maxHeartbeats 4000000 in
theorem b_runs_275 {r : Int32} (X : RC p s m args c cX12_runs 12 (Cond.code yX12_runs cX12_runs 12 none) D kA V A) (hE : REv p l e R s m args below meth c cX12_runs D kA Z A Q w) (hF : 413 ≤ R.frames) (hL : 24525 ≤ R.locals) {R_117 : Int32 × Int32 × Int32 × Int32 × Int32 × RSt → Option (Int32 × RSt)} {l1 : Int32} {l3 : Int32} {l4 : Int32} {l5 : Int32} (hR_117 : ∀ (l1 : Int32) (l3 : Int32) (l4 : Int32) (l5 : Int32) (l6 : Int32) (u : RSt), R_117 (l1, l3, l4, l5, l6, u) = some (r, w) → ∀ (H : Heap) (locs : List Loc) (ls : Array Slot), RS D kA Z A s u H locs → lv_has ls 12 [(0, .ref (Z 200)), (1, .int l1), (3, .int l3), (4, .int l4), (5, .int l5), (6, .int l6)] → W p l e R s m args below meth c H locs 0 0 Q (F0 m 117 ls [])) {u : RSt} (h : B_runs_275 N R_117 l1 l3 l4 l5 u = some (r, w)) (hS : RS D kA Z A s u H locs) (hl : lv_has ls 12 [(0, .ref (Z 200)), (1, .int l1), (3, .int l3), (4, .int l4), (5, .int l5)]) : W p l e R s m args below meth c H locs 0 0 Q (F0 m 275 ls []) := by
  obtain ⟨⟨hx, hb, hml, hown, hts⟩, hK, hEV, hA⟩ := id X
  have hG : ∀ w ∈ GW, w.before args s = true := fun w h => hts w (List.mem_cons_of_mem _ h)
  unfold B_runs_275 at h
  refine lv_iinc (v := l5 + 1) (lv' := [(5, .int (l5 + 1)), (0, .ref (Z 200)), (1, .int l1), (3, .int l3), (4, .int l4)]) hx hb dX12_runs_275 hl (k := 4) rfl rfl (by decide) rfl (fun ls hl => ?_)
  refine lv_aload_n hx hb dX12_runs_278 rfl (lv_at hl 1 rfl) ?_
  refine lv_sipush (v := 230) hx hb dX12_runs_279 (by decide) ?_
  obtain ⟨r_2, u_1, h_u_1, h⟩ := bn_of h
  refine kc_has X hS h_u_1 (Nat.le_trans (Nat.le_of_ble_eq_true rfl) hF) (Nat.le_trans (Nat.le_of_ble_eq_true rfl) hL) hl.1 (Nat.le_of_ble_eq_true rfl) dX12_runs_282 (fun H locs hS => ?_)
  refine lv_istore (lv' := [(6, .int r_2), (5, .int (l5 + 1)), (0, .ref (Z 200)), (1, .int l1), (3, .int l3), (4, .int l4)]) hx hb dX12_runs_285 hl (by decide) rfl (fun ls hl => ?_)
  refine lv_goto (tgt := 117) hx hb dX12_runs_287 (by decide) ?_
  exact hR_117 _ _ _ _ _ _ h _ _ _ hS (lv_sub hl [2, 3, 4, 5, 1, 0] rfl)
def B_runs_215 (N : Nat) (R_117 : Int32 × Int32 × Int32 × Int32 × Int32 × RSt → Option (Int32 × RSt)) (l1 : Int32) (l3 : Int32) (l4 : Int32) (l5 : Int32) (l7 : Int32) (l8 : Int32) (s0 : Int32) (u : RSt) : Option (Int32 × RSt) := rd (u.2.2.1 3) 1502 (u.1 65) fun v_3 => bn (G_expression N u) fun r_6 u_5 => if l7 = (0 : Int32) then (B_runs_275 N R_117 l1 l3 l4 l5 u_5) else (rd (u_5.2.2.1 20) 320 l8 fun v_8 => bn (F_isTooWide N r_6 v_8 u_5) fun r_11 u_10 => bn (F_wrong N r_11 4 v_3 u_10) fun _ u_12 => rd (u_12.2.2.1 20) 320 l8 fun v_13 => bn (F_emit N 18 v_13 0 u_12) fun r_16 u_15 => B_runs_275 N R_117 l1 l3 l4 l5 u_15)
set_option maxHeartbeats 4000000 in
theorem b_runs_215 {r : Int32} (X : RC p s m args c cX12_runs 12 (Cond.code yX12_runs cX12_runs 12 none) D kA V A) (hE : REv p l e R s m args below meth c cX12_runs D kA Z A Q w) (hF : 413 ≤ R.frames) (hL : 24525 ≤ R.locals) {R_117 : Int32 × Int32 × Int32 × Int32 × Int32 × RSt → Option (Int32 × RSt)} {l1 : Int32} {l3 : Int32} {l4 : Int32} {l5 : Int32} {l7 : Int32} {l8 : Int32} {s0 : Int32} (hR_117 : ∀ (l1 : Int32) (l3 : Int32) (l4 : Int32) (l5 : Int32) (l6 : Int32) (u : RSt), R_117 (l1, l3, l4, l5, l6, u) = some (r, w) → ∀ (H : Heap) (locs : List Loc) (ls : Array Slot), RS D kA Z A s u H locs → lv_has ls 12 [(0, .ref (Z 200)), (1, .int l1), (3, .int l3), (4, .int l4), (5, .int l5), (6, .int l6)] → W p l e R s m args below meth c H locs 0 0 Q (F0 m 117 ls [])) {u : RSt} (h : B_runs_215 N R_117 l1 l3 l4 l5 l7 l8 s0 u = some (r, w)) (hS : RS D kA Z A s u H locs) (hl : lv_has ls 12 [(0, .ref (Z 200)), (1, .int l1), (3, .int l3), (4, .int l4), (5, .int l5), (7, .int l7), (8, .int l8)]) : W p l e R s m args below meth c H locs 0 0 Q (F0 m 215 ls [.int s0]) := by
  obtain ⟨⟨hx, hb, hml, hown, hts⟩, hK, hEV, hA⟩ := id X
  have hG : ∀ w ∈ GW, w.before args s = true := fun w h => hts w (List.mem_cons_of_mem _ h)
  unfold B_runs_215 at h
  refine lv_istore (lv' := [(9, .int s0), (0, .ref (Z 200)), (1, .int l1), (3, .int l3), (4, .int l4), (5, .int l5), (7, .int l7), (8, .int l8)]) hx hb dX12_runs_215 hl (by decide) rfl (fun ls hl => ?_)
  refine lv_aload_n hx hb dX12_runs_217 rfl (lv_at hl 1 rfl) ?_
  refine rg_3 X hS dX12_runs_218 ?_
  refine lv_aload_n hx hb dX12_runs_221 rfl (lv_at hl 1 rfl) ?_
  refine rg_65 X hS dX12_runs_222 ?_
  obtain ⟨v_3, e_v_3, i_4, h⟩ := rd_of h
  refine ra_3 X hS i_4 e_v_3 dX12_runs_225 ?_
  refine lv_istore (lv' := [(10, .int v_3), (9, .int s0), (0, .ref (Z 200)), (1, .int l1), (3, .int l3), (4, .int l4), (5, .int l5), (7, .int l7), (8, .int l8)]) hx hb dX12_runs_226 hl (by decide) rfl (fun ls hl => ?_)
  refine lv_aload_n hx hb dX12_runs_228 rfl (lv_at hl 2 rfl) ?_
  obtain ⟨r_6, u_5, h_u_5, h⟩ := bn_of h
  refine kg_expression X hS h_u_5 (Nat.le_trans (Nat.le_of_ble_eq_true rfl) hF) (Nat.le_trans (Nat.le_of_ble_eq_true rfl) hL) hl.1 (Nat.le_of_ble_eq_true rfl) dX12_runs_229 (fun H locs hS => ?_)
  refine lv_istore (lv' := [(11, .int r_6), (10, .int v_3), (9, .int s0), (0, .ref (Z 200)), (1, .int l1), (3, .int l3), (4, .int l4), (5, .int l5), (7, .int l7), (8, .int l8)]) hx hb dX12_runs_232 hl (by decide) rfl (fun ls hl => ?_)
  refine lv_iload hx hb dX12_runs_234 (lv_at hl 8 rfl) ?_
  refine lv_if_eq (tgt := 275) hx hb dX12_runs_236 (by decide) (fun c_7 => ?_) (fun c_7 => ?_)
  · have h := ip (c_7) h
    exact b_runs_275 X hE hF hL hR_117 h hS (lv_sub hl [3, 4, 5, 6, 7] rfl)
  · have h := im (c_7) h
    refine lv_aload_n hx hb dX12_runs_239 rfl (lv_at hl 3 rfl) ?_
    refine lv_aload_n hx hb dX12_runs_240 rfl (lv_at hl 3 rfl) ?_
    refine lv_iload hx hb dX12_runs_241 (lv_at hl 0 rfl) ?_
    refine lv_aload_n hx hb dX12_runs_243 rfl (lv_at hl 3 rfl) ?_
    refine rg_20 X hS dX12_runs_244 ?_
    refine lv_iload hx hb dX12_runs_247 (lv_at hl 9 rfl) ?_
    obtain ⟨v_8, e_v_8, i_9, h⟩ := rd_of h
    refine ra_20 X hS i_9 e_v_8 dX12_runs_249 ?_
    obtain ⟨r_11, u_10, h_u_10, h⟩ := bn_of h
    refine kc_isTooWide X hS h_u_10 (Nat.le_trans (Nat.le_of_ble_eq_true rfl) hF) (Nat.le_trans (Nat.le_of_ble_eq_true rfl) hL) hl.1 (Nat.le_of_ble_eq_true rfl) dX12_runs_250 (fun H locs hS => ?_)
    refine lv_iconst (v := 4) hx hb dX12_runs_253 (by decide) ?_
    refine lv_iload hx hb dX12_runs_254 (lv_at hl 1 rfl) ?_
    obtain ⟨r_u_12, u_12, h_u_12, h⟩ := bn_of h
    refine kc_wrong X hS h_u_12 (Nat.le_trans (Nat.le_of_ble_eq_true rfl) hF) (Nat.le_trans (Nat.le_of_ble_eq_true rfl) hL) hl.1 (Nat.le_of_ble_eq_true rfl) dX12_runs_256 (fun H locs hS => ?_)
    refine lv_aload_n hx hb dX12_runs_259 rfl (lv_at hl 3 rfl) ?_
    refine lv_bipush (v := 18) hx hb dX12_runs_260 (by decide) ?_
    refine lv_aload_n hx hb dX12_runs_262 rfl (lv_at hl 3 rfl) ?_
    refine rg_20 X hS dX12_runs_263 ?_
    refine lv_iload hx hb dX12_runs_266 (lv_at hl 9 rfl) ?_
    obtain ⟨v_13, e_v_13, i_14, h⟩ := rd_of h
    refine ra_20 X hS i_14 e_v_13 dX12_runs_268 ?_
    refine lv_iconst (v := 0) hx hb dX12_runs_269 (by decide) ?_
    obtain ⟨r_16, u_15, h_u_15, h⟩ := bn_of h
    refine kc_emit X hS h_u_15 (Nat.le_trans (Nat.le_of_ble_eq_true rfl) hF) (Nat.le_trans (Nat.le_of_ble_eq_true rfl) hL) hl.1 (Nat.le_of_ble_eq_true rfl) dX12_runs_270 (fun H locs hS => ?_)
    refine lv_istore (lv' := [(9, .int r_16), (11, .int r_6), (10, .int v_3), (0, .ref (Z 200)), (1, .int l1), (3, .int l3), (4, .int l4), (5, .int l5), (7, .int l7), (8, .int l8)]) hx hb dX12_runs_273 hl (by decide) rfl (fun ls hl => ?_)
    exact b_runs_275 X hE hF hL hR_117 h hS (lv_sub hl [3, 4, 5, 6, 7] rfl)
def B_runs_183 (N : Nat) (R_117 : Int32 × Int32 × Int32 × Int32 × Int32 × RSt → Option (Int32 × RSt)) (l1 : Int32) (l3 : Int32) (l4 : Int32) (l5 : Int32) (l7 : Int32) (s0 : Int32) (u : RSt) : Option (Int32 × RSt) := if l7 = (0 : Int32) then (B_runs_215 N R_117 l1 l3 l4 l5 l7 s0 0 u) else (rd (u.2.2.1 39) 48 l3 fun v_18 => rd (u.2.2.1 23) 320 s0 fun v_20 => bn (F_emit N 10 (v_18 + v_20) 0 u) fun r_23 u_22 => B_runs_215 N R_117 l1 l3 l4 l5 l7 s0 r_23 u_22)
set_option maxHeartbeats 4000000 in
theorem b_runs_183 {r : Int32} (X : RC p s m args c cX12_runs 12 (Cond.code yX12_runs cX12_runs 12 none) D kA V A) (hE : REv p l e R s m args below meth c cX12_runs D kA Z A Q w) (hF : 413 ≤ R.frames) (hL : 24525 ≤ R.locals) {R_117 : Int32 × Int32 × Int32 × Int32 × Int32 × RSt → Option (Int32 × RSt)} {l1 : Int32} {l3 : Int32} {l4 : Int32} {l5 : Int32} {l7 : Int32} {s0 : Int32} (hR_117 : ∀ (l1 : Int32) (l3 : Int32) (l4 : Int32) (l5 : Int32) (l6 : Int32) (u : RSt), R_117 (l1, l3, l4, l5, l6, u) = some (r, w) → ∀ (H : Heap) (locs : List Loc) (ls : Array Slot), RS D kA Z A s u H locs → lv_has ls 12 [(0, .ref (Z 200)), (1, .int l1), (3, .int l3), (4, .int l4), (5, .int l5), (6, .int l6)] → W p l e R s m args below meth c H locs 0 0 Q (F0 m 117 ls [])) {u : RSt} (h : B_runs_183 N R_117 l1 l3 l4 l5 l7 s0 u = some (r, w)) (hS : RS D kA Z A s u H locs) (hl : lv_has ls 12 [(0, .ref (Z 200)), (1, .int l1), (3, .int l3), (4, .int l4), (5, .int l5), (7, .int l7)]) : W p l e R s m args below meth c H locs 0 0 Q (F0 m 183 ls [.int s0]) := by
  obtain ⟨⟨hx, hb, hml, hown, hts⟩, hK, hEV, hA⟩ := id X
  have hG : ∀ w ∈ GW, w.before args s = true := fun w h => hts w (List.mem_cons_of_mem _ h)
  unfold B_runs_183 at h
  refine lv_istore (lv' := [(8, .int s0), (0, .ref (Z 200)), (1, .int l1), (3, .int l3), (4, .int l4), (5, .int l5), (7, .int l7)]) hx hb dX12_runs_183 hl (by decide) rfl (fun ls hl => ?_)
  refine lv_iload hx hb dX12_runs_185 (lv_at hl 6 rfl) ?_
  refine lv_if_eq (tgt := 214) hx hb dX12_runs_187 (by decide) (fun c_17 => ?_) (fun c_17 => ?_)
  · have h := ip (c_17) h
    refine lv_iconst (v := 0) hx hb dX12_runs_214 (by decide) ?_
    exact b_runs_215 X hE hF hL hR_117 h hS (lv_sub hl [1, 2, 3, 4, 5, 6, 0] rfl)
  · have h := im (c_17) h
    refine lv_aload_n hx hb dX12_runs_190 rfl (lv_at hl 1 rfl) ?_
    refine lv_bipush (v := 10) hx hb dX12_runs_191 (by decide) ?_
    refine lv_aload_n hx hb dX12_runs_193 rfl (lv_at hl 1 rfl) ?_
    refine rg_39 X hS dX12_runs_194 ?_
    refine lv_iload_n hx hb dX12_runs_197 rfl (lv_at hl 3 rfl) ?_
    obtain ⟨v_18, e_v_18, i_19, h⟩ := rd_of h
    refine ra_39 X hS i_19 e_v_18 dX12_runs_198 ?_
    refine lv_aload_n hx hb dX12_runs_199 rfl (lv_at hl 1 rfl) ?_
    refine rg_23 X hS dX12_runs_200 ?_
    refine lv_iload hx hb dX12_runs_203 (lv_at hl 0 rfl) ?_
    obtain ⟨v_20, e_v_20, i_21, h⟩ := rd_of h
    refine ra_23 X hS i_21 e_v_20 dX12_runs_205 ?_
    refine lv_iadd hx hb dX12_runs_206 ?_
    refine lv_iconst (v := 0) hx hb dX12_runs_207 (by decide) ?_
    obtain ⟨r_23, u_22, h_u_22, h⟩ := bn_of h
    refine kc_emit X hS h_u_22 (Nat.le_trans (Nat.le_of_ble_eq_true rfl) hF) (Nat.le_trans (Nat.le_of_ble_eq_true rfl) hL) hl.1 (Nat.le_of_ble_eq_true rfl) dX12_runs_208 (fun H locs hS => ?_)
    refine lv_goto (tgt := 215) hx hb dX12_runs_211 (by decide) ?_
    exact b_runs_215 X hE hF hL hR_117 h hS (lv_sub hl [1, 2, 3, 4, 5, 6, 0] rfl)
def B_runs_153 (N : Nat) (R_117 : Int32 × Int32 × Int32 × Int32 × Int32 × RSt → Option (Int32 × RSt)) (l1 : Int32) (l3 : Int32) (l4 : Int32) (l5 : Int32) (s0 : Int32) (u : RSt) : Option (Int32 × RSt) := if s0 = (0 : Int32) then (B_runs_183 N R_117 l1 l3 l4 l5 s0 0 u) else (rd (u.2.2.1 28) 48 l4 fun v_25 => B_runs_183 N R_117 l1 l3 l4 l5 s0 (((160 * (u.1 56)) + v_25) + l5) u)
set_option maxHeartbeats 4000000 in
theorem b_runs_153 {r : Int32} (X : RC p s m args c cX12_runs 12 (Cond.code yX12_runs cX12_runs 12 none) D kA V A) (hE : REv p l e R s m args below meth c cX12_runs D kA Z A Q w) (hF : 413 ≤ R.frames) (hL : 24525 ≤ R.locals) {R_117 : Int32 × Int32 × Int32 × Int32 × Int32 × RSt → Option (Int32 × RSt)} {l1 : Int32} {l3 : Int32} {l4 : Int32} {l5 : Int32} {s0 : Int32} (hR_117 : ∀ (l1 : Int32) (l3 : Int32) (l4 : Int32) (l5 : Int32) (l6 : Int32) (u : RSt), R_117 (l1, l3, l4, l5, l6, u) = some (r, w) → ∀ (H : Heap) (locs : List Loc) (ls : Array Slot), RS D kA Z A s u H locs → lv_has ls 12 [(0, .ref (Z 200)), (1, .int l1), (3, .int l3), (4, .int l4), (5, .int l5), (6, .int l6)] → W p l e R s m args below meth c H locs 0 0 Q (F0 m 117 ls [])) {u : RSt} (h : B_runs_153 N R_117 l1 l3 l4 l5 s0 u = some (r, w)) (hS : RS D kA Z A s u H locs) (hl : lv_has ls 12 [(0, .ref (Z 200)), (1, .int l1), (3, .int l3), (4, .int l4), (5, .int l5)]) : W p l e R s m args below meth c H locs 0 0 Q (F0 m 153 ls [.int s0]) := by
  obtain ⟨⟨hx, hb, hml, hown, hts⟩, hK, hEV, hA⟩ := id X
  have hG : ∀ w ∈ GW, w.before args s = true := fun w h => hts w (List.mem_cons_of_mem _ h)
  unfold B_runs_153 at h
  refine lv_istore (lv' := [(7, .int s0), (0, .ref (Z 200)), (1, .int l1), (3, .int l3), (4, .int l4), (5, .int l5)]) hx hb dX12_runs_153 hl (by decide) rfl (fun ls hl => ?_)
  refine lv_iload hx hb dX12_runs_155 (lv_at hl 0 rfl) ?_
  refine lv_if_eq (tgt := 182) hx hb dX12_runs_157 (by decide) (fun c_24 => ?_) (fun c_24 => ?_)
  · have h := ip (c_24) h
    refine lv_iconst (v := 0) hx hb dX12_runs_182 (by decide) ?_
    exact b_runs_183 X hE hF hL hR_117 h hS (lv_sub hl [1, 2, 3, 4, 5, 0] rfl)
  · have h := im (c_24) h
    refine lv_sipush (v := 160) hx hb dX12_runs_160 (by decide) ?_
    refine lv_aload_n hx hb dX12_runs_163 rfl (lv_at hl 1 rfl) ?_
    refine rg_56 X hS dX12_runs_164 ?_
    refine lv_imul hx hb dX12_runs_167 ?_
    refine lv_aload_n hx hb dX12_runs_168 rfl (lv_at hl 1 rfl) ?_
    refine rg_28 X hS dX12_runs_169 ?_
    refine lv_iload hx hb dX12_runs_172 (lv_at hl 4 rfl) ?_
    obtain ⟨v_25, e_v_25, i_26, h⟩ := rd_of h
    refine ra_28 X hS i_26 e_v_25 dX12_runs_174 ?_
    refine lv_iadd hx hb dX12_runs_175 ?_
    refine lv_iload hx hb dX12_runs_176 (lv_at hl 5 rfl) ?_
    refine lv_iadd hx hb dX12_runs_178 ?_
    refine lv_goto (tgt := 183) hx hb dX12_runs_179 (by decide) ?_
    exact b_runs_183 X hE hF hL hR_117 h hS (lv_sub hl [1, 2, 3, 4, 5, 0] rfl)
def B_runs_152 (N : Nat) (R_117 : Int32 × Int32 × Int32 × Int32 × Int32 × RSt → Option (Int32 × RSt)) (l1 : Int32) (l3 : Int32) (l4 : Int32) (l5 : Int32) (u : RSt) : Option (Int32 × RSt) := B_runs_153 N R_117 l1 l3 l4 l5 0 u
set_option maxHeartbeats 4000000 in
theorem b_runs_152 {r : Int32} (X : RC p s m args c cX12_runs 12 (Cond.code yX12_runs cX12_runs 12 none) D kA V A) (hE : REv p l e R s m args below meth c cX12_runs D kA Z A Q w) (hF : 413 ≤ R.frames) (hL : 24525 ≤ R.locals) {R_117 : Int32 × Int32 × Int32 × Int32 × Int32 × RSt → Option (Int32 × RSt)} {l1 : Int32} {l3 : Int32} {l4 : Int32} {l5 : Int32} (hR_117 : ∀ (l1 : Int32) (l3 : Int32) (l4 : Int32) (l5 : Int32) (l6 : Int32) (u : RSt), R_117 (l1, l3, l4, l5, l6, u) = some (r, w) → ∀ (H : Heap) (locs : List Loc) (ls : Array Slot), RS D kA Z A s u H locs → lv_has ls 12 [(0, .ref (Z 200)), (1, .int l1), (3, .int l3), (4, .int l4), (5, .int l5), (6, .int l6)] → W p l e R s m args below meth c H locs 0 0 Q (F0 m 117 ls [])) {u : RSt} (h : B_runs_152 N R_117 l1 l3 l4 l5 u = some (r, w)) (hS : RS D kA Z A s u H locs) (hl : lv_has ls 12 [(0, .ref (Z 200)), (1, .int l1), (3, .int l3), (4, .int l4), (5, .int l5)]) : W p l e R s m args below meth c H locs 0 0 Q (F0 m 152 ls []) := by
  obtain ⟨⟨hx, hb, hml, hown, hts⟩, hK, hEV, hA⟩ := id X
  have hG : ∀ w ∈ GW, w.before args s = true := fun w h => hts w (List.mem_cons_of_mem _ h)
  unfold B_runs_152 at h
  refine lv_iconst (v := 0) hx hb dX12_runs_152 (by decide) ?_
  exact b_runs_153 X hE hF hL hR_117 h hS (lv_sub hl [0, 1, 2, 3, 4] rfl)
def B_runs_344 (N : Nat) (u : RSt) : Option (Int32 × RSt) := bn (F_take N 229 u) fun _ u_27 => some (0, u_27)
set_option maxHeartbeats 4000000 in
theorem b_runs_344 {r : Int32} (X : RC p s m args c cX12_runs 12 (Cond.code yX12_runs cX12_runs 12 none) D kA V A) (hE : REv p l e R s m args below meth c cX12_runs D kA Z A Q w) (hF : 413 ≤ R.frames) (hL : 24525 ≤ R.locals)  {u : RSt} (h : B_runs_344 N u = some (r, w)) (hS : RS D kA Z A s u H locs) (hl : lv_has ls 12 [(0, .ref (Z 200))]) : W p l e R s m args below meth c H locs 0 0 Q (F0 m 344 ls []) := by
  obtain ⟨⟨hx, hb, hml, hown, hts⟩, hK, hEV, hA⟩ := id X
  have hG : ∀ w ∈ GW, w.before args s = true := fun w h => hts w (List.mem_cons_of_mem _ h)
  unfold B_runs_344 at h
  refine lv_aload_n hx hb dX12_runs_344 rfl (lv_at hl 0 rfl) ?_
  refine lv_sipush (v := 229) hx hb dX12_runs_345 (by decide) ?_
  obtain ⟨r_u_27, u_27, h_u_27, h⟩ := bn_of h
  refine kc_take X hS h_u_27 (Nat.le_trans (Nat.le_of_ble_eq_true rfl) hF) (Nat.le_trans (Nat.le_of_ble_eq_true rfl) hL) hl.1 (Nat.le_of_ble_eq_true rfl) dX12_runs_348 (fun H locs hS => ?_)
  obtain ⟨-, rfl⟩ := so h
  exact hE _ _ _ _ hS dX12_runs_351
def B_runs_329 (N : Nat) (l1 : Int32) (l3 : Int32) (s1 : Int32) (u : RSt) : Option (Int32 × RSt) := bn (F_wrong N s1 4 l1 u) fun _ u_28 => bn (F_emit N 32 l3 l1 u_28) fun r_30 u_29 => B_runs_344 N u_29
set_option maxHeartbeats 4000000 in
theorem b_runs_329 {r : Int32} (X : RC p s m args c cX12_runs 12 (Cond.code yX12_runs cX12_runs 12 none) D kA V A) (hE : REv p l e R s m args below meth c cX12_runs D kA Z A Q w) (hF : 413 ≤ R.frames) (hL : 24525 ≤ R.locals) {l1 : Int32} {l3 : Int32} {s1 : Int32}  {u : RSt} (h : B_runs_329 N l1 l3 s1 u = some (r, w)) (hS : RS D kA Z A s u H locs) (hl : lv_has ls 12 [(0, .ref (Z 200)), (1, .int l1), (3, .int l3)]) : W p l e R s m args below meth c H locs 0 0 Q (F0 m 329 ls [.int s1, .ref (Z 200)]) := by
  obtain ⟨⟨hx, hb, hml, hown, hts⟩, hK, hEV, hA⟩ := id X
  have hG : ∀ w ∈ GW, w.before args s = true := fun w h => hts w (List.mem_cons_of_mem _ h)
  unfold B_runs_329 at h
  refine lv_iconst (v := 4) hx hb dX12_runs_329 (by decide) ?_
  refine lv_iload_n hx hb dX12_runs_330 rfl (lv_at hl 1 rfl) ?_
  obtain ⟨r_u_28, u_28, h_u_28, h⟩ := bn_of h
  refine kc_wrong X hS h_u_28 (Nat.le_trans (Nat.le_of_ble_eq_true rfl) hF) (Nat.le_trans (Nat.le_of_ble_eq_true rfl) hL) hl.1 (Nat.le_of_ble_eq_true rfl) dX12_runs_331 (fun H locs hS => ?_)
  refine lv_aload_n hx hb dX12_runs_334 rfl (lv_at hl 0 rfl) ?_
  refine lv_bipush (v := 32) hx hb dX12_runs_335 (by decide) ?_
  refine lv_iload_n hx hb dX12_runs_337 rfl (lv_at hl 2 rfl) ?_
  refine lv_iload_n hx hb dX12_runs_338 rfl (lv_at hl 1 rfl) ?_
  obtain ⟨r_30, u_29, h_u_29, h⟩ := bn_of h
  refine kc_emit X hS h_u_29 (Nat.le_trans (Nat.le_of_ble_eq_true rfl) hF) (Nat.le_trans (Nat.le_of_ble_eq_true rfl) hL) hl.1 (Nat.le_of_ble_eq_true rfl) dX12_runs_339 (fun H locs hS => ?_)
  refine lv_istore (lv' := [(7, .int r_30), (0, .ref (Z 200)), (1, .int l1), (3, .int l3)]) hx hb dX12_runs_342 hl (by decide) rfl (fun ls hl => ?_)
  exact b_runs_344 X hE hF hL  h hS (lv_sub hl [1] rfl)
def B_runs_117 (N : Nat) (R_117 : Int32 × Int32 × Int32 × Int32 × Int32 × RSt → Option (Int32 × RSt)) (l1 : Int32) (l3 : Int32) (l4 : Int32) (l5 : Int32) (l6 : Int32) (u : RSt) : Option (Int32 × RSt) := if l6 = (0 : Int32) then (bn (F_ends N 224 u) fun _ u_32 => if (u_32.1 69) = (0 : Int32) then (B_runs_344 N u_32) else (if (u_32.1 67) = (0 : Int32) then (rd (u_32.2.2.1 30) 48 l4 fun v_35 => if l5 = v_35 then (B_runs_329 N l1 l3 0 u_32) else (B_runs_329 N l1 l3 1 u_32)) else (B_runs_344 N u_32))) else (if (u.1 69) = (0 : Int32) then (B_runs_152 N R_117 l1 l3 l4 l5 u) else (if (u.1 67) = (0 : Int32) then (rd (u.2.2.1 30) 48 l4 fun v_40 => if v_40 ≤ l5 then (B_runs_152 N R_117 l1 l3 l4 l5 u) else (B_runs_153 N R_117 l1 l3 l4 l5 1 u)) else (B_runs_152 N R_117 l1 l3 l4 l5 u)))
set_option maxHeartbeats 4000000 in
theorem b_runs_117 {r : Int32} (X : RC p s m args c cX12_runs 12 (Cond.code yX12_runs cX12_runs 12 none) D kA V A) (hE : REv p l e R s m args below meth c cX12_runs D kA Z A Q w) (hF : 413 ≤ R.frames) (hL : 24525 ≤ R.locals) {R_117 : Int32 × Int32 × Int32 × Int32 × Int32 × RSt → Option (Int32 × RSt)} {l1 : Int32} {l3 : Int32} {l4 : Int32} {l5 : Int32} {l6 : Int32} (hR_117 : ∀ (l1 : Int32) (l3 : Int32) (l4 : Int32) (l5 : Int32) (l6 : Int32) (u : RSt), R_117 (l1, l3, l4, l5, l6, u) = some (r, w) → ∀ (H : Heap) (locs : List Loc) (ls : Array Slot), RS D kA Z A s u H locs → lv_has ls 12 [(0, .ref (Z 200)), (1, .int l1), (3, .int l3), (4, .int l4), (5, .int l5), (6, .int l6)] → W p l e R s m args below meth c H locs 0 0 Q (F0 m 117 ls [])) {u : RSt} (h : B_runs_117 N R_117 l1 l3 l4 l5 l6 u = some (r, w)) (hS : RS D kA Z A s u H locs) (hl : lv_has ls 12 [(0, .ref (Z 200)), (1, .int l1), (3, .int l3), (4, .int l4), (5, .int l5), (6, .int l6)]) : W p l e R s m args below meth c H locs 0 0 Q (F0 m 117 ls []) := by
  obtain ⟨⟨hx, hb, hml, hown, hts⟩, hK, hEV, hA⟩ := id X
  have hG : ∀ w ∈ GW, w.before args s = true := fun w h => hts w (List.mem_cons_of_mem _ h)
  unfold B_runs_117 at h
  refine lv_iload hx hb dX12_runs_117 (lv_at hl 5 rfl) ?_
  refine lv_if_eq (tgt := 290) hx hb dX12_runs_119 (by decide) (fun c_31 => ?_) (fun c_31 => ?_)
  · have h := ip (c_31) h
    refine lv_aload_n hx hb dX12_runs_290 rfl (lv_at hl 0 rfl) ?_
    refine lv_sipush (v := 224) hx hb dX12_runs_291 (by decide) ?_
    obtain ⟨r_u_32, u_32, h_u_32, h⟩ := bn_of h
    refine kc_ends X hS h_u_32 (Nat.le_trans (Nat.le_of_ble_eq_true rfl) hF) (Nat.le_trans (Nat.le_of_ble_eq_true rfl) hL) hl.1 (Nat.le_of_ble_eq_true rfl) dX12_runs_294 (fun H locs hS => ?_)
    refine lv_aload_n hx hb dX12_runs_297 rfl (lv_at hl 0 rfl) ?_
    refine rg_69 X hS dX12_runs_298 ?_
    refine lv_if_eq (tgt := 344) hx hb dX12_runs_301 (by decide) (fun c_33 => ?_) (fun c_33 => ?_)
    · have h := ip (c_33) h
      exact b_runs_344 X hE hF hL  h hS (lv_sub hl [0] rfl)
    · have h := im (c_33) h
      refine lv_aload_n hx hb dX12_runs_304 rfl (lv_at hl 0 rfl) ?_
      refine rg_67 X hS dX12_runs_305 ?_
      refine lv_if_ne (tgt := 344) hx hb dX12_runs_308 (by decide) (fun c_34 => ?_) (fun c_34 => ?_)
      · have h := im (c_34) h
        exact b_runs_344 X hE hF hL  h hS (lv_sub hl [0] rfl)
      · have h := ip (c_34) h
        refine lv_aload_n hx hb dX12_runs_311 rfl (lv_at hl 0 rfl) ?_
        refine lv_iload hx hb dX12_runs_312 (lv_at hl 4 rfl) ?_
        refine lv_aload_n hx hb dX12_runs_314 rfl (lv_at hl 0 rfl) ?_
        refine rg_30 X hS dX12_runs_315 ?_
        refine lv_iload hx hb dX12_runs_318 (lv_at hl 3 rfl) ?_
        obtain ⟨v_35, e_v_35, i_36, h⟩ := rd_of h
        refine ra_30 X hS i_36 e_v_35 dX12_runs_320 ?_
        refine lv_icmp_eq (tgt := 328) hx hb dX12_runs_321 (by decide) (fun c_37 => ?_) (fun c_37 => ?_)
        · have h := ip (c_37) h
          refine lv_iconst (v := 0) hx hb dX12_runs_328 (by decide) ?_
          exact b_runs_329 X hE hF hL  h hS (lv_sub hl [0, 1, 2] rfl)
        · have h := im (c_37) h
          refine lv_iconst (v := 1) hx hb dX12_runs_324 (by decide) ?_
          refine lv_goto (tgt := 329) hx hb dX12_runs_325 (by decide) ?_
          exact b_runs_329 X hE hF hL  h hS (lv_sub hl [0, 1, 2] rfl)
  · have h := im (c_31) h
    refine lv_aload_n hx hb dX12_runs_122 rfl (lv_at hl 0 rfl) ?_
    refine rg_69 X hS dX12_runs_123 ?_
    refine lv_if_eq (tgt := 152) hx hb dX12_runs_126 (by decide) (fun c_38 => ?_) (fun c_38 => ?_)
    · have h := ip (c_38) h
      exact b_runs_152 X hE hF hL hR_117 h hS (lv_sub hl [0, 1, 2, 3, 4] rfl)
    · have h := im (c_38) h
      refine lv_aload_n hx hb dX12_runs_129 rfl (lv_at hl 0 rfl) ?_
      refine rg_67 X hS dX12_runs_130 ?_
      refine lv_if_ne (tgt := 152) hx hb dX12_runs_133 (by decide) (fun c_39 => ?_) (fun c_39 => ?_)
      · have h := im (c_39) h
        exact b_runs_152 X hE hF hL hR_117 h hS (lv_sub hl [0, 1, 2, 3, 4] rfl)
      · have h := ip (c_39) h
        refine lv_iload hx hb dX12_runs_136 (lv_at hl 4 rfl) ?_
        refine lv_aload_n hx hb dX12_runs_138 rfl (lv_at hl 0 rfl) ?_
        refine rg_30 X hS dX12_runs_139 ?_
        refine lv_iload hx hb dX12_runs_142 (lv_at hl 3 rfl) ?_
        obtain ⟨v_40, e_v_40, i_41, h⟩ := rd_of h
        refine ra_30 X hS i_41 e_v_40 dX12_runs_144 ?_
        refine lv_icmp_ge (tgt := 152) hx hb dX12_runs_145 (by decide) (fun c_42 => ?_) (fun c_42 => ?_)
        · have h := ip (c_42) h
          exact b_runs_152 X hE hF hL hR_117 h hS (lv_sub hl [0, 1, 2, 3, 4] rfl)
        · have h := im (c_42) h
          refine lv_iconst (v := 1) hx hb dX12_runs_148 (by decide) ?_
          refine lv_goto (tgt := 153) hx hb dX12_runs_149 (by decide) ?_
          exact b_runs_153 X hE hF hL hR_117 h hS (lv_sub hl [0, 1, 2, 3, 4] rfl)
def LP_runs_117 (N : Nat) : Nat → Int32 × Int32 × Int32 × Int32 × Int32 × RSt → Option (Int32 × RSt) := lp (fun R a => B_runs_117 N R a.1 a.2.1 a.2.2.1 a.2.2.2.1 a.2.2.2.2.1 a.2.2.2.2.2)
theorem bl_runs_117 {r : Int32} (X : RC p s m args c cX12_runs 12 (Cond.code yX12_runs cX12_runs 12 none) D kA V A) (hE : REv p l e R s m args below meth c cX12_runs D kA Z A Q w) (hF : 413 ≤ R.frames) (hL : 24525 ≤ R.locals)  : ∀ (n : Nat) (l1 : Int32) (l3 : Int32) (l4 : Int32) (l5 : Int32) (l6 : Int32) (u : RSt), LP_runs_117 N n (l1, l3, l4, l5, l6, u) = some (r, w) → ∀ (H : Heap) (locs : List Loc) (ls : Array Slot), RS D kA Z A s u H locs → lv_has ls 12 [(0, .ref (Z 200)), (1, .int l1), (3, .int l3), (4, .int l4), (5, .int l5), (6, .int l6)] → W p l e R s m args below meth c H locs 0 0 Q (F0 m 117 ls []) := by
  intro n
  induction n with
  | zero => intro l1 l3 l4 l5 l6 u h; exact nomatch h
  | succ n ih => intro l1 l3 l4 l5 l6 u h H locs ls hS hl; exact b_runs_117 (N := N) (R_117 := LP_runs_117 N n) X hE hF hL  ih h hS hl
def B_runs_115 (N : Nat) (l1 : Int32) (l3 : Int32) (l4 : Int32) (l5 : Int32) (s0 : Int32) (u : RSt) : Option (Int32 × RSt) := LP_runs_117 N N (l1, l3, l4, l5, s0, u)
set_option maxHeartbeats 4000000 in
theorem b_runs_115 {r : Int32} (X : RC p s m args c cX12_runs 12 (Cond.code yX12_runs cX12_runs 12 none) D kA V A) (hE : REv p l e R s m args below meth c cX12_runs D kA Z A Q w) (hF : 413 ≤ R.frames) (hL : 24525 ≤ R.locals) {l1 : Int32} {l3 : Int32} {l4 : Int32} {l5 : Int32} {s0 : Int32}  {u : RSt} (h : B_runs_115 N l1 l3 l4 l5 s0 u = some (r, w)) (hS : RS D kA Z A s u H locs) (hl : lv_has ls 12 [(0, .ref (Z 200)), (1, .int l1), (3, .int l3), (4, .int l4), (5, .int l5)]) : W p l e R s m args below meth c H locs 0 0 Q (F0 m 115 ls [.int s0]) := by
  obtain ⟨⟨hx, hb, hml, hown, hts⟩, hK, hEV, hA⟩ := id X
  have hG : ∀ w ∈ GW, w.before args s = true := fun w h => hts w (List.mem_cons_of_mem _ h)
  unfold B_runs_115 at h
  refine lv_istore (lv' := [(6, .int s0), (0, .ref (Z 200)), (1, .int l1), (3, .int l3), (4, .int l4), (5, .int l5)]) hx hb dX12_runs_115 hl (by decide) rfl (fun ls hl => ?_)
  exact bl_runs_117 X hE hF hL  _ _ _ _ _ _ _ h _ _ _ hS (lv_sub hl [1, 2, 3, 4, 5, 0] rfl)
def B_runs_114 (N : Nat) (l1 : Int32) (l3 : Int32) (l4 : Int32) (l5 : Int32) (u : RSt) : Option (Int32 × RSt) := B_runs_115 N l1 l3 l4 l5 0 u
set_option maxHeartbeats 4000000 in
theorem b_runs_114 {r : Int32} (X : RC p s m args c cX12_runs 12 (Cond.code yX12_runs cX12_runs 12 none) D kA V A) (hE : REv p l e R s m args below meth c cX12_runs D kA Z A Q w) (hF : 413 ≤ R.frames) (hL : 24525 ≤ R.locals) {l1 : Int32} {l3 : Int32} {l4 : Int32} {l5 : Int32}  {u : RSt} (h : B_runs_114 N l1 l3 l4 l5 u = some (r, w)) (hS : RS D kA Z A s u H locs) (hl : lv_has ls 12 [(0, .ref (Z 200)), (1, .int l1), (3, .int l3), (4, .int l4), (5, .int l5)]) : W p l e R s m args below meth c H locs 0 0 Q (F0 m 114 ls []) := by
  obtain ⟨⟨hx, hb, hml, hown, hts⟩, hK, hEV, hA⟩ := id X
  have hG : ∀ w ∈ GW, w.before args s = true := fun w h => hts w (List.mem_cons_of_mem _ h)
  unfold B_runs_114 at h
  refine lv_iconst (v := 0) hx hb dX12_runs_114 (by decide) ?_
  exact b_runs_115 X hE hF hL  h hS (lv_sub hl [0, 1, 2, 3, 4] rfl)
def B_runs_81 (N : Nat) (l1 : Int32) (l3 : Int32) (s0 : Int32) (u : RSt) : Option (Int32 × RSt) := bn (F_begins N 223 u) fun _ u_43 => if (u_43.1 67) = (0 : Int32) then (bn (F_is N 224 u_43) fun r_46 u_45 => if r_46 = (0 : Int32) then (B_runs_115 N l1 l3 s0 0 1 u_45) else (B_runs_114 N l1 l3 s0 0 u_45)) else (B_runs_114 N l1 l3 s0 0 u_43)
set_option maxHeartbeats 4000000 in
theorem b_runs_81 {r : Int32} (X : RC p s m args c cX12_runs 12 (Cond.code yX12_runs cX12_runs 12 none) D kA V A) (hE : REv p l e R s m args below meth c cX12_runs D kA Z A Q w) (hF : 413 ≤ R.frames) (hL : 24525 ≤ R.locals) {l1 : Int32} {l3 : Int32} {s0 : Int32}  {u : RSt} (h : B_runs_81 N l1 l3 s0 u = some (r, w)) (hS : RS D kA Z A s u H locs) (hl : lv_has ls 12 [(0, .ref (Z 200)), (1, .int l1), (3, .int l3)]) : W p l e R s m args below meth c H locs 0 0 Q (F0 m 81 ls [.int s0]) := by
  obtain ⟨⟨hx, hb, hml, hown, hts⟩, hK, hEV, hA⟩ := id X
  have hG : ∀ w ∈ GW, w.before args s = true := fun w h => hts w (List.mem_cons_of_mem _ h)
  unfold B_runs_81 at h
  refine lv_istore (lv' := [(4, .int s0), (0, .ref (Z 200)), (1, .int l1), (3, .int l3)]) hx hb dX12_runs_81 hl (by decide) rfl (fun ls hl => ?_)
  refine lv_iconst (v := 0) hx hb dX12_runs_83 (by decide) ?_
  refine lv_istore (lv' := [(5, .int 0), (4, .int s0), (0, .ref (Z 200)), (1, .int l1), (3, .int l3)]) hx hb dX12_runs_84 hl (by decide) rfl (fun ls hl => ?_)
  refine lv_aload_n hx hb dX12_runs_86 rfl (lv_at hl 2 rfl) ?_
  refine lv_sipush (v := 223) hx hb dX12_runs_87 (by decide) ?_
  obtain ⟨r_u_43, u_43, h_u_43, h⟩ := bn_of h
  refine kc_begins X hS h_u_43 (Nat.le_trans (Nat.le_of_ble_eq_true rfl) hF) (Nat.le_trans (Nat.le_of_ble_eq_true rfl) hL) hl.1 (Nat.le_of_ble_eq_true rfl) dX12_runs_90 (fun H locs hS => ?_)
  refine lv_aload_n hx hb dX12_runs_93 rfl (lv_at hl 2 rfl) ?_
  refine rg_67 X hS dX12_runs_94 ?_
  refine lv_if_ne (tgt := 114) hx hb dX12_runs_97 (by decide) (fun c_44 => ?_) (fun c_44 => ?_)
  · have h := im (c_44) h
    exact b_runs_114 X hE hF hL  h hS (lv_sub hl [2, 3, 4, 1, 0] rfl)
  · have h := ip (c_44) h
    refine lv_aload_n hx hb dX12_runs_100 rfl (lv_at hl 2 rfl) ?_
    refine lv_sipush (v := 224) hx hb dX12_runs_101 (by decide) ?_
    obtain ⟨r_46, u_45, h_u_45, h⟩ := bn_of h
    refine kc_is X hS h_u_45 (Nat.le_trans (Nat.le_of_ble_eq_true rfl) hF) (Nat.le_trans (Nat.le_of_ble_eq_true rfl) hL) hl.1 (Nat.le_of_ble_eq_true rfl) dX12_runs_104 (fun H locs hS => ?_)
    refine lv_if_ne (tgt := 114) hx hb dX12_runs_107 (by decide) (fun c_47 => ?_) (fun c_47 => ?_)
    · have h := im (c_47) h
      exact b_runs_114 X hE hF hL  h hS (lv_sub hl [2, 3, 4, 1, 0] rfl)
    · have h := ip (c_47) h
      refine lv_iconst (v := 1) hx hb dX12_runs_110 (by decide) ?_
      refine lv_goto (tgt := 115) hx hb dX12_runs_111 (by decide) ?_
      exact b_runs_115 X hE hF hL  h hS (lv_sub hl [2, 3, 4, 1, 0] rfl)
def B_runs_80 (N : Nat) (l1 : Int32) (l3 : Int32) (u : RSt) : Option (Int32 × RSt) := B_runs_81 N l1 l3 0 u
set_option maxHeartbeats 4000000 in
theorem b_runs_80 {r : Int32} (X : RC p s m args c cX12_runs 12 (Cond.code yX12_runs cX12_runs 12 none) D kA V A) (hE : REv p l e R s m args below meth c cX12_runs D kA Z A Q w) (hF : 413 ≤ R.frames) (hL : 24525 ≤ R.locals) {l1 : Int32} {l3 : Int32}  {u : RSt} (h : B_runs_80 N l1 l3 u = some (r, w)) (hS : RS D kA Z A s u H locs) (hl : lv_has ls 12 [(0, .ref (Z 200)), (1, .int l1), (3, .int l3)]) : W p l e R s m args below meth c H locs 0 0 Q (F0 m 80 ls []) := by
  obtain ⟨⟨hx, hb, hml, hown, hts⟩, hK, hEV, hA⟩ := id X
  have hG : ∀ w ∈ GW, w.before args s = true := fun w h => hts w (List.mem_cons_of_mem _ h)
  unfold B_runs_80 at h
  refine lv_iconst (v := 0) hx hb dX12_runs_80 (by decide) ?_
  exact b_runs_81 X hE hF hL  h hS (lv_sub hl [0, 1, 2] rfl)
def B_runs_27 (N : Nat) (l1 : Int32) (l2 : Int32) (s1 : Int32) (u : RSt) : Option (Int32 × RSt) := bn (F_wrong N s1 3 l1 u) fun _ u_48 => bn (F_cost N l1 u_48) fun _ u_49 => pu (sI u_49 65 ((u_49.1 65) + 1)) fun u_50 => if (u_50.1 69) = (0 : Int32) then (B_runs_80 N l1 ((24 * (u_50.1 56)) + l2) u_50) else (if (u_50.1 67) = (0 : Int32) then (rd (u_50.2.2.1 38) 48 ((24 * (u_50.1 56)) + l2) fun v_53 => B_runs_81 N l1 ((24 * (u_50.1 56)) + l2) v_53 u_50) else (B_runs_80 N l1 ((24 * (u_50.1 56)) + l2) u_50))
set_option maxHeartbeats 4000000 in
theorem b_runs_27 {r : Int32} (X : RC p s m args c cX12_runs 12 (Cond.code yX12_runs cX12_runs 12 none) D kA V A) (hE : REv p l e R s m args below meth c cX12_runs D kA Z A Q w) (hF : 413 ≤ R.frames) (hL : 24525 ≤ R.locals) {l1 : Int32} {l2 : Int32} {s1 : Int32}  {u : RSt} (h : B_runs_27 N l1 l2 s1 u = some (r, w)) (hS : RS D kA Z A s u H locs) (hl : lv_has ls 12 [(0, .ref (Z 200)), (1, .int l1), (2, .int l2)]) : W p l e R s m args below meth c H locs 0 0 Q (F0 m 27 ls [.int s1, .ref (Z 200)]) := by
  obtain ⟨⟨hx, hb, hml, hown, hts⟩, hK, hEV, hA⟩ := id X
  have hG : ∀ w ∈ GW, w.before args s = true := fun w h => hts w (List.mem_cons_of_mem _ h)
  unfold B_runs_27 at h
  refine lv_iconst (v := 3) hx hb dX12_runs_27 (by decide) ?_
  refine lv_iload_n hx hb dX12_runs_28 rfl (lv_at hl 1 rfl) ?_
  obtain ⟨r_u_48, u_48, h_u_48, h⟩ := bn_of h
  refine kc_wrong X hS h_u_48 (Nat.le_trans (Nat.le_of_ble_eq_true rfl) hF) (Nat.le_trans (Nat.le_of_ble_eq_true rfl) hL) hl.1 (Nat.le_of_ble_eq_true rfl) dX12_runs_29 (fun H locs hS => ?_)
  refine lv_aload_n hx hb dX12_runs_32 rfl (lv_at hl 0 rfl) ?_
  refine lv_iload_n hx hb dX12_runs_33 rfl (lv_at hl 1 rfl) ?_
  obtain ⟨r_u_49, u_49, h_u_49, h⟩ := bn_of h
  refine kc_cost X hS h_u_49 (Nat.le_trans (Nat.le_of_ble_eq_true rfl) hF) (Nat.le_trans (Nat.le_of_ble_eq_true rfl) hL) hl.1 (Nat.le_of_ble_eq_true rfl) dX12_runs_34 (fun H locs hS => ?_)
  refine lv_aload_n hx hb dX12_runs_37 rfl (lv_at hl 0 rfl) ?_
  refine lv_dup hx hb dX12_runs_38 rfl ?_
  refine rg_65 X hS dX12_runs_39 ?_
  refine lv_iconst (v := 1) hx hb dX12_runs_42 (by decide) ?_
  refine lv_iadd hx hb dX12_runs_43 ?_
  obtain ⟨u_50, e_u_50, h⟩ := pu_of h
  refine rp_65 X hS e_u_50 dX12_runs_44 (fun H locs hS => ?_)
  refine lv_bipush (v := 24) hx hb dX12_runs_47 (by decide) ?_
  refine lv_aload_n hx hb dX12_runs_49 rfl (lv_at hl 0 rfl) ?_
  refine rg_56 X hS dX12_runs_50 ?_
  refine lv_imul hx hb dX12_runs_53 ?_
  refine lv_iload_n hx hb dX12_runs_54 rfl (lv_at hl 2 rfl) ?_
  refine lv_iadd hx hb dX12_runs_55 ?_
  refine lv_istore_n (lv' := [(3, .int ((24 * (u_50.1 56)) + l2)), (0, .ref (Z 200)), (1, .int l1), (2, .int l2)]) hx hb dX12_runs_56 rfl hl (by decide) rfl (fun ls hl => ?_)
  refine lv_aload_n hx hb dX12_runs_57 rfl (lv_at hl 1 rfl) ?_
  refine rg_69 X hS dX12_runs_58 ?_
  refine lv_if_eq (tgt := 80) hx hb dX12_runs_61 (by decide) (fun c_51 => ?_) (fun c_51 => ?_)
  · have h := ip (c_51) h
    exact b_runs_80 X hE hF hL  h hS (lv_sub hl [1, 2, 0] rfl)
  · have h := im (c_51) h
    refine lv_aload_n hx hb dX12_runs_64 rfl (lv_at hl 1 rfl) ?_
    refine rg_67 X hS dX12_runs_65 ?_
    refine lv_if_ne (tgt := 80) hx hb dX12_runs_68 (by decide) (fun c_52 => ?_) (fun c_52 => ?_)
    · have h := im (c_52) h
      exact b_runs_80 X hE hF hL  h hS (lv_sub hl [1, 2, 0] rfl)
    · have h := ip (c_52) h
      refine lv_aload_n hx hb dX12_runs_71 rfl (lv_at hl 1 rfl) ?_
      refine rg_38 X hS dX12_runs_72 ?_
      refine lv_iload_n hx hb dX12_runs_75 rfl (lv_at hl 0 rfl) ?_
      obtain ⟨v_53, e_v_53, i_54, h⟩ := rd_of h
      refine ra_38 X hS i_54 e_v_53 dX12_runs_76 ?_
      refine lv_goto (tgt := 81) hx hb dX12_runs_77 (by decide) ?_
      exact b_runs_81 X hE hF hL  h hS (lv_sub hl [1, 2, 0] rfl)
def B_runs_0 (N : Nat) (u : RSt) : Option (Int32 × RSt) := rd (u.2.2.1 3) 1502 (u.1 65) fun v_55 => bn (F_own N 1 u) fun r_58 u_57 => if r_58 = ((-1) : Int32) then (B_runs_27 N v_55 r_58 1 u_57) else (B_runs_27 N v_55 r_58 0 u_57)
set_option maxHeartbeats 4000000 in
theorem b_runs_0 {r : Int32} (X : RC p s m args c cX12_runs 12 (Cond.code yX12_runs cX12_runs 12 none) D kA V A) (hE : REv p l e R s m args below meth c cX12_runs D kA Z A Q w) (hF : 413 ≤ R.frames) (hL : 24525 ≤ R.locals)  {u : RSt} (h : B_runs_0 N u = some (r, w)) (hS : RS D kA Z A s u H locs) (hl : lv_has ls 12 [(0, .ref (Z 200))]) : W p l e R s m args below meth c H locs 0 0 Q (F0 m 0 ls []) := by
  obtain ⟨⟨hx, hb, hml, hown, hts⟩, hK, hEV, hA⟩ := id X
  have hG : ∀ w ∈ GW, w.before args s = true := fun w h => hts w (List.mem_cons_of_mem _ h)
  unfold B_runs_0 at h
  refine lv_aload_n hx hb dX12_runs_0 rfl (lv_at hl 0 rfl) ?_
  refine rg_3 X hS dX12_runs_1 ?_
  refine lv_aload_n hx hb dX12_runs_4 rfl (lv_at hl 0 rfl) ?_
  refine rg_65 X hS dX12_runs_5 ?_
  obtain ⟨v_55, e_v_55, i_56, h⟩ := rd_of h
  refine ra_3 X hS i_56 e_v_55 dX12_runs_8 ?_
  refine lv_istore_n (lv' := [(1, .int v_55), (0, .ref (Z 200))]) hx hb dX12_runs_9 rfl hl (by decide) rfl (fun ls hl => ?_)
  refine lv_aload_n hx hb dX12_runs_10 rfl (lv_at hl 1 rfl) ?_
  refine lv_iconst (v := 1) hx hb dX12_runs_11 (by decide) ?_
  obtain ⟨r_58, u_57, h_u_57, h⟩ := bn_of h
  refine kc_own X hS h_u_57 (Nat.le_trans (Nat.le_of_ble_eq_true rfl) hF) (Nat.le_trans (Nat.le_of_ble_eq_true rfl) hL) hl.1 (Nat.le_of_ble_eq_true rfl) dX12_runs_12 (fun H locs hS => ?_)
  refine lv_istore_n (lv' := [(2, .int r_58), (1, .int v_55), (0, .ref (Z 200))]) hx hb dX12_runs_15 rfl hl (by decide) rfl (fun ls hl => ?_)
  refine lv_aload_n hx hb dX12_runs_16 rfl (lv_at hl 2 rfl) ?_
  refine lv_iload_n hx hb dX12_runs_17 rfl (lv_at hl 0 rfl) ?_
  refine lv_iconst (v := (-1)) hx hb dX12_runs_18 (by decide) ?_
  refine lv_icmp_ne (tgt := 26) hx hb dX12_runs_19 (by decide) (fun c_59 => ?_) (fun c_59 => ?_)
  · have h := im (c_59) h
    refine lv_iconst (v := 0) hx hb dX12_runs_26 (by decide) ?_
    exact b_runs_27 X hE hF hL  h hS (lv_sub hl [2, 1, 0] rfl)
  · have h := ip (c_59) h
    refine lv_iconst (v := 1) hx hb dX12_runs_22 (by decide) ?_
    refine lv_goto (tgt := 27) hx hb dX12_runs_23 (by decide) ?_
    exact b_runs_27 X hE hF hL  h hS (lv_sub hl [2, 1, 0] rfl)
def F_runs (N : Nat) (u : RSt) : Option (Int32 × RSt) := B_runs_0 N u
set_option maxHeartbeats 4000000 in
theorem k_runs (l : Launch) (D : va_G) (kA : Nat → ClassId) (V Z : Nat → Nat) (N : Nat) (u : RSt) (sz : Nat) {r : Int32} {w : RSt} (h : F_runs N u = some (r, w)) : Met l yX12_runs (Cond.code yX12_runs cX12_runs 12 none :: GW) { frames := 413, cells := 0, slots := 0, locals := 24525 } (rPc D kA V Z [] u sz) (rQv D kA Z u sz w) 0 0 (va_A (RW kA Z u) sz) := by
  refine Met.ofW (cc := cX12_runs) (maxL := 12) (ret := none) (by decide) rfl ?_
  intro p e s m args below meth c s₁ Bd hml hv
  obtain ⟨rfl, hsz, hP, hK, hD0, hE⟩ := hv
  have hts := atoms_spec (ws := Cond.code yX12_runs cX12_runs 12 none :: GW) Bd.pre
  have hl := lv_entry (.ref (Z 200) :: []) (n := 12) (Nat.le_of_ble_eq_true rfl)
  rw [lg_entry_eq]
  generalize (lg_sl (.ref (Z 200) :: []) ++ List.replicate (12 - (lg_sl (.ref (Z 200) :: [])).length) Slot.unset).toArray = ls at hl ⊢
  have hl : lv_has ls 12 [(0, .ref (Z 200))] := hl
  subst hsz
  have X : RC p s m (.ref (Z 200) :: []).toArray c cX12_runs 12 (Cond.code yX12_runs cX12_runs 12 none) D kA V (va_A (RW kA Z u) s.heap.size) := ⟨⟨Bd.exec, Bd.bytes, hml, findClass_of_methodNamed Bd.named, hts⟩, hK, hE, fun q h => Or.inr h⟩
  exact b_runs_0 X (rend_v (cy := cX12_runs) X Bd.returns Bd.notSynchronized) (Nat.le_refl _) (Nat.le_refl _) h ⟨hP, hD0.self, va_S.rf⟩ (lv_sub hl [0] rfl)
theorem kc_runs {r : Int32} {cc : ByteArray} {pc nL : Nat} {c0 : Cond} {rest : List Value} {u : RSt} (X : RC p s m args c cc nL c0 D kA V A) (hS : RS D kA Z A s u H locs) (h : F_runs N u = some (r, w)) (hF : 413 + 1 ≤ R.frames) (hL : 8 + (12 + 11) + 24525 ≤ R.locals) (hl : ls.size = nL) (hc : (rest.map fun v => v.category).sum ≤ 8) (hdg : decode cc pc = .ok (.invokevirtual 494, 3)) (kk : ∀ H locs, RS D kA Z A s w H locs → W p l e R s m args below meth c H locs 0 0 Q (F0 m (pc + 3) ls (rest))) : W p l e R s m args below meth c H locs 0 0 Q (F0 m pc ls (.ref (Z 200) :: rest)) :=
  rcall_v (n := 0) X hS (k_runs l D kA V Z N  u H.size h) (gw_V gw_2456 gw_2458 gs_9_13 gw_16 gw_2459) (by decide +kernel) hF hL rfl hl hc rfl hdg kk
def B_sets_442 (N : Nat) (u : RSt) : Option (Int32 × RSt) := bn (F_take N 229 u) fun _ u_1 => some (0, u_1)
set_option maxHeartbeats 4000000 in
theorem b_sets_442 {r : Int32} (X : RC p s m args c cX12_sets 10 (Cond.code yX12_sets cX12_sets 10 none) D kA V A) (hE : REv p l e R s m args below meth c cX12_sets D kA Z A Q w) (hF : 413 ≤ R.frames) (hL : 24531 ≤ R.locals)  {u : RSt} (h : B_sets_442 N u = some (r, w)) (hS : RS D kA Z A s u H locs) (hl : lv_has ls 10 [(0, .ref (Z 200))]) : W p l e R s m args below meth c H locs 0 0 Q (F0 m 442 ls []) := by
  obtain ⟨⟨hx, hb, hml, hown, hts⟩, hK, hEV, hA⟩ := id X
  have hG : ∀ w ∈ GW, w.before args s = true := fun w h => hts w (List.mem_cons_of_mem _ h)
  unfold B_sets_442 at h
  refine lv_aload_n hx hb dX12_sets_442 rfl (lv_at hl 0 rfl) ?_
  refine lv_sipush (v := 229) hx hb dX12_sets_443 (by decide) ?_
  obtain ⟨r_u_1, u_1, h_u_1, h⟩ := bn_of h
  refine kc_take X hS h_u_1 (Nat.le_trans (Nat.le_of_ble_eq_true rfl) hF) (Nat.le_trans (Nat.le_of_ble_eq_true rfl) hL) hl.1 (Nat.le_of_ble_eq_true rfl) dX12_sets_446 (fun H locs hS => ?_)
  obtain ⟨-, rfl⟩ := so h
  exact hE _ _ _ _ hS dX12_sets_449
def B_sets_233 (N : Nat) (s0 : Int32) (u : RSt) : Option (Int32 × RSt) := B_sets_442 N u
set_option maxHeartbeats 4000000 in
theorem b_sets_233 {r : Int32} (X : RC p s m args c cX12_sets 10 (Cond.code yX12_sets cX12_sets 10 none) D kA V A) (hE : REv p l e R s m args below meth c cX12_sets D kA Z A Q w) (hF : 413 ≤ R.frames) (hL : 24531 ≤ R.locals) {s0 : Int32}  {u : RSt} (h : B_sets_233 N s0 u = some (r, w)) (hS : RS D kA Z A s u H locs) (hl : lv_has ls 10 [(0, .ref (Z 200))]) : W p l e R s m args below meth c H locs 0 0 Q (F0 m 233 ls [.int s0]) := by
  obtain ⟨⟨hx, hb, hml, hown, hts⟩, hK, hEV, hA⟩ := id X
  have hG : ∀ w ∈ GW, w.before args s = true := fun w h => hts w (List.mem_cons_of_mem _ h)
  unfold B_sets_233 at h
  refine lv_istore (lv' := [(7, .int s0), (0, .ref (Z 200))]) hx hb dX12_sets_233 hl (by decide) rfl (fun ls hl => ?_)
  refine lv_goto (tgt := 442) hx hb dX12_sets_235 (by decide) ?_
  exact b_sets_442 X hE hF hL  h hS (lv_sub hl [1] rfl)
def B_sets_203 (N : Nat) (l1 : Int32) (l2 : Int32) (l4 : Int32) (s1 : Int32) (u : RSt) : Option (Int32 × RSt) := bn (F_wrong N s1 4 l4 u) fun _ u_2 => if l2 = ((-1) : Int32) then (bn (F_emit N 18 l1 0 u_2) fun r_7 u_6 => B_sets_233 N r_7 u_6) else (bn (F_emit N 19 l2 l1 u_2) fun r_5 u_4 => B_sets_233 N r_5 u_4)
set_option maxHeartbeats 4000000 in
theorem b_sets_203 {r : Int32} (X : RC p s m args c cX12_sets 10 (Cond.code yX12_sets cX12_sets 10 none) D kA V A) (hE : REv p l e R s m args below meth c cX12_sets D kA Z A Q w) (hF : 413 ≤ R.frames) (hL : 24531 ≤ R.locals) {l1 : Int32} {l2 : Int32} {l4 : Int32} {s1 : Int32}  {u : RSt} (h : B_sets_203 N l1 l2 l4 s1 u = some (r, w)) (hS : RS D kA Z A s u H locs) (hl : lv_has ls 10 [(0, .ref (Z 200)), (1, .int l1), (2, .int l2), (4, .int l4)]) : W p l e R s m args below meth c H locs 0 0 Q (F0 m 203 ls [.int s1, .ref (Z 200)]) := by
  obtain ⟨⟨hx, hb, hml, hown, hts⟩, hK, hEV, hA⟩ := id X
  have hG : ∀ w ∈ GW, w.before args s = true := fun w h => hts w (List.mem_cons_of_mem _ h)
  unfold B_sets_203 at h
  refine lv_iconst (v := 4) hx hb dX12_sets_203 (by decide) ?_
  refine lv_iload hx hb dX12_sets_204 (lv_at hl 3 rfl) ?_
  obtain ⟨r_u_2, u_2, h_u_2, h⟩ := bn_of h
  refine kc_wrong X hS h_u_2 (Nat.le_trans (Nat.le_of_ble_eq_true rfl) hF) (Nat.le_trans (Nat.le_of_ble_eq_true rfl) hL) hl.1 (Nat.le_of_ble_eq_true rfl) dX12_sets_206 (fun H locs hS => ?_)
  refine lv_iload_n hx hb dX12_sets_209 rfl (lv_at hl 2 rfl) ?_
  refine lv_iconst (v := (-1)) hx hb dX12_sets_210 (by decide) ?_
  refine lv_icmp_ne (tgt := 225) hx hb dX12_sets_211 (by decide) (fun c_3 => ?_) (fun c_3 => ?_)
  · have h := im (c_3) h
    refine lv_aload_n hx hb dX12_sets_225 rfl (lv_at hl 0 rfl) ?_
    refine lv_bipush (v := 19) hx hb dX12_sets_226 (by decide) ?_
    refine lv_iload_n hx hb dX12_sets_228 rfl (lv_at hl 2 rfl) ?_
    refine lv_iload_n hx hb dX12_sets_229 rfl (lv_at hl 1 rfl) ?_
    obtain ⟨r_5, u_4, h_u_4, h⟩ := bn_of h
    refine kc_emit X hS h_u_4 (Nat.le_trans (Nat.le_of_ble_eq_true rfl) hF) (Nat.le_trans (Nat.le_of_ble_eq_true rfl) hL) hl.1 (Nat.le_of_ble_eq_true rfl) dX12_sets_230 (fun H locs hS => ?_)
    exact b_sets_233 X hE hF hL  h hS (lv_sub hl [0] rfl)
  · have h := ip (c_3) h
    refine lv_aload_n hx hb dX12_sets_214 rfl (lv_at hl 0 rfl) ?_
    refine lv_bipush (v := 18) hx hb dX12_sets_215 (by decide) ?_
    refine lv_iload_n hx hb dX12_sets_217 rfl (lv_at hl 1 rfl) ?_
    refine lv_iconst (v := 0) hx hb dX12_sets_218 (by decide) ?_
    obtain ⟨r_7, u_6, h_u_6, h⟩ := bn_of h
    refine kc_emit X hS h_u_6 (Nat.le_trans (Nat.le_of_ble_eq_true rfl) hF) (Nat.le_trans (Nat.le_of_ble_eq_true rfl) hL) hl.1 (Nat.le_of_ble_eq_true rfl) dX12_sets_219 (fun H locs hS => ?_)
    refine lv_goto (tgt := 233) hx hb dX12_sets_222 (by decide) ?_
    exact b_sets_233 X hE hF hL  h hS (lv_sub hl [0] rfl)
def B_sets_202 (N : Nat) (l1 : Int32) (l2 : Int32) (l4 : Int32) (u : RSt) : Option (Int32 × RSt) := B_sets_203 N l1 l2 l4 0 u
set_option maxHeartbeats 4000000 in
theorem b_sets_202 {r : Int32} (X : RC p s m args c cX12_sets 10 (Cond.code yX12_sets cX12_sets 10 none) D kA V A) (hE : REv p l e R s m args below meth c cX12_sets D kA Z A Q w) (hF : 413 ≤ R.frames) (hL : 24531 ≤ R.locals) {l1 : Int32} {l2 : Int32} {l4 : Int32}  {u : RSt} (h : B_sets_202 N l1 l2 l4 u = some (r, w)) (hS : RS D kA Z A s u H locs) (hl : lv_has ls 10 [(0, .ref (Z 200)), (1, .int l1), (2, .int l2), (4, .int l4)]) : W p l e R s m args below meth c H locs 0 0 Q (F0 m 202 ls [.ref (Z 200)]) := by
  obtain ⟨⟨hx, hb, hml, hown, hts⟩, hK, hEV, hA⟩ := id X
  have hG : ∀ w ∈ GW, w.before args s = true := fun w h => hts w (List.mem_cons_of_mem _ h)
  unfold B_sets_202 at h
  refine lv_iconst (v := 0) hx hb dX12_sets_202 (by decide) ?_
  exact b_sets_203 X hE hF hL  h hS (lv_sub hl [0, 1, 2, 3] rfl)
def B_sets_417 (N : Nat) (l1 : Int32) (l4 : Int32) (l8 : Int32) (s0 : Int32) (u : RSt) : Option (Int32 × RSt) := bn (F_joined N s0 l4 l1 l8 u) fun r_9 u_8 => bn (F_emit N 18 l1 0 u_8) fun r_11 u_10 => B_sets_442 N u_10
set_option maxHeartbeats 4000000 in
theorem b_sets_417 {r : Int32} (X : RC p s m args c cX12_sets 10 (Cond.code yX12_sets cX12_sets 10 none) D kA V A) (hE : REv p l e R s m args below meth c cX12_sets D kA Z A Q w) (hF : 413 ≤ R.frames) (hL : 24531 ≤ R.locals) {l1 : Int32} {l4 : Int32} {l8 : Int32} {s0 : Int32}  {u : RSt} (h : B_sets_417 N l1 l4 l8 s0 u = some (r, w)) (hS : RS D kA Z A s u H locs) (hl : lv_has ls 10 [(0, .ref (Z 200)), (1, .int l1), (4, .int l4), (8, .int l8)]) : W p l e R s m args below meth c H locs 0 0 Q (F0 m 417 ls [.int s0]) := by
  obtain ⟨⟨hx, hb, hml, hown, hts⟩, hK, hEV, hA⟩ := id X
  have hG : ∀ w ∈ GW, w.before args s = true := fun w h => hts w (List.mem_cons_of_mem _ h)
  unfold B_sets_417 at h
  refine lv_istore (lv' := [(9, .int s0), (0, .ref (Z 200)), (1, .int l1), (4, .int l4), (8, .int l8)]) hx hb dX12_sets_417 hl (by decide) rfl (fun ls hl => ?_)
  refine lv_aload_n hx hb dX12_sets_419 rfl (lv_at hl 1 rfl) ?_
  refine lv_iload hx hb dX12_sets_420 (lv_at hl 0 rfl) ?_
  refine lv_iload hx hb dX12_sets_422 (lv_at hl 3 rfl) ?_
  refine lv_iload_n hx hb dX12_sets_424 rfl (lv_at hl 2 rfl) ?_
  refine lv_iload hx hb dX12_sets_425 (lv_at hl 4 rfl) ?_
  obtain ⟨r_9, u_8, h_u_8, h⟩ := bn_of h
  refine kc_joined X hS h_u_8 (Nat.le_trans (Nat.le_of_ble_eq_true rfl) hF) (Nat.le_trans (Nat.le_of_ble_eq_true rfl) hL) hl.1 (Nat.le_of_ble_eq_true rfl) dX12_sets_427 (fun H locs hS => ?_)
  refine lv_istore (lv' := [(8, .int r_9), (9, .int s0), (0, .ref (Z 200)), (1, .int l1), (4, .int l4)]) hx hb dX12_sets_430 hl (by decide) rfl (fun ls hl => ?_)
  refine lv_aload_n hx hb dX12_sets_432 rfl (lv_at hl 2 rfl) ?_
  refine lv_bipush (v := 18) hx hb dX12_sets_433 (by decide) ?_
  refine lv_iload_n hx hb dX12_sets_435 rfl (lv_at hl 3 rfl) ?_
  refine lv_iconst (v := 0) hx hb dX12_sets_436 (by decide) ?_
  obtain ⟨r_11, u_10, h_u_10, h⟩ := bn_of h
  refine kc_emit X hS h_u_10 (Nat.le_trans (Nat.le_of_ble_eq_true rfl) hF) (Nat.le_trans (Nat.le_of_ble_eq_true rfl) hL) hl.1 (Nat.le_of_ble_eq_true rfl) dX12_sets_437 (fun H locs hS => ?_)
  refine lv_istore (lv' := [(7, .int r_11), (8, .int r_9), (9, .int s0), (0, .ref (Z 200)), (1, .int l1), (4, .int l4)]) hx hb dX12_sets_440 hl (by decide) rfl (fun ls hl => ?_)
  exact b_sets_442 X hE hF hL  h hS (lv_sub hl [3] rfl)
def B_sets_323 (N : Nat) (l1 : Int32) (l4 : Int32) (l8 : Int32) (u : RSt) : Option (Int32 × RSt) := B_sets_417 N l1 l4 l8 240 u
set_option maxHeartbeats 4000000 in
theorem b_sets_323 {r : Int32} (X : RC p s m args c cX12_sets 10 (Cond.code yX12_sets cX12_sets 10 none) D kA V A) (hE : REv p l e R s m args below meth c cX12_sets D kA Z A Q w) (hF : 413 ≤ R.frames) (hL : 24531 ≤ R.locals) {l1 : Int32} {l4 : Int32} {l8 : Int32}  {u : RSt} (h : B_sets_323 N l1 l4 l8 u = some (r, w)) (hS : RS D kA Z A s u H locs) (hl : lv_has ls 10 [(0, .ref (Z 200)), (1, .int l1), (4, .int l4), (8, .int l8)]) : W p l e R s m args below meth c H locs 0 0 Q (F0 m 323 ls []) := by
  obtain ⟨⟨hx, hb, hml, hown, hts⟩, hK, hEV, hA⟩ := id X
  have hG : ∀ w ∈ GW, w.before args s = true := fun w h => hts w (List.mem_cons_of_mem _ h)
  unfold B_sets_323 at h
  refine lv_sipush (v := 240) hx hb dX12_sets_323 (by decide) ?_
  refine lv_goto (tgt := 417) hx hb dX12_sets_326 (by decide) ?_
  exact b_sets_417 X hE hF hL  h hS (lv_sub hl [0, 1, 2, 3] rfl)
def B_sets_343 (N : Nat) (l1 : Int32) (l4 : Int32) (l8 : Int32) (u : RSt) : Option (Int32 × RSt) := B_sets_417 N l1 l4 l8 241 u
set_option maxHeartbeats 4000000 in
theorem b_sets_343 {r : Int32} (X : RC p s m args c cX12_sets 10 (Cond.code yX12_sets cX12_sets 10 none) D kA V A) (hE : REv p l e R s m args below meth c cX12_sets D kA Z A Q w) (hF : 413 ≤ R.frames) (hL : 24531 ≤ R.locals) {l1 : Int32} {l4 : Int32} {l8 : Int32}  {u : RSt} (h : B_sets_343 N l1 l4 l8 u = some (r, w)) (hS : RS D kA Z A s u H locs) (hl : lv_has ls 10 [(0, .ref (Z 200)), (1, .int l1), (4, .int l4), (8, .int l8)]) : W p l e R s m args below meth c H locs 0 0 Q (F0 m 343 ls []) := by
  obtain ⟨⟨hx, hb, hml, hown, hts⟩, hK, hEV, hA⟩ := id X
  have hG : ∀ w ∈ GW, w.before args s = true := fun w h => hts w (List.mem_cons_of_mem _ h)
  unfold B_sets_343 at h
  refine lv_sipush (v := 241) hx hb dX12_sets_343 (by decide) ?_
  refine lv_goto (tgt := 417) hx hb dX12_sets_346 (by decide) ?_
  exact b_sets_417 X hE hF hL  h hS (lv_sub hl [0, 1, 2, 3] rfl)
def B_sets_270 (N : Nat) (l1 : Int32) (l3 : Int32) (l4 : Int32) (l8 : Int32) (u : RSt) : Option (Int32 × RSt) := if l3 = (200 : Int32) then (B_sets_417 N l1 l4 l8 203 u) else (if l3 = (201 : Int32) then (B_sets_417 N l1 l4 l8 221 u) else (if l3 = (202 : Int32) then (B_sets_417 N l1 l4 l8 222 u) else (if l3 = (213 : Int32) then (B_sets_323 N l1 l4 l8 u) else (if l3 = (205 : Int32) then (B_sets_323 N l1 l4 l8 u) else (if l3 = (214 : Int32) then (B_sets_343 N l1 l4 l8 u) else (if l3 = (206 : Int32) then (B_sets_343 N l1 l4 l8 u) else (if l3 = (207 : Int32) then (B_sets_417 N l1 l4 l8 242 u) else (if l3 = (208 : Int32) then (B_sets_417 N l1 l4 l8 243 u) else (if l3 = (209 : Int32) then (B_sets_417 N l1 l4 l8 244 u) else (if l3 = (210 : Int32) then (B_sets_417 N l1 l4 l8 237 u) else (if l3 = (211 : Int32) then (B_sets_417 N l1 l4 l8 235 u) else (B_sets_417 N l1 l4 l8 236 u))))))))))))
set_option maxHeartbeats 4000000 in
theorem b_sets_270 {r : Int32} (X : RC p s m args c cX12_sets 10 (Cond.code yX12_sets cX12_sets 10 none) D kA V A) (hE : REv p l e R s m args below meth c cX12_sets D kA Z A Q w) (hF : 413 ≤ R.frames) (hL : 24531 ≤ R.locals) {l1 : Int32} {l3 : Int32} {l4 : Int32} {l8 : Int32}  {u : RSt} (h : B_sets_270 N l1 l3 l4 l8 u = some (r, w)) (hS : RS D kA Z A s u H locs) (hl : lv_has ls 10 [(0, .ref (Z 200)), (1, .int l1), (3, .int l3), (4, .int l4), (8, .int l8)]) : W p l e R s m args below meth c H locs 0 0 Q (F0 m 270 ls []) := by
  obtain ⟨⟨hx, hb, hml, hown, hts⟩, hK, hEV, hA⟩ := id X
  have hG : ∀ w ∈ GW, w.before args s = true := fun w h => hts w (List.mem_cons_of_mem _ h)
  unfold B_sets_270 at h
  refine lv_iload_n hx hb dX12_sets_270 rfl (lv_at hl 2 rfl) ?_
  refine lv_sipush (v := 200) hx hb dX12_sets_271 (by decide) ?_
  refine lv_icmp_ne (tgt := 283) hx hb dX12_sets_274 (by decide) (fun c_12 => ?_) (fun c_12 => ?_)
  · have h := im (c_12) h
    refine lv_iload_n hx hb dX12_sets_283 rfl (lv_at hl 2 rfl) ?_
    refine lv_sipush (v := 201) hx hb dX12_sets_284 (by decide) ?_
    refine lv_icmp_ne (tgt := 296) hx hb dX12_sets_287 (by decide) (fun c_13 => ?_) (fun c_13 => ?_)
    · have h := im (c_13) h
      refine lv_iload_n hx hb dX12_sets_296 rfl (lv_at hl 2 rfl) ?_
      refine lv_sipush (v := 202) hx hb dX12_sets_297 (by decide) ?_
      refine lv_icmp_ne (tgt := 309) hx hb dX12_sets_300 (by decide) (fun c_14 => ?_) (fun c_14 => ?_)
      · have h := im (c_14) h
        refine lv_iload_n hx hb dX12_sets_309 rfl (lv_at hl 2 rfl) ?_
        refine lv_sipush (v := 213) hx hb dX12_sets_310 (by decide) ?_
        refine lv_icmp_eq (tgt := 323) hx hb dX12_sets_313 (by decide) (fun c_15 => ?_) (fun c_15 => ?_)
        · have h := ip (c_15) h
          exact b_sets_323 X hE hF hL  h hS (lv_sub hl [0, 1, 3, 4] rfl)
        · have h := im (c_15) h
          refine lv_iload_n hx hb dX12_sets_316 rfl (lv_at hl 2 rfl) ?_
          refine lv_sipush (v := 205) hx hb dX12_sets_317 (by decide) ?_
          refine lv_icmp_ne (tgt := 329) hx hb dX12_sets_320 (by decide) (fun c_16 => ?_) (fun c_16 => ?_)
          · have h := im (c_16) h
            refine lv_iload_n hx hb dX12_sets_329 rfl (lv_at hl 2 rfl) ?_
            refine lv_sipush (v := 214) hx hb dX12_sets_330 (by decide) ?_
            refine lv_icmp_eq (tgt := 343) hx hb dX12_sets_333 (by decide) (fun c_17 => ?_) (fun c_17 => ?_)
            · have h := ip (c_17) h
              exact b_sets_343 X hE hF hL  h hS (lv_sub hl [0, 1, 3, 4] rfl)
            · have h := im (c_17) h
              refine lv_iload_n hx hb dX12_sets_336 rfl (lv_at hl 2 rfl) ?_
              refine lv_sipush (v := 206) hx hb dX12_sets_337 (by decide) ?_
              refine lv_icmp_ne (tgt := 349) hx hb dX12_sets_340 (by decide) (fun c_18 => ?_) (fun c_18 => ?_)
              · have h := im (c_18) h
                refine lv_iload_n hx hb dX12_sets_349 rfl (lv_at hl 2 rfl) ?_
                refine lv_sipush (v := 207) hx hb dX12_sets_350 (by decide) ?_
                refine lv_icmp_ne (tgt := 362) hx hb dX12_sets_353 (by decide) (fun c_19 => ?_) (fun c_19 => ?_)
                · have h := im (c_19) h
                  refine lv_iload_n hx hb dX12_sets_362 rfl (lv_at hl 2 rfl) ?_
                  refine lv_sipush (v := 208) hx hb dX12_sets_363 (by decide) ?_
                  refine lv_icmp_ne (tgt := 375) hx hb dX12_sets_366 (by decide) (fun c_20 => ?_) (fun c_20 => ?_)
                  · have h := im (c_20) h
                    refine lv_iload_n hx hb dX12_sets_375 rfl (lv_at hl 2 rfl) ?_
                    refine lv_sipush (v := 209) hx hb dX12_sets_376 (by decide) ?_
                    refine lv_icmp_ne (tgt := 388) hx hb dX12_sets_379 (by decide) (fun c_21 => ?_) (fun c_21 => ?_)
                    · have h := im (c_21) h
                      refine lv_iload_n hx hb dX12_sets_388 rfl (lv_at hl 2 rfl) ?_
                      refine lv_sipush (v := 210) hx hb dX12_sets_389 (by decide) ?_
                      refine lv_icmp_ne (tgt := 401) hx hb dX12_sets_392 (by decide) (fun c_22 => ?_) (fun c_22 => ?_)
                      · have h := im (c_22) h
                        refine lv_iload_n hx hb dX12_sets_401 rfl (lv_at hl 2 rfl) ?_
                        refine lv_sipush (v := 211) hx hb dX12_sets_402 (by decide) ?_
                        refine lv_icmp_ne (tgt := 414) hx hb dX12_sets_405 (by decide) (fun c_23 => ?_) (fun c_23 => ?_)
                        · have h := im (c_23) h
                          refine lv_sipush (v := 236) hx hb dX12_sets_414 (by decide) ?_
                          exact b_sets_417 X hE hF hL  h hS (lv_sub hl [0, 1, 3, 4] rfl)
                        · have h := ip (c_23) h
                          refine lv_sipush (v := 235) hx hb dX12_sets_408 (by decide) ?_
                          refine lv_goto (tgt := 417) hx hb dX12_sets_411 (by decide) ?_
                          exact b_sets_417 X hE hF hL  h hS (lv_sub hl [0, 1, 3, 4] rfl)
                      · have h := ip (c_22) h
                        refine lv_sipush (v := 237) hx hb dX12_sets_395 (by decide) ?_
                        refine lv_goto (tgt := 417) hx hb dX12_sets_398 (by decide) ?_
                        exact b_sets_417 X hE hF hL  h hS (lv_sub hl [0, 1, 3, 4] rfl)
                    · have h := ip (c_21) h
                      refine lv_sipush (v := 244) hx hb dX12_sets_382 (by decide) ?_
                      refine lv_goto (tgt := 417) hx hb dX12_sets_385 (by decide) ?_
                      exact b_sets_417 X hE hF hL  h hS (lv_sub hl [0, 1, 3, 4] rfl)
                  · have h := ip (c_20) h
                    refine lv_sipush (v := 243) hx hb dX12_sets_369 (by decide) ?_
                    refine lv_goto (tgt := 417) hx hb dX12_sets_372 (by decide) ?_
                    exact b_sets_417 X hE hF hL  h hS (lv_sub hl [0, 1, 3, 4] rfl)
                · have h := ip (c_19) h
                  refine lv_sipush (v := 242) hx hb dX12_sets_356 (by decide) ?_
                  refine lv_goto (tgt := 417) hx hb dX12_sets_359 (by decide) ?_
                  exact b_sets_417 X hE hF hL  h hS (lv_sub hl [0, 1, 3, 4] rfl)
              · have h := ip (c_18) h
                exact b_sets_343 X hE hF hL  h hS (lv_sub hl [0, 1, 3, 4] rfl)
          · have h := ip (c_16) h
            exact b_sets_323 X hE hF hL  h hS (lv_sub hl [0, 1, 3, 4] rfl)
      · have h := ip (c_14) h
        refine lv_sipush (v := 222) hx hb dX12_sets_303 (by decide) ?_
        refine lv_goto (tgt := 417) hx hb dX12_sets_306 (by decide) ?_
        exact b_sets_417 X hE hF hL  h hS (lv_sub hl [0, 1, 3, 4] rfl)
    · have h := ip (c_13) h
      refine lv_sipush (v := 221) hx hb dX12_sets_290 (by decide) ?_
      refine lv_goto (tgt := 417) hx hb dX12_sets_293 (by decide) ?_
      exact b_sets_417 X hE hF hL  h hS (lv_sub hl [0, 1, 3, 4] rfl)
  · have h := ip (c_12) h
    refine lv_sipush (v := 203) hx hb dX12_sets_277 (by decide) ?_
    refine lv_goto (tgt := 417) hx hb dX12_sets_280 (by decide) ?_
    exact b_sets_417 X hE hF hL  h hS (lv_sub hl [0, 1, 3, 4] rfl)
def B_sets_145 (N : Nat) (l1 : Int32) (l2 : Int32) (l3 : Int32) (l4 : Int32) (l5 : Int32) (s1 : Int32) (u : RSt) : Option (Int32 × RSt) := bn (F_wrong N s1 4 l4 u) fun _ u_24 => if (u_24.1 67) = (0 : Int32) then (pu (sI u_24 65 ((u_24.1 65) + 1)) fun u_26 => if l3 = (234 : Int32) then (bn (G_expression N u_26) fun r_35 u_34 => if l2 = ((-1) : Int32) then (bn (F_isTooWide N r_35 l1 u_34) fun r_38 u_37 => if r_38 = (0 : Int32) then (B_sets_202 N l1 l2 l4 u_37) else (B_sets_203 N l1 l2 l4 1 u_37)) else (B_sets_202 N l1 l2 l4 u_34)) else (bn (F_emit N 17 l1 0 u_26) fun r_29 u_28 => if l5 = (0 : Int32) then (bn (F_push N 1 u_28) fun _ u_31 => B_sets_270 N l1 l3 l4 3 u_31) else (bn (G_expression N u_28) fun r_33 u_32 => B_sets_270 N l1 l3 l4 r_33 u_32))) else (some (0, u_24))
set_option maxHeartbeats 4000000 in
theorem b_sets_145 {r : Int32} (X : RC p s m args c cX12_sets 10 (Cond.code yX12_sets cX12_sets 10 none) D kA V A) (hE : REv p l e R s m args below meth c cX12_sets D kA Z A Q w) (hF : 413 ≤ R.frames) (hL : 24531 ≤ R.locals) {l1 : Int32} {l2 : Int32} {l3 : Int32} {l4 : Int32} {l5 : Int32} {s1 : Int32}  {u : RSt} (h : B_sets_145 N l1 l2 l3 l4 l5 s1 u = some (r, w)) (hS : RS D kA Z A s u H locs) (hl : lv_has ls 10 [(0, .ref (Z 200)), (1, .int l1), (2, .int l2), (3, .int l3), (4, .int l4), (5, .int l5)]) : W p l e R s m args below meth c H locs 0 0 Q (F0 m 145 ls [.int s1, .ref (Z 200)]) := by
  obtain ⟨⟨hx, hb, hml, hown, hts⟩, hK, hEV, hA⟩ := id X
  have hG : ∀ w ∈ GW, w.before args s = true := fun w h => hts w (List.mem_cons_of_mem _ h)
  unfold B_sets_145 at h
  refine lv_iconst (v := 4) hx hb dX12_sets_145 (by decide) ?_
  refine lv_iload hx hb dX12_sets_146 (lv_at hl 4 rfl) ?_
  obtain ⟨r_u_24, u_24, h_u_24, h⟩ := bn_of h
  refine kc_wrong X hS h_u_24 (Nat.le_trans (Nat.le_of_ble_eq_true rfl) hF) (Nat.le_trans (Nat.le_of_ble_eq_true rfl) hL) hl.1 (Nat.le_of_ble_eq_true rfl) dX12_sets_148 (fun H locs hS => ?_)
  refine lv_aload_n hx hb dX12_sets_151 rfl (lv_at hl 0 rfl) ?_
  refine rg_67 X hS dX12_sets_152 ?_
  refine lv_if_eq (tgt := 159) hx hb dX12_sets_155 (by decide) (fun c_25 => ?_) (fun c_25 => ?_)
  · have h := ip (c_25) h
    refine lv_aload_n hx hb dX12_sets_159 rfl (lv_at hl 0 rfl) ?_
    refine lv_dup hx hb dX12_sets_160 rfl ?_
    refine rg_65 X hS dX12_sets_161 ?_
    refine lv_iconst (v := 1) hx hb dX12_sets_164 (by decide) ?_
    refine lv_iadd hx hb dX12_sets_165 ?_
    obtain ⟨u_26, e_u_26, h⟩ := pu_of h
    refine rp_65 X hS e_u_26 dX12_sets_166 (fun H locs hS => ?_)
    refine lv_iload_n hx hb dX12_sets_169 rfl (lv_at hl 3 rfl) ?_
    refine lv_sipush (v := 234) hx hb dX12_sets_170 (by decide) ?_
    refine lv_icmp_ne (tgt := 238) hx hb dX12_sets_173 (by decide) (fun c_27 => ?_) (fun c_27 => ?_)
    · have h := im (c_27) h
      refine lv_aload_n hx hb dX12_sets_238 rfl (lv_at hl 0 rfl) ?_
      refine lv_bipush (v := 17) hx hb dX12_sets_239 (by decide) ?_
      refine lv_iload_n hx hb dX12_sets_241 rfl (lv_at hl 1 rfl) ?_
      refine lv_iconst (v := 0) hx hb dX12_sets_242 (by decide) ?_
      obtain ⟨r_29, u_28, h_u_28, h⟩ := bn_of h
      refine kc_emit X hS h_u_28 (Nat.le_trans (Nat.le_of_ble_eq_true rfl) hF) (Nat.le_trans (Nat.le_of_ble_eq_true rfl) hL) hl.1 (Nat.le_of_ble_eq_true rfl) dX12_sets_243 (fun H locs hS => ?_)
      refine lv_istore (lv' := [(7, .int r_29), (0, .ref (Z 200)), (1, .int l1), (2, .int l2), (3, .int l3), (4, .int l4), (5, .int l5)]) hx hb dX12_sets_246 hl (by decide) rfl (fun ls hl => ?_)
      refine lv_iconst (v := 3) hx hb dX12_sets_248 (by decide) ?_
      refine lv_istore (lv' := [(8, .int 3), (7, .int r_29), (0, .ref (Z 200)), (1, .int l1), (2, .int l2), (3, .int l3), (4, .int l4), (5, .int l5)]) hx hb dX12_sets_249 hl (by decide) rfl (fun ls hl => ?_)
      refine lv_iload hx hb dX12_sets_251 (lv_at hl 7 rfl) ?_
      refine lv_if_eq (tgt := 265) hx hb dX12_sets_253 (by decide) (fun c_30 => ?_) (fun c_30 => ?_)
      · have h := ip (c_30) h
        refine lv_aload_n hx hb dX12_sets_265 rfl (lv_at hl 2 rfl) ?_
        refine lv_lconst (v := 1) hx hb dX12_sets_266 (by decide) ?_
        obtain ⟨r_u_31, u_31, h_u_31, h⟩ := bn_of h
        refine kc_push X hS h_u_31 (Nat.le_trans (Nat.le_of_ble_eq_true rfl) hF) (Nat.le_trans (Nat.le_of_ble_eq_true rfl) hL) hl.1 (Nat.le_of_ble_eq_true rfl) dX12_sets_267 (fun H locs hS => ?_)
        exact b_sets_270 X hE hF hL  h hS (lv_sub hl [2, 3, 5, 6, 0] rfl)
      · have h := im (c_30) h
        refine lv_aload_n hx hb dX12_sets_256 rfl (lv_at hl 2 rfl) ?_
        obtain ⟨r_33, u_32, h_u_32, h⟩ := bn_of h
        refine kg_expression X hS h_u_32 (Nat.le_trans (Nat.le_of_ble_eq_true rfl) hF) (Nat.le_trans (Nat.le_of_ble_eq_true rfl) hL) hl.1 (Nat.le_of_ble_eq_true rfl) dX12_sets_257 (fun H locs hS => ?_)
        refine lv_istore (lv' := [(8, .int r_33), (7, .int r_29), (0, .ref (Z 200)), (1, .int l1), (2, .int l2), (3, .int l3), (4, .int l4), (5, .int l5)]) hx hb dX12_sets_260 hl (by decide) rfl (fun ls hl => ?_)
        refine lv_goto (tgt := 270) hx hb dX12_sets_262 (by decide) ?_
        exact b_sets_270 X hE hF hL  h hS (lv_sub hl [2, 3, 5, 6, 0] rfl)
    · have h := ip (c_27) h
      refine lv_aload_n hx hb dX12_sets_176 rfl (lv_at hl 0 rfl) ?_
      obtain ⟨r_35, u_34, h_u_34, h⟩ := bn_of h
      refine kg_expression X hS h_u_34 (Nat.le_trans (Nat.le_of_ble_eq_true rfl) hF) (Nat.le_trans (Nat.le_of_ble_eq_true rfl) hL) hl.1 (Nat.le_of_ble_eq_true rfl) dX12_sets_177 (fun H locs hS => ?_)
      refine lv_istore (lv' := [(7, .int r_35), (0, .ref (Z 200)), (1, .int l1), (2, .int l2), (3, .int l3), (4, .int l4), (5, .int l5)]) hx hb dX12_sets_180 hl (by decide) rfl (fun ls hl => ?_)
      refine lv_aload_n hx hb dX12_sets_182 rfl (lv_at hl 1 rfl) ?_
      refine lv_iload_n hx hb dX12_sets_183 rfl (lv_at hl 3 rfl) ?_
      refine lv_iconst (v := (-1)) hx hb dX12_sets_184 (by decide) ?_
      refine lv_icmp_ne (tgt := 202) hx hb dX12_sets_185 (by decide) (fun c_36 => ?_) (fun c_36 => ?_)
      · have h := im (c_36) h
        exact b_sets_202 X hE hF hL  h hS (lv_sub hl [1, 2, 3, 5] rfl)
      · have h := ip (c_36) h
        refine lv_aload_n hx hb dX12_sets_188 rfl (lv_at hl 1 rfl) ?_
        refine lv_iload hx hb dX12_sets_189 (lv_at hl 0 rfl) ?_
        refine lv_iload_n hx hb dX12_sets_191 rfl (lv_at hl 2 rfl) ?_
        obtain ⟨r_38, u_37, h_u_37, h⟩ := bn_of h
        refine kc_isTooWide X hS h_u_37 (Nat.le_trans (Nat.le_of_ble_eq_true rfl) hF) (Nat.le_trans (Nat.le_of_ble_eq_true rfl) hL) hl.1 (Nat.le_of_ble_eq_true rfl) dX12_sets_192 (fun H locs hS => ?_)
        refine lv_if_eq (tgt := 202) hx hb dX12_sets_195 (by decide) (fun c_39 => ?_) (fun c_39 => ?_)
        · have h := ip (c_39) h
          exact b_sets_202 X hE hF hL  h hS (lv_sub hl [1, 2, 3, 5] rfl)
        · have h := im (c_39) h
          refine lv_iconst (v := 1) hx hb dX12_sets_198 (by decide) ?_
          refine lv_goto (tgt := 203) hx hb dX12_sets_199 (by decide) ?_
          exact b_sets_203 X hE hF hL  h hS (lv_sub hl [1, 2, 3, 5] rfl)
  · have h := im (c_25) h
    obtain ⟨-, rfl⟩ := so h
    exact hE _ _ _ _ hS dX12_sets_158
def B_sets_144 (N : Nat) (l1 : Int32) (l2 : Int32) (l3 : Int32) (l4 : Int32) (l5 : Int32) (u : RSt) : Option (Int32 × RSt) := B_sets_145 N l1 l2 l3 l4 l5 0 u
set_option maxHeartbeats 4000000 in
theorem b_sets_144 {r : Int32} (X : RC p s m args c cX12_sets 10 (Cond.code yX12_sets cX12_sets 10 none) D kA V A) (hE : REv p l e R s m args below meth c cX12_sets D kA Z A Q w) (hF : 413 ≤ R.frames) (hL : 24531 ≤ R.locals) {l1 : Int32} {l2 : Int32} {l3 : Int32} {l4 : Int32} {l5 : Int32}  {u : RSt} (h : B_sets_144 N l1 l2 l3 l4 l5 u = some (r, w)) (hS : RS D kA Z A s u H locs) (hl : lv_has ls 10 [(0, .ref (Z 200)), (1, .int l1), (2, .int l2), (3, .int l3), (4, .int l4), (5, .int l5)]) : W p l e R s m args below meth c H locs 0 0 Q (F0 m 144 ls [.ref (Z 200)]) := by
  obtain ⟨⟨hx, hb, hml, hown, hts⟩, hK, hEV, hA⟩ := id X
  have hG : ∀ w ∈ GW, w.before args s = true := fun w h => hts w (List.mem_cons_of_mem _ h)
  unfold B_sets_144 at h
  refine lv_iconst (v := 0) hx hb dX12_sets_144 (by decide) ?_
  exact b_sets_145 X hE hF hL  h hS (lv_sub hl [0, 1, 2, 3, 4, 5] rfl)
def B_sets_127 (N : Nat) (l1 : Int32) (l2 : Int32) (l3 : Int32) (l4 : Int32) (l5 : Int32) (u : RSt) : Option (Int32 × RSt) := if l2 = ((-1) : Int32) then (B_sets_144 N l1 l2 l3 l4 l5 u) else (if l3 = (234 : Int32) then (B_sets_144 N l1 l2 l3 l4 l5 u) else (B_sets_145 N l1 l2 l3 l4 l5 1 u))
set_option maxHeartbeats 4000000 in
theorem b_sets_127 {r : Int32} (X : RC p s m args c cX12_sets 10 (Cond.code yX12_sets cX12_sets 10 none) D kA V A) (hE : REv p l e R s m args below meth c cX12_sets D kA Z A Q w) (hF : 413 ≤ R.frames) (hL : 24531 ≤ R.locals) {l1 : Int32} {l2 : Int32} {l3 : Int32} {l4 : Int32} {l5 : Int32}  {u : RSt} (h : B_sets_127 N l1 l2 l3 l4 l5 u = some (r, w)) (hS : RS D kA Z A s u H locs) (hl : lv_has ls 10 [(0, .ref (Z 200)), (1, .int l1), (2, .int l2), (3, .int l3), (4, .int l4), (5, .int l5)]) : W p l e R s m args below meth c H locs 0 0 Q (F0 m 127 ls []) := by
  obtain ⟨⟨hx, hb, hml, hown, hts⟩, hK, hEV, hA⟩ := id X
  have hG : ∀ w ∈ GW, w.before args s = true := fun w h => hts w (List.mem_cons_of_mem _ h)
  unfold B_sets_127 at h
  refine lv_aload_n hx hb dX12_sets_127 rfl (lv_at hl 0 rfl) ?_
  refine lv_iload_n hx hb dX12_sets_128 rfl (lv_at hl 2 rfl) ?_
  refine lv_iconst (v := (-1)) hx hb dX12_sets_129 (by decide) ?_
  refine lv_icmp_eq (tgt := 144) hx hb dX12_sets_130 (by decide) (fun c_40 => ?_) (fun c_40 => ?_)
  · have h := ip (c_40) h
    exact b_sets_144 X hE hF hL  h hS (lv_sub hl [0, 1, 2, 3, 4, 5] rfl)
  · have h := im (c_40) h
    refine lv_iload_n hx hb dX12_sets_133 rfl (lv_at hl 3 rfl) ?_
    refine lv_sipush (v := 234) hx hb dX12_sets_134 (by decide) ?_
    refine lv_icmp_eq (tgt := 144) hx hb dX12_sets_137 (by decide) (fun c_41 => ?_) (fun c_41 => ?_)
    · have h := ip (c_41) h
      exact b_sets_144 X hE hF hL  h hS (lv_sub hl [0, 1, 2, 3, 4, 5] rfl)
    · have h := im (c_41) h
      refine lv_iconst (v := 1) hx hb dX12_sets_140 (by decide) ?_
      refine lv_goto (tgt := 145) hx hb dX12_sets_141 (by decide) ?_
      exact b_sets_145 X hE hF hL  h hS (lv_sub hl [0, 1, 2, 3, 4, 5] rfl)
def B_sets_97 (N : Nat) (l1 : Int32) (l2 : Int32) (l3 : Int32) (l4 : Int32) (l5 : Int32) (s0 : Int32) (u : RSt) : Option (Int32 × RSt) := if (u.1 67) = (0 : Int32) then (if l3 = (234 : Int32) then (B_sets_127 N l1 l2 l3 l4 l5 u) else (if l5 = (0 : Int32) then (if s0 = (0 : Int32) then (bn (F_stuck N u) fun _ u_46 => B_sets_127 N l1 l2 l3 l4 l5 u_46) else (B_sets_127 N l1 l2 l3 l4 l5 u)) else (B_sets_127 N l1 l2 l3 l4 l5 u))) else (B_sets_127 N l1 l2 l3 l4 l5 u)
set_option maxHeartbeats 4000000 in
theorem b_sets_97 {r : Int32} (X : RC p s m args c cX12_sets 10 (Cond.code yX12_sets cX12_sets 10 none) D kA V A) (hE : REv p l e R s m args below meth c cX12_sets D kA Z A Q w) (hF : 413 ≤ R.frames) (hL : 24531 ≤ R.locals) {l1 : Int32} {l2 : Int32} {l3 : Int32} {l4 : Int32} {l5 : Int32} {s0 : Int32}  {u : RSt} (h : B_sets_97 N l1 l2 l3 l4 l5 s0 u = some (r, w)) (hS : RS D kA Z A s u H locs) (hl : lv_has ls 10 [(0, .ref (Z 200)), (1, .int l1), (2, .int l2), (3, .int l3), (4, .int l4), (5, .int l5)]) : W p l e R s m args below meth c H locs 0 0 Q (F0 m 97 ls [.int s0]) := by
  obtain ⟨⟨hx, hb, hml, hown, hts⟩, hK, hEV, hA⟩ := id X
  have hG : ∀ w ∈ GW, w.before args s = true := fun w h => hts w (List.mem_cons_of_mem _ h)
  unfold B_sets_97 at h
  refine lv_istore (lv' := [(6, .int s0), (0, .ref (Z 200)), (1, .int l1), (2, .int l2), (3, .int l3), (4, .int l4), (5, .int l5)]) hx hb dX12_sets_97 hl (by decide) rfl (fun ls hl => ?_)
  refine lv_aload_n hx hb dX12_sets_99 rfl (lv_at hl 1 rfl) ?_
  refine rg_67 X hS dX12_sets_100 ?_
  refine lv_if_ne (tgt := 127) hx hb dX12_sets_103 (by decide) (fun c_42 => ?_) (fun c_42 => ?_)
  · have h := im (c_42) h
    exact b_sets_127 X hE hF hL  h hS (lv_sub hl [1, 2, 3, 4, 5, 6] rfl)
  · have h := ip (c_42) h
    refine lv_iload_n hx hb dX12_sets_106 rfl (lv_at hl 4 rfl) ?_
    refine lv_sipush (v := 234) hx hb dX12_sets_107 (by decide) ?_
    refine lv_icmp_eq (tgt := 127) hx hb dX12_sets_110 (by decide) (fun c_43 => ?_) (fun c_43 => ?_)
    · have h := ip (c_43) h
      exact b_sets_127 X hE hF hL  h hS (lv_sub hl [1, 2, 3, 4, 5, 6] rfl)
    · have h := im (c_43) h
      refine lv_iload hx hb dX12_sets_113 (lv_at hl 6 rfl) ?_
      refine lv_if_ne (tgt := 127) hx hb dX12_sets_115 (by decide) (fun c_44 => ?_) (fun c_44 => ?_)
      · have h := im (c_44) h
        exact b_sets_127 X hE hF hL  h hS (lv_sub hl [1, 2, 3, 4, 5, 6] rfl)
      · have h := ip (c_44) h
        refine lv_iload hx hb dX12_sets_118 (lv_at hl 0 rfl) ?_
        refine lv_if_ne (tgt := 127) hx hb dX12_sets_120 (by decide) (fun c_45 => ?_) (fun c_45 => ?_)
        · have h := im (c_45) h
          exact b_sets_127 X hE hF hL  h hS (lv_sub hl [1, 2, 3, 4, 5, 6] rfl)
        · have h := ip (c_45) h
          refine lv_aload_n hx hb dX12_sets_123 rfl (lv_at hl 1 rfl) ?_
          obtain ⟨r_u_46, u_46, h_u_46, h⟩ := bn_of h
          refine kc_stuck X hS h_u_46 (Nat.le_trans (Nat.le_of_ble_eq_true rfl) hF) (Nat.le_trans (Nat.le_of_ble_eq_true rfl) hL) hl.1 (Nat.le_of_ble_eq_true rfl) dX12_sets_124 (fun H locs hS => ?_)
          exact b_sets_127 X hE hF hL  h hS (lv_sub hl [1, 2, 3, 4, 5, 6] rfl)
def B_sets_92 (N : Nat) (l1 : Int32) (l2 : Int32) (l3 : Int32) (l4 : Int32) (l5 : Int32) (u : RSt) : Option (Int32 × RSt) := B_sets_97 N l1 l2 l3 l4 l5 1 u
set_option maxHeartbeats 4000000 in
theorem b_sets_92 {r : Int32} (X : RC p s m args c cX12_sets 10 (Cond.code yX12_sets cX12_sets 10 none) D kA V A) (hE : REv p l e R s m args below meth c cX12_sets D kA Z A Q w) (hF : 413 ≤ R.frames) (hL : 24531 ≤ R.locals) {l1 : Int32} {l2 : Int32} {l3 : Int32} {l4 : Int32} {l5 : Int32}  {u : RSt} (h : B_sets_92 N l1 l2 l3 l4 l5 u = some (r, w)) (hS : RS D kA Z A s u H locs) (hl : lv_has ls 10 [(0, .ref (Z 200)), (1, .int l1), (2, .int l2), (3, .int l3), (4, .int l4), (5, .int l5)]) : W p l e R s m args below meth c H locs 0 0 Q (F0 m 92 ls []) := by
  obtain ⟨⟨hx, hb, hml, hown, hts⟩, hK, hEV, hA⟩ := id X
  have hG : ∀ w ∈ GW, w.before args s = true := fun w h => hts w (List.mem_cons_of_mem _ h)
  unfold B_sets_92 at h
  refine lv_iconst (v := 1) hx hb dX12_sets_92 (by decide) ?_
  refine lv_goto (tgt := 97) hx hb dX12_sets_93 (by decide) ?_
  exact b_sets_97 X hE hF hL  h hS (lv_sub hl [0, 1, 2, 3, 4, 5] rfl)
def B_sets_76 (N : Nat) (l1 : Int32) (l2 : Int32) (l3 : Int32) (l4 : Int32) (s0 : Int32) (u : RSt) : Option (Int32 × RSt) := if l3 = (213 : Int32) then (B_sets_92 N l1 l2 l3 l4 s0 u) else (if l3 = (214 : Int32) then (B_sets_92 N l1 l2 l3 l4 s0 u) else (B_sets_97 N l1 l2 l3 l4 s0 0 u))
set_option maxHeartbeats 4000000 in
theorem b_sets_76 {r : Int32} (X : RC p s m args c cX12_sets 10 (Cond.code yX12_sets cX12_sets 10 none) D kA V A) (hE : REv p l e R s m args below meth c cX12_sets D kA Z A Q w) (hF : 413 ≤ R.frames) (hL : 24531 ≤ R.locals) {l1 : Int32} {l2 : Int32} {l3 : Int32} {l4 : Int32} {s0 : Int32}  {u : RSt} (h : B_sets_76 N l1 l2 l3 l4 s0 u = some (r, w)) (hS : RS D kA Z A s u H locs) (hl : lv_has ls 10 [(0, .ref (Z 200)), (1, .int l1), (2, .int l2), (3, .int l3), (4, .int l4)]) : W p l e R s m args below meth c H locs 0 0 Q (F0 m 76 ls [.int s0]) := by
  obtain ⟨⟨hx, hb, hml, hown, hts⟩, hK, hEV, hA⟩ := id X
  have hG : ∀ w ∈ GW, w.before args s = true := fun w h => hts w (List.mem_cons_of_mem _ h)
  unfold B_sets_76 at h
  refine lv_istore (lv' := [(5, .int s0), (0, .ref (Z 200)), (1, .int l1), (2, .int l2), (3, .int l3), (4, .int l4)]) hx hb dX12_sets_76 hl (by decide) rfl (fun ls hl => ?_)
  refine lv_iload_n hx hb dX12_sets_78 rfl (lv_at hl 4 rfl) ?_
  refine lv_sipush (v := 213) hx hb dX12_sets_79 (by decide) ?_
  refine lv_icmp_eq (tgt := 92) hx hb dX12_sets_82 (by decide) (fun c_47 => ?_) (fun c_47 => ?_)
  · have h := ip (c_47) h
    exact b_sets_92 X hE hF hL  h hS (lv_sub hl [1, 2, 3, 4, 5, 0] rfl)
  · have h := im (c_47) h
    refine lv_iload_n hx hb dX12_sets_85 rfl (lv_at hl 4 rfl) ?_
    refine lv_sipush (v := 214) hx hb dX12_sets_86 (by decide) ?_
    refine lv_icmp_ne (tgt := 96) hx hb dX12_sets_89 (by decide) (fun c_48 => ?_) (fun c_48 => ?_)
    · have h := im (c_48) h
      refine lv_iconst (v := 0) hx hb dX12_sets_96 (by decide) ?_
      exact b_sets_97 X hE hF hL  h hS (lv_sub hl [1, 2, 3, 4, 5, 0] rfl)
    · have h := ip (c_48) h
      exact b_sets_92 X hE hF hL  h hS (lv_sub hl [1, 2, 3, 4, 5, 0] rfl)
def B_sets_71 (N : Nat) (l1 : Int32) (l2 : Int32) (l3 : Int32) (l4 : Int32) (u : RSt) : Option (Int32 × RSt) := B_sets_76 N l1 l2 l3 l4 1 u
set_option maxHeartbeats 4000000 in
theorem b_sets_71 {r : Int32} (X : RC p s m args c cX12_sets 10 (Cond.code yX12_sets cX12_sets 10 none) D kA V A) (hE : REv p l e R s m args below meth c cX12_sets D kA Z A Q w) (hF : 413 ≤ R.frames) (hL : 24531 ≤ R.locals) {l1 : Int32} {l2 : Int32} {l3 : Int32} {l4 : Int32}  {u : RSt} (h : B_sets_71 N l1 l2 l3 l4 u = some (r, w)) (hS : RS D kA Z A s u H locs) (hl : lv_has ls 10 [(0, .ref (Z 200)), (1, .int l1), (2, .int l2), (3, .int l3), (4, .int l4)]) : W p l e R s m args below meth c H locs 0 0 Q (F0 m 71 ls []) := by
  obtain ⟨⟨hx, hb, hml, hown, hts⟩, hK, hEV, hA⟩ := id X
  have hG : ∀ w ∈ GW, w.before args s = true := fun w h => hts w (List.mem_cons_of_mem _ h)
  unfold B_sets_71 at h
  refine lv_iconst (v := 1) hx hb dX12_sets_71 (by decide) ?_
  refine lv_goto (tgt := 76) hx hb dX12_sets_72 (by decide) ?_
  exact b_sets_76 X hE hF hL  h hS (lv_sub hl [0, 1, 2, 3, 4] rfl)
def B_sets_50 (N : Nat) (l1 : Int32) (l2 : Int32) (l3 : Int32) (l4 : Int32) (u : RSt) : Option (Int32 × RSt) := if l3 = (200 : Int32) then (B_sets_71 N l1 l2 l3 l4 u) else (if l3 = (201 : Int32) then (B_sets_71 N l1 l2 l3 l4 u) else (if l3 = (202 : Int32) then (B_sets_71 N l1 l2 l3 l4 u) else (B_sets_76 N l1 l2 l3 l4 0 u)))
set_option maxHeartbeats 4000000 in
theorem b_sets_50 {r : Int32} (X : RC p s m args c cX12_sets 10 (Cond.code yX12_sets cX12_sets 10 none) D kA V A) (hE : REv p l e R s m args below meth c cX12_sets D kA Z A Q w) (hF : 413 ≤ R.frames) (hL : 24531 ≤ R.locals) {l1 : Int32} {l2 : Int32} {l3 : Int32} {l4 : Int32}  {u : RSt} (h : B_sets_50 N l1 l2 l3 l4 u = some (r, w)) (hS : RS D kA Z A s u H locs) (hl : lv_has ls 10 [(0, .ref (Z 200)), (1, .int l1), (2, .int l2), (3, .int l3), (4, .int l4)]) : W p l e R s m args below meth c H locs 0 0 Q (F0 m 50 ls []) := by
  obtain ⟨⟨hx, hb, hml, hown, hts⟩, hK, hEV, hA⟩ := id X
  have hG : ∀ w ∈ GW, w.before args s = true := fun w h => hts w (List.mem_cons_of_mem _ h)
  unfold B_sets_50 at h
  refine lv_iload_n hx hb dX12_sets_50 rfl (lv_at hl 3 rfl) ?_
  refine lv_sipush (v := 200) hx hb dX12_sets_51 (by decide) ?_
  refine lv_icmp_eq (tgt := 71) hx hb dX12_sets_54 (by decide) (fun c_49 => ?_) (fun c_49 => ?_)
  · have h := ip (c_49) h
    exact b_sets_71 X hE hF hL  h hS (lv_sub hl [0, 1, 2, 3, 4] rfl)
  · have h := im (c_49) h
    refine lv_iload_n hx hb dX12_sets_57 rfl (lv_at hl 3 rfl) ?_
    refine lv_sipush (v := 201) hx hb dX12_sets_58 (by decide) ?_
    refine lv_icmp_eq (tgt := 71) hx hb dX12_sets_61 (by decide) (fun c_50 => ?_) (fun c_50 => ?_)
    · have h := ip (c_50) h
      exact b_sets_71 X hE hF hL  h hS (lv_sub hl [0, 1, 2, 3, 4] rfl)
    · have h := im (c_50) h
      refine lv_iload_n hx hb dX12_sets_64 rfl (lv_at hl 3 rfl) ?_
      refine lv_sipush (v := 202) hx hb dX12_sets_65 (by decide) ?_
      refine lv_icmp_ne (tgt := 75) hx hb dX12_sets_68 (by decide) (fun c_51 => ?_) (fun c_51 => ?_)
      · have h := im (c_51) h
        refine lv_iconst (v := 0) hx hb dX12_sets_75 (by decide) ?_
        exact b_sets_76 X hE hF hL  h hS (lv_sub hl [0, 1, 2, 3, 4] rfl)
      · have h := ip (c_51) h
        exact b_sets_71 X hE hF hL  h hS (lv_sub hl [0, 1, 2, 3, 4] rfl)
def B_sets_0 (N : Nat) (u : RSt) : Option (Int32 × RSt) := bn (G_spot N 1 u) fun _ u_52 => rd (u_52.2.2.1 2) 1502 (u_52.1 65) fun v_53 => rd (u_52.2.2.1 3) 1502 (u_52.1 65) fun v_55 => if v_53 < (205 : Int32) then (B_sets_50 N (u_52.1 80) (u_52.1 81) v_53 v_55 u_52) else (if v_53 ≤ (212 : Int32) then (B_sets_71 N (u_52.1 80) (u_52.1 81) v_53 v_55 u_52) else (B_sets_50 N (u_52.1 80) (u_52.1 81) v_53 v_55 u_52))
set_option maxHeartbeats 4000000 in
theorem b_sets_0 {r : Int32} (X : RC p s m args c cX12_sets 10 (Cond.code yX12_sets cX12_sets 10 none) D kA V A) (hE : REv p l e R s m args below meth c cX12_sets D kA Z A Q w) (hF : 413 ≤ R.frames) (hL : 24531 ≤ R.locals)  {u : RSt} (h : B_sets_0 N u = some (r, w)) (hS : RS D kA Z A s u H locs) (hl : lv_has ls 10 [(0, .ref (Z 200))]) : W p l e R s m args below meth c H locs 0 0 Q (F0 m 0 ls []) := by
  obtain ⟨⟨hx, hb, hml, hown, hts⟩, hK, hEV, hA⟩ := id X
  have hG : ∀ w ∈ GW, w.before args s = true := fun w h => hts w (List.mem_cons_of_mem _ h)
  unfold B_sets_0 at h
  refine lv_aload_n hx hb dX12_sets_0 rfl (lv_at hl 0 rfl) ?_
  refine lv_iconst (v := 1) hx hb dX12_sets_1 (by decide) ?_
  obtain ⟨r_u_52, u_52, h_u_52, h⟩ := bn_of h
  refine kg_spot X hS h_u_52 (Nat.le_trans (Nat.le_of_ble_eq_true rfl) hF) (Nat.le_trans (Nat.le_of_ble_eq_true rfl) hL) hl.1 (Nat.le_of_ble_eq_true rfl) dX12_sets_2 (fun H locs hS => ?_)
  refine lv_aload_n hx hb dX12_sets_5 rfl (lv_at hl 0 rfl) ?_
  refine rg_80 X hS dX12_sets_6 ?_
  refine lv_istore_n (lv' := [(1, .int (u_52.1 80)), (0, .ref (Z 200))]) hx hb dX12_sets_9 rfl hl (by decide) rfl (fun ls hl => ?_)
  refine lv_aload_n hx hb dX12_sets_10 rfl (lv_at hl 1 rfl) ?_
  refine rg_81 X hS dX12_sets_11 ?_
  refine lv_istore_n (lv' := [(2, .int (u_52.1 81)), (1, .int (u_52.1 80)), (0, .ref (Z 200))]) hx hb dX12_sets_14 rfl hl (by decide) rfl (fun ls hl => ?_)
  refine lv_aload_n hx hb dX12_sets_15 rfl (lv_at hl 2 rfl) ?_
  refine rg_2 X hS dX12_sets_16 ?_
  refine lv_aload_n hx hb dX12_sets_19 rfl (lv_at hl 2 rfl) ?_
  refine rg_65 X hS dX12_sets_20 ?_
  obtain ⟨v_53, e_v_53, i_54, h⟩ := rd_of h
  refine ra_2 X hS i_54 e_v_53 dX12_sets_23 ?_
  refine lv_istore_n (lv' := [(3, .int v_53), (2, .int (u_52.1 81)), (1, .int (u_52.1 80)), (0, .ref (Z 200))]) hx hb dX12_sets_24 rfl hl (by decide) rfl (fun ls hl => ?_)
  refine lv_aload_n hx hb dX12_sets_25 rfl (lv_at hl 3 rfl) ?_
  refine rg_3 X hS dX12_sets_26 ?_
  refine lv_aload_n hx hb dX12_sets_29 rfl (lv_at hl 3 rfl) ?_
  refine rg_65 X hS dX12_sets_30 ?_
  obtain ⟨v_55, e_v_55, i_56, h⟩ := rd_of h
  refine ra_3 X hS i_56 e_v_55 dX12_sets_33 ?_
  refine lv_istore (lv' := [(4, .int v_55), (3, .int v_53), (2, .int (u_52.1 81)), (1, .int (u_52.1 80)), (0, .ref (Z 200))]) hx hb dX12_sets_34 hl (by decide) rfl (fun ls hl => ?_)
  refine lv_iload_n hx hb dX12_sets_36 rfl (lv_at hl 1 rfl) ?_
  refine lv_sipush (v := 205) hx hb dX12_sets_37 (by decide) ?_
  refine lv_icmp_lt (tgt := 50) hx hb dX12_sets_40 (by decide) (fun c_57 => ?_) (fun c_57 => ?_)
  · have h := ip (c_57) h
    exact b_sets_50 X hE hF hL  h hS (lv_sub hl [4, 3, 2, 1, 0] rfl)
  · have h := im (c_57) h
    refine lv_iload_n hx hb dX12_sets_43 rfl (lv_at hl 1 rfl) ?_
    refine lv_sipush (v := 212) hx hb dX12_sets_44 (by decide) ?_
    refine lv_icmp_le (tgt := 71) hx hb dX12_sets_47 (by decide) (fun c_58 => ?_) (fun c_58 => ?_)
    · have h := ip (c_58) h
      exact b_sets_71 X hE hF hL  h hS (lv_sub hl [4, 3, 2, 1, 0] rfl)
    · have h := im (c_58) h
      exact b_sets_50 X hE hF hL  h hS (lv_sub hl [4, 3, 2, 1, 0] rfl)
def F_sets (N : Nat) (u : RSt) : Option (Int32 × RSt) := B_sets_0 N u
set_option maxHeartbeats 4000000 in
theorem k_sets (l : Launch) (D : va_G) (kA : Nat → ClassId) (V Z : Nat → Nat) (N : Nat) (u : RSt) (sz : Nat) {r : Int32} {w : RSt} (h : F_sets N u = some (r, w)) : Met l yX12_sets (Cond.code yX12_sets cX12_sets 10 none :: GW) { frames := 413, cells := 0, slots := 0, locals := 24531 } (rPc D kA V Z [] u sz) (rQv D kA Z u sz w) 0 0 (va_A (RW kA Z u) sz) := by
  refine Met.ofW (cc := cX12_sets) (maxL := 10) (ret := none) (by decide) rfl ?_
  intro p e s m args below meth c s₁ Bd hml hv
  obtain ⟨rfl, hsz, hP, hK, hD0, hE⟩ := hv
  have hts := atoms_spec (ws := Cond.code yX12_sets cX12_sets 10 none :: GW) Bd.pre
  have hl := lv_entry (.ref (Z 200) :: []) (n := 10) (Nat.le_of_ble_eq_true rfl)
  rw [lg_entry_eq]
  generalize (lg_sl (.ref (Z 200) :: []) ++ List.replicate (10 - (lg_sl (.ref (Z 200) :: [])).length) Slot.unset).toArray = ls at hl ⊢
  have hl : lv_has ls 10 [(0, .ref (Z 200))] := hl
  subst hsz
  have X : RC p s m (.ref (Z 200) :: []).toArray c cX12_sets 10 (Cond.code yX12_sets cX12_sets 10 none) D kA V (va_A (RW kA Z u) s.heap.size) := ⟨⟨Bd.exec, Bd.bytes, hml, findClass_of_methodNamed Bd.named, hts⟩, hK, hE, fun q h => Or.inr h⟩
  exact b_sets_0 X (rend_v (cy := cX12_sets) X Bd.returns Bd.notSynchronized) (Nat.le_refl _) (Nat.le_refl _) h ⟨hP, hD0.self, va_S.rf⟩ (lv_sub hl [0] rfl)
theorem kc_sets {r : Int32} {cc : ByteArray} {pc nL : Nat} {c0 : Cond} {rest : List Value} {u : RSt} (X : RC p s m args c cc nL c0 D kA V A) (hS : RS D kA Z A s u H locs) (h : F_sets N u = some (r, w)) (hF : 413 + 1 ≤ R.frames) (hL : 8 + (10 + 11) + 24531 ≤ R.locals) (hl : ls.size = nL) (hc : (rest.map fun v => v.category).sum ≤ 8) (hdg : decode cc pc = .ok (.invokevirtual 497, 3)) (kk : ∀ H locs, RS D kA Z A s w H locs → W p l e R s m args below meth c H locs 0 0 Q (F0 m (pc + 3) ls (rest))) : W p l e R s m args below meth c H locs 0 0 Q (F0 m pc ls (.ref (Z 200) :: rest)) :=
  rcall_v (n := 0) X hS (k_sets l D kA V Z N  u H.size h) (gw_V gw_2524 gw_2526 gs_10_14 gw_16 gw_2527) (by decide +kernel) hF hL rfl hl hc rfl hdg kk
end SetsRows
