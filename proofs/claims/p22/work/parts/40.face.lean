abbrev cX11_append : ByteArray := prog_1_method_26_code
def yX11_append : MethodName := ⟨RX11, "append", "(I)V"⟩
theorem dX11_append_0 : decode cX11_append 0 = .ok (.bipush 24, 2) := by decide +kernel
theorem dX11_append_2 : decode cX11_append 2 = .ok (.istore_n 2, 1) := by decide +kernel
theorem dX11_append_3 : decode cX11_append 3 = .ok (.iload_n 2, 1) := by decide +kernel
theorem dX11_append_4 : decode cX11_append 4 = .ok (.ifCond .lt 42, 3) := by decide +kernel
theorem dX11_append_7 : decode cX11_append 7 = .ok (.aload_n 0, 1) := by decide +kernel
theorem dX11_append_8 : decode cX11_append 8 = .ok (.getfield 77, 3) := by decide +kernel
theorem dX11_append_11 : decode cX11_append 11 = .ok (.sipush 6000, 3) := by decide +kernel
theorem dX11_append_14 : decode cX11_append 14 = .ok (.if_icmp .ge 32, 3) := by decide +kernel
theorem dX11_append_17 : decode cX11_append 17 = .ok (.aload_n 0, 1) := by decide +kernel
theorem dX11_append_18 : decode cX11_append 18 = .ok (.getfield 9, 3) := by decide +kernel
theorem dX11_append_21 : decode cX11_append 21 = .ok (.aload_n 0, 1) := by decide +kernel
theorem dX11_append_22 : decode cX11_append 22 = .ok (.getfield 77, 3) := by decide +kernel
theorem dX11_append_25 : decode cX11_append 25 = .ok (.iload_n 1, 1) := by decide +kernel
theorem dX11_append_26 : decode cX11_append 26 = .ok (.iload_n 2, 1) := by decide +kernel
theorem dX11_append_27 : decode cX11_append 27 = .ok (.ishr, 1) := by decide +kernel
theorem dX11_append_28 : decode cX11_append 28 = .ok (.i2b, 1) := by decide +kernel
theorem dX11_append_29 : decode cX11_append 29 = .ok (.bastore, 1) := by decide +kernel
theorem dX11_append_30 : decode cX11_append 30 = .ok (.aload_n 0, 1) := by decide +kernel
theorem dX11_append_31 : decode cX11_append 31 = .ok (.dup, 1) := by decide +kernel
theorem dX11_append_32 : decode cX11_append 32 = .ok (.getfield 77, 3) := by decide +kernel
theorem dX11_append_35 : decode cX11_append 35 = .ok (.iconst 1, 1) := by decide +kernel
theorem dX11_append_36 : decode cX11_append 36 = .ok (.iadd, 1) := by decide +kernel
theorem dX11_append_37 : decode cX11_append 37 = .ok (.putfield 77, 3) := by decide +kernel
theorem dX11_append_40 : decode cX11_append 40 = .ok (.iinc 2 (-8), 3) := by decide +kernel
theorem dX11_append_43 : decode cX11_append 43 = .ok (.goto (-40), 3) := by decide +kernel
theorem dX11_append_46 : decode cX11_append 46 = .ok (.return_, 1) := by decide +kernel
abbrev cX11_feed : ByteArray := prog_1_method_2_code
def yX11_feed : MethodName := ⟨RX11, "feed", "(IIIII)Z"⟩
theorem dX11_feed_0 : decode cX11_feed 0 = .ok (.aload_n 0, 1) := by decide +kernel
theorem dX11_feed_1 : decode cX11_feed 1 = .ok (.getfield 77, 3) := by decide +kernel
theorem dX11_feed_4 : decode cX11_feed 4 = .ok (.bipush 20, 2) := by decide +kernel
theorem dX11_feed_6 : decode cX11_feed 6 = .ok (.iadd, 1) := by decide +kernel
theorem dX11_feed_7 : decode cX11_feed 7 = .ok (.sipush 6000, 3) := by decide +kernel
theorem dX11_feed_10 : decode cX11_feed 10 = .ok (.if_icmp .le 5, 3) := by decide +kernel
theorem dX11_feed_13 : decode cX11_feed 13 = .ok (.iconst 0, 1) := by decide +kernel
theorem dX11_feed_14 : decode cX11_feed 14 = .ok (.ireturn, 1) := by decide +kernel
theorem dX11_feed_15 : decode cX11_feed 15 = .ok (.aload_n 0, 1) := by decide +kernel
theorem dX11_feed_16 : decode cX11_feed 16 = .ok (.iload_n 1, 1) := by decide +kernel
theorem dX11_feed_17 : decode cX11_feed 17 = .ok (.invokevirtual 80, 3) := by decide +kernel
theorem dX11_feed_20 : decode cX11_feed 20 = .ok (.aload_n 0, 1) := by decide +kernel
theorem dX11_feed_21 : decode cX11_feed 21 = .ok (.iload_n 2, 1) := by decide +kernel
theorem dX11_feed_22 : decode cX11_feed 22 = .ok (.invokevirtual 80, 3) := by decide +kernel
theorem dX11_feed_25 : decode cX11_feed 25 = .ok (.aload_n 0, 1) := by decide +kernel
theorem dX11_feed_26 : decode cX11_feed 26 = .ok (.iload_n 3, 1) := by decide +kernel
theorem dX11_feed_27 : decode cX11_feed 27 = .ok (.invokevirtual 80, 3) := by decide +kernel
theorem dX11_feed_30 : decode cX11_feed 30 = .ok (.aload_n 0, 1) := by decide +kernel
theorem dX11_feed_31 : decode cX11_feed 31 = .ok (.iload 4, 2) := by decide +kernel
theorem dX11_feed_33 : decode cX11_feed 33 = .ok (.invokevirtual 80, 3) := by decide +kernel
theorem dX11_feed_36 : decode cX11_feed 36 = .ok (.aload_n 0, 1) := by decide +kernel
theorem dX11_feed_37 : decode cX11_feed 37 = .ok (.iload 5, 2) := by decide +kernel
theorem dX11_feed_39 : decode cX11_feed 39 = .ok (.invokevirtual 80, 3) := by decide +kernel
theorem dX11_feed_42 : decode cX11_feed 42 = .ok (.iconst 1, 1) := by decide +kernel
theorem dX11_feed_43 : decode cX11_feed 43 = .ok (.ireturn, 1) := by decide +kernel
abbrev cX11_end : ByteArray := prog_1_method_3_code
def yX11_end : MethodName := ⟨RX11, "end", "(I)Z"⟩
theorem dX11_end_0 : decode cX11_end 0 = .ok (.iload_n 1, 1) := by decide +kernel
theorem dX11_end_1 : decode cX11_end 1 = .ok (.ifCond .lt 11, 3) := by decide +kernel
theorem dX11_end_4 : decode cX11_end 4 = .ok (.iload_n 1, 1) := by decide +kernel
theorem dX11_end_5 : decode cX11_end 5 = .ok (.aload_n 0, 1) := by decide +kernel
theorem dX11_end_6 : decode cX11_end 6 = .ok (.getfield 77, 3) := by decide +kernel
theorem dX11_end_9 : decode cX11_end 9 = .ok (.if_icmp .le 5, 3) := by decide +kernel
theorem dX11_end_12 : decode cX11_end 12 = .ok (.iconst 0, 1) := by decide +kernel
theorem dX11_end_13 : decode cX11_end 13 = .ok (.ireturn, 1) := by decide +kernel
theorem dX11_end_14 : decode cX11_end 14 = .ok (.aload_n 0, 1) := by decide +kernel
theorem dX11_end_15 : decode cX11_end 15 = .ok (.iload_n 1, 1) := by decide +kernel
theorem dX11_end_16 : decode cX11_end 16 = .ok (.putfield 77, 3) := by decide +kernel
theorem dX11_end_19 : decode cX11_end 19 = .ok (.iconst 1, 1) := by decide +kernel
theorem dX11_end_20 : decode cX11_end 20 = .ok (.ireturn, 1) := by decide +kernel
abbrev cX11_place : ByteArray := prog_1_method_5_code
def yX11_place : MethodName := ⟨RX11, "place", "()I"⟩
theorem dX11_place_0 : decode cX11_place 0 = .ok (.aload_n 0, 1) := by decide +kernel
theorem dX11_place_1 : decode cX11_place 1 = .ok (.getfield 18, 3) := by decide +kernel
theorem dX11_place_4 : decode cX11_place 4 = .ok (.getfield 103, 3) := by decide +kernel
theorem dX11_place_7 : decode cX11_place 7 = .ok (.ireturn, 1) := by decide +kernel
abbrev cX11_hasPlace : ByteArray := prog_1_method_29_code
def yX11_hasPlace : MethodName := ⟨RX11, "hasPlace", "(II)Z"⟩
theorem dX11_hasPlace_0 : decode cX11_hasPlace 0 = .ok (.aload_n 0, 1) := by decide +kernel
theorem dX11_hasPlace_1 : decode cX11_hasPlace 1 = .ok (.getfield 48, 3) := by decide +kernel
theorem dX11_hasPlace_4 : decode cX11_hasPlace 4 = .ok (.iconst 0, 1) := by decide +kernel
theorem dX11_hasPlace_5 : decode cX11_hasPlace 5 = .ok (.iload_n 1, 1) := by decide +kernel
theorem dX11_hasPlace_6 : decode cX11_hasPlace 6 = .ok (.invokevirtual 176, 3) := by decide +kernel
theorem dX11_hasPlace_9 : decode cX11_hasPlace 9 = .ok (.ifCond .eq 27, 3) := by decide +kernel
theorem dX11_hasPlace_12 : decode cX11_hasPlace 12 = .ok (.iload_n 2, 1) := by decide +kernel
theorem dX11_hasPlace_13 : decode cX11_hasPlace 13 = .ok (.ifCond .lt 23, 3) := by decide +kernel
theorem dX11_hasPlace_16 : decode cX11_hasPlace 16 = .ok (.iload_n 2, 1) := by decide +kernel
theorem dX11_hasPlace_17 : decode cX11_hasPlace 17 = .ok (.aload_n 0, 1) := by decide +kernel
theorem dX11_hasPlace_18 : decode cX11_hasPlace 18 = .ok (.getfield 48, 3) := by decide +kernel
theorem dX11_hasPlace_21 : decode cX11_hasPlace 21 = .ok (.iconst 0, 1) := by decide +kernel
theorem dX11_hasPlace_22 : decode cX11_hasPlace 22 = .ok (.iload_n 1, 1) := by decide +kernel
theorem dX11_hasPlace_23 : decode cX11_hasPlace 23 = .ok (.invokevirtual 121, 3) := by decide +kernel
theorem dX11_hasPlace_26 : decode cX11_hasPlace 26 = .ok (.getfield 133, 3) := by decide +kernel
theorem dX11_hasPlace_29 : decode cX11_hasPlace 29 = .ok (.if_icmp .ge 7, 3) := by decide +kernel
theorem dX11_hasPlace_32 : decode cX11_hasPlace 32 = .ok (.iconst 1, 1) := by decide +kernel
theorem dX11_hasPlace_33 : decode cX11_hasPlace 33 = .ok (.goto 4, 3) := by decide +kernel
theorem dX11_hasPlace_36 : decode cX11_hasPlace 36 = .ok (.iconst 0, 1) := by decide +kernel
theorem dX11_hasPlace_37 : decode cX11_hasPlace 37 = .ok (.ireturn, 1) := by decide +kernel
abbrev cX11_runTick : ByteArray := prog_1_method_28_code
def yX11_runTick : MethodName := ⟨RX11, "runTick", "()I"⟩
theorem dX11_runTick_0 : decode cX11_runTick 0 = .ok (.aload_n 0, 1) := by decide +kernel
theorem dX11_runTick_1 : decode cX11_runTick 1 = .ok (.getfield 34, 3) := by decide +kernel
theorem dX11_runTick_4 : decode cX11_runTick 4 = .ok (.invokevirtual 366, 3) := by decide +kernel
theorem dX11_runTick_7 : decode cX11_runTick 7 = .ok (.iconst 0, 1) := by decide +kernel
theorem dX11_runTick_8 : decode cX11_runTick 8 = .ok (.istore_n 1, 1) := by decide +kernel
theorem dX11_runTick_9 : decode cX11_runTick 9 = .ok (.iconst 0, 1) := by decide +kernel
theorem dX11_runTick_10 : decode cX11_runTick 10 = .ok (.istore_n 2, 1) := by decide +kernel
theorem dX11_runTick_11 : decode cX11_runTick 11 = .ok (.iload_n 2, 1) := by decide +kernel
theorem dX11_runTick_12 : decode cX11_runTick 12 = .ok (.aload_n 0, 1) := by decide +kernel
theorem dX11_runTick_13 : decode cX11_runTick 13 = .ok (.getfield 48, 3) := by decide +kernel
theorem dX11_runTick_16 : decode cX11_runTick 16 = .ok (.iconst 2, 1) := by decide +kernel
theorem dX11_runTick_17 : decode cX11_runTick 17 = .ok (.invokevirtual 117, 3) := by decide +kernel
theorem dX11_runTick_20 : decode cX11_runTick 20 = .ok (.if_icmp .ge 75, 3) := by decide +kernel
theorem dX11_runTick_23 : decode cX11_runTick 23 = .ok (.aload_n 0, 1) := by decide +kernel
theorem dX11_runTick_24 : decode cX11_runTick 24 = .ok (.getfield 48, 3) := by decide +kernel
theorem dX11_runTick_27 : decode cX11_runTick 27 = .ok (.getfield 153, 3) := by decide +kernel
theorem dX11_runTick_30 : decode cX11_runTick 30 = .ok (.iload_n 2, 1) := by decide +kernel
theorem dX11_runTick_31 : decode cX11_runTick 31 = .ok (.aaload, 1) := by decide +kernel
theorem dX11_runTick_32 : decode cX11_runTick 32 = .ok (.astore_n 3, 1) := by decide +kernel
theorem dX11_runTick_33 : decode cX11_runTick 33 = .ok (.aload_n 3, 1) := by decide +kernel
theorem dX11_runTick_34 : decode cX11_runTick 34 = .ok (.getfield 157, 3) := by decide +kernel
theorem dX11_runTick_37 : decode cX11_runTick 37 = .ok (.ifCond .ne 52, 3) := by decide +kernel
theorem dX11_runTick_40 : decode cX11_runTick 40 = .ok (.aload_n 3, 1) := by decide +kernel
theorem dX11_runTick_41 : decode cX11_runTick 41 = .ok (.aload_n 0, 1) := by decide +kernel
theorem dX11_runTick_42 : decode cX11_runTick 42 = .ok (.getfield 150, 3) := by decide +kernel
theorem dX11_runTick_45 : decode cX11_runTick 45 = .ok (.invokevirtual 369, 3) := by decide +kernel
theorem dX11_runTick_48 : decode cX11_runTick 48 = .ok (.ifCond .eq 41, 3) := by decide +kernel
theorem dX11_runTick_51 : decode cX11_runTick 51 = .ok (.aload_n 0, 1) := by decide +kernel
theorem dX11_runTick_52 : decode cX11_runTick 52 = .ok (.getfield 69, 3) := by decide +kernel
theorem dX11_runTick_55 : decode cX11_runTick 55 = .ok (.aload_n 0, 1) := by decide +kernel
theorem dX11_runTick_56 : decode cX11_runTick 56 = .ok (.getfield 48, 3) := by decide +kernel
theorem dX11_runTick_59 : decode cX11_runTick 59 = .ok (.aload_n 3, 1) := by decide +kernel
theorem dX11_runTick_60 : decode cX11_runTick 60 = .ok (.getfield 372, 3) := by decide +kernel
theorem dX11_runTick_63 : decode cX11_runTick 63 = .ok (.aload_n 0, 1) := by decide +kernel
theorem dX11_runTick_64 : decode cX11_runTick 64 = .ok (.getfield 73, 3) := by decide +kernel
theorem dX11_runTick_67 : decode cX11_runTick 67 = .ok (.aload_n 0, 1) := by decide +kernel
theorem dX11_runTick_68 : decode cX11_runTick 68 = .ok (.getfield 150, 3) := by decide +kernel
theorem dX11_runTick_71 : decode cX11_runTick 71 = .ok (.invokevirtual 375, 3) := by decide +kernel
theorem dX11_runTick_74 : decode cX11_runTick 74 = .ok (.aload_n 3, 1) := by decide +kernel
theorem dX11_runTick_75 : decode cX11_runTick 75 = .ok (.aload_n 0, 1) := by decide +kernel
theorem dX11_runTick_76 : decode cX11_runTick 76 = .ok (.getfield 69, 3) := by decide +kernel
theorem dX11_runTick_79 : decode cX11_runTick 79 = .ok (.aload_n 0, 1) := by decide +kernel
theorem dX11_runTick_80 : decode cX11_runTick 80 = .ok (.getfield 150, 3) := by decide +kernel
theorem dX11_runTick_83 : decode cX11_runTick 83 = .ok (.invokevirtual 379, 3) := by decide +kernel
theorem dX11_runTick_86 : decode cX11_runTick 86 = .ok (.iinc 1 1, 3) := by decide +kernel
theorem dX11_runTick_89 : decode cX11_runTick 89 = .ok (.iinc 2 1, 3) := by decide +kernel
theorem dX11_runTick_92 : decode cX11_runTick 92 = .ok (.goto (-81), 3) := by decide +kernel
theorem dX11_runTick_95 : decode cX11_runTick 95 = .ok (.aload_n 0, 1) := by decide +kernel
theorem dX11_runTick_96 : decode cX11_runTick 96 = .ok (.getfield 34, 3) := by decide +kernel
theorem dX11_runTick_99 : decode cX11_runTick 99 = .ok (.invokevirtual 383, 3) := by decide +kernel
theorem dX11_runTick_102 : decode cX11_runTick 102 = .ok (.iconst 0, 1) := by decide +kernel
theorem dX11_runTick_103 : decode cX11_runTick 103 = .ok (.istore_n 2, 1) := by decide +kernel
theorem dX11_runTick_104 : decode cX11_runTick 104 = .ok (.iload_n 2, 1) := by decide +kernel
theorem dX11_runTick_105 : decode cX11_runTick 105 = .ok (.aload_n 0, 1) := by decide +kernel
theorem dX11_runTick_106 : decode cX11_runTick 106 = .ok (.getfield 41, 3) := by decide +kernel
theorem dX11_runTick_109 : decode cX11_runTick 109 = .ok (.getfield 285, 3) := by decide +kernel
theorem dX11_runTick_112 : decode cX11_runTick 112 = .ok (.if_icmp .ge 56, 3) := by decide +kernel
theorem dX11_runTick_115 : decode cX11_runTick 115 = .ok (.aload_n 0, 1) := by decide +kernel
theorem dX11_runTick_116 : decode cX11_runTick 116 = .ok (.getfield 48, 3) := by decide +kernel
theorem dX11_runTick_119 : decode cX11_runTick 119 = .ok (.iconst 0, 1) := by decide +kernel
theorem dX11_runTick_120 : decode cX11_runTick 120 = .ok (.aload_n 0, 1) := by decide +kernel
theorem dX11_runTick_121 : decode cX11_runTick 121 = .ok (.getfield 41, 3) := by decide +kernel
theorem dX11_runTick_124 : decode cX11_runTick 124 = .ok (.getfield 386, 3) := by decide +kernel
theorem dX11_runTick_127 : decode cX11_runTick 127 = .ok (.iload_n 2, 1) := by decide +kernel
theorem dX11_runTick_128 : decode cX11_runTick 128 = .ok (.iaload, 1) := by decide +kernel
theorem dX11_runTick_129 : decode cX11_runTick 129 = .ok (.invokevirtual 121, 3) := by decide +kernel
theorem dX11_runTick_132 : decode cX11_runTick 132 = .ok (.astore_n 3, 1) := by decide +kernel
theorem dX11_runTick_133 : decode cX11_runTick 133 = .ok (.aload_n 0, 1) := by decide +kernel
theorem dX11_runTick_134 : decode cX11_runTick 134 = .ok (.getfield 41, 3) := by decide +kernel
theorem dX11_runTick_137 : decode cX11_runTick 137 = .ok (.iload_n 2, 1) := by decide +kernel
theorem dX11_runTick_138 : decode cX11_runTick 138 = .ok (.aload_n 0, 1) := by decide +kernel
theorem dX11_runTick_139 : decode cX11_runTick 139 = .ok (.getfield 150, 3) := by decide +kernel
theorem dX11_runTick_142 : decode cX11_runTick 142 = .ok (.aload_n 0, 1) := by decide +kernel
theorem dX11_runTick_143 : decode cX11_runTick 143 = .ok (.getfield 69, 3) := by decide +kernel
theorem dX11_runTick_146 : decode cX11_runTick 146 = .ok (.aload_n 3, 1) := by decide +kernel
theorem dX11_runTick_147 : decode cX11_runTick 147 = .ok (.aload_n 0, 1) := by decide +kernel
theorem dX11_runTick_148 : decode cX11_runTick 148 = .ok (.getfield 41, 3) := by decide +kernel
theorem dX11_runTick_151 : decode cX11_runTick 151 = .ok (.getfield 389, 3) := by decide +kernel
theorem dX11_runTick_154 : decode cX11_runTick 154 = .ok (.iload_n 2, 1) := by decide +kernel
theorem dX11_runTick_155 : decode cX11_runTick 155 = .ok (.iaload, 1) := by decide +kernel
theorem dX11_runTick_156 : decode cX11_runTick 156 = .ok (.invokevirtual 212, 3) := by decide +kernel
theorem dX11_runTick_159 : decode cX11_runTick 159 = .ok (.invokevirtual 392, 3) := by decide +kernel
theorem dX11_runTick_162 : decode cX11_runTick 162 = .ok (.iinc 2 1, 3) := by decide +kernel
theorem dX11_runTick_165 : decode cX11_runTick 165 = .ok (.goto (-61), 3) := by decide +kernel
theorem dX11_runTick_168 : decode cX11_runTick 168 = .ok (.aload_n 0, 1) := by decide +kernel
theorem dX11_runTick_169 : decode cX11_runTick 169 = .ok (.dup, 1) := by decide +kernel
theorem dX11_runTick_170 : decode cX11_runTick 170 = .ok (.getfield 150, 3) := by decide +kernel
theorem dX11_runTick_173 : decode cX11_runTick 173 = .ok (.iconst 1, 1) := by decide +kernel
theorem dX11_runTick_174 : decode cX11_runTick 174 = .ok (.iadd, 1) := by decide +kernel
theorem dX11_runTick_175 : decode cX11_runTick 175 = .ok (.putfield 150, 3) := by decide +kernel
theorem dX11_runTick_178 : decode cX11_runTick 178 = .ok (.iload_n 1, 1) := by decide +kernel
theorem dX11_runTick_179 : decode cX11_runTick 179 = .ok (.ireturn, 1) := by decide +kernel
abbrev cX11_scan : ByteArray := prog_1_method_6_code
def yX11_scan : MethodName := ⟨RX11, "scan", "(I)I"⟩
theorem dX11_scan_0 : decode cX11_scan 0 = .ok (.iload_n 1, 1) := by decide +kernel
theorem dX11_scan_1 : decode cX11_scan 1 = .ok (.iconst 1, 1) := by decide +kernel
theorem dX11_scan_2 : decode cX11_scan 2 = .ok (.if_icmp .lt 9, 3) := by decide +kernel
theorem dX11_scan_5 : decode cX11_scan 5 = .ok (.iload_n 1, 1) := by decide +kernel
theorem dX11_scan_6 : decode cX11_scan 6 = .ok (.bipush 50, 2) := by decide +kernel
theorem dX11_scan_8 : decode cX11_scan 8 = .ok (.if_icmp .le 13, 3) := by decide +kernel
theorem dX11_scan_11 : decode cX11_scan 11 = .ok (.new 106, 3) := by decide +kernel
theorem dX11_scan_14 : decode cX11_scan 14 = .ok (.dup, 1) := by decide +kernel
theorem dX11_scan_15 : decode cX11_scan 15 = .ok (.ldc 108, 2) := by decide +kernel
theorem dX11_scan_17 : decode cX11_scan 17 = .ok (.invokespecial 110, 3) := by decide +kernel
theorem dX11_scan_20 : decode cX11_scan 20 = .ok (.athrow, 1) := by decide +kernel
theorem dX11_scan_21 : decode cX11_scan 21 = .ok (.iconst 0, 1) := by decide +kernel
theorem dX11_scan_22 : decode cX11_scan 22 = .ok (.istore_n 2, 1) := by decide +kernel
theorem dX11_scan_23 : decode cX11_scan 23 = .ok (.iconst 0, 1) := by decide +kernel
theorem dX11_scan_24 : decode cX11_scan 24 = .ok (.istore_n 3, 1) := by decide +kernel
theorem dX11_scan_25 : decode cX11_scan 25 = .ok (.iload_n 3, 1) := by decide +kernel
theorem dX11_scan_26 : decode cX11_scan 26 = .ok (.iload_n 1, 1) := by decide +kernel
theorem dX11_scan_27 : decode cX11_scan 27 = .ok (.if_icmp .ge 16, 3) := by decide +kernel
theorem dX11_scan_30 : decode cX11_scan 30 = .ok (.iload_n 2, 1) := by decide +kernel
theorem dX11_scan_31 : decode cX11_scan 31 = .ok (.aload_n 0, 1) := by decide +kernel
theorem dX11_scan_32 : decode cX11_scan 32 = .ok (.invokevirtual 113, 3) := by decide +kernel
theorem dX11_scan_35 : decode cX11_scan 35 = .ok (.iadd, 1) := by decide +kernel
theorem dX11_scan_36 : decode cX11_scan 36 = .ok (.istore_n 2, 1) := by decide +kernel
theorem dX11_scan_37 : decode cX11_scan 37 = .ok (.iinc 3 1, 3) := by decide +kernel
theorem dX11_scan_40 : decode cX11_scan 40 = .ok (.goto (-15), 3) := by decide +kernel
theorem dX11_scan_43 : decode cX11_scan 43 = .ok (.iload_n 2, 1) := by decide +kernel
theorem dX11_scan_44 : decode cX11_scan 44 = .ok (.ireturn, 1) := by decide +kernel
abbrev cX11_power : ByteArray := prog_1_method_7_code
def yX11_power : MethodName := ⟨RX11, "power", "()V"⟩
theorem dX11_power_0 : decode cX11_power 0 = .ok (.iconst 0, 1) := by decide +kernel
theorem dX11_power_1 : decode cX11_power 1 = .ok (.istore_n 1, 1) := by decide +kernel
theorem dX11_power_2 : decode cX11_power 2 = .ok (.iload_n 1, 1) := by decide +kernel
theorem dX11_power_3 : decode cX11_power 3 = .ok (.aload_n 0, 1) := by decide +kernel
theorem dX11_power_4 : decode cX11_power 4 = .ok (.getfield 48, 3) := by decide +kernel
theorem dX11_power_7 : decode cX11_power 7 = .ok (.iconst 0, 1) := by decide +kernel
theorem dX11_power_8 : decode cX11_power 8 = .ok (.invokevirtual 117, 3) := by decide +kernel
theorem dX11_power_11 : decode cX11_power 11 = .ok (.if_icmp .ge 45, 3) := by decide +kernel
theorem dX11_power_14 : decode cX11_power 14 = .ok (.aload_n 0, 1) := by decide +kernel
theorem dX11_power_15 : decode cX11_power 15 = .ok (.getfield 48, 3) := by decide +kernel
theorem dX11_power_18 : decode cX11_power 18 = .ok (.iconst 0, 1) := by decide +kernel
theorem dX11_power_19 : decode cX11_power 19 = .ok (.iload_n 1, 1) := by decide +kernel
theorem dX11_power_20 : decode cX11_power 20 = .ok (.invokevirtual 121, 3) := by decide +kernel
theorem dX11_power_23 : decode cX11_power 23 = .ok (.astore_n 2, 1) := by decide +kernel
theorem dX11_power_24 : decode cX11_power 24 = .ok (.aload_n 2, 1) := by decide +kernel
theorem dX11_power_25 : decode cX11_power 25 = .ok (.getfield 125, 3) := by decide +kernel
theorem dX11_power_28 : decode cX11_power 28 = .ok (.ifCond .ne 22, 3) := by decide +kernel
theorem dX11_power_31 : decode cX11_power 31 = .ok (.aload_n 0, 1) := by decide +kernel
theorem dX11_power_32 : decode cX11_power 32 = .ok (.getfield 69, 3) := by decide +kernel
theorem dX11_power_35 : decode cX11_power 35 = .ok (.aload_n 2, 1) := by decide +kernel
theorem dX11_power_36 : decode cX11_power 36 = .ok (.getfield 130, 3) := by decide +kernel
theorem dX11_power_39 : decode cX11_power 39 = .ok (.aload_n 2, 1) := by decide +kernel
theorem dX11_power_40 : decode cX11_power 40 = .ok (.getfield 133, 3) := by decide +kernel
theorem dX11_power_43 : decode cX11_power 43 = .ok (.aload_n 2, 1) := by decide +kernel
theorem dX11_power_44 : decode cX11_power 44 = .ok (.getfield 136, 3) := by decide +kernel
theorem dX11_power_47 : decode cX11_power 47 = .ok (.invokevirtual 140, 3) := by decide +kernel
theorem dX11_power_50 : decode cX11_power 50 = .ok (.iinc 1 1, 3) := by decide +kernel
theorem dX11_power_53 : decode cX11_power 53 = .ok (.goto (-51), 3) := by decide +kernel
theorem dX11_power_56 : decode cX11_power 56 = .ok (.aload_n 0, 1) := by decide +kernel
theorem dX11_power_57 : decode cX11_power 57 = .ok (.getfield 69, 3) := by decide +kernel
theorem dX11_power_60 : decode cX11_power 60 = .ok (.aload_n 0, 1) := by decide +kernel
theorem dX11_power_61 : decode cX11_power 61 = .ok (.getfield 48, 3) := by decide +kernel
theorem dX11_power_64 : decode cX11_power 64 = .ok (.invokevirtual 144, 3) := by decide +kernel
theorem dX11_power_67 : decode cX11_power 67 = .ok (.aload_n 0, 1) := by decide +kernel
theorem dX11_power_68 : decode cX11_power 68 = .ok (.getfield 34, 3) := by decide +kernel
theorem dX11_power_71 : decode cX11_power 71 = .ok (.invokevirtual 147, 3) := by decide +kernel
theorem dX11_power_74 : decode cX11_power 74 = .ok (.aload_n 0, 1) := by decide +kernel
theorem dX11_power_75 : decode cX11_power 75 = .ok (.iconst 0, 1) := by decide +kernel
theorem dX11_power_76 : decode cX11_power 76 = .ok (.putfield 150, 3) := by decide +kernel
theorem dX11_power_79 : decode cX11_power 79 = .ok (.iconst 0, 1) := by decide +kernel
theorem dX11_power_80 : decode cX11_power 80 = .ok (.istore_n 1, 1) := by decide +kernel
theorem dX11_power_81 : decode cX11_power 81 = .ok (.iload_n 1, 1) := by decide +kernel
theorem dX11_power_82 : decode cX11_power 82 = .ok (.aload_n 0, 1) := by decide +kernel
theorem dX11_power_83 : decode cX11_power 83 = .ok (.getfield 48, 3) := by decide +kernel
theorem dX11_power_86 : decode cX11_power 86 = .ok (.iconst 2, 1) := by decide +kernel
theorem dX11_power_87 : decode cX11_power 87 = .ok (.invokevirtual 117, 3) := by decide +kernel
theorem dX11_power_90 : decode cX11_power 90 = .ok (.if_icmp .ge 22, 3) := by decide +kernel
theorem dX11_power_93 : decode cX11_power 93 = .ok (.aload_n 0, 1) := by decide +kernel
theorem dX11_power_94 : decode cX11_power 94 = .ok (.getfield 48, 3) := by decide +kernel
theorem dX11_power_97 : decode cX11_power 97 = .ok (.getfield 153, 3) := by decide +kernel
theorem dX11_power_100 : decode cX11_power 100 = .ok (.iload_n 1, 1) := by decide +kernel
theorem dX11_power_101 : decode cX11_power 101 = .ok (.aaload, 1) := by decide +kernel
theorem dX11_power_102 : decode cX11_power 102 = .ok (.iconst 0, 1) := by decide +kernel
theorem dX11_power_103 : decode cX11_power 103 = .ok (.putfield 157, 3) := by decide +kernel
theorem dX11_power_106 : decode cX11_power 106 = .ok (.iinc 1 1, 3) := by decide +kernel
theorem dX11_power_109 : decode cX11_power 109 = .ok (.goto (-28), 3) := by decide +kernel
theorem dX11_power_112 : decode cX11_power 112 = .ok (.return_, 1) := by decide +kernel
abbrev cX11_input : ByteArray := prog_1_method_8_code
def yX11_input : MethodName := ⟨RX11, "input", "(II)V"⟩
theorem dX11_input_0 : decode cX11_input 0 = .ok (.iload_n 1, 1) := by decide +kernel
theorem dX11_input_1 : decode cX11_input 1 = .ok (.ifCond .lt 9, 3) := by decide +kernel
theorem dX11_input_4 : decode cX11_input 4 = .ok (.iload_n 1, 1) := by decide +kernel
theorem dX11_input_5 : decode cX11_input 5 = .ok (.bipush 64, 2) := by decide +kernel
theorem dX11_input_7 : decode cX11_input 7 = .ok (.if_icmp .lt 13, 3) := by decide +kernel
theorem dX11_input_10 : decode cX11_input 10 = .ok (.new 163, 3) := by decide +kernel
theorem dX11_input_13 : decode cX11_input 13 = .ok (.dup, 1) := by decide +kernel
theorem dX11_input_14 : decode cX11_input 14 = .ok (.ldc 165, 2) := by decide +kernel
theorem dX11_input_16 : decode cX11_input 16 = .ok (.invokespecial 167, 3) := by decide +kernel
theorem dX11_input_19 : decode cX11_input 19 = .ok (.athrow, 1) := by decide +kernel
theorem dX11_input_20 : decode cX11_input 20 = .ok (.aload_n 0, 1) := by decide +kernel
theorem dX11_input_21 : decode cX11_input 21 = .ok (.getfield 34, 3) := by decide +kernel
theorem dX11_input_24 : decode cX11_input 24 = .ok (.getfield 168, 3) := by decide +kernel
theorem dX11_input_27 : decode cX11_input 27 = .ok (.iconst 0, 1) := by decide +kernel
theorem dX11_input_28 : decode cX11_input 28 = .ok (.aaload, 1) := by decide +kernel
theorem dX11_input_29 : decode cX11_input 29 = .ok (.iload_n 1, 1) := by decide +kernel
theorem dX11_input_30 : decode cX11_input 30 = .ok (.iload_n 2, 1) := by decide +kernel
theorem dX11_input_31 : decode cX11_input 31 = .ok (.sipush 255, 3) := by decide +kernel
theorem dX11_input_34 : decode cX11_input 34 = .ok (.iand, 1) := by decide +kernel
theorem dX11_input_35 : decode cX11_input 35 = .ok (.iastore, 1) := by decide +kernel
theorem dX11_input_36 : decode cX11_input 36 = .ok (.return_, 1) := by decide +kernel
abbrev cX11_look : ByteArray := prog_1_method_9_code
def yX11_look : MethodName := ⟨RX11, "look", "(II)I"⟩
theorem dX11_look_0 : decode cX11_look 0 = .ok (.iload_n 1, 1) := by decide +kernel
theorem dX11_look_1 : decode cX11_look 1 = .ok (.ifCond .lt 9, 3) := by decide +kernel
theorem dX11_look_4 : decode cX11_look 4 = .ok (.iload_n 1, 1) := by decide +kernel
theorem dX11_look_5 : decode cX11_look 5 = .ok (.bipush 7, 2) := by decide +kernel
theorem dX11_look_7 : decode cX11_look 7 = .ok (.if_icmp .le 13, 3) := by decide +kernel
theorem dX11_look_10 : decode cX11_look 10 = .ok (.new 106, 3) := by decide +kernel
theorem dX11_look_13 : decode cX11_look 13 = .ok (.dup, 1) := by decide +kernel
theorem dX11_look_14 : decode cX11_look 14 = .ok (.ldc 172, 2) := by decide +kernel
theorem dX11_look_16 : decode cX11_look 16 = .ok (.invokespecial 110, 3) := by decide +kernel
theorem dX11_look_19 : decode cX11_look 19 = .ok (.athrow, 1) := by decide +kernel
theorem dX11_look_20 : decode cX11_look 20 = .ok (.iload_n 2, 1) := by decide +kernel
theorem dX11_look_21 : decode cX11_look 21 = .ok (.ifCond .lt 9, 3) := by decide +kernel
theorem dX11_look_24 : decode cX11_look 24 = .ok (.iload_n 2, 1) := by decide +kernel
theorem dX11_look_25 : decode cX11_look 25 = .ok (.bipush 64, 2) := by decide +kernel
theorem dX11_look_27 : decode cX11_look 27 = .ok (.if_icmp .lt 13, 3) := by decide +kernel
theorem dX11_look_30 : decode cX11_look 30 = .ok (.new 163, 3) := by decide +kernel
theorem dX11_look_33 : decode cX11_look 33 = .ok (.dup, 1) := by decide +kernel
theorem dX11_look_34 : decode cX11_look 34 = .ok (.ldc 165, 2) := by decide +kernel
theorem dX11_look_36 : decode cX11_look 36 = .ok (.invokespecial 167, 3) := by decide +kernel
theorem dX11_look_39 : decode cX11_look 39 = .ok (.athrow, 1) := by decide +kernel
theorem dX11_look_40 : decode cX11_look 40 = .ok (.aload_n 0, 1) := by decide +kernel
theorem dX11_look_41 : decode cX11_look 41 = .ok (.getfield 34, 3) := by decide +kernel
theorem dX11_look_44 : decode cX11_look 44 = .ok (.getfield 168, 3) := by decide +kernel
theorem dX11_look_47 : decode cX11_look 47 = .ok (.iload_n 1, 1) := by decide +kernel
theorem dX11_look_48 : decode cX11_look 48 = .ok (.aaload, 1) := by decide +kernel
theorem dX11_look_49 : decode cX11_look 49 = .ok (.iload_n 2, 1) := by decide +kernel
theorem dX11_look_50 : decode cX11_look 50 = .ok (.iaload, 1) := by decide +kernel
theorem dX11_look_51 : decode cX11_look 51 = .ok (.ireturn, 1) := by decide +kernel
abbrev cX11_force : ByteArray := prog_1_method_10_code
def yX11_force : MethodName := ⟨RX11, "force", "(ZIII)V"⟩
theorem dX11_force_0 : decode cX11_force 0 = .ok (.iload_n 2, 1) := by decide +kernel
theorem dX11_force_1 : decode cX11_force 1 = .ok (.ifCond .lt 9, 3) := by decide +kernel
theorem dX11_force_4 : decode cX11_force 4 = .ok (.iload_n 2, 1) := by decide +kernel
theorem dX11_force_5 : decode cX11_force 5 = .ok (.bipush 64, 2) := by decide +kernel
theorem dX11_force_7 : decode cX11_force 7 = .ok (.if_icmp .lt 13, 3) := by decide +kernel
theorem dX11_force_10 : decode cX11_force 10 = .ok (.new 163, 3) := by decide +kernel
theorem dX11_force_13 : decode cX11_force 13 = .ok (.dup, 1) := by decide +kernel
theorem dX11_force_14 : decode cX11_force 14 = .ok (.ldc 165, 2) := by decide +kernel
theorem dX11_force_16 : decode cX11_force 16 = .ok (.invokespecial 167, 3) := by decide +kernel
theorem dX11_force_19 : decode cX11_force 19 = .ok (.athrow, 1) := by decide +kernel
theorem dX11_force_20 : decode cX11_force 20 = .ok (.aload_n 0, 1) := by decide +kernel
theorem dX11_force_21 : decode cX11_force 21 = .ok (.getfield 34, 3) := by decide +kernel
theorem dX11_force_24 : decode cX11_force 24 = .ok (.getfield 168, 3) := by decide +kernel
theorem dX11_force_27 : decode cX11_force 27 = .ok (.iload_n 1, 1) := by decide +kernel
theorem dX11_force_28 : decode cX11_force 28 = .ok (.ifCond .eq 7, 3) := by decide +kernel
theorem dX11_force_31 : decode cX11_force 31 = .ok (.iconst 5, 1) := by decide +kernel
theorem dX11_force_32 : decode cX11_force 32 = .ok (.goto 4, 3) := by decide +kernel
theorem dX11_force_35 : decode cX11_force 35 = .ok (.iconst 4, 1) := by decide +kernel
theorem dX11_force_36 : decode cX11_force 36 = .ok (.aaload, 1) := by decide +kernel
theorem dX11_force_37 : decode cX11_force 37 = .ok (.iload_n 2, 1) := by decide +kernel
theorem dX11_force_38 : decode cX11_force 38 = .ok (.iload_n 3, 1) := by decide +kernel
theorem dX11_force_39 : decode cX11_force 39 = .ok (.sipush 255, 3) := by decide +kernel
theorem dX11_force_42 : decode cX11_force 42 = .ok (.iand, 1) := by decide +kernel
theorem dX11_force_43 : decode cX11_force 43 = .ok (.iastore, 1) := by decide +kernel
theorem dX11_force_44 : decode cX11_force 44 = .ok (.aload_n 0, 1) := by decide +kernel
theorem dX11_force_45 : decode cX11_force 45 = .ok (.getfield 34, 3) := by decide +kernel
theorem dX11_force_48 : decode cX11_force 48 = .ok (.getfield 168, 3) := by decide +kernel
theorem dX11_force_51 : decode cX11_force 51 = .ok (.iload_n 1, 1) := by decide +kernel
theorem dX11_force_52 : decode cX11_force 52 = .ok (.ifCond .eq 8, 3) := by decide +kernel
theorem dX11_force_55 : decode cX11_force 55 = .ok (.bipush 7, 2) := by decide +kernel
theorem dX11_force_57 : decode cX11_force 57 = .ok (.goto 5, 3) := by decide +kernel
theorem dX11_force_60 : decode cX11_force 60 = .ok (.bipush 6, 2) := by decide +kernel
theorem dX11_force_62 : decode cX11_force 62 = .ok (.aaload, 1) := by decide +kernel
theorem dX11_force_63 : decode cX11_force 63 = .ok (.iload_n 2, 1) := by decide +kernel
theorem dX11_force_64 : decode cX11_force 64 = .ok (.iload_n 3, 1) := by decide +kernel
theorem dX11_force_65 : decode cX11_force 65 = .ok (.iload 4, 2) := by decide +kernel
theorem dX11_force_67 : decode cX11_force 67 = .ok (.iand, 1) := by decide +kernel
theorem dX11_force_68 : decode cX11_force 68 = .ok (.sipush 255, 3) := by decide +kernel
theorem dX11_force_71 : decode cX11_force 71 = .ok (.iand, 1) := by decide +kernel
theorem dX11_force_72 : decode cX11_force 72 = .ok (.iastore, 1) := by decide +kernel
theorem dX11_force_73 : decode cX11_force 73 = .ok (.return_, 1) := by decide +kernel
abbrev cX11_watchdog : ByteArray := prog_1_method_11_code
def yX11_watchdog : MethodName := ⟨RX11, "watchdog", "(I)V"⟩
theorem dX11_watchdog_0 : decode cX11_watchdog 0 = .ok (.iload_n 1, 1) := by decide +kernel
theorem dX11_watchdog_1 : decode cX11_watchdog 1 = .ok (.iconst 1, 1) := by decide +kernel
theorem dX11_watchdog_2 : decode cX11_watchdog 2 = .ok (.if_icmp .lt 10, 3) := by decide +kernel
theorem dX11_watchdog_5 : decode cX11_watchdog 5 = .ok (.iload_n 1, 1) := by decide +kernel
theorem dX11_watchdog_6 : decode cX11_watchdog 6 = .ok (.sipush 5000, 3) := by decide +kernel
theorem dX11_watchdog_9 : decode cX11_watchdog 9 = .ok (.if_icmp .le 13, 3) := by decide +kernel
theorem dX11_watchdog_12 : decode cX11_watchdog 12 = .ok (.new 106, 3) := by decide +kernel
theorem dX11_watchdog_15 : decode cX11_watchdog 15 = .ok (.dup, 1) := by decide +kernel
theorem dX11_watchdog_16 : decode cX11_watchdog 16 = .ok (.ldc 174, 2) := by decide +kernel
theorem dX11_watchdog_18 : decode cX11_watchdog 18 = .ok (.invokespecial 110, 3) := by decide +kernel
theorem dX11_watchdog_21 : decode cX11_watchdog 21 = .ok (.athrow, 1) := by decide +kernel
theorem dX11_watchdog_22 : decode cX11_watchdog 22 = .ok (.aload_n 0, 1) := by decide +kernel
theorem dX11_watchdog_23 : decode cX11_watchdog 23 = .ok (.iload_n 1, 1) := by decide +kernel
theorem dX11_watchdog_24 : decode cX11_watchdog 24 = .ok (.putfield 73, 3) := by decide +kernel
theorem dX11_watchdog_27 : decode cX11_watchdog 27 = .ok (.return_, 1) := by decide +kernel
abbrev cX11_clear : ByteArray := prog_1_method_12_code
def yX11_clear : MethodName := ⟨RX11, "clear", "(I)Z"⟩
theorem dX11_clear_0 : decode cX11_clear 0 = .ok (.aload_n 0, 1) := by decide +kernel
theorem dX11_clear_1 : decode cX11_clear 1 = .ok (.getfield 48, 3) := by decide +kernel
theorem dX11_clear_4 : decode cX11_clear 4 = .ok (.iconst 2, 1) := by decide +kernel
theorem dX11_clear_5 : decode cX11_clear 5 = .ok (.iload_n 1, 1) := by decide +kernel
theorem dX11_clear_6 : decode cX11_clear 6 = .ok (.invokevirtual 176, 3) := by decide +kernel
theorem dX11_clear_9 : decode cX11_clear 9 = .ok (.ifCond .ne 13, 3) := by decide +kernel
theorem dX11_clear_12 : decode cX11_clear 12 = .ok (.new 180, 3) := by decide +kernel
theorem dX11_clear_15 : decode cX11_clear 15 = .ok (.dup, 1) := by decide +kernel
theorem dX11_clear_16 : decode cX11_clear 16 = .ok (.ldc 182, 2) := by decide +kernel
theorem dX11_clear_18 : decode cX11_clear 18 = .ok (.invokespecial 184, 3) := by decide +kernel
theorem dX11_clear_21 : decode cX11_clear 21 = .ok (.athrow, 1) := by decide +kernel
theorem dX11_clear_22 : decode cX11_clear 22 = .ok (.aload_n 0, 1) := by decide +kernel
theorem dX11_clear_23 : decode cX11_clear 23 = .ok (.getfield 48, 3) := by decide +kernel
theorem dX11_clear_26 : decode cX11_clear 26 = .ok (.getfield 153, 3) := by decide +kernel
theorem dX11_clear_29 : decode cX11_clear 29 = .ok (.iload_n 1, 1) := by decide +kernel
theorem dX11_clear_30 : decode cX11_clear 30 = .ok (.aaload, 1) := by decide +kernel
theorem dX11_clear_31 : decode cX11_clear 31 = .ok (.getfield 157, 3) := by decide +kernel
theorem dX11_clear_34 : decode cX11_clear 34 = .ok (.istore_n 2, 1) := by decide +kernel
theorem dX11_clear_35 : decode cX11_clear 35 = .ok (.aload_n 0, 1) := by decide +kernel
theorem dX11_clear_36 : decode cX11_clear 36 = .ok (.getfield 48, 3) := by decide +kernel
theorem dX11_clear_39 : decode cX11_clear 39 = .ok (.getfield 153, 3) := by decide +kernel
theorem dX11_clear_42 : decode cX11_clear 42 = .ok (.iload_n 1, 1) := by decide +kernel
theorem dX11_clear_43 : decode cX11_clear 43 = .ok (.aaload, 1) := by decide +kernel
theorem dX11_clear_44 : decode cX11_clear 44 = .ok (.iconst 0, 1) := by decide +kernel
theorem dX11_clear_45 : decode cX11_clear 45 = .ok (.putfield 157, 3) := by decide +kernel
theorem dX11_clear_48 : decode cX11_clear 48 = .ok (.iload_n 2, 1) := by decide +kernel
theorem dX11_clear_49 : decode cX11_clear 49 = .ok (.ireturn, 1) := by decide +kernel
abbrev cX11_task : ByteArray := prog_1_method_13_code
def yX11_task : MethodName := ⟨RX11, "task", "(II)I"⟩
theorem dX11_task_0 : decode cX11_task 0 = .ok (.aload_n 0, 1) := by decide +kernel
theorem dX11_task_1 : decode cX11_task 1 = .ok (.getfield 48, 3) := by decide +kernel
theorem dX11_task_4 : decode cX11_task 4 = .ok (.iconst 2, 1) := by decide +kernel
theorem dX11_task_5 : decode cX11_task 5 = .ok (.iload_n 1, 1) := by decide +kernel
theorem dX11_task_6 : decode cX11_task 6 = .ok (.invokevirtual 176, 3) := by decide +kernel
theorem dX11_task_9 : decode cX11_task 9 = .ok (.ifCond .ne 13, 3) := by decide +kernel
theorem dX11_task_12 : decode cX11_task 12 = .ok (.new 180, 3) := by decide +kernel
theorem dX11_task_15 : decode cX11_task 15 = .ok (.dup, 1) := by decide +kernel
theorem dX11_task_16 : decode cX11_task 16 = .ok (.ldc 182, 2) := by decide +kernel
theorem dX11_task_18 : decode cX11_task 18 = .ok (.invokespecial 184, 3) := by decide +kernel
theorem dX11_task_21 : decode cX11_task 21 = .ok (.athrow, 1) := by decide +kernel
theorem dX11_task_22 : decode cX11_task 22 = .ok (.aload_n 0, 1) := by decide +kernel
theorem dX11_task_23 : decode cX11_task 23 = .ok (.getfield 48, 3) := by decide +kernel
theorem dX11_task_26 : decode cX11_task 26 = .ok (.getfield 153, 3) := by decide +kernel
theorem dX11_task_29 : decode cX11_task 29 = .ok (.iload_n 1, 1) := by decide +kernel
theorem dX11_task_30 : decode cX11_task 30 = .ok (.aaload, 1) := by decide +kernel
theorem dX11_task_31 : decode cX11_task 31 = .ok (.astore_n 3, 1) := by decide +kernel
theorem dX11_task_32 : decode cX11_task 32 = .ok (.iload_n 2, 1) := by decide +kernel
theorem dX11_task_33 : decode cX11_task 33 = .ok (.tableswitch 104 0 8 #[51, 56, 61, 74, 79, 84, 89, 94, 99], 51) := by decide +kernel
theorem dX11_task_84 : decode cX11_task 84 = .ok (.aload_n 3, 1) := by decide +kernel
theorem dX11_task_85 : decode cX11_task 85 = .ok (.getfield 185, 3) := by decide +kernel
theorem dX11_task_88 : decode cX11_task 88 = .ok (.ireturn, 1) := by decide +kernel
theorem dX11_task_89 : decode cX11_task 89 = .ok (.aload_n 3, 1) := by decide +kernel
theorem dX11_task_90 : decode cX11_task 90 = .ok (.getfield 188, 3) := by decide +kernel
theorem dX11_task_93 : decode cX11_task 93 = .ok (.ireturn, 1) := by decide +kernel
theorem dX11_task_94 : decode cX11_task 94 = .ok (.aload_n 3, 1) := by decide +kernel
theorem dX11_task_95 : decode cX11_task 95 = .ok (.getfield 157, 3) := by decide +kernel
theorem dX11_task_98 : decode cX11_task 98 = .ok (.ifCond .eq 7, 3) := by decide +kernel
theorem dX11_task_101 : decode cX11_task 101 = .ok (.iconst 1, 1) := by decide +kernel
theorem dX11_task_102 : decode cX11_task 102 = .ok (.goto 4, 3) := by decide +kernel
theorem dX11_task_105 : decode cX11_task 105 = .ok (.iconst 0, 1) := by decide +kernel
theorem dX11_task_106 : decode cX11_task 106 = .ok (.ireturn, 1) := by decide +kernel
theorem dX11_task_107 : decode cX11_task 107 = .ok (.aload_n 3, 1) := by decide +kernel
theorem dX11_task_108 : decode cX11_task 108 = .ok (.getfield 191, 3) := by decide +kernel
theorem dX11_task_111 : decode cX11_task 111 = .ok (.ireturn, 1) := by decide +kernel
theorem dX11_task_112 : decode cX11_task 112 = .ok (.aload_n 3, 1) := by decide +kernel
theorem dX11_task_113 : decode cX11_task 113 = .ok (.getfield 194, 3) := by decide +kernel
theorem dX11_task_116 : decode cX11_task 116 = .ok (.ireturn, 1) := by decide +kernel
theorem dX11_task_117 : decode cX11_task 117 = .ok (.aload_n 3, 1) := by decide +kernel
theorem dX11_task_118 : decode cX11_task 118 = .ok (.getfield 197, 3) := by decide +kernel
theorem dX11_task_121 : decode cX11_task 121 = .ok (.ireturn, 1) := by decide +kernel
theorem dX11_task_122 : decode cX11_task 122 = .ok (.aload_n 3, 1) := by decide +kernel
theorem dX11_task_123 : decode cX11_task 123 = .ok (.getfield 198, 3) := by decide +kernel
theorem dX11_task_126 : decode cX11_task 126 = .ok (.ireturn, 1) := by decide +kernel
theorem dX11_task_127 : decode cX11_task 127 = .ok (.aload_n 3, 1) := by decide +kernel
theorem dX11_task_128 : decode cX11_task 128 = .ok (.getfield 199, 3) := by decide +kernel
theorem dX11_task_131 : decode cX11_task 131 = .ok (.ireturn, 1) := by decide +kernel
theorem dX11_task_132 : decode cX11_task 132 = .ok (.aload_n 3, 1) := by decide +kernel
theorem dX11_task_133 : decode cX11_task 133 = .ok (.getfield 202, 3) := by decide +kernel
theorem dX11_task_136 : decode cX11_task 136 = .ok (.ireturn, 1) := by decide +kernel
theorem dX11_task_137 : decode cX11_task 137 = .ok (.new 106, 3) := by decide +kernel
theorem dX11_task_140 : decode cX11_task 140 = .ok (.dup, 1) := by decide +kernel
theorem dX11_task_141 : decode cX11_task 141 = .ok (.ldc 205, 2) := by decide +kernel
theorem dX11_task_143 : decode cX11_task 143 = .ok (.invokespecial 110, 3) := by decide +kernel
theorem dX11_task_146 : decode cX11_task 146 = .ok (.athrow, 1) := by decide +kernel
abbrev cX11_value : ByteArray := prog_1_method_14_code
def yX11_value : MethodName := ⟨RX11, "value", "(II)J"⟩
theorem dX11_value_0 : decode cX11_value 0 = .ok (.aload_n 0, 1) := by decide +kernel
theorem dX11_value_1 : decode cX11_value 1 = .ok (.iload_n 1, 1) := by decide +kernel
theorem dX11_value_2 : decode cX11_value 2 = .ok (.iload_n 2, 1) := by decide +kernel
theorem dX11_value_3 : decode cX11_value 3 = .ok (.invokevirtual 207, 3) := by decide +kernel
theorem dX11_value_6 : decode cX11_value 6 = .ok (.ifCond .ne 13, 3) := by decide +kernel
theorem dX11_value_9 : decode cX11_value 9 = .ok (.new 180, 3) := by decide +kernel
theorem dX11_value_12 : decode cX11_value 12 = .ok (.dup, 1) := by decide +kernel
theorem dX11_value_13 : decode cX11_value 13 = .ok (.ldc 210, 2) := by decide +kernel
theorem dX11_value_15 : decode cX11_value 15 = .ok (.invokespecial 184, 3) := by decide +kernel
theorem dX11_value_18 : decode cX11_value 18 = .ok (.athrow, 1) := by decide +kernel
theorem dX11_value_19 : decode cX11_value 19 = .ok (.aload_n 0, 1) := by decide +kernel
theorem dX11_value_20 : decode cX11_value 20 = .ok (.getfield 69, 3) := by decide +kernel
theorem dX11_value_23 : decode cX11_value 23 = .ok (.aload_n 0, 1) := by decide +kernel
theorem dX11_value_24 : decode cX11_value 24 = .ok (.getfield 48, 3) := by decide +kernel
theorem dX11_value_27 : decode cX11_value 27 = .ok (.iconst 0, 1) := by decide +kernel
theorem dX11_value_28 : decode cX11_value 28 = .ok (.iload_n 1, 1) := by decide +kernel
theorem dX11_value_29 : decode cX11_value 29 = .ok (.invokevirtual 121, 3) := by decide +kernel
theorem dX11_value_32 : decode cX11_value 32 = .ok (.iload_n 2, 1) := by decide +kernel
theorem dX11_value_33 : decode cX11_value 33 = .ok (.invokevirtual 212, 3) := by decide +kernel
theorem dX11_value_36 : decode cX11_value 36 = .ok (.lreturn, 1) := by decide +kernel
abbrev cX11_poke : ByteArray := prog_1_method_15_code
def yX11_poke : MethodName := ⟨RX11, "poke", "(IIJ)J"⟩
theorem dX11_poke_0 : decode cX11_poke 0 = .ok (.aload_n 0, 1) := by decide +kernel
theorem dX11_poke_1 : decode cX11_poke 1 = .ok (.iload_n 1, 1) := by decide +kernel
theorem dX11_poke_2 : decode cX11_poke 2 = .ok (.iload_n 2, 1) := by decide +kernel
theorem dX11_poke_3 : decode cX11_poke 3 = .ok (.invokevirtual 207, 3) := by decide +kernel
theorem dX11_poke_6 : decode cX11_poke 6 = .ok (.ifCond .ne 13, 3) := by decide +kernel
theorem dX11_poke_9 : decode cX11_poke 9 = .ok (.new 180, 3) := by decide +kernel
theorem dX11_poke_12 : decode cX11_poke 12 = .ok (.dup, 1) := by decide +kernel
theorem dX11_poke_13 : decode cX11_poke 13 = .ok (.ldc 210, 2) := by decide +kernel
theorem dX11_poke_15 : decode cX11_poke 15 = .ok (.invokespecial 184, 3) := by decide +kernel
theorem dX11_poke_18 : decode cX11_poke 18 = .ok (.athrow, 1) := by decide +kernel
theorem dX11_poke_19 : decode cX11_poke 19 = .ok (.aload_n 0, 1) := by decide +kernel
theorem dX11_poke_20 : decode cX11_poke 20 = .ok (.getfield 48, 3) := by decide +kernel
theorem dX11_poke_23 : decode cX11_poke 23 = .ok (.iconst 0, 1) := by decide +kernel
theorem dX11_poke_24 : decode cX11_poke 24 = .ok (.iload_n 1, 1) := by decide +kernel
theorem dX11_poke_25 : decode cX11_poke 25 = .ok (.invokevirtual 121, 3) := by decide +kernel
theorem dX11_poke_28 : decode cX11_poke 28 = .ok (.astore 5, 2) := by decide +kernel
theorem dX11_poke_30 : decode cX11_poke 30 = .ok (.aload 5, 2) := by decide +kernel
theorem dX11_poke_32 : decode cX11_poke 32 = .ok (.getfield 125, 3) := by decide +kernel
theorem dX11_poke_35 : decode cX11_poke 35 = .ok (.iconst 2, 1) := by decide +kernel
theorem dX11_poke_36 : decode cX11_poke 36 = .ok (.if_icmp .ne 13, 3) := by decide +kernel
theorem dX11_poke_39 : decode cX11_poke 39 = .ok (.new 216, 3) := by decide +kernel
theorem dX11_poke_42 : decode cX11_poke 42 = .ok (.dup, 1) := by decide +kernel
theorem dX11_poke_43 : decode cX11_poke 43 = .ok (.ldc 218, 2) := by decide +kernel
theorem dX11_poke_45 : decode cX11_poke 45 = .ok (.invokespecial 220, 3) := by decide +kernel
theorem dX11_poke_48 : decode cX11_poke 48 = .ok (.athrow, 1) := by decide +kernel
theorem dX11_poke_49 : decode cX11_poke 49 = .ok (.aload_n 0, 1) := by decide +kernel
theorem dX11_poke_50 : decode cX11_poke 50 = .ok (.getfield 69, 3) := by decide +kernel
theorem dX11_poke_53 : decode cX11_poke 53 = .ok (.aload 5, 2) := by decide +kernel
theorem dX11_poke_55 : decode cX11_poke 55 = .ok (.iload_n 2, 1) := by decide +kernel
theorem dX11_poke_56 : decode cX11_poke 56 = .ok (.lload_n 3, 1) := by decide +kernel
theorem dX11_poke_57 : decode cX11_poke 57 = .ok (.invokevirtual 221, 3) := by decide +kernel
theorem dX11_poke_60 : decode cX11_poke 60 = .ok (.aload_n 0, 1) := by decide +kernel
theorem dX11_poke_61 : decode cX11_poke 61 = .ok (.getfield 69, 3) := by decide +kernel
theorem dX11_poke_64 : decode cX11_poke 64 = .ok (.aload 5, 2) := by decide +kernel
theorem dX11_poke_66 : decode cX11_poke 66 = .ok (.iload_n 2, 1) := by decide +kernel
theorem dX11_poke_67 : decode cX11_poke 67 = .ok (.invokevirtual 212, 3) := by decide +kernel
theorem dX11_poke_70 : decode cX11_poke 70 = .ok (.lreturn, 1) := by decide +kernel
abbrev cX11_variable : ByteArray := prog_1_method_16_code
def yX11_variable : MethodName := ⟨RX11, "variable", "(II)I"⟩
theorem dX11_variable_0 : decode cX11_variable 0 = .ok (.aload_n 0, 1) := by decide +kernel
theorem dX11_variable_1 : decode cX11_variable 1 = .ok (.getfield 48, 3) := by decide +kernel
theorem dX11_variable_4 : decode cX11_variable 4 = .ok (.iconst 0, 1) := by decide +kernel
theorem dX11_variable_5 : decode cX11_variable 5 = .ok (.iload_n 1, 1) := by decide +kernel
theorem dX11_variable_6 : decode cX11_variable 6 = .ok (.invokevirtual 176, 3) := by decide +kernel
theorem dX11_variable_9 : decode cX11_variable 9 = .ok (.ifCond .ne 13, 3) := by decide +kernel
theorem dX11_variable_12 : decode cX11_variable 12 = .ok (.new 180, 3) := by decide +kernel
theorem dX11_variable_15 : decode cX11_variable 15 = .ok (.dup, 1) := by decide +kernel
theorem dX11_variable_16 : decode cX11_variable 16 = .ok (.ldc 225, 2) := by decide +kernel
theorem dX11_variable_18 : decode cX11_variable 18 = .ok (.invokespecial 184, 3) := by decide +kernel
theorem dX11_variable_21 : decode cX11_variable 21 = .ok (.athrow, 1) := by decide +kernel
theorem dX11_variable_22 : decode cX11_variable 22 = .ok (.aload_n 0, 1) := by decide +kernel
theorem dX11_variable_23 : decode cX11_variable 23 = .ok (.getfield 48, 3) := by decide +kernel
theorem dX11_variable_26 : decode cX11_variable 26 = .ok (.iconst 0, 1) := by decide +kernel
theorem dX11_variable_27 : decode cX11_variable 27 = .ok (.iload_n 1, 1) := by decide +kernel
theorem dX11_variable_28 : decode cX11_variable 28 = .ok (.invokevirtual 121, 3) := by decide +kernel
theorem dX11_variable_31 : decode cX11_variable 31 = .ok (.astore_n 3, 1) := by decide +kernel
theorem dX11_variable_32 : decode cX11_variable 32 = .ok (.iload_n 2, 1) := by decide +kernel
theorem dX11_variable_33 : decode cX11_variable 33 = .ok (.tableswitch 79 0 4 #[35, 40, 45, 50, 63], 35) := by decide +kernel
theorem dX11_variable_68 : decode cX11_variable 68 = .ok (.aload_n 3, 1) := by decide +kernel
theorem dX11_variable_69 : decode cX11_variable 69 = .ok (.getfield 227, 3) := by decide +kernel
theorem dX11_variable_72 : decode cX11_variable 72 = .ok (.ireturn, 1) := by decide +kernel
theorem dX11_variable_73 : decode cX11_variable 73 = .ok (.aload_n 3, 1) := by decide +kernel
theorem dX11_variable_74 : decode cX11_variable 74 = .ok (.getfield 133, 3) := by decide +kernel
theorem dX11_variable_77 : decode cX11_variable 77 = .ok (.ireturn, 1) := by decide +kernel
theorem dX11_variable_78 : decode cX11_variable 78 = .ok (.aload_n 3, 1) := by decide +kernel
theorem dX11_variable_79 : decode cX11_variable 79 = .ok (.getfield 125, 3) := by decide +kernel
theorem dX11_variable_82 : decode cX11_variable 82 = .ok (.ireturn, 1) := by decide +kernel
theorem dX11_variable_83 : decode cX11_variable 83 = .ok (.aload_n 3, 1) := by decide +kernel
theorem dX11_variable_84 : decode cX11_variable 84 = .ok (.getfield 230, 3) := by decide +kernel
theorem dX11_variable_87 : decode cX11_variable 87 = .ok (.ifCond .eq 7, 3) := by decide +kernel
theorem dX11_variable_90 : decode cX11_variable 90 = .ok (.iconst 1, 1) := by decide +kernel
theorem dX11_variable_91 : decode cX11_variable 91 = .ok (.goto 4, 3) := by decide +kernel
theorem dX11_variable_94 : decode cX11_variable 94 = .ok (.iconst 0, 1) := by decide +kernel
theorem dX11_variable_95 : decode cX11_variable 95 = .ok (.ireturn, 1) := by decide +kernel
theorem dX11_variable_96 : decode cX11_variable 96 = .ok (.aload_n 3, 1) := by decide +kernel
theorem dX11_variable_97 : decode cX11_variable 97 = .ok (.invokevirtual 233, 3) := by decide +kernel
theorem dX11_variable_100 : decode cX11_variable 100 = .ok (.ifCond .eq 10, 3) := by decide +kernel
theorem dX11_variable_103 : decode cX11_variable 103 = .ok (.aload_n 3, 1) := by decide +kernel
theorem dX11_variable_104 : decode cX11_variable 104 = .ok (.getfield 130, 3) := by decide +kernel
theorem dX11_variable_107 : decode cX11_variable 107 = .ok (.goto 4, 3) := by decide +kernel
theorem dX11_variable_110 : decode cX11_variable 110 = .ok (.iconst (-1), 1) := by decide +kernel
theorem dX11_variable_111 : decode cX11_variable 111 = .ok (.ireturn, 1) := by decide +kernel
theorem dX11_variable_112 : decode cX11_variable 112 = .ok (.new 106, 3) := by decide +kernel
theorem dX11_variable_115 : decode cX11_variable 115 = .ok (.dup, 1) := by decide +kernel
theorem dX11_variable_116 : decode cX11_variable 116 = .ok (.ldc 237, 2) := by decide +kernel
theorem dX11_variable_118 : decode cX11_variable 118 = .ok (.invokespecial 110, 3) := by decide +kernel
theorem dX11_variable_121 : decode cX11_variable 121 = .ok (.athrow, 1) := by decide +kernel
abbrev cX11_field : ByteArray := prog_1_method_17_code
def yX11_field : MethodName := ⟨RX11, "field", "(III)J"⟩
theorem dX11_field_0 : decode cX11_field 0 = .ok (.aload_n 0, 1) := by decide +kernel
theorem dX11_field_1 : decode cX11_field 1 = .ok (.getfield 48, 3) := by decide +kernel
theorem dX11_field_4 : decode cX11_field 4 = .ok (.iconst 1, 1) := by decide +kernel
theorem dX11_field_5 : decode cX11_field 5 = .ok (.iload_n 1, 1) := by decide +kernel
theorem dX11_field_6 : decode cX11_field 6 = .ok (.invokevirtual 176, 3) := by decide +kernel
theorem dX11_field_9 : decode cX11_field 9 = .ok (.ifCond .ne 13, 3) := by decide +kernel
theorem dX11_field_12 : decode cX11_field 12 = .ok (.new 180, 3) := by decide +kernel
theorem dX11_field_15 : decode cX11_field 15 = .ok (.dup, 1) := by decide +kernel
theorem dX11_field_16 : decode cX11_field 16 = .ok (.ldc 239, 2) := by decide +kernel
theorem dX11_field_18 : decode cX11_field 18 = .ok (.invokespecial 184, 3) := by decide +kernel
theorem dX11_field_21 : decode cX11_field 21 = .ok (.athrow, 1) := by decide +kernel
theorem dX11_field_22 : decode cX11_field 22 = .ok (.aload_n 0, 1) := by decide +kernel
theorem dX11_field_23 : decode cX11_field 23 = .ok (.getfield 48, 3) := by decide +kernel
theorem dX11_field_26 : decode cX11_field 26 = .ok (.iconst 1, 1) := by decide +kernel
theorem dX11_field_27 : decode cX11_field 27 = .ok (.iload_n 1, 1) := by decide +kernel
theorem dX11_field_28 : decode cX11_field 28 = .ok (.invokevirtual 121, 3) := by decide +kernel
theorem dX11_field_31 : decode cX11_field 31 = .ok (.astore 4, 2) := by decide +kernel
theorem dX11_field_33 : decode cX11_field 33 = .ok (.aload_n 0, 1) := by decide +kernel
theorem dX11_field_34 : decode cX11_field 34 = .ok (.getfield 48, 3) := by decide +kernel
theorem dX11_field_37 : decode cX11_field 37 = .ok (.aload_n 0, 1) := by decide +kernel
theorem dX11_field_38 : decode cX11_field 38 = .ok (.getfield 48, 3) := by decide +kernel
theorem dX11_field_41 : decode cX11_field 41 = .ok (.aload 4, 2) := by decide +kernel
theorem dX11_field_43 : decode cX11_field 43 = .ok (.getfield 241, 3) := by decide +kernel
theorem dX11_field_46 : decode cX11_field 46 = .ok (.invokevirtual 244, 3) := by decide +kernel
theorem dX11_field_49 : decode cX11_field 49 = .ok (.iload_n 2, 1) := by decide +kernel
theorem dX11_field_50 : decode cX11_field 50 = .ok (.invokevirtual 248, 3) := by decide +kernel
theorem dX11_field_53 : decode cX11_field 53 = .ok (.astore 5, 2) := by decide +kernel
theorem dX11_field_55 : decode cX11_field 55 = .ok (.aload 5, 2) := by decide +kernel
theorem dX11_field_57 : decode cX11_field 57 = .ok (.getfield 252, 3) := by decide +kernel
theorem dX11_field_60 : decode cX11_field 60 = .ok (.bipush 8, 2) := by decide +kernel
theorem dX11_field_62 : decode cX11_field 62 = .ok (.if_icmp .eq 16, 3) := by decide +kernel
theorem dX11_field_65 : decode cX11_field 65 = .ok (.iload_n 3, 1) := by decide +kernel
theorem dX11_field_66 : decode cX11_field 66 = .ok (.ifCond .lt 12, 3) := by decide +kernel
theorem dX11_field_69 : decode cX11_field 69 = .ok (.iload_n 3, 1) := by decide +kernel
theorem dX11_field_70 : decode cX11_field 70 = .ok (.aload 5, 2) := by decide +kernel
theorem dX11_field_72 : decode cX11_field 72 = .ok (.getfield 133, 3) := by decide +kernel
theorem dX11_field_75 : decode cX11_field 75 = .ok (.if_icmp .lt 13, 3) := by decide +kernel
theorem dX11_field_78 : decode cX11_field 78 = .ok (.new 180, 3) := by decide +kernel
theorem dX11_field_81 : decode cX11_field 81 = .ok (.dup, 1) := by decide +kernel
theorem dX11_field_82 : decode cX11_field 82 = .ok (.ldc 255, 2) := by decide +kernel
theorem dX11_field_84 : decode cX11_field 84 = .ok (.invokespecial 184, 3) := by decide +kernel
theorem dX11_field_87 : decode cX11_field 87 = .ok (.athrow, 1) := by decide +kernel
theorem dX11_field_88 : decode cX11_field 88 = .ok (.aload_n 0, 1) := by decide +kernel
theorem dX11_field_89 : decode cX11_field 89 = .ok (.getfield 69, 3) := by decide +kernel
theorem dX11_field_92 : decode cX11_field 92 = .ok (.aload 4, 2) := by decide +kernel
theorem dX11_field_94 : decode cX11_field 94 = .ok (.getfield 130, 3) := by decide +kernel
theorem dX11_field_97 : decode cX11_field 97 = .ok (.aload 5, 2) := by decide +kernel
theorem dX11_field_99 : decode cX11_field 99 = .ok (.getfield 130, 3) := by decide +kernel
theorem dX11_field_102 : decode cX11_field 102 = .ok (.iadd, 1) := by decide +kernel
theorem dX11_field_103 : decode cX11_field 103 = .ok (.iload_n 3, 1) := by decide +kernel
theorem dX11_field_104 : decode cX11_field 104 = .ok (.iadd, 1) := by decide +kernel
theorem dX11_field_105 : decode cX11_field 105 = .ok (.invokevirtual 257, 3) := by decide +kernel
theorem dX11_field_108 : decode cX11_field 108 = .ok (.lreturn, 1) := by decide +kernel
abbrev cX11_find : ByteArray := prog_1_method_18_code
def yX11_find : MethodName := ⟨RX11, "find", "(I)I"⟩
theorem dX11_find_0 : decode cX11_find 0 = .ok (.iload_n 1, 1) := by decide +kernel
theorem dX11_find_1 : decode cX11_find 1 = .ok (.ifCond .lt 8, 3) := by decide +kernel
theorem dX11_find_4 : decode cX11_find 4 = .ok (.iload_n 1, 1) := by decide +kernel
theorem dX11_find_5 : decode cX11_find 5 = .ok (.iconst 4, 1) := by decide +kernel
theorem dX11_find_6 : decode cX11_find 6 = .ok (.if_icmp .le 14, 3) := by decide +kernel
theorem dX11_find_9 : decode cX11_find 9 = .ok (.new 106, 3) := by decide +kernel
theorem dX11_find_12 : decode cX11_find 12 = .ok (.dup, 1) := by decide +kernel
theorem dX11_find_13 : decode cX11_find 13 = .ok (.ldc_w 261, 3) := by decide +kernel
theorem dX11_find_16 : decode cX11_find 16 = .ok (.invokespecial 110, 3) := by decide +kernel
theorem dX11_find_19 : decode cX11_find 19 = .ok (.athrow, 1) := by decide +kernel
theorem dX11_find_20 : decode cX11_find 20 = .ok (.aload_n 0, 1) := by decide +kernel
theorem dX11_find_21 : decode cX11_find 21 = .ok (.getfield 18, 3) := by decide +kernel
theorem dX11_find_24 : decode cX11_find 24 = .ok (.aload_n 0, 1) := by decide +kernel
theorem dX11_find_25 : decode cX11_find 25 = .ok (.getfield 77, 3) := by decide +kernel
theorem dX11_find_28 : decode cX11_find 28 = .ok (.invokevirtual 263, 3) := by decide +kernel
theorem dX11_find_31 : decode cX11_find 31 = .ok (.ifCond .ne 5, 3) := by decide +kernel
theorem dX11_find_34 : decode cX11_find 34 = .ok (.iconst (-1), 1) := by decide +kernel
theorem dX11_find_35 : decode cX11_find 35 = .ok (.ireturn, 1) := by decide +kernel
theorem dX11_find_36 : decode cX11_find 36 = .ok (.aload_n 0, 1) := by decide +kernel
theorem dX11_find_37 : decode cX11_find 37 = .ok (.getfield 48, 3) := by decide +kernel
theorem dX11_find_40 : decode cX11_find 40 = .ok (.aload_n 0, 1) := by decide +kernel
theorem dX11_find_41 : decode cX11_find 41 = .ok (.getfield 18, 3) := by decide +kernel
theorem dX11_find_44 : decode cX11_find 44 = .ok (.iconst 0, 1) := by decide +kernel
theorem dX11_find_45 : decode cX11_find 45 = .ok (.aload_n 0, 1) := by decide +kernel
theorem dX11_find_46 : decode cX11_find 46 = .ok (.getfield 77, 3) := by decide +kernel
theorem dX11_find_49 : decode cX11_find 49 = .ok (.invokevirtual 267, 3) := by decide +kernel
theorem dX11_find_52 : decode cX11_find 52 = .ok (.aload_n 0, 1) := by decide +kernel
theorem dX11_find_53 : decode cX11_find 53 = .ok (.getfield 18, 3) := by decide +kernel
theorem dX11_find_56 : decode cX11_find 56 = .ok (.iconst 0, 1) := by decide +kernel
theorem dX11_find_57 : decode cX11_find 57 = .ok (.aload_n 0, 1) := by decide +kernel
theorem dX11_find_58 : decode cX11_find 58 = .ok (.getfield 77, 3) := by decide +kernel
theorem dX11_find_61 : decode cX11_find 61 = .ok (.invokevirtual 271, 3) := by decide +kernel
theorem dX11_find_64 : decode cX11_find 64 = .ok (.invokevirtual 275, 3) := by decide +kernel
theorem dX11_find_67 : decode cX11_find 67 = .ok (.astore_n 2, 1) := by decide +kernel
theorem dX11_find_68 : decode cX11_find 68 = .ok (.aload_n 2, 1) := by decide +kernel
theorem dX11_find_69 : decode cX11_find 69 = .ok (.getfield 252, 3) := by decide +kernel
theorem dX11_find_72 : decode cX11_find 72 = .ok (.iload_n 1, 1) := by decide +kernel
theorem dX11_find_73 : decode cX11_find 73 = .ok (.if_icmp .ne 10, 3) := by decide +kernel
theorem dX11_find_76 : decode cX11_find 76 = .ok (.aload_n 2, 1) := by decide +kernel
theorem dX11_find_77 : decode cX11_find 77 = .ok (.getfield 279, 3) := by decide +kernel
theorem dX11_find_80 : decode cX11_find 80 = .ok (.goto 4, 3) := by decide +kernel
theorem dX11_find_83 : decode cX11_find 83 = .ok (.iconst (-1), 1) := by decide +kernel
theorem dX11_find_84 : decode cX11_find 84 = .ok (.ireturn, 1) := by decide +kernel
abbrev cX11_trace : ByteArray := prog_1_method_19_code
def yX11_trace : MethodName := ⟨RX11, "trace", "(IIZ)Z"⟩
theorem dX11_trace_0 : decode cX11_trace 0 = .ok (.aload_n 0, 1) := by decide +kernel
theorem dX11_trace_1 : decode cX11_trace 1 = .ok (.iload_n 1, 1) := by decide +kernel
theorem dX11_trace_2 : decode cX11_trace 2 = .ok (.iload_n 2, 1) := by decide +kernel
theorem dX11_trace_3 : decode cX11_trace 3 = .ok (.invokevirtual 207, 3) := by decide +kernel
theorem dX11_trace_6 : decode cX11_trace 6 = .ok (.ifCond .ne 13, 3) := by decide +kernel
theorem dX11_trace_9 : decode cX11_trace 9 = .ok (.new 180, 3) := by decide +kernel
theorem dX11_trace_12 : decode cX11_trace 12 = .ok (.dup, 1) := by decide +kernel
theorem dX11_trace_13 : decode cX11_trace 13 = .ok (.ldc 210, 2) := by decide +kernel
theorem dX11_trace_15 : decode cX11_trace 15 = .ok (.invokespecial 184, 3) := by decide +kernel
theorem dX11_trace_18 : decode cX11_trace 18 = .ok (.athrow, 1) := by decide +kernel
theorem dX11_trace_19 : decode cX11_trace 19 = .ok (.aload_n 0, 1) := by decide +kernel
theorem dX11_trace_20 : decode cX11_trace 20 = .ok (.getfield 41, 3) := by decide +kernel
theorem dX11_trace_23 : decode cX11_trace 23 = .ok (.iload_n 1, 1) := by decide +kernel
theorem dX11_trace_24 : decode cX11_trace 24 = .ok (.iload_n 2, 1) := by decide +kernel
theorem dX11_trace_25 : decode cX11_trace 25 = .ok (.invokevirtual 282, 3) := by decide +kernel
theorem dX11_trace_28 : decode cX11_trace 28 = .ok (.istore 4, 2) := by decide +kernel
theorem dX11_trace_30 : decode cX11_trace 30 = .ok (.iload_n 3, 1) := by decide +kernel
theorem dX11_trace_31 : decode cX11_trace 31 = .ok (.ifCond .eq 32, 3) := by decide +kernel
theorem dX11_trace_34 : decode cX11_trace 34 = .ok (.iload 4, 2) := by decide +kernel
theorem dX11_trace_36 : decode cX11_trace 36 = .ok (.iconst (-1), 1) := by decide +kernel
theorem dX11_trace_37 : decode cX11_trace 37 = .ok (.if_icmp .ne 26, 3) := by decide +kernel
theorem dX11_trace_40 : decode cX11_trace 40 = .ok (.aload_n 0, 1) := by decide +kernel
theorem dX11_trace_41 : decode cX11_trace 41 = .ok (.getfield 41, 3) := by decide +kernel
theorem dX11_trace_44 : decode cX11_trace 44 = .ok (.getfield 285, 3) := by decide +kernel
theorem dX11_trace_47 : decode cX11_trace 47 = .ok (.bipush 16, 2) := by decide +kernel
theorem dX11_trace_49 : decode cX11_trace 49 = .ok (.if_icmp .lt 14, 3) := by decide +kernel
theorem dX11_trace_52 : decode cX11_trace 52 = .ok (.new 94, 3) := by decide +kernel
theorem dX11_trace_55 : decode cX11_trace 55 = .ok (.dup, 1) := by decide +kernel
theorem dX11_trace_56 : decode cX11_trace 56 = .ok (.ldc_w 288, 3) := by decide +kernel
theorem dX11_trace_59 : decode cX11_trace 59 = .ok (.invokespecial 290, 3) := by decide +kernel
theorem dX11_trace_62 : decode cX11_trace 62 = .ok (.athrow, 1) := by decide +kernel
theorem dX11_trace_63 : decode cX11_trace 63 = .ok (.iload_n 3, 1) := by decide +kernel
theorem dX11_trace_64 : decode cX11_trace 64 = .ok (.iload 4, 2) := by decide +kernel
theorem dX11_trace_66 : decode cX11_trace 66 = .ok (.iconst (-1), 1) := by decide +kernel
theorem dX11_trace_67 : decode cX11_trace 67 = .ok (.if_icmp .eq 7, 3) := by decide +kernel
theorem dX11_trace_70 : decode cX11_trace 70 = .ok (.iconst 1, 1) := by decide +kernel
theorem dX11_trace_71 : decode cX11_trace 71 = .ok (.goto 4, 3) := by decide +kernel
theorem dX11_trace_74 : decode cX11_trace 74 = .ok (.iconst 0, 1) := by decide +kernel
theorem dX11_trace_75 : decode cX11_trace 75 = .ok (.if_icmp .ne 5, 3) := by decide +kernel
theorem dX11_trace_78 : decode cX11_trace 78 = .ok (.iconst 0, 1) := by decide +kernel
theorem dX11_trace_79 : decode cX11_trace 79 = .ok (.ireturn, 1) := by decide +kernel
theorem dX11_trace_80 : decode cX11_trace 80 = .ok (.iload_n 3, 1) := by decide +kernel
theorem dX11_trace_81 : decode cX11_trace 81 = .ok (.ifCond .eq 32, 3) := by decide +kernel
theorem dX11_trace_84 : decode cX11_trace 84 = .ok (.aload_n 0, 1) := by decide +kernel
theorem dX11_trace_85 : decode cX11_trace 85 = .ok (.getfield 41, 3) := by decide +kernel
theorem dX11_trace_88 : decode cX11_trace 88 = .ok (.iload_n 1, 1) := by decide +kernel
theorem dX11_trace_89 : decode cX11_trace 89 = .ok (.iload_n 2, 1) := by decide +kernel
theorem dX11_trace_90 : decode cX11_trace 90 = .ok (.aload_n 0, 1) := by decide +kernel
theorem dX11_trace_91 : decode cX11_trace 91 = .ok (.getfield 69, 3) := by decide +kernel
theorem dX11_trace_94 : decode cX11_trace 94 = .ok (.aload_n 0, 1) := by decide +kernel
theorem dX11_trace_95 : decode cX11_trace 95 = .ok (.getfield 48, 3) := by decide +kernel
theorem dX11_trace_98 : decode cX11_trace 98 = .ok (.iconst 0, 1) := by decide +kernel
theorem dX11_trace_99 : decode cX11_trace 99 = .ok (.iload_n 1, 1) := by decide +kernel
theorem dX11_trace_100 : decode cX11_trace 100 = .ok (.invokevirtual 121, 3) := by decide +kernel
theorem dX11_trace_103 : decode cX11_trace 103 = .ok (.iload_n 2, 1) := by decide +kernel
theorem dX11_trace_104 : decode cX11_trace 104 = .ok (.invokevirtual 212, 3) := by decide +kernel
theorem dX11_trace_107 : decode cX11_trace 107 = .ok (.invokevirtual 291, 3) := by decide +kernel
theorem dX11_trace_110 : decode cX11_trace 110 = .ok (.goto 12, 3) := by decide +kernel
theorem dX11_trace_113 : decode cX11_trace 113 = .ok (.aload_n 0, 1) := by decide +kernel
theorem dX11_trace_114 : decode cX11_trace 114 = .ok (.getfield 41, 3) := by decide +kernel
theorem dX11_trace_117 : decode cX11_trace 117 = .ok (.iload 4, 2) := by decide +kernel
theorem dX11_trace_119 : decode cX11_trace 119 = .ok (.invokevirtual 294, 3) := by decide +kernel
theorem dX11_trace_122 : decode cX11_trace 122 = .ok (.iconst 1, 1) := by decide +kernel
theorem dX11_trace_123 : decode cX11_trace 123 = .ok (.ireturn, 1) := by decide +kernel
abbrev cX11_event : ByteArray := prog_1_method_20_code
def yX11_event : MethodName := ⟨RX11, "event", "(II)J"⟩
theorem dX11_event_0 : decode cX11_event 0 = .ok (.iload_n 1, 1) := by decide +kernel
theorem dX11_event_1 : decode cX11_event 1 = .ok (.ifCond .lt 14, 3) := by decide +kernel
theorem dX11_event_4 : decode cX11_event 4 = .ok (.iload_n 1, 1) := by decide +kernel
theorem dX11_event_5 : decode cX11_event 5 = .ok (.aload_n 0, 1) := by decide +kernel
theorem dX11_event_6 : decode cX11_event 6 = .ok (.getfield 41, 3) := by decide +kernel
theorem dX11_event_9 : decode cX11_event 9 = .ok (.getfield 297, 3) := by decide +kernel
theorem dX11_event_12 : decode cX11_event 12 = .ok (.if_icmp .lt 14, 3) := by decide +kernel
theorem dX11_event_15 : decode cX11_event 15 = .ok (.new 180, 3) := by decide +kernel
theorem dX11_event_18 : decode cX11_event 18 = .ok (.dup, 1) := by decide +kernel
theorem dX11_event_19 : decode cX11_event 19 = .ok (.ldc_w 300, 3) := by decide +kernel
theorem dX11_event_22 : decode cX11_event 22 = .ok (.invokespecial 184, 3) := by decide +kernel
theorem dX11_event_25 : decode cX11_event 25 = .ok (.athrow, 1) := by decide +kernel
theorem dX11_event_26 : decode cX11_event 26 = .ok (.aload_n 0, 1) := by decide +kernel
theorem dX11_event_27 : decode cX11_event 27 = .ok (.getfield 41, 3) := by decide +kernel
theorem dX11_event_30 : decode cX11_event 30 = .ok (.iload_n 1, 1) := by decide +kernel
theorem dX11_event_31 : decode cX11_event 31 = .ok (.invokevirtual 302, 3) := by decide +kernel
theorem dX11_event_34 : decode cX11_event 34 = .ok (.istore_n 3, 1) := by decide +kernel
theorem dX11_event_35 : decode cX11_event 35 = .ok (.iload_n 2, 1) := by decide +kernel
theorem dX11_event_36 : decode cX11_event 36 = .ok (.tableswitch 75 0 3 #[32, 43, 54, 65], 32) := by decide +kernel
theorem dX11_event_68 : decode cX11_event 68 = .ok (.aload_n 0, 1) := by decide +kernel
theorem dX11_event_69 : decode cX11_event 69 = .ok (.getfield 41, 3) := by decide +kernel
theorem dX11_event_72 : decode cX11_event 72 = .ok (.getfield 305, 3) := by decide +kernel
theorem dX11_event_75 : decode cX11_event 75 = .ok (.iload_n 3, 1) := by decide +kernel
theorem dX11_event_76 : decode cX11_event 76 = .ok (.iaload, 1) := by decide +kernel
theorem dX11_event_77 : decode cX11_event 77 = .ok (.i2l, 1) := by decide +kernel
theorem dX11_event_78 : decode cX11_event 78 = .ok (.lreturn, 1) := by decide +kernel
theorem dX11_event_79 : decode cX11_event 79 = .ok (.aload_n 0, 1) := by decide +kernel
theorem dX11_event_80 : decode cX11_event 80 = .ok (.getfield 41, 3) := by decide +kernel
theorem dX11_event_83 : decode cX11_event 83 = .ok (.getfield 309, 3) := by decide +kernel
theorem dX11_event_86 : decode cX11_event 86 = .ok (.iload_n 3, 1) := by decide +kernel
theorem dX11_event_87 : decode cX11_event 87 = .ok (.iaload, 1) := by decide +kernel
theorem dX11_event_88 : decode cX11_event 88 = .ok (.i2l, 1) := by decide +kernel
theorem dX11_event_89 : decode cX11_event 89 = .ok (.lreturn, 1) := by decide +kernel
theorem dX11_event_90 : decode cX11_event 90 = .ok (.aload_n 0, 1) := by decide +kernel
theorem dX11_event_91 : decode cX11_event 91 = .ok (.getfield 41, 3) := by decide +kernel
theorem dX11_event_94 : decode cX11_event 94 = .ok (.getfield 312, 3) := by decide +kernel
theorem dX11_event_97 : decode cX11_event 97 = .ok (.iload_n 3, 1) := by decide +kernel
theorem dX11_event_98 : decode cX11_event 98 = .ok (.iaload, 1) := by decide +kernel
theorem dX11_event_99 : decode cX11_event 99 = .ok (.i2l, 1) := by decide +kernel
theorem dX11_event_100 : decode cX11_event 100 = .ok (.lreturn, 1) := by decide +kernel
theorem dX11_event_101 : decode cX11_event 101 = .ok (.aload_n 0, 1) := by decide +kernel
theorem dX11_event_102 : decode cX11_event 102 = .ok (.getfield 41, 3) := by decide +kernel
theorem dX11_event_105 : decode cX11_event 105 = .ok (.getfield 315, 3) := by decide +kernel
theorem dX11_event_108 : decode cX11_event 108 = .ok (.iload_n 3, 1) := by decide +kernel
theorem dX11_event_109 : decode cX11_event 109 = .ok (.laload, 1) := by decide +kernel
theorem dX11_event_110 : decode cX11_event 110 = .ok (.lreturn, 1) := by decide +kernel
theorem dX11_event_111 : decode cX11_event 111 = .ok (.new 106, 3) := by decide +kernel
theorem dX11_event_114 : decode cX11_event 114 = .ok (.dup, 1) := by decide +kernel
theorem dX11_event_115 : decode cX11_event 115 = .ok (.ldc_w 319, 3) := by decide +kernel
theorem dX11_event_118 : decode cX11_event 118 = .ok (.invokespecial 110, 3) := by decide +kernel
theorem dX11_event_121 : decode cX11_event 121 = .ok (.athrow, 1) := by decide +kernel
abbrev cX11_count : ByteArray := prog_1_method_21_code
def yX11_count : MethodName := ⟨RX11, "count", "(I)I"⟩
theorem dX11_count_0 : decode cX11_count 0 = .ok (.iload_n 1, 1) := by decide +kernel
theorem dX11_count_1 : decode cX11_count 1 = .ok (.tableswitch 107 0 10 #[59, 59, 59, 59, 59, 68, 73, 81, 89, 97, 102], 59) := by decide +kernel
theorem dX11_count_60 : decode cX11_count 60 = .ok (.aload_n 0, 1) := by decide +kernel
theorem dX11_count_61 : decode cX11_count 61 = .ok (.getfield 48, 3) := by decide +kernel
theorem dX11_count_64 : decode cX11_count 64 = .ok (.iload_n 1, 1) := by decide +kernel
theorem dX11_count_65 : decode cX11_count 65 = .ok (.invokevirtual 117, 3) := by decide +kernel
theorem dX11_count_68 : decode cX11_count 68 = .ok (.ireturn, 1) := by decide +kernel
theorem dX11_count_69 : decode cX11_count 69 = .ok (.aload_n 0, 1) := by decide +kernel
theorem dX11_count_70 : decode cX11_count 70 = .ok (.getfield 150, 3) := by decide +kernel
theorem dX11_count_73 : decode cX11_count 73 = .ok (.ireturn, 1) := by decide +kernel
theorem dX11_count_74 : decode cX11_count 74 = .ok (.aload_n 0, 1) := by decide +kernel
theorem dX11_count_75 : decode cX11_count 75 = .ok (.getfield 48, 3) := by decide +kernel
theorem dX11_count_78 : decode cX11_count 78 = .ok (.invokevirtual 321, 3) := by decide +kernel
theorem dX11_count_81 : decode cX11_count 81 = .ok (.ireturn, 1) := by decide +kernel
theorem dX11_count_82 : decode cX11_count 82 = .ok (.aload_n 0, 1) := by decide +kernel
theorem dX11_count_83 : decode cX11_count 83 = .ok (.getfield 41, 3) := by decide +kernel
theorem dX11_count_86 : decode cX11_count 86 = .ok (.getfield 285, 3) := by decide +kernel
theorem dX11_count_89 : decode cX11_count 89 = .ok (.ireturn, 1) := by decide +kernel
theorem dX11_count_90 : decode cX11_count 90 = .ok (.aload_n 0, 1) := by decide +kernel
theorem dX11_count_91 : decode cX11_count 91 = .ok (.getfield 41, 3) := by decide +kernel
theorem dX11_count_94 : decode cX11_count 94 = .ok (.getfield 297, 3) := by decide +kernel
theorem dX11_count_97 : decode cX11_count 97 = .ok (.ireturn, 1) := by decide +kernel
theorem dX11_count_98 : decode cX11_count 98 = .ok (.aload_n 0, 1) := by decide +kernel
theorem dX11_count_99 : decode cX11_count 99 = .ok (.getfield 77, 3) := by decide +kernel
theorem dX11_count_102 : decode cX11_count 102 = .ok (.ireturn, 1) := by decide +kernel
theorem dX11_count_103 : decode cX11_count 103 = .ok (.aload_n 0, 1) := by decide +kernel
theorem dX11_count_104 : decode cX11_count 104 = .ok (.getfield 73, 3) := by decide +kernel
theorem dX11_count_107 : decode cX11_count 107 = .ok (.ireturn, 1) := by decide +kernel
theorem dX11_count_108 : decode cX11_count 108 = .ok (.new 106, 3) := by decide +kernel
theorem dX11_count_111 : decode cX11_count 111 = .ok (.dup, 1) := by decide +kernel
theorem dX11_count_112 : decode cX11_count 112 = .ok (.ldc_w 324, 3) := by decide +kernel
theorem dX11_count_115 : decode cX11_count 115 = .ok (.invokespecial 110, 3) := by decide +kernel
theorem dX11_count_118 : decode cX11_count 118 = .ok (.athrow, 1) := by decide +kernel
abbrev cX11_sum : ByteArray := prog_1_method_22_code
def yX11_sum : MethodName := ⟨RX11, "sum", "()J"⟩
theorem dX11_sum_0 : decode cX11_sum 0 = .ok (.lconst 0, 1) := by decide +kernel
theorem dX11_sum_1 : decode cX11_sum 1 = .ok (.lstore_n 1, 1) := by decide +kernel
theorem dX11_sum_2 : decode cX11_sum 2 = .ok (.iconst 0, 1) := by decide +kernel
theorem dX11_sum_3 : decode cX11_sum 3 = .ok (.istore_n 3, 1) := by decide +kernel
theorem dX11_sum_4 : decode cX11_sum 4 = .ok (.iload_n 3, 1) := by decide +kernel
theorem dX11_sum_5 : decode cX11_sum 5 = .ok (.aload_n 0, 1) := by decide +kernel
theorem dX11_sum_6 : decode cX11_sum 6 = .ok (.getfield 48, 3) := by decide +kernel
theorem dX11_sum_9 : decode cX11_sum 9 = .ok (.iconst 0, 1) := by decide +kernel
theorem dX11_sum_10 : decode cX11_sum 10 = .ok (.invokevirtual 117, 3) := by decide +kernel
theorem dX11_sum_13 : decode cX11_sum 13 = .ok (.if_icmp .ge 57, 3) := by decide +kernel
theorem dX11_sum_16 : decode cX11_sum 16 = .ok (.aload_n 0, 1) := by decide +kernel
theorem dX11_sum_17 : decode cX11_sum 17 = .ok (.getfield 48, 3) := by decide +kernel
theorem dX11_sum_20 : decode cX11_sum 20 = .ok (.iconst 0, 1) := by decide +kernel
theorem dX11_sum_21 : decode cX11_sum 21 = .ok (.iload_n 3, 1) := by decide +kernel
theorem dX11_sum_22 : decode cX11_sum 22 = .ok (.invokevirtual 121, 3) := by decide +kernel
theorem dX11_sum_25 : decode cX11_sum 25 = .ok (.astore 4, 2) := by decide +kernel
theorem dX11_sum_27 : decode cX11_sum 27 = .ok (.iconst 0, 1) := by decide +kernel
theorem dX11_sum_28 : decode cX11_sum 28 = .ok (.istore 5, 2) := by decide +kernel
theorem dX11_sum_30 : decode cX11_sum 30 = .ok (.iload 5, 2) := by decide +kernel
theorem dX11_sum_32 : decode cX11_sum 32 = .ok (.aload 4, 2) := by decide +kernel
theorem dX11_sum_34 : decode cX11_sum 34 = .ok (.getfield 133, 3) := by decide +kernel
theorem dX11_sum_37 : decode cX11_sum 37 = .ok (.if_icmp .ge 27, 3) := by decide +kernel
theorem dX11_sum_40 : decode cX11_sum 40 = .ok (.ldc2_w 326, 3) := by decide +kernel
theorem dX11_sum_43 : decode cX11_sum 43 = .ok (.lload_n 1, 1) := by decide +kernel
theorem dX11_sum_44 : decode cX11_sum 44 = .ok (.lmul, 1) := by decide +kernel
theorem dX11_sum_45 : decode cX11_sum 45 = .ok (.aload_n 0, 1) := by decide +kernel
theorem dX11_sum_46 : decode cX11_sum 46 = .ok (.getfield 69, 3) := by decide +kernel
theorem dX11_sum_49 : decode cX11_sum 49 = .ok (.aload 4, 2) := by decide +kernel
theorem dX11_sum_51 : decode cX11_sum 51 = .ok (.iload 5, 2) := by decide +kernel
theorem dX11_sum_53 : decode cX11_sum 53 = .ok (.invokevirtual 212, 3) := by decide +kernel
theorem dX11_sum_56 : decode cX11_sum 56 = .ok (.ladd, 1) := by decide +kernel
theorem dX11_sum_57 : decode cX11_sum 57 = .ok (.lstore_n 1, 1) := by decide +kernel
theorem dX11_sum_58 : decode cX11_sum 58 = .ok (.iinc 5 1, 3) := by decide +kernel
theorem dX11_sum_61 : decode cX11_sum 61 = .ok (.goto (-31), 3) := by decide +kernel
theorem dX11_sum_64 : decode cX11_sum 64 = .ok (.iinc 3 1, 3) := by decide +kernel
theorem dX11_sum_67 : decode cX11_sum 67 = .ok (.goto (-63), 3) := by decide +kernel
theorem dX11_sum_70 : decode cX11_sum 70 = .ok (.iconst 0, 1) := by decide +kernel
theorem dX11_sum_71 : decode cX11_sum 71 = .ok (.istore_n 3, 1) := by decide +kernel
theorem dX11_sum_72 : decode cX11_sum 72 = .ok (.iload_n 3, 1) := by decide +kernel
theorem dX11_sum_73 : decode cX11_sum 73 = .ok (.aload_n 0, 1) := by decide +kernel
theorem dX11_sum_74 : decode cX11_sum 74 = .ok (.getfield 48, 3) := by decide +kernel
theorem dX11_sum_77 : decode cX11_sum 77 = .ok (.iconst 1, 1) := by decide +kernel
theorem dX11_sum_78 : decode cX11_sum 78 = .ok (.invokevirtual 117, 3) := by decide +kernel
theorem dX11_sum_81 : decode cX11_sum 81 = .ok (.if_icmp .ge 75, 3) := by decide +kernel
theorem dX11_sum_84 : decode cX11_sum 84 = .ok (.aload_n 0, 1) := by decide +kernel
theorem dX11_sum_85 : decode cX11_sum 85 = .ok (.getfield 48, 3) := by decide +kernel
theorem dX11_sum_88 : decode cX11_sum 88 = .ok (.iconst 1, 1) := by decide +kernel
theorem dX11_sum_89 : decode cX11_sum 89 = .ok (.iload_n 3, 1) := by decide +kernel
theorem dX11_sum_90 : decode cX11_sum 90 = .ok (.invokevirtual 121, 3) := by decide +kernel
theorem dX11_sum_93 : decode cX11_sum 93 = .ok (.astore 4, 2) := by decide +kernel
theorem dX11_sum_95 : decode cX11_sum 95 = .ok (.aload_n 0, 1) := by decide +kernel
theorem dX11_sum_96 : decode cX11_sum 96 = .ok (.getfield 48, 3) := by decide +kernel
theorem dX11_sum_99 : decode cX11_sum 99 = .ok (.aload 4, 2) := by decide +kernel
theorem dX11_sum_101 : decode cX11_sum 101 = .ok (.getfield 241, 3) := by decide +kernel
theorem dX11_sum_104 : decode cX11_sum 104 = .ok (.invokevirtual 244, 3) := by decide +kernel
theorem dX11_sum_107 : decode cX11_sum 107 = .ok (.getfield 133, 3) := by decide +kernel
theorem dX11_sum_110 : decode cX11_sum 110 = .ok (.istore 5, 2) := by decide +kernel
theorem dX11_sum_112 : decode cX11_sum 112 = .ok (.iconst 0, 1) := by decide +kernel
theorem dX11_sum_113 : decode cX11_sum 113 = .ok (.istore 6, 2) := by decide +kernel
theorem dX11_sum_115 : decode cX11_sum 115 = .ok (.iload 6, 2) := by decide +kernel
theorem dX11_sum_117 : decode cX11_sum 117 = .ok (.iload 5, 2) := by decide +kernel
theorem dX11_sum_119 : decode cX11_sum 119 = .ok (.if_icmp .ge 31, 3) := by decide +kernel
theorem dX11_sum_122 : decode cX11_sum 122 = .ok (.ldc2_w 326, 3) := by decide +kernel
theorem dX11_sum_125 : decode cX11_sum 125 = .ok (.lload_n 1, 1) := by decide +kernel
theorem dX11_sum_126 : decode cX11_sum 126 = .ok (.lmul, 1) := by decide +kernel
theorem dX11_sum_127 : decode cX11_sum 127 = .ok (.aload_n 0, 1) := by decide +kernel
theorem dX11_sum_128 : decode cX11_sum 128 = .ok (.getfield 69, 3) := by decide +kernel
theorem dX11_sum_131 : decode cX11_sum 131 = .ok (.aload 4, 2) := by decide +kernel
theorem dX11_sum_133 : decode cX11_sum 133 = .ok (.getfield 130, 3) := by decide +kernel
theorem dX11_sum_136 : decode cX11_sum 136 = .ok (.iload 6, 2) := by decide +kernel
theorem dX11_sum_138 : decode cX11_sum 138 = .ok (.iadd, 1) := by decide +kernel
theorem dX11_sum_139 : decode cX11_sum 139 = .ok (.invokevirtual 257, 3) := by decide +kernel
theorem dX11_sum_142 : decode cX11_sum 142 = .ok (.ladd, 1) := by decide +kernel
theorem dX11_sum_143 : decode cX11_sum 143 = .ok (.lstore_n 1, 1) := by decide +kernel
theorem dX11_sum_144 : decode cX11_sum 144 = .ok (.iinc 6 1, 3) := by decide +kernel
theorem dX11_sum_147 : decode cX11_sum 147 = .ok (.goto (-32), 3) := by decide +kernel
theorem dX11_sum_150 : decode cX11_sum 150 = .ok (.iinc 3 1, 3) := by decide +kernel
theorem dX11_sum_153 : decode cX11_sum 153 = .ok (.goto (-81), 3) := by decide +kernel
theorem dX11_sum_156 : decode cX11_sum 156 = .ok (.lload_n 1, 1) := by decide +kernel
theorem dX11_sum_157 : decode cX11_sum 157 = .ok (.lreturn, 1) := by decide +kernel
abbrev cX11_cut : ByteArray := prog_1_method_23_code
def yX11_cut : MethodName := ⟨RX11, "cut", "(IJ)J"⟩
theorem dX11_cut_0 : decode cX11_cut 0 = .ok (.iload_n 1, 1) := by decide +kernel
theorem dX11_cut_1 : decode cX11_cut 1 = .ok (.invokestatic 328, 3) := by decide +kernel
theorem dX11_cut_4 : decode cX11_cut 4 = .ok (.ifCond .ne 14, 3) := by decide +kernel
theorem dX11_cut_7 : decode cX11_cut 7 = .ok (.new 106, 3) := by decide +kernel
theorem dX11_cut_10 : decode cX11_cut 10 = .ok (.dup, 1) := by decide +kernel
theorem dX11_cut_11 : decode cX11_cut 11 = .ok (.ldc_w 333, 3) := by decide +kernel
theorem dX11_cut_14 : decode cX11_cut 14 = .ok (.invokespecial 110, 3) := by decide +kernel
theorem dX11_cut_17 : decode cX11_cut 17 = .ok (.athrow, 1) := by decide +kernel
theorem dX11_cut_18 : decode cX11_cut 18 = .ok (.iload_n 1, 1) := by decide +kernel
theorem dX11_cut_19 : decode cX11_cut 19 = .ok (.lload_n 2, 1) := by decide +kernel
theorem dX11_cut_20 : decode cX11_cut 20 = .ok (.invokestatic 335, 3) := by decide +kernel
theorem dX11_cut_23 : decode cX11_cut 23 = .ok (.lreturn, 1) := by decide +kernel
abbrev cX11_work : ByteArray := prog_1_method_24_code
def yX11_work : MethodName := ⟨RX11, "work", "(IIIJJ)J"⟩
theorem dX11_work_0 : decode cX11_work 0 = .ok (.iload_n 2, 1) := by decide +kernel
theorem dX11_work_1 : decode cX11_work 1 = .ok (.invokestatic 328, 3) := by decide +kernel
theorem dX11_work_4 : decode cX11_work 4 = .ok (.ifCond .eq 20, 3) := by decide +kernel
theorem dX11_work_7 : decode cX11_work 7 = .ok (.iload_n 3, 1) := by decide +kernel
theorem dX11_work_8 : decode cX11_work 8 = .ok (.invokestatic 328, 3) := by decide +kernel
theorem dX11_work_11 : decode cX11_work 11 = .ok (.ifCond .eq 13, 3) := by decide +kernel
theorem dX11_work_14 : decode cX11_work 14 = .ok (.iload_n 1, 1) := by decide +kernel
theorem dX11_work_15 : decode cX11_work 15 = .ok (.ifCond .lt 9, 3) := by decide +kernel
theorem dX11_work_18 : decode cX11_work 18 = .ok (.iload_n 1, 1) := by decide +kernel
theorem dX11_work_19 : decode cX11_work 19 = .ok (.bipush 10, 2) := by decide +kernel
theorem dX11_work_21 : decode cX11_work 21 = .ok (.if_icmp .le 14, 3) := by decide +kernel
theorem dX11_work_24 : decode cX11_work 24 = .ok (.new 106, 3) := by decide +kernel
theorem dX11_work_27 : decode cX11_work 27 = .ok (.dup, 1) := by decide +kernel
theorem dX11_work_28 : decode cX11_work 28 = .ok (.ldc_w 339, 3) := by decide +kernel
theorem dX11_work_31 : decode cX11_work 31 = .ok (.invokespecial 110, 3) := by decide +kernel
theorem dX11_work_34 : decode cX11_work 34 = .ok (.athrow, 1) := by decide +kernel
theorem dX11_work_35 : decode cX11_work 35 = .ok (.iload_n 3, 1) := by decide +kernel
theorem dX11_work_36 : decode cX11_work 36 = .ok (.lload 6, 2) := by decide +kernel
theorem dX11_work_38 : decode cX11_work 38 = .ok (.invokestatic 335, 3) := by decide +kernel
theorem dX11_work_41 : decode cX11_work 41 = .ok (.lstore 8, 2) := by decide +kernel
theorem dX11_work_43 : decode cX11_work 43 = .ok (.lload 8, 2) := by decide +kernel
theorem dX11_work_45 : decode cX11_work 45 = .ok (.lconst 0, 1) := by decide +kernel
theorem dX11_work_46 : decode cX11_work 46 = .ok (.lcmp, 1) := by decide +kernel
theorem dX11_work_47 : decode cX11_work 47 = .ok (.ifCond .ne 21, 3) := by decide +kernel
theorem dX11_work_50 : decode cX11_work 50 = .ok (.iload_n 1, 1) := by decide +kernel
theorem dX11_work_51 : decode cX11_work 51 = .ok (.invokestatic 341, 3) := by decide +kernel
theorem dX11_work_54 : decode cX11_work 54 = .ok (.ifCond .eq 14, 3) := by decide +kernel
theorem dX11_work_57 : decode cX11_work 57 = .ok (.new 344, 3) := by decide +kernel
theorem dX11_work_60 : decode cX11_work 60 = .ok (.dup, 1) := by decide +kernel
theorem dX11_work_61 : decode cX11_work 61 = .ok (.ldc_w 346, 3) := by decide +kernel
theorem dX11_work_64 : decode cX11_work 64 = .ok (.invokespecial 348, 3) := by decide +kernel
theorem dX11_work_67 : decode cX11_work 67 = .ok (.athrow, 1) := by decide +kernel
theorem dX11_work_68 : decode cX11_work 68 = .ok (.iload_n 1, 1) := by decide +kernel
theorem dX11_work_69 : decode cX11_work 69 = .ok (.iload_n 2, 1) := by decide +kernel
theorem dX11_work_70 : decode cX11_work 70 = .ok (.iload_n 3, 1) := by decide +kernel
theorem dX11_work_71 : decode cX11_work 71 = .ok (.invokestatic 349, 3) := by decide +kernel
theorem dX11_work_74 : decode cX11_work 74 = .ok (.istore 10, 2) := by decide +kernel
theorem dX11_work_76 : decode cX11_work 76 = .ok (.iload_n 2, 1) := by decide +kernel
theorem dX11_work_77 : decode cX11_work 77 = .ok (.iload_n 1, 1) := by decide +kernel
theorem dX11_work_78 : decode cX11_work 78 = .ok (.iload 10, 2) := by decide +kernel
theorem dX11_work_80 : decode cX11_work 80 = .ok (.iload_n 2, 1) := by decide +kernel
theorem dX11_work_81 : decode cX11_work 81 = .ok (.lload 4, 2) := by decide +kernel
theorem dX11_work_83 : decode cX11_work 83 = .ok (.invokestatic 335, 3) := by decide +kernel
theorem dX11_work_86 : decode cX11_work 86 = .ok (.lload 8, 2) := by decide +kernel
theorem dX11_work_88 : decode cX11_work 88 = .ok (.invokestatic 353, 3) := by decide +kernel
theorem dX11_work_91 : decode cX11_work 91 = .ok (.invokestatic 335, 3) := by decide +kernel
theorem dX11_work_94 : decode cX11_work 94 = .ok (.lreturn, 1) := by decide +kernel
abbrev cX11_tell : ByteArray := prog_1_method_25_code
def yX11_tell : MethodName := ⟨RX11, "tell", "(IIIJJ)J"⟩
theorem dX11_tell_0 : decode cX11_tell 0 = .ok (.iload_n 2, 1) := by decide +kernel
theorem dX11_tell_1 : decode cX11_tell 1 = .ok (.invokestatic 328, 3) := by decide +kernel
theorem dX11_tell_4 : decode cX11_tell 4 = .ok (.ifCond .eq 20, 3) := by decide +kernel
theorem dX11_tell_7 : decode cX11_tell 7 = .ok (.iload_n 3, 1) := by decide +kernel
theorem dX11_tell_8 : decode cX11_tell 8 = .ok (.invokestatic 328, 3) := by decide +kernel
theorem dX11_tell_11 : decode cX11_tell 11 = .ok (.ifCond .eq 13, 3) := by decide +kernel
theorem dX11_tell_14 : decode cX11_tell 14 = .ok (.iload_n 1, 1) := by decide +kernel
theorem dX11_tell_15 : decode cX11_tell 15 = .ok (.ifCond .lt 9, 3) := by decide +kernel
theorem dX11_tell_18 : decode cX11_tell 18 = .ok (.iload_n 1, 1) := by decide +kernel
theorem dX11_tell_19 : decode cX11_tell 19 = .ok (.bipush 16, 2) := by decide +kernel
theorem dX11_tell_21 : decode cX11_tell 21 = .ok (.if_icmp .le 14, 3) := by decide +kernel
theorem dX11_tell_24 : decode cX11_tell 24 = .ok (.new 106, 3) := by decide +kernel
theorem dX11_tell_27 : decode cX11_tell 27 = .ok (.dup, 1) := by decide +kernel
theorem dX11_tell_28 : decode cX11_tell 28 = .ok (.ldc_w 339, 3) := by decide +kernel
theorem dX11_tell_31 : decode cX11_tell 31 = .ok (.invokespecial 110, 3) := by decide +kernel
theorem dX11_tell_34 : decode cX11_tell 34 = .ok (.athrow, 1) := by decide +kernel
theorem dX11_tell_35 : decode cX11_tell 35 = .ok (.iload_n 1, 1) := by decide +kernel
theorem dX11_tell_36 : decode cX11_tell 36 = .ok (.iload_n 2, 1) := by decide +kernel
theorem dX11_tell_37 : decode cX11_tell 37 = .ok (.iconst 4, 1) := by decide +kernel
theorem dX11_tell_38 : decode cX11_tell 38 = .ok (.if_icmp .ne 7, 3) := by decide +kernel
theorem dX11_tell_41 : decode cX11_tell 41 = .ok (.iconst 1, 1) := by decide +kernel
theorem dX11_tell_42 : decode cX11_tell 42 = .ok (.goto 4, 3) := by decide +kernel
theorem dX11_tell_45 : decode cX11_tell 45 = .ok (.iconst 0, 1) := by decide +kernel
theorem dX11_tell_46 : decode cX11_tell 46 = .ok (.iload_n 2, 1) := by decide +kernel
theorem dX11_tell_47 : decode cX11_tell 47 = .ok (.lload 4, 2) := by decide +kernel
theorem dX11_tell_49 : decode cX11_tell 49 = .ok (.invokestatic 335, 3) := by decide +kernel
theorem dX11_tell_52 : decode cX11_tell 52 = .ok (.iload_n 3, 1) := by decide +kernel
theorem dX11_tell_53 : decode cX11_tell 53 = .ok (.lload 6, 2) := by decide +kernel
theorem dX11_tell_55 : decode cX11_tell 55 = .ok (.invokestatic 335, 3) := by decide +kernel
theorem dX11_tell_58 : decode cX11_tell 58 = .ok (.invokestatic 357, 3) := by decide +kernel
theorem dX11_tell_61 : decode cX11_tell 61 = .ok (.lreturn, 1) := by decide +kernel
abbrev cX11_install : ByteArray := prog_1_method_27_code
def yX11_install : MethodName := ⟨RX11, "install", "(Z)V"⟩
theorem dX11_install_0 : decode cX11_install 0 = .ok (.aload_n 0, 1) := by decide +kernel
theorem dX11_install_1 : decode cX11_install 1 = .ok (.getfield 48, 3) := by decide +kernel
theorem dX11_install_4 : decode cX11_install 4 = .ok (.astore_n 2, 1) := by decide +kernel
theorem dX11_install_5 : decode cX11_install 5 = .ok (.aload_n 0, 1) := by decide +kernel
theorem dX11_install_6 : decode cX11_install 6 = .ok (.aload_n 0, 1) := by decide +kernel
theorem dX11_install_7 : decode cX11_install 7 = .ok (.getfield 52, 3) := by decide +kernel
theorem dX11_install_10 : decode cX11_install 10 = .ok (.putfield 48, 3) := by decide +kernel
theorem dX11_install_13 : decode cX11_install 13 = .ok (.aload_n 0, 1) := by decide +kernel
theorem dX11_install_14 : decode cX11_install 14 = .ok (.aload_n 2, 1) := by decide +kernel
theorem dX11_install_15 : decode cX11_install 15 = .ok (.putfield 52, 3) := by decide +kernel
theorem dX11_install_18 : decode cX11_install 18 = .ok (.aload_n 0, 1) := by decide +kernel
theorem dX11_install_19 : decode cX11_install 19 = .ok (.getfield 69, 3) := by decide +kernel
theorem dX11_install_22 : decode cX11_install 22 = .ok (.aload_n 0, 1) := by decide +kernel
theorem dX11_install_23 : decode cX11_install 23 = .ok (.getfield 48, 3) := by decide +kernel
theorem dX11_install_26 : decode cX11_install 26 = .ok (.aload_n 2, 1) := by decide +kernel
theorem dX11_install_27 : decode cX11_install 27 = .ok (.iload_n 1, 1) := by decide +kernel
theorem dX11_install_28 : decode cX11_install 28 = .ok (.invokevirtual 360, 3) := by decide +kernel
theorem dX11_install_31 : decode cX11_install 31 = .ok (.aload_n 0, 1) := by decide +kernel
theorem dX11_install_32 : decode cX11_install 32 = .ok (.getfield 41, 3) := by decide +kernel
theorem dX11_install_35 : decode cX11_install 35 = .ok (.invokevirtual 363, 3) := by decide +kernel
theorem dX11_install_38 : decode cX11_install 38 = .ok (.iload_n 1, 1) := by decide +kernel
theorem dX11_install_39 : decode cX11_install 39 = .ok (.ifCond .ne 15, 3) := by decide +kernel
theorem dX11_install_42 : decode cX11_install 42 = .ok (.aload_n 0, 1) := by decide +kernel
theorem dX11_install_43 : decode cX11_install 43 = .ok (.getfield 34, 3) := by decide +kernel
theorem dX11_install_46 : decode cX11_install 46 = .ok (.invokevirtual 147, 3) := by decide +kernel
theorem dX11_install_49 : decode cX11_install 49 = .ok (.aload_n 0, 1) := by decide +kernel
theorem dX11_install_50 : decode cX11_install 50 = .ok (.iconst 0, 1) := by decide +kernel
theorem dX11_install_51 : decode cX11_install 51 = .ok (.putfield 150, 3) := by decide +kernel
theorem dX11_install_54 : decode cX11_install 54 = .ok (.return_, 1) := by decide +kernel
theorem gs_1_0 : Cond.selects "SoftController" ⟨"SoftController", "append", "(I)V"⟩ ⟨"SoftController", "append", "(I)V"⟩ ∈ GW := gw_s (List.mem_map.mpr ⟨_, pin_1 _ (List.mem_of_getElem? (i := 0) rfl), rfl⟩) rfl
theorem gs_6_3 : Cond.selects "SoftController" ⟨"SoftController", "install", "(Z)V"⟩ ⟨"SoftController", "install", "(Z)V"⟩ ∈ GW := gw_s (List.mem_map.mpr ⟨_, pin_6 _ (List.mem_of_getElem? (i := 3) rfl), rfl⟩) rfl
theorem gs_6_6 : Cond.selects "SoftController" ⟨"SoftController", "runTick", "()I"⟩ ⟨"SoftController", "runTick", "()I"⟩ ∈ GW := gw_s (List.mem_map.mpr ⟨_, pin_6 _ (List.mem_of_getElem? (i := 6) rfl), rfl⟩) rfl
theorem gs_7_6 : Cond.selects "SoftController" ⟨"SoftController", "hasPlace", "(II)Z"⟩ ⟨"SoftController", "hasPlace", "(II)Z"⟩ ∈ GW := gw_s (List.mem_map.mpr ⟨_, pin_7 _ (List.mem_of_getElem? (i := 6) rfl), rfl⟩) rfl
theorem gw_1 : (Jvm.Cond.initialized "SoftController") ∈ GW := gw_t (tin_1 _ (List.mem_of_getElem? (i := 1) rfl)) rfl
theorem gw_1372 : (Jvm.Cond.methodLink "SoftController" (96 : Nat) ({ cls := "SoftController", name := "install", desc := "(Z)V" } : Jvm.MethodName)) ∈ GW := gw_t (tin_6 _ (List.mem_of_getElem? (i := 172) rfl)) rfl
theorem gw_1374 : (Jvm.Cond.instanceMethod ({ cls := "SoftController", name := "install", desc := "(Z)V" } : Jvm.MethodName)) ∈ GW := gw_t (tin_6 _ (List.mem_of_getElem? (i := 174) rfl)) rfl
theorem gw_1375 : (Jvm.Cond.code ({ cls := "SoftController", name := "install", desc := "(Z)V" } : Jvm.MethodName) prog_1_method_27_code (3 : Nat) (Option.none : Option Jvm.ClassFile.FieldType)) ∈ GW := gw_t (tin_6 _ (List.mem_of_getElem? (i := 175) rfl)) rfl
theorem gw_1441 : (Jvm.Cond.constantLong "SoftController" (326 : Nat) (31 : Int64)) ∈ GW := gw_t (tin_7 _ (List.mem_of_getElem? (i := 1) rfl)) rfl
theorem gw_1467 : (Jvm.Cond.classLink "SoftController" (106 : Nat) "java/lang/IllegalArgumentException") ∈ GW := gw_t (tin_7 _ (List.mem_of_getElem? (i := 27) rfl)) rfl
theorem gw_1483 : (Jvm.Cond.methodLink "SoftController" (113 : Nat) ({ cls := "SoftController", name := "runTick", desc := "()I" } : Jvm.MethodName)) ∈ GW := gw_t (tin_7 _ (List.mem_of_getElem? (i := 43) rfl)) rfl
theorem gw_1485 : (Jvm.Cond.instanceMethod ({ cls := "SoftController", name := "runTick", desc := "()I" } : Jvm.MethodName)) ∈ GW := gw_t (tin_7 _ (List.mem_of_getElem? (i := 45) rfl)) rfl
theorem gw_1486 : (Jvm.Cond.code ({ cls := "SoftController", name := "runTick", desc := "()I" } : Jvm.MethodName) prog_1_method_28_code (4 : Nat) (Option.some Jvm.ClassFile.FieldType.int)) ∈ GW := gw_t (tin_7 _ (List.mem_of_getElem? (i := 46) rfl)) rfl
theorem gw_1636 : (Jvm.Cond.classLink "SoftController" (163 : Nat) "java/lang/IndexOutOfBoundsException") ∈ GW := gw_t (tin_7 _ (List.mem_of_getElem? (i := 196) rfl)) rfl
theorem gw_1684 : (Jvm.Cond.classLink "SoftController" (180 : Nat) "java/util/NoSuchElementException") ∈ GW := gw_t (tin_8 _ (List.mem_of_getElem? (i := 4) rfl)) rfl
theorem gw_1715 : (Jvm.Cond.methodLink "SoftController" (207 : Nat) ({ cls := "SoftController", name := "hasPlace", desc := "(II)Z" } : Jvm.MethodName)) ∈ GW := gw_t (tin_8 _ (List.mem_of_getElem? (i := 35) rfl)) rfl
theorem gw_1717 : (Jvm.Cond.instanceMethod ({ cls := "SoftController", name := "hasPlace", desc := "(II)Z" } : Jvm.MethodName)) ∈ GW := gw_t (tin_8 _ (List.mem_of_getElem? (i := 37) rfl)) rfl
theorem gw_1718 : (Jvm.Cond.code ({ cls := "SoftController", name := "hasPlace", desc := "(II)Z" } : Jvm.MethodName) prog_1_method_29_code (3 : Nat) (Option.some Jvm.ClassFile.FieldType.boolean)) ∈ GW := gw_t (tin_8 _ (List.mem_of_getElem? (i := 38) rfl)) rfl
theorem gw_1728 : (Jvm.Cond.classLink "SoftController" (216 : Nat) "java/lang/UnsupportedOperationException") ∈ GW := gw_t (tin_8 _ (List.mem_of_getElem? (i := 48) rfl)) rfl
theorem gw_1838 : (Jvm.Cond.methodLink "SoftController" (328 : Nat) ({ cls := "SoftController$Numbers", name := "isKind", desc := "(I)Z" } : Jvm.MethodName)) ∈ GW := gw_t (tin_8 _ (List.mem_of_getElem? (i := 158) rfl)) rfl
theorem gw_1839 : (Jvm.Cond.static ({ cls := "SoftController$Numbers", name := "isKind", desc := "(I)Z" } : Jvm.MethodName)) ∈ GW := gw_t (tin_8 _ (List.mem_of_getElem? (i := 159) rfl)) rfl
theorem gw_1842 : (Jvm.Cond.methodLink "SoftController" (335 : Nat) ({ cls := "SoftController$Numbers", name := "cutTo", desc := "(IJ)J" } : Jvm.MethodName)) ∈ GW := gw_t (tin_8 _ (List.mem_of_getElem? (i := 162) rfl)) rfl
theorem gw_1852 : (Jvm.Cond.methodLink "SoftController" (341 : Nat) ({ cls := "SoftController$Numbers", name := "divides", desc := "(I)Z" } : Jvm.MethodName)) ∈ GW := gw_t (tin_8 _ (List.mem_of_getElem? (i := 172) rfl)) rfl
theorem gw_1853 : (Jvm.Cond.classLink "SoftController" (344 : Nat) "java/lang/ArithmeticException") ∈ GW := gw_t (tin_8 _ (List.mem_of_getElem? (i := 173) rfl)) rfl
theorem gw_1869 : (Jvm.Cond.methodLink "SoftController" (349 : Nat) ({ cls := "SoftController$Numbers", name := "isWide", desc := "(III)Z" } : Jvm.MethodName)) ∈ GW := gw_t (tin_8 _ (List.mem_of_getElem? (i := 189) rfl)) rfl
theorem gw_1870 : (Jvm.Cond.methodLink "SoftController" (353 : Nat) ({ cls := "SoftController$Numbers", name := "combine", desc := "(IZJJ)J" } : Jvm.MethodName)) ∈ GW := gw_t (tin_8 _ (List.mem_of_getElem? (i := 190) rfl)) rfl
theorem gw_1878 : (Jvm.Cond.methodLink "SoftController" (357 : Nat) ({ cls := "SoftController$Numbers", name := "apply", desc := "(IZJJ)J" } : Jvm.MethodName)) ∈ GW := gw_t (tin_8 _ (List.mem_of_getElem? (i := 198) rfl)) rfl
theorem gw_26 : (Jvm.Cond.initialized "java/lang/IllegalArgumentException") ∈ GW := gw_t (tin_1 _ (List.mem_of_getElem? (i := 26) rfl)) rfl
theorem gw_29 : (Jvm.Cond.initialized "java/lang/IndexOutOfBoundsException") ∈ GW := gw_t (tin_1 _ (List.mem_of_getElem? (i := 29) rfl)) rfl
theorem gw_30 : (Jvm.Cond.initialized "java/util/NoSuchElementException") ∈ GW := gw_t (tin_1 _ (List.mem_of_getElem? (i := 30) rfl)) rfl
theorem gw_31 : (Jvm.Cond.initialized "java/lang/UnsupportedOperationException") ∈ GW := gw_t (tin_1 _ (List.mem_of_getElem? (i := 31) rfl)) rfl
theorem gw_32 : (Jvm.Cond.initialized "java/lang/ArithmeticException") ∈ GW := gw_t (tin_1 _ (List.mem_of_getElem? (i := 32) rfl)) rfl
theorem gw_565 : (Jvm.Cond.fieldLink "SoftController" (9 : Nat) "SoftController" "tape" "[B") ∈ GW := gw_t (tin_3 _ (List.mem_of_getElem? (i := 85) rfl)) rfl
theorem gw_566 : (Jvm.Cond.fieldLink "SoftController" (77 : Nat) "SoftController" "tapeBytes" "I") ∈ GW := gw_t (tin_3 _ (List.mem_of_getElem? (i := 86) rfl)) rfl
theorem gw_567 : (Jvm.Cond.fieldLink "SoftController" (18 : Nat) "SoftController" "tokens" "LSoftController$Tokens;") ∈ GW := gw_t (tin_3 _ (List.mem_of_getElem? (i := 87) rfl)) rfl
theorem gw_570 : (Jvm.Cond.fieldLink "SoftController" (34 : Nat) "SoftController" "images" "LSoftController$Images;") ∈ GW := gw_t (tin_3 _ (List.mem_of_getElem? (i := 90) rfl)) rfl
theorem gw_571 : (Jvm.Cond.fieldLink "SoftController" (69 : Nat) "SoftController" "machine" "LSoftController$Machine;") ∈ GW := gw_t (tin_3 _ (List.mem_of_getElem? (i := 91) rfl)) rfl
theorem gw_572 : (Jvm.Cond.fieldLink "SoftController" (41 : Nat) "SoftController" "tracing" "LSoftController$Trace;") ∈ GW := gw_t (tin_3 _ (List.mem_of_getElem? (i := 92) rfl)) rfl
theorem gw_573 : (Jvm.Cond.fieldLink "SoftController" (48 : Nat) "SoftController" "loaded" "LSoftController$Program;") ∈ GW := gw_t (tin_3 _ (List.mem_of_getElem? (i := 93) rfl)) rfl
theorem gw_574 : (Jvm.Cond.fieldLink "SoftController" (52 : Nat) "SoftController" "draft" "LSoftController$Program;") ∈ GW := gw_t (tin_3 _ (List.mem_of_getElem? (i := 94) rfl)) rfl
theorem gw_575 : (Jvm.Cond.fieldLink "SoftController" (150 : Nat) "SoftController" "tick" "I") ∈ GW := gw_t (tin_3 _ (List.mem_of_getElem? (i := 95) rfl)) rfl
theorem gw_576 : (Jvm.Cond.fieldLink "SoftController" (73 : Nat) "SoftController" "watchdogNumber" "I") ∈ GW := gw_t (tin_3 _ (List.mem_of_getElem? (i := 96) rfl)) rfl
theorem gw_606 : (Jvm.Cond.methodLink "SoftController" (80 : Nat) ({ cls := "SoftController", name := "append", desc := "(I)V" } : Jvm.MethodName)) ∈ GW := gw_t (tin_3 _ (List.mem_of_getElem? (i := 126) rfl)) rfl
theorem gw_608 : (Jvm.Cond.instanceMethod ({ cls := "SoftController", name := "append", desc := "(I)V" } : Jvm.MethodName)) ∈ GW := gw_t (tin_3 _ (List.mem_of_getElem? (i := 128) rfl)) rfl
theorem gw_609 : (Jvm.Cond.code ({ cls := "SoftController", name := "append", desc := "(I)V" } : Jvm.MethodName) prog_1_method_26_code (3 : Nat) (Option.none : Option Jvm.ClassFile.FieldType)) ∈ GW := gw_t (tin_3 _ (List.mem_of_getElem? (i := 129) rfl)) rfl
theorem gw_618 : (Jvm.Cond.classLink "SoftController" (94 : Nat) "java/lang/IllegalStateException") ∈ GW := gw_t (tin_3 _ (List.mem_of_getElem? (i := 138) rfl)) rfl
theorem gwp_X5_isKind : ∀ w ∈ wsX5_isKind, w ∈ GW := gwl [1840] (by decide +kernel) (by decide +kernel)
theorem nw_108 : (Jvm.Cond.fieldLinkNest "SoftController" (103 : Nat) "SoftController$Tokens" "faultPlace" "I" "SoftController") ∈ NWL := gw_n (tin_1 _ (List.mem_of_getElem? (i := 108) rfl)) rfl
theorem nw_157 : (Jvm.Cond.fieldLinkNest "SoftController" (168 : Nat) "SoftController$Images" "rows" "[[I" "SoftController") ∈ NWL := gw_n (tin_1 _ (List.mem_of_getElem? (i := 157) rfl)) rfl
theorem nw_168 : (Jvm.Cond.fieldLinkNest "SoftController" (386 : Nat) "SoftController$Trace" "variables" "[I" "SoftController") ∈ NWL := gw_n (tin_1 _ (List.mem_of_getElem? (i := 168) rfl)) rfl
theorem nw_170 : (Jvm.Cond.fieldLinkNest "SoftController" (389 : Nat) "SoftController$Trace" "places" "[I" "SoftController") ∈ NWL := gw_n (tin_1 _ (List.mem_of_getElem? (i := 170) rfl)) rfl
theorem nw_173 : (Jvm.Cond.fieldLinkNest "SoftController" (285 : Nat) "SoftController$Trace" "traced" "I" "SoftController") ∈ NWL := gw_n (tin_1 _ (List.mem_of_getElem? (i := 173) rfl)) rfl
theorem nw_175 : (Jvm.Cond.fieldLinkNest "SoftController" (305 : Nat) "SoftController$Trace" "eventTicks" "[I" "SoftController") ∈ NWL := gw_n (tin_1 _ (List.mem_of_getElem? (i := 175) rfl)) rfl
theorem nw_177 : (Jvm.Cond.fieldLinkNest "SoftController" (309 : Nat) "SoftController$Trace" "eventVariables" "[I" "SoftController") ∈ NWL := gw_n (tin_1 _ (List.mem_of_getElem? (i := 177) rfl)) rfl
theorem nw_179 : (Jvm.Cond.fieldLinkNest "SoftController" (312 : Nat) "SoftController$Trace" "eventPlaces" "[I" "SoftController") ∈ NWL := gw_n (tin_1 _ (List.mem_of_getElem? (i := 179) rfl)) rfl
theorem nw_181 : (Jvm.Cond.fieldLinkNest "SoftController" (315 : Nat) "SoftController$Trace" "eventNumbers" "[J" "SoftController") ∈ NWL := gw_n (tin_1 _ (List.mem_of_getElem? (i := 181) rfl)) rfl
theorem nw_183 : (Jvm.Cond.fieldLinkNest "SoftController" (297 : Nat) "SoftController$Trace" "kept" "I" "SoftController") ∈ NWL := gw_n (tin_1 _ (List.mem_of_getElem? (i := 183) rfl)) rfl
theorem nw_232 : (Jvm.Cond.fieldLinkNest "SoftController" (252 : Nat) "SoftController$Name" "sort" "I" "SoftController") ∈ NWL := gw_n (tin_1 _ (List.mem_of_getElem? (i := 232) rfl)) rfl
theorem nw_240 : (Jvm.Cond.fieldLinkNest "SoftController" (279 : Nat) "SoftController$Name" "number" "I" "SoftController") ∈ NWL := gw_n (tin_2 _ (List.mem_of_getElem? (i := 0) rfl)) rfl
theorem nw_245 : (Jvm.Cond.fieldLinkNest "SoftController" (227 : Nat) "SoftController$Name" "kind" "I" "SoftController") ∈ NWL := gw_n (tin_2 _ (List.mem_of_getElem? (i := 5) rfl)) rfl
theorem nw_249 : (Jvm.Cond.fieldLinkNest "SoftController" (125 : Nat) "SoftController$Name" "how" "I" "SoftController") ∈ NWL := gw_n (tin_2 _ (List.mem_of_getElem? (i := 9) rfl)) rfl
theorem nw_252 : (Jvm.Cond.fieldLinkNest "SoftController" (133 : Nat) "SoftController$Name" "size" "I" "SoftController") ∈ NWL := gw_n (tin_2 _ (List.mem_of_getElem? (i := 12) rfl)) rfl
theorem nw_258 : (Jvm.Cond.fieldLinkNest "SoftController" (230 : Nat) "SoftController$Name" "row" "Z" "SoftController") ∈ NWL := gw_n (tin_2 _ (List.mem_of_getElem? (i := 18) rfl)) rfl
theorem nw_262 : (Jvm.Cond.fieldLinkNest "SoftController" (130 : Nat) "SoftController$Name" "at" "I" "SoftController") ∈ NWL := gw_n (tin_2 _ (List.mem_of_getElem? (i := 22) rfl)) rfl
theorem nw_266 : (Jvm.Cond.fieldLinkNest "SoftController" (136 : Nat) "SoftController$Name" "first" "J" "SoftController") ∈ NWL := gw_n (tin_2 _ (List.mem_of_getElem? (i := 26) rfl)) rfl
theorem nw_283 : (Jvm.Cond.fieldLinkNest "SoftController" (241 : Nat) "SoftController$Name" "block" "I" "SoftController") ∈ NWL := gw_n (tin_2 _ (List.mem_of_getElem? (i := 43) rfl)) rfl
theorem nw_325 : (Jvm.Cond.fieldLinkNest "SoftController" (185 : Nat) "SoftController$Task" "every" "I" "SoftController") ∈ NWL := gw_n (tin_2 _ (List.mem_of_getElem? (i := 85) rfl)) rfl
theorem nw_327 : (Jvm.Cond.fieldLinkNest "SoftController" (188 : Nat) "SoftController$Task" "after" "I" "SoftController") ∈ NWL := gw_n (tin_2 _ (List.mem_of_getElem? (i := 87) rfl)) rfl
theorem nw_329 : (Jvm.Cond.fieldLinkNest "SoftController" (372 : Nat) "SoftController$Task" "entry" "I" "SoftController") ∈ NWL := gw_n (tin_2 _ (List.mem_of_getElem? (i := 89) rfl)) rfl
theorem nw_331 : (Jvm.Cond.fieldLinkNest "SoftController" (157 : Nat) "SoftController$Task" "stopped" "Z" "SoftController") ∈ NWL := gw_n (tin_2 _ (List.mem_of_getElem? (i := 91) rfl)) rfl
theorem nw_334 : (Jvm.Cond.fieldLinkNest "SoftController" (191 : Nat) "SoftController$Task" "runs" "I" "SoftController") ∈ NWL := gw_n (tin_2 _ (List.mem_of_getElem? (i := 94) rfl)) rfl
theorem nw_336 : (Jvm.Cond.fieldLinkNest "SoftController" (194 : Nat) "SoftController$Task" "work" "I" "SoftController") ∈ NWL := gw_n (tin_2 _ (List.mem_of_getElem? (i := 96) rfl)) rfl
theorem nw_338 : (Jvm.Cond.fieldLinkNest "SoftController" (197 : Nat) "SoftController$Task" "fault" "I" "SoftController") ∈ NWL := gw_n (tin_2 _ (List.mem_of_getElem? (i := 98) rfl)) rfl
theorem nw_340 : (Jvm.Cond.fieldLinkNest "SoftController" (198 : Nat) "SoftController$Task" "faultPlace" "I" "SoftController") ∈ NWL := gw_n (tin_2 _ (List.mem_of_getElem? (i := 100) rfl)) rfl
theorem nw_342 : (Jvm.Cond.fieldLinkNest "SoftController" (199 : Nat) "SoftController$Task" "faultTick" "I" "SoftController") ∈ NWL := gw_n (tin_2 _ (List.mem_of_getElem? (i := 102) rfl)) rfl
theorem nw_344 : (Jvm.Cond.fieldLinkNest "SoftController" (202 : Nat) "SoftController$Task" "faultNumber" "I" "SoftController") ∈ NWL := gw_n (tin_2 _ (List.mem_of_getElem? (i := 104) rfl)) rfl
theorem nw_381 : (Jvm.Cond.fieldLinkNest "SoftController" (153 : Nat) "SoftController$Program" "tasks" "[LSoftController$Task;" "SoftController") ∈ NWL := gw_n (tin_2 _ (List.mem_of_getElem? (i := 141) rfl)) rfl
section C40faceR
variable {p : Program} {l : Launch} {e : Env} {R : Room} {s : State} {m : MethodId} {args : Array Value} {below : List Frame} {meth : Method} {c : Code} {H : Heap} {locs : List Loc} {Q : State → Prop} {cells slots : Nat}
variable {cc : ByteArray} {pc nL : Nat} {c0 : Cond} {own : String} {ls : Array Slot} {rest : List Value} {D : va_G} {kA : Nat → ClassId} {V Z : Nat → Nat} {A : Nat → Prop}
variable {u u1 : CSt}
theorem cg_X11_77 (X : CC p s m args c cc nL c0 RX11 D kA V A) (hS : CS D kA Z A s u H locs) (hd : decode cc pc = .ok (.getfield 77, 3)) (kk : W p l e R s m args below meth c H locs cells slots Q (F0 m (pc + 3) ls (.int (cI u 0) :: rest))) : W p l e R s m args below meth c H locs cells slots Q (F0 m pc ls (.ref (Z 200) :: rest)) := by
  obtain ⟨⟨hx, hb, hml, hown, hts⟩, hK, hE, hA⟩ := X
  have hG : ∀ w ∈ GW, w.before args s = true := fun w h => hts w (List.mem_cons_of_mem _ h)
  exact va_get (D := D) (ci := 10) (v := .int (cI u 0)) (C := RX11) (T := TX11) (N := 12) hx hb hG gwl_X11 hown hK hS.1 0 (cw_lit rfl) rfl 1 (by decide) (hG _ gw_566) (fun _ h9 => h9) rfl hd kk
theorem cg_X11_9 (X : CC p s m args c cc nL c0 RX11 D kA V A) (hS : CS D kA Z A s u H locs) (hd : decode cc pc = .ok (.getfield 9, 3)) (kk : W p l e R s m args below meth c H locs cells slots Q (F0 m (pc + 3) ls (.ref (Z 201) :: rest))) : W p l e R s m args below meth c H locs cells slots Q (F0 m pc ls (.ref (Z 200) :: rest)) := by
  obtain ⟨⟨hx, hb, hml, hown, hts⟩, hK, hE, hA⟩ := X
  have hG : ∀ w ∈ GW, w.before args s = true := fun w h => hts w (List.mem_cons_of_mem _ h)
  exact va_get (D := D) (ci := 10) (v := .ref (Z 201)) (C := RX11) (T := TX11) (N := 12) hx hb hG gwl_X11 hown hK hS.1 0 (cw_lit rfl) rfl 0 (by decide) (hG _ gw_565) (fun _ h9 => h9) rfl hd kk
theorem cs_s201 (X : CC p s m args c cc nL c0 own D kA V A) (hS : CS D kA Z A s u H locs) {i : Int32} {v : Int32} (hi : vp_in i 6000) (hu : xA u 201 i.toNatClampNeg (vp_nar .byte v) = u1) (hd : decode cc pc = .ok (.bastore, 1)) (kk : ∀ H locs, CS D kA Z A s u1 H locs → W p l e R s m args below meth c H locs cells slots Q (F0 m (pc + 1) ls rest)) : W p l e R s m args below meth c H locs cells slots Q (F0 m pc ls (.int v :: .int i :: .ref (Z 201) :: rest)) := by
  subst hu
  refine va_bast X.1.1 X.1.2.1 X.2.1 hS.1 hS.2.1 hS.2.2 1 3 (cw_lit rfl) rfl hi hd (fun H1 locs1 hP hD hS1 => kk H1 locs1 ?_)
  have he := cw_setL (kA := kA) (Z := Z) (u := u) (w := xA u 201 i.toNatClampNeg (vp_nar .byte v)) (k := 1) (x := (Z 201, .inl (kA 3, 6000, .inl (upd (cA u 201) i.toNatClampNeg (vp_nar .byte v))))) (by decide) rfl rfl rfl
  exact cs_put he hP hD hS1
theorem cp_X11_77 (X : CC p s m args c cc nL c0 RX11 D kA V A) (hS : CS D kA Z A s u H locs) {v : Int32} (hu : xI u 0 v = u1) (hd : decode cc pc = .ok (.putfield 77, 3)) (kk : ∀ H locs, CS D kA Z A s u1 H locs → W p l e R s m args below meth c H locs cells slots Q (F0 m (pc + 3) ls rest)) : W p l e R s m args below meth c H locs cells slots Q (F0 m pc ls (.int v :: .ref (Z 200) :: rest)) := by
  obtain ⟨⟨hx, hb, hml, hown, hts⟩, hK, hE, hA⟩ := X
  have hG : ∀ w ∈ GW, w.before args s = true := fun w h => hts w (List.mem_cons_of_mem _ h)
  subst hu
  refine va_put (D := D) (ci := 10) (v := .int v) (ty := .int) (C := RX11) (T := TX11) (N := 12) hx hb hG gwl_X11 tyX11 tyX11_ok nmX11 hown hK hS.1 hS.2.1 hS.2.2 0 (cw_lit rfl) rfl 1 (by decide) (hG _ gw_566) (fun _ h9 => h9) rfl (by decide +kernel) rfl rfl (Nat.le_of_ble_eq_true rfl) hd (fun H1 locs1 hP hD hS1 => kk H1 locs1 ?_)
  have he := cw_setL (kA := kA) (Z := Z) (u := u) (w := xI u 0 v) (k := 0) (x := (Z 200, .inr (10, ([.ref (Z 201), .int (cI u 0), .ref (Z 202), .ref (Z 208), .ref (Z 227), .ref (Z 209), .ref (Z 234), .ref (Z 219), .ref (Z (300 + 50 * cR u 0)), .ref (Z (300 + 50 * cR u 1)), .int (cI u 1), .int (cI u 2)] : List Value).set 1 (.int v)))) (by decide) rfl rfl rfl
  exact cs_put he hP hD hS1
theorem cg_X11_18 (X : CC p s m args c cc nL c0 RX11 D kA V A) (hS : CS D kA Z A s u H locs) (hd : decode cc pc = .ok (.getfield 18, 3)) (kk : W p l e R s m args below meth c H locs cells slots Q (F0 m (pc + 3) ls (.ref (Z 202) :: rest))) : W p l e R s m args below meth c H locs cells slots Q (F0 m pc ls (.ref (Z 200) :: rest)) := by
  obtain ⟨⟨hx, hb, hml, hown, hts⟩, hK, hE, hA⟩ := X
  have hG : ∀ w ∈ GW, w.before args s = true := fun w h => hts w (List.mem_cons_of_mem _ h)
  exact va_get (D := D) (ci := 10) (v := .ref (Z 202)) (C := RX11) (T := TX11) (N := 12) hx hb hG gwl_X11 hown hK hS.1 0 (cw_lit rfl) rfl 2 (by decide) (hG _ gw_567) (fun _ h9 => h9) rfl hd kk
theorem cg_X11_103 (X : CC p s m args c cc nL c0 RX11 D kA V A) (hS : CS D kA Z A s u H locs) (hd : decode cc pc = .ok (.getfield 103, 3)) (kk : W p l e R s m args below meth c H locs cells slots Q (F0 m (pc + 3) ls (.int (cI u 7) :: rest))) : W p l e R s m args below meth c H locs cells slots Q (F0 m pc ls (.ref (Z 202) :: rest)) := by
  obtain ⟨⟨hx, hb, hml, hown, hts⟩, hK, hE, hA⟩ := X
  have hG : ∀ w ∈ GW, w.before args s = true := fun w h => hts w (List.mem_cons_of_mem _ h)
  exact va_getN (D := D) (ci := 8) (v := .int (cI u 7)) (C := RX9) (T := TX9) (N := 11) hx hb hG gwl_X9 hown hK hS.1 2 (cw_lit rfl) rfl 10 (by decide) (va_Nw.use rfl (hE.1 _ nw_108)) (fun _ h9 => h9) rfl hd kk
theorem cg_X11_48 (X : CC p s m args c cc nL c0 RX11 D kA V A) (hS : CS D kA Z A s u H locs) (hd : decode cc pc = .ok (.getfield 48, 3)) (kk : W p l e R s m args below meth c H locs cells slots Q (F0 m (pc + 3) ls (.ref (Z (300 + 50 * cR u 0)) :: rest))) : W p l e R s m args below meth c H locs cells slots Q (F0 m pc ls (.ref (Z 200) :: rest)) := by
  obtain ⟨⟨hx, hb, hml, hown, hts⟩, hK, hE, hA⟩ := X
  have hG : ∀ w ∈ GW, w.before args s = true := fun w h => hts w (List.mem_cons_of_mem _ h)
  exact va_get (D := D) (ci := 10) (v := .ref (Z (300 + 50 * cR u 0))) (C := RX11) (T := TX11) (N := 12) hx hb hG gwl_X11 hown hK hS.1 0 (cw_lit rfl) rfl 8 (by decide) (hG _ gw_573) (fun _ h9 => h9) rfl hd kk
theorem cg_X11_133 (X : CC p s m args c cc nL c0 RX11 D kA V A) {q : Nat} (hq : q < 338) (hS : CS D kA Z A s u H locs) (hd : decode cc pc = .ok (.getfield 133, 3)) (kk : W p l e R s m args below meth c H locs cells slots Q (F0 m (pc + 3) ls (.int (mI u q 7) :: rest))) : W p l e R s m args below meth c H locs cells slots Q (F0 m pc ls (.ref (Z (1000 + q)) :: rest)) := by
  obtain ⟨⟨hx, hb, hml, hown, hts⟩, hK, hE, hA⟩ := X
  have hG : ∀ w ∈ GW, w.before args s = true := fun w h => hts w (List.mem_cons_of_mem _ h)
  exact va_getN (D := D) (ci := 4) (v := .int (mI u q 7)) (C := RX4) (T := TX4) (N := 15) hx hb hG gwl_X4 hown hK hS.1 (90 + q) (cw_name hq) rfl 7 (by decide) (va_Nw.use rfl (hE.1 _ nw_252)) (fun _ h9 => h9) rfl hd kk
theorem cg_X11_41 (X : CC p s m args c cc nL c0 RX11 D kA V A) (hS : CS D kA Z A s u H locs) (hd : decode cc pc = .ok (.getfield 41, 3)) (kk : W p l e R s m args below meth c H locs cells slots Q (F0 m (pc + 3) ls (.ref (Z 219) :: rest))) : W p l e R s m args below meth c H locs cells slots Q (F0 m pc ls (.ref (Z 200) :: rest)) := by
  obtain ⟨⟨hx, hb, hml, hown, hts⟩, hK, hE, hA⟩ := X
  have hG : ∀ w ∈ GW, w.before args s = true := fun w h => hts w (List.mem_cons_of_mem _ h)
  exact va_get (D := D) (ci := 10) (v := .ref (Z 219)) (C := RX11) (T := TX11) (N := 12) hx hb hG gwl_X11 hown hK hS.1 0 (cw_lit rfl) rfl 7 (by decide) (hG _ gw_572) (fun _ h9 => h9) rfl hd kk
theorem cg_X11_285 (X : CC p s m args c cc nL c0 RX11 D kA V A) (hS : CS D kA Z A s u H locs) (hd : decode cc pc = .ok (.getfield 285, 3)) (kk : W p l e R s m args below meth c H locs cells slots Q (F0 m (pc + 3) ls (.int (cI u 9) :: rest))) : W p l e R s m args below meth c H locs cells slots Q (F0 m pc ls (.ref (Z 219) :: rest)) := by
  obtain ⟨⟨hx, hb, hml, hown, hts⟩, hK, hE, hA⟩ := X
  have hG : ∀ w ∈ GW, w.before args s = true := fun w h => hts w (List.mem_cons_of_mem _ h)
  exact va_getN (D := D) (ci := 9) (v := .int (cI u 9)) (C := RX10) (T := TX10) (N := 10) hx hb hG gwl_X10 hown hK hS.1 19 (cw_lit rfl) rfl 3 (by decide) (va_Nw.use rfl (hE.1 _ nw_173)) (fun _ h9 => h9) rfl hd kk
theorem cg_X11_150 (X : CC p s m args c cc nL c0 RX11 D kA V A) (hS : CS D kA Z A s u H locs) (hd : decode cc pc = .ok (.getfield 150, 3)) (kk : W p l e R s m args below meth c H locs cells slots Q (F0 m (pc + 3) ls (.int (cI u 1) :: rest))) : W p l e R s m args below meth c H locs cells slots Q (F0 m pc ls (.ref (Z 200) :: rest)) := by
  obtain ⟨⟨hx, hb, hml, hown, hts⟩, hK, hE, hA⟩ := X
  have hG : ∀ w ∈ GW, w.before args s = true := fun w h => hts w (List.mem_cons_of_mem _ h)
  exact va_get (D := D) (ci := 10) (v := .int (cI u 1)) (C := RX11) (T := TX11) (N := 12) hx hb hG gwl_X11 hown hK hS.1 0 (cw_lit rfl) rfl 10 (by decide) (hG _ gw_575) (fun _ h9 => h9) rfl hd kk
theorem cp_X11_150 (X : CC p s m args c cc nL c0 RX11 D kA V A) (hS : CS D kA Z A s u H locs) {v : Int32} (hu : xI u 1 v = u1) (hd : decode cc pc = .ok (.putfield 150, 3)) (kk : ∀ H locs, CS D kA Z A s u1 H locs → W p l e R s m args below meth c H locs cells slots Q (F0 m (pc + 3) ls rest)) : W p l e R s m args below meth c H locs cells slots Q (F0 m pc ls (.int v :: .ref (Z 200) :: rest)) := by
  obtain ⟨⟨hx, hb, hml, hown, hts⟩, hK, hE, hA⟩ := X
  have hG : ∀ w ∈ GW, w.before args s = true := fun w h => hts w (List.mem_cons_of_mem _ h)
  subst hu
  refine va_put (D := D) (ci := 10) (v := .int v) (ty := .int) (C := RX11) (T := TX11) (N := 12) hx hb hG gwl_X11 tyX11 tyX11_ok nmX11 hown hK hS.1 hS.2.1 hS.2.2 0 (cw_lit rfl) rfl 10 (by decide) (hG _ gw_575) (fun _ h9 => h9) rfl (by decide +kernel) rfl rfl (Nat.le_of_ble_eq_true rfl) hd (fun H1 locs1 hP hD hS1 => kk H1 locs1 ?_)
  have he := cw_setL (kA := kA) (Z := Z) (u := u) (w := xI u 1 v) (k := 0) (x := (Z 200, .inr (10, ([.ref (Z 201), .int (cI u 0), .ref (Z 202), .ref (Z 208), .ref (Z 227), .ref (Z 209), .ref (Z 234), .ref (Z 219), .ref (Z (300 + 50 * cR u 0)), .ref (Z (300 + 50 * cR u 1)), .int (cI u 1), .int (cI u 2)] : List Value).set 10 (.int v)))) (by decide) rfl rfl rfl
  exact cs_put he hP hD hS1
theorem cg_X11_386 (X : CC p s m args c cc nL c0 RX11 D kA V A) (hS : CS D kA Z A s u H locs) (hd : decode cc pc = .ok (.getfield 386, 3)) (kk : W p l e R s m args below meth c H locs cells slots Q (F0 m (pc + 3) ls (.ref (Z 220) :: rest))) : W p l e R s m args below meth c H locs cells slots Q (F0 m pc ls (.ref (Z 219) :: rest)) := by
  obtain ⟨⟨hx, hb, hml, hown, hts⟩, hK, hE, hA⟩ := X
  have hG : ∀ w ∈ GW, w.before args s = true := fun w h => hts w (List.mem_cons_of_mem _ h)
  exact va_getN (D := D) (ci := 9) (v := .ref (Z 220)) (C := RX10) (T := TX10) (N := 10) hx hb hG gwl_X10 hown hK hS.1 19 (cw_lit rfl) rfl 0 (by decide) (va_Nw.use rfl (hE.1 _ nw_168)) (fun _ h9 => h9) rfl hd kk
theorem cg_X11_69 (X : CC p s m args c cc nL c0 RX11 D kA V A) (hS : CS D kA Z A s u H locs) (hd : decode cc pc = .ok (.getfield 69, 3)) (kk : W p l e R s m args below meth c H locs cells slots Q (F0 m (pc + 3) ls (.ref (Z 234) :: rest))) : W p l e R s m args below meth c H locs cells slots Q (F0 m pc ls (.ref (Z 200) :: rest)) := by
  obtain ⟨⟨hx, hb, hml, hown, hts⟩, hK, hE, hA⟩ := X
  have hG : ∀ w ∈ GW, w.before args s = true := fun w h => hts w (List.mem_cons_of_mem _ h)
  exact va_get (D := D) (ci := 10) (v := .ref (Z 234)) (C := RX11) (T := TX11) (N := 12) hx hb hG gwl_X11 hown hK hS.1 0 (cw_lit rfl) rfl 6 (by decide) (hG _ gw_571) (fun _ h9 => h9) rfl hd kk
theorem cg_X11_389 (X : CC p s m args c cc nL c0 RX11 D kA V A) (hS : CS D kA Z A s u H locs) (hd : decode cc pc = .ok (.getfield 389, 3)) (kk : W p l e R s m args below meth c H locs cells slots Q (F0 m (pc + 3) ls (.ref (Z 221) :: rest))) : W p l e R s m args below meth c H locs cells slots Q (F0 m pc ls (.ref (Z 219) :: rest)) := by
  obtain ⟨⟨hx, hb, hml, hown, hts⟩, hK, hE, hA⟩ := X
  have hG : ∀ w ∈ GW, w.before args s = true := fun w h => hts w (List.mem_cons_of_mem _ h)
  exact va_getN (D := D) (ci := 9) (v := .ref (Z 221)) (C := RX10) (T := TX10) (N := 10) hx hb hG gwl_X10 hown hK hS.1 19 (cw_lit rfl) rfl 1 (by decide) (va_Nw.use rfl (hE.1 _ nw_170)) (fun _ h9 => h9) rfl hd kk
theorem cg_X11_34 (X : CC p s m args c cc nL c0 RX11 D kA V A) (hS : CS D kA Z A s u H locs) (hd : decode cc pc = .ok (.getfield 34, 3)) (kk : W p l e R s m args below meth c H locs cells slots Q (F0 m (pc + 3) ls (.ref (Z 209) :: rest))) : W p l e R s m args below meth c H locs cells slots Q (F0 m pc ls (.ref (Z 200) :: rest)) := by
  obtain ⟨⟨hx, hb, hml, hown, hts⟩, hK, hE, hA⟩ := X
  have hG : ∀ w ∈ GW, w.before args s = true := fun w h => hts w (List.mem_cons_of_mem _ h)
  exact va_get (D := D) (ci := 10) (v := .ref (Z 209)) (C := RX11) (T := TX11) (N := 12) hx hb hG gwl_X11 hown hK hS.1 0 (cw_lit rfl) rfl 5 (by decide) (hG _ gw_570) (fun _ h9 => h9) rfl hd kk
theorem cg_X11_153 (X : CC p s m args c cc nL c0 RX11 D kA V A) {q : Nat} (hq : q < 2) (hS : CS D kA Z A s u H locs) (hd : decode cc pc = .ok (.getfield 153, 3)) (kk : W p l e R s m args below meth c H locs cells slots Q (F0 m (pc + 3) ls (.ref (Z (300 + 50 * q + 10)) :: rest))) : W p l e R s m args below meth c H locs cells slots Q (F0 m pc ls (.ref (Z (300 + 50 * q)) :: rest)) := by
  obtain ⟨⟨hx, hb, hml, hown, hts⟩, hK, hE, hA⟩ := X
  have hG : ∀ w ∈ GW, w.before args s = true := fun w h => hts w (List.mem_cons_of_mem _ h)
  rcases (show q = 0 ∨ q = 1 by omega) with rfl | rfl
  · exact va_getN (D := D) (ci := 5) (v := .ref (Z (300 + 50 * 0 + 10))) (C := RX6) (T := TX6) (N := 16) hx hb hG gwl_X6 hown hK hS.1 40 (cw_lit rfl) rfl 5 (by decide) (va_Nw.use rfl (hE.1 _ nw_381)) (fun _ h9 => h9) rfl hd kk
  · exact va_getN (D := D) (ci := 5) (v := .ref (Z (300 + 50 * 1 + 10))) (C := RX6) (T := TX6) (N := 16) hx hb hG gwl_X6 hown hK hS.1 57 (cw_lit rfl) rfl 5 (by decide) (va_Nw.use rfl (hE.1 _ nw_381)) (fun _ h9 => h9) rfl hd kk
theorem cg_X11_157 (X : CC p s m args c cc nL c0 RX11 D kA V A) {q : Nat} (hq : q < 16) (hS : CS D kA Z A s u H locs) (hd : decode cc pc = .ok (.getfield 157, 3)) (kk : W p l e R s m args below meth c H locs cells slots Q (F0 m (pc + 3) ls (.int (tI u q 3) :: rest))) : W p l e R s m args below meth c H locs cells slots Q (F0 m pc ls (.ref (Z (400 + q)) :: rest)) := by
  obtain ⟨⟨hx, hb, hml, hown, hts⟩, hK, hE, hA⟩ := X
  have hG : ∀ w ∈ GW, w.before args s = true := fun w h => hts w (List.mem_cons_of_mem _ h)
  exact va_getN (D := D) (ci := 6) (v := .int (tI u q 3)) (C := RX7) (T := TX7) (N := 10) hx hb hG gwl_X7 hown hK hS.1 (74 + q) (cw_task hq) rfl 3 (by decide) (va_Nw.use rfl (hE.1 _ nw_331)) (fun _ h9 => h9) rfl hd kk
theorem cg_X11_372 (X : CC p s m args c cc nL c0 RX11 D kA V A) {q : Nat} (hq : q < 16) (hS : CS D kA Z A s u H locs) (hd : decode cc pc = .ok (.getfield 372, 3)) (kk : W p l e R s m args below meth c H locs cells slots Q (F0 m (pc + 3) ls (.int (tI u q 2) :: rest))) : W p l e R s m args below meth c H locs cells slots Q (F0 m pc ls (.ref (Z (400 + q)) :: rest)) := by
  obtain ⟨⟨hx, hb, hml, hown, hts⟩, hK, hE, hA⟩ := X
  have hG : ∀ w ∈ GW, w.before args s = true := fun w h => hts w (List.mem_cons_of_mem _ h)
  exact va_getN (D := D) (ci := 6) (v := .int (tI u q 2)) (C := RX7) (T := TX7) (N := 10) hx hb hG gwl_X7 hown hK hS.1 (74 + q) (cw_task hq) rfl 2 (by decide) (va_Nw.use rfl (hE.1 _ nw_329)) (fun _ h9 => h9) rfl hd kk
theorem cg_X11_73 (X : CC p s m args c cc nL c0 RX11 D kA V A) (hS : CS D kA Z A s u H locs) (hd : decode cc pc = .ok (.getfield 73, 3)) (kk : W p l e R s m args below meth c H locs cells slots Q (F0 m (pc + 3) ls (.int (cI u 2) :: rest))) : W p l e R s m args below meth c H locs cells slots Q (F0 m pc ls (.ref (Z 200) :: rest)) := by
  obtain ⟨⟨hx, hb, hml, hown, hts⟩, hK, hE, hA⟩ := X
  have hG : ∀ w ∈ GW, w.before args s = true := fun w h => hts w (List.mem_cons_of_mem _ h)
  exact va_get (D := D) (ci := 10) (v := .int (cI u 2)) (C := RX11) (T := TX11) (N := 12) hx hb hG gwl_X11 hown hK hS.1 0 (cw_lit rfl) rfl 11 (by decide) (hG _ gw_576) (fun _ h9 => h9) rfl hd kk
theorem cp_X11_157 (X : CC p s m args c cc nL c0 RX11 D kA V A) {q : Nat} (hq : q < 16) (hS : CS D kA Z A s u H locs) {v : Int32} (hu : xtI u q 3 v = u1) (hn : v = 0 ∨ v = 1) (hd : decode cc pc = .ok (.putfield 157, 3)) (kk : ∀ H locs, CS D kA Z A s u1 H locs → W p l e R s m args below meth c H locs cells slots Q (F0 m (pc + 3) ls rest)) : W p l e R s m args below meth c H locs cells slots Q (F0 m pc ls (.int v :: .ref (Z (400 + q)) :: rest)) := by
  obtain ⟨⟨hx, hb, hml, hown, hts⟩, hK, hE, hA⟩ := X
  have hG : ∀ w ∈ GW, w.before args s = true := fun w h => hts w (List.mem_cons_of_mem _ h)
  subst hu
  refine va_putN (D := D) (ci := 6) (v := .int v) (ty := .boolean) (C := RX7) (T := TX7) (N := 10) hx hb hG gwl_X7 tyX7 tyX7_ok nmX7 hown hK hS.1 hS.2.1 hS.2.2 (74 + q) (cw_task hq) rfl 3 (by decide) (va_Nw.use rfl (hE.1 _ nw_331)) (fun _ h9 => h9) rfl (by decide +kernel) (zr_n hn) (zr_f hn) (Nat.le_of_ble_eq_true rfl) hd (fun H1 locs1 hP hD hS1 => kk H1 locs1 ?_)
  have he := cw_setT (kA := kA) (Z := Z) (u := u) (w := xtI u q 3 v) (q := q) (x := (Z (400 + q), .inr (6, (TF u q).set 3 (.int v)))) hq rfl rfl (by simp [TW, TF, xtI, tI]) (fun j hj => by simp [TW, TF, xtI, tI, hj])
  exact cs_put he hP hD hS1
theorem cg_X11_125 (X : CC p s m args c cc nL c0 RX11 D kA V A) {q : Nat} (hq : q < 338) (hS : CS D kA Z A s u H locs) (hd : decode cc pc = .ok (.getfield 125, 3)) (kk : W p l e R s m args below meth c H locs cells slots Q (F0 m (pc + 3) ls (.int (mI u q 6) :: rest))) : W p l e R s m args below meth c H locs cells slots Q (F0 m pc ls (.ref (Z (1000 + q)) :: rest)) := by
  obtain ⟨⟨hx, hb, hml, hown, hts⟩, hK, hE, hA⟩ := X
  have hG : ∀ w ∈ GW, w.before args s = true := fun w h => hts w (List.mem_cons_of_mem _ h)
  exact va_getN (D := D) (ci := 4) (v := .int (mI u q 6)) (C := RX4) (T := TX4) (N := 15) hx hb hG gwl_X4 hown hK hS.1 (90 + q) (cw_name hq) rfl 6 (by decide) (va_Nw.use rfl (hE.1 _ nw_249)) (fun _ h9 => h9) rfl hd kk
theorem cg_X11_130 (X : CC p s m args c cc nL c0 RX11 D kA V A) {q : Nat} (hq : q < 338) (hS : CS D kA Z A s u H locs) (hd : decode cc pc = .ok (.getfield 130, 3)) (kk : W p l e R s m args below meth c H locs cells slots Q (F0 m (pc + 3) ls (.int (mI u q 9) :: rest))) : W p l e R s m args below meth c H locs cells slots Q (F0 m pc ls (.ref (Z (1000 + q)) :: rest)) := by
  obtain ⟨⟨hx, hb, hml, hown, hts⟩, hK, hE, hA⟩ := X
  have hG : ∀ w ∈ GW, w.before args s = true := fun w h => hts w (List.mem_cons_of_mem _ h)
  exact va_getN (D := D) (ci := 4) (v := .int (mI u q 9)) (C := RX4) (T := TX4) (N := 15) hx hb hG gwl_X4 hown hK hS.1 (90 + q) (cw_name hq) rfl 9 (by decide) (va_Nw.use rfl (hE.1 _ nw_262)) (fun _ h9 => h9) rfl hd kk
theorem cg_X11_136 (X : CC p s m args c cc nL c0 RX11 D kA V A) {q : Nat} (hq : q < 338) (hS : CS D kA Z A s u H locs) (hd : decode cc pc = .ok (.getfield 136, 3)) (kk : W p l e R s m args below meth c H locs cells slots Q (F0 m (pc + 3) ls (.long (mL u q 10) :: rest))) : W p l e R s m args below meth c H locs cells slots Q (F0 m pc ls (.ref (Z (1000 + q)) :: rest)) := by
  obtain ⟨⟨hx, hb, hml, hown, hts⟩, hK, hE, hA⟩ := X
  have hG : ∀ w ∈ GW, w.before args s = true := fun w h => hts w (List.mem_cons_of_mem _ h)
  exact va_getN (D := D) (ci := 4) (v := .long (mL u q 10)) (C := RX4) (T := TX4) (N := 15) hx hb hG gwl_X4 hown hK hS.1 (90 + q) (cw_name hq) rfl 10 (by decide) (va_Nw.use rfl (hE.1 _ nw_266)) (fun _ h9 => h9) rfl hd kk
theorem cg_X11_168 (X : CC p s m args c cc nL c0 RX11 D kA V A) (hS : CS D kA Z A s u H locs) (hd : decode cc pc = .ok (.getfield 168, 3)) (kk : W p l e R s m args below meth c H locs cells slots Q (F0 m (pc + 3) ls (.ref (Z 210) :: rest))) : W p l e R s m args below meth c H locs cells slots Q (F0 m pc ls (.ref (Z 209) :: rest)) := by
  obtain ⟨⟨hx, hb, hml, hown, hts⟩, hK, hE, hA⟩ := X
  have hG : ∀ w ∈ GW, w.before args s = true := fun w h => hts w (List.mem_cons_of_mem _ h)
  exact va_getN (D := D) (ci := 1) (v := .ref (Z 210)) (C := RX1) (T := TX1) (N := 1) hx hb hG gwl_X1 hown hK hS.1 9 (cw_lit rfl) rfl 0 (by decide) (va_Nw.use rfl (hE.1 _ nw_157)) (fun _ h9 => h9) rfl hd kk
theorem cp_X11_73 (X : CC p s m args c cc nL c0 RX11 D kA V A) (hS : CS D kA Z A s u H locs) {v : Int32} (hu : xI u 2 v = u1) (hd : decode cc pc = .ok (.putfield 73, 3)) (kk : ∀ H locs, CS D kA Z A s u1 H locs → W p l e R s m args below meth c H locs cells slots Q (F0 m (pc + 3) ls rest)) : W p l e R s m args below meth c H locs cells slots Q (F0 m pc ls (.int v :: .ref (Z 200) :: rest)) := by
  obtain ⟨⟨hx, hb, hml, hown, hts⟩, hK, hE, hA⟩ := X
  have hG : ∀ w ∈ GW, w.before args s = true := fun w h => hts w (List.mem_cons_of_mem _ h)
  subst hu
  refine va_put (D := D) (ci := 10) (v := .int v) (ty := .int) (C := RX11) (T := TX11) (N := 12) hx hb hG gwl_X11 tyX11 tyX11_ok nmX11 hown hK hS.1 hS.2.1 hS.2.2 0 (cw_lit rfl) rfl 11 (by decide) (hG _ gw_576) (fun _ h9 => h9) rfl (by decide +kernel) rfl rfl (Nat.le_of_ble_eq_true rfl) hd (fun H1 locs1 hP hD hS1 => kk H1 locs1 ?_)
  have he := cw_setL (kA := kA) (Z := Z) (u := u) (w := xI u 2 v) (k := 0) (x := (Z 200, .inr (10, ([.ref (Z 201), .int (cI u 0), .ref (Z 202), .ref (Z 208), .ref (Z 227), .ref (Z 209), .ref (Z 234), .ref (Z 219), .ref (Z (300 + 50 * cR u 0)), .ref (Z (300 + 50 * cR u 1)), .int (cI u 1), .int (cI u 2)] : List Value).set 11 (.int v)))) (by decide) rfl rfl rfl
  exact cs_put he hP hD hS1
theorem cg_X11_185 (X : CC p s m args c cc nL c0 RX11 D kA V A) {q : Nat} (hq : q < 16) (hS : CS D kA Z A s u H locs) (hd : decode cc pc = .ok (.getfield 185, 3)) (kk : W p l e R s m args below meth c H locs cells slots Q (F0 m (pc + 3) ls (.int (tI u q 0) :: rest))) : W p l e R s m args below meth c H locs cells slots Q (F0 m pc ls (.ref (Z (400 + q)) :: rest)) := by
  obtain ⟨⟨hx, hb, hml, hown, hts⟩, hK, hE, hA⟩ := X
  have hG : ∀ w ∈ GW, w.before args s = true := fun w h => hts w (List.mem_cons_of_mem _ h)
  exact va_getN (D := D) (ci := 6) (v := .int (tI u q 0)) (C := RX7) (T := TX7) (N := 10) hx hb hG gwl_X7 hown hK hS.1 (74 + q) (cw_task hq) rfl 0 (by decide) (va_Nw.use rfl (hE.1 _ nw_325)) (fun _ h9 => h9) rfl hd kk
theorem cg_X11_188 (X : CC p s m args c cc nL c0 RX11 D kA V A) {q : Nat} (hq : q < 16) (hS : CS D kA Z A s u H locs) (hd : decode cc pc = .ok (.getfield 188, 3)) (kk : W p l e R s m args below meth c H locs cells slots Q (F0 m (pc + 3) ls (.int (tI u q 1) :: rest))) : W p l e R s m args below meth c H locs cells slots Q (F0 m pc ls (.ref (Z (400 + q)) :: rest)) := by
  obtain ⟨⟨hx, hb, hml, hown, hts⟩, hK, hE, hA⟩ := X
  have hG : ∀ w ∈ GW, w.before args s = true := fun w h => hts w (List.mem_cons_of_mem _ h)
  exact va_getN (D := D) (ci := 6) (v := .int (tI u q 1)) (C := RX7) (T := TX7) (N := 10) hx hb hG gwl_X7 hown hK hS.1 (74 + q) (cw_task hq) rfl 1 (by decide) (va_Nw.use rfl (hE.1 _ nw_327)) (fun _ h9 => h9) rfl hd kk
theorem cg_X11_191 (X : CC p s m args c cc nL c0 RX11 D kA V A) {q : Nat} (hq : q < 16) (hS : CS D kA Z A s u H locs) (hd : decode cc pc = .ok (.getfield 191, 3)) (kk : W p l e R s m args below meth c H locs cells slots Q (F0 m (pc + 3) ls (.int (tI u q 4) :: rest))) : W p l e R s m args below meth c H locs cells slots Q (F0 m pc ls (.ref (Z (400 + q)) :: rest)) := by
  obtain ⟨⟨hx, hb, hml, hown, hts⟩, hK, hE, hA⟩ := X
  have hG : ∀ w ∈ GW, w.before args s = true := fun w h => hts w (List.mem_cons_of_mem _ h)
  exact va_getN (D := D) (ci := 6) (v := .int (tI u q 4)) (C := RX7) (T := TX7) (N := 10) hx hb hG gwl_X7 hown hK hS.1 (74 + q) (cw_task hq) rfl 4 (by decide) (va_Nw.use rfl (hE.1 _ nw_334)) (fun _ h9 => h9) rfl hd kk
theorem cg_X11_194 (X : CC p s m args c cc nL c0 RX11 D kA V A) {q : Nat} (hq : q < 16) (hS : CS D kA Z A s u H locs) (hd : decode cc pc = .ok (.getfield 194, 3)) (kk : W p l e R s m args below meth c H locs cells slots Q (F0 m (pc + 3) ls (.int (tI u q 5) :: rest))) : W p l e R s m args below meth c H locs cells slots Q (F0 m pc ls (.ref (Z (400 + q)) :: rest)) := by
  obtain ⟨⟨hx, hb, hml, hown, hts⟩, hK, hE, hA⟩ := X
  have hG : ∀ w ∈ GW, w.before args s = true := fun w h => hts w (List.mem_cons_of_mem _ h)
  exact va_getN (D := D) (ci := 6) (v := .int (tI u q 5)) (C := RX7) (T := TX7) (N := 10) hx hb hG gwl_X7 hown hK hS.1 (74 + q) (cw_task hq) rfl 5 (by decide) (va_Nw.use rfl (hE.1 _ nw_336)) (fun _ h9 => h9) rfl hd kk
theorem cg_X11_197 (X : CC p s m args c cc nL c0 RX11 D kA V A) {q : Nat} (hq : q < 16) (hS : CS D kA Z A s u H locs) (hd : decode cc pc = .ok (.getfield 197, 3)) (kk : W p l e R s m args below meth c H locs cells slots Q (F0 m (pc + 3) ls (.int (tI u q 6) :: rest))) : W p l e R s m args below meth c H locs cells slots Q (F0 m pc ls (.ref (Z (400 + q)) :: rest)) := by
  obtain ⟨⟨hx, hb, hml, hown, hts⟩, hK, hE, hA⟩ := X
  have hG : ∀ w ∈ GW, w.before args s = true := fun w h => hts w (List.mem_cons_of_mem _ h)
  exact va_getN (D := D) (ci := 6) (v := .int (tI u q 6)) (C := RX7) (T := TX7) (N := 10) hx hb hG gwl_X7 hown hK hS.1 (74 + q) (cw_task hq) rfl 6 (by decide) (va_Nw.use rfl (hE.1 _ nw_338)) (fun _ h9 => h9) rfl hd kk
theorem cg_X11_198 (X : CC p s m args c cc nL c0 RX11 D kA V A) {q : Nat} (hq : q < 16) (hS : CS D kA Z A s u H locs) (hd : decode cc pc = .ok (.getfield 198, 3)) (kk : W p l e R s m args below meth c H locs cells slots Q (F0 m (pc + 3) ls (.int (tI u q 7) :: rest))) : W p l e R s m args below meth c H locs cells slots Q (F0 m pc ls (.ref (Z (400 + q)) :: rest)) := by
  obtain ⟨⟨hx, hb, hml, hown, hts⟩, hK, hE, hA⟩ := X
  have hG : ∀ w ∈ GW, w.before args s = true := fun w h => hts w (List.mem_cons_of_mem _ h)
  exact va_getN (D := D) (ci := 6) (v := .int (tI u q 7)) (C := RX7) (T := TX7) (N := 10) hx hb hG gwl_X7 hown hK hS.1 (74 + q) (cw_task hq) rfl 7 (by decide) (va_Nw.use rfl (hE.1 _ nw_340)) (fun _ h9 => h9) rfl hd kk
theorem cg_X11_199 (X : CC p s m args c cc nL c0 RX11 D kA V A) {q : Nat} (hq : q < 16) (hS : CS D kA Z A s u H locs) (hd : decode cc pc = .ok (.getfield 199, 3)) (kk : W p l e R s m args below meth c H locs cells slots Q (F0 m (pc + 3) ls (.int (tI u q 8) :: rest))) : W p l e R s m args below meth c H locs cells slots Q (F0 m pc ls (.ref (Z (400 + q)) :: rest)) := by
  obtain ⟨⟨hx, hb, hml, hown, hts⟩, hK, hE, hA⟩ := X
  have hG : ∀ w ∈ GW, w.before args s = true := fun w h => hts w (List.mem_cons_of_mem _ h)
  exact va_getN (D := D) (ci := 6) (v := .int (tI u q 8)) (C := RX7) (T := TX7) (N := 10) hx hb hG gwl_X7 hown hK hS.1 (74 + q) (cw_task hq) rfl 8 (by decide) (va_Nw.use rfl (hE.1 _ nw_342)) (fun _ h9 => h9) rfl hd kk
theorem cg_X11_202 (X : CC p s m args c cc nL c0 RX11 D kA V A) {q : Nat} (hq : q < 16) (hS : CS D kA Z A s u H locs) (hd : decode cc pc = .ok (.getfield 202, 3)) (kk : W p l e R s m args below meth c H locs cells slots Q (F0 m (pc + 3) ls (.int (tI u q 9) :: rest))) : W p l e R s m args below meth c H locs cells slots Q (F0 m pc ls (.ref (Z (400 + q)) :: rest)) := by
  obtain ⟨⟨hx, hb, hml, hown, hts⟩, hK, hE, hA⟩ := X
  have hG : ∀ w ∈ GW, w.before args s = true := fun w h => hts w (List.mem_cons_of_mem _ h)
  exact va_getN (D := D) (ci := 6) (v := .int (tI u q 9)) (C := RX7) (T := TX7) (N := 10) hx hb hG gwl_X7 hown hK hS.1 (74 + q) (cw_task hq) rfl 9 (by decide) (va_Nw.use rfl (hE.1 _ nw_344)) (fun _ h9 => h9) rfl hd kk
theorem cg_X11_227 (X : CC p s m args c cc nL c0 RX11 D kA V A) {q : Nat} (hq : q < 338) (hS : CS D kA Z A s u H locs) (hd : decode cc pc = .ok (.getfield 227, 3)) (kk : W p l e R s m args below meth c H locs cells slots Q (F0 m (pc + 3) ls (.int (mI u q 5) :: rest))) : W p l e R s m args below meth c H locs cells slots Q (F0 m pc ls (.ref (Z (1000 + q)) :: rest)) := by
  obtain ⟨⟨hx, hb, hml, hown, hts⟩, hK, hE, hA⟩ := X
  have hG : ∀ w ∈ GW, w.before args s = true := fun w h => hts w (List.mem_cons_of_mem _ h)
  exact va_getN (D := D) (ci := 4) (v := .int (mI u q 5)) (C := RX4) (T := TX4) (N := 15) hx hb hG gwl_X4 hown hK hS.1 (90 + q) (cw_name hq) rfl 5 (by decide) (va_Nw.use rfl (hE.1 _ nw_245)) (fun _ h9 => h9) rfl hd kk
theorem cg_X11_230 (X : CC p s m args c cc nL c0 RX11 D kA V A) {q : Nat} (hq : q < 338) (hS : CS D kA Z A s u H locs) (hd : decode cc pc = .ok (.getfield 230, 3)) (kk : W p l e R s m args below meth c H locs cells slots Q (F0 m (pc + 3) ls (.int (mI u q 8) :: rest))) : W p l e R s m args below meth c H locs cells slots Q (F0 m pc ls (.ref (Z (1000 + q)) :: rest)) := by
  obtain ⟨⟨hx, hb, hml, hown, hts⟩, hK, hE, hA⟩ := X
  have hG : ∀ w ∈ GW, w.before args s = true := fun w h => hts w (List.mem_cons_of_mem _ h)
  exact va_getN (D := D) (ci := 4) (v := .int (mI u q 8)) (C := RX4) (T := TX4) (N := 15) hx hb hG gwl_X4 hown hK hS.1 (90 + q) (cw_name hq) rfl 8 (by decide) (va_Nw.use rfl (hE.1 _ nw_258)) (fun _ h9 => h9) rfl hd kk
theorem cg_X11_241 (X : CC p s m args c cc nL c0 RX11 D kA V A) {q : Nat} (hq : q < 338) (hS : CS D kA Z A s u H locs) (hd : decode cc pc = .ok (.getfield 241, 3)) (kk : W p l e R s m args below meth c H locs cells slots Q (F0 m (pc + 3) ls (.int (mI u q 14) :: rest))) : W p l e R s m args below meth c H locs cells slots Q (F0 m pc ls (.ref (Z (1000 + q)) :: rest)) := by
  obtain ⟨⟨hx, hb, hml, hown, hts⟩, hK, hE, hA⟩ := X
  have hG : ∀ w ∈ GW, w.before args s = true := fun w h => hts w (List.mem_cons_of_mem _ h)
  exact va_getN (D := D) (ci := 4) (v := .int (mI u q 14)) (C := RX4) (T := TX4) (N := 15) hx hb hG gwl_X4 hown hK hS.1 (90 + q) (cw_name hq) rfl 14 (by decide) (va_Nw.use rfl (hE.1 _ nw_283)) (fun _ h9 => h9) rfl hd kk
theorem cg_X11_252 (X : CC p s m args c cc nL c0 RX11 D kA V A) {q : Nat} (hq : q < 338) (hS : CS D kA Z A s u H locs) (hd : decode cc pc = .ok (.getfield 252, 3)) (kk : W p l e R s m args below meth c H locs cells slots Q (F0 m (pc + 3) ls (.int (mI u q 2) :: rest))) : W p l e R s m args below meth c H locs cells slots Q (F0 m pc ls (.ref (Z (1000 + q)) :: rest)) := by
  obtain ⟨⟨hx, hb, hml, hown, hts⟩, hK, hE, hA⟩ := X
  have hG : ∀ w ∈ GW, w.before args s = true := fun w h => hts w (List.mem_cons_of_mem _ h)
  exact va_getN (D := D) (ci := 4) (v := .int (mI u q 2)) (C := RX4) (T := TX4) (N := 15) hx hb hG gwl_X4 hown hK hS.1 (90 + q) (cw_name hq) rfl 2 (by decide) (va_Nw.use rfl (hE.1 _ nw_232)) (fun _ h9 => h9) rfl hd kk
theorem cg_X11_279 (X : CC p s m args c cc nL c0 RX11 D kA V A) {q : Nat} (hq : q < 338) (hS : CS D kA Z A s u H locs) (hd : decode cc pc = .ok (.getfield 279, 3)) (kk : W p l e R s m args below meth c H locs cells slots Q (F0 m (pc + 3) ls (.int (mI u q 4) :: rest))) : W p l e R s m args below meth c H locs cells slots Q (F0 m pc ls (.ref (Z (1000 + q)) :: rest)) := by
  obtain ⟨⟨hx, hb, hml, hown, hts⟩, hK, hE, hA⟩ := X
  have hG : ∀ w ∈ GW, w.before args s = true := fun w h => hts w (List.mem_cons_of_mem _ h)
  exact va_getN (D := D) (ci := 4) (v := .int (mI u q 4)) (C := RX4) (T := TX4) (N := 15) hx hb hG gwl_X4 hown hK hS.1 (90 + q) (cw_name hq) rfl 4 (by decide) (va_Nw.use rfl (hE.1 _ nw_240)) (fun _ h9 => h9) rfl hd kk
theorem cg_X11_297 (X : CC p s m args c cc nL c0 RX11 D kA V A) (hS : CS D kA Z A s u H locs) (hd : decode cc pc = .ok (.getfield 297, 3)) (kk : W p l e R s m args below meth c H locs cells slots Q (F0 m (pc + 3) ls (.int (cI u 10) :: rest))) : W p l e R s m args below meth c H locs cells slots Q (F0 m pc ls (.ref (Z 219) :: rest)) := by
  obtain ⟨⟨hx, hb, hml, hown, hts⟩, hK, hE, hA⟩ := X
  have hG : ∀ w ∈ GW, w.before args s = true := fun w h => hts w (List.mem_cons_of_mem _ h)
  exact va_getN (D := D) (ci := 9) (v := .int (cI u 10)) (C := RX10) (T := TX10) (N := 10) hx hb hG gwl_X10 hown hK hS.1 19 (cw_lit rfl) rfl 8 (by decide) (va_Nw.use rfl (hE.1 _ nw_183)) (fun _ h9 => h9) rfl hd kk
theorem cg_X11_305 (X : CC p s m args c cc nL c0 RX11 D kA V A) (hS : CS D kA Z A s u H locs) (hd : decode cc pc = .ok (.getfield 305, 3)) (kk : W p l e R s m args below meth c H locs cells slots Q (F0 m (pc + 3) ls (.ref (Z 223) :: rest))) : W p l e R s m args below meth c H locs cells slots Q (F0 m pc ls (.ref (Z 219) :: rest)) := by
  obtain ⟨⟨hx, hb, hml, hown, hts⟩, hK, hE, hA⟩ := X
  have hG : ∀ w ∈ GW, w.before args s = true := fun w h => hts w (List.mem_cons_of_mem _ h)
  exact va_getN (D := D) (ci := 9) (v := .ref (Z 223)) (C := RX10) (T := TX10) (N := 10) hx hb hG gwl_X10 hown hK hS.1 19 (cw_lit rfl) rfl 4 (by decide) (va_Nw.use rfl (hE.1 _ nw_175)) (fun _ h9 => h9) rfl hd kk
theorem ca_s223 (X : CC p s m args c cc nL c0 own D kA V A) (hS : CS D kA Z A s u H locs) {i : Int32} {v : Int32} (hi : vp_in i 100) (hv : cA u 223 i.toNatClampNeg = v) (hd : decode cc pc = .ok (.iaload, 1)) (kk : W p l e R s m args below meth c H locs cells slots Q (F0 m (pc + 1) ls (.int v :: rest))) : W p l e R s m args below meth c H locs cells slots Q (F0 m pc ls (.int i :: .ref (Z 223) :: rest)) := by
  subst hv
  exact va_iald X.1.1 X.1.2.1 X.2.1 hS.1 23 0 (cw_lit rfl) rfl hi hd kk
theorem cg_X11_309 (X : CC p s m args c cc nL c0 RX11 D kA V A) (hS : CS D kA Z A s u H locs) (hd : decode cc pc = .ok (.getfield 309, 3)) (kk : W p l e R s m args below meth c H locs cells slots Q (F0 m (pc + 3) ls (.ref (Z 224) :: rest))) : W p l e R s m args below meth c H locs cells slots Q (F0 m pc ls (.ref (Z 219) :: rest)) := by
  obtain ⟨⟨hx, hb, hml, hown, hts⟩, hK, hE, hA⟩ := X
  have hG : ∀ w ∈ GW, w.before args s = true := fun w h => hts w (List.mem_cons_of_mem _ h)
  exact va_getN (D := D) (ci := 9) (v := .ref (Z 224)) (C := RX10) (T := TX10) (N := 10) hx hb hG gwl_X10 hown hK hS.1 19 (cw_lit rfl) rfl 5 (by decide) (va_Nw.use rfl (hE.1 _ nw_177)) (fun _ h9 => h9) rfl hd kk
theorem ca_s224 (X : CC p s m args c cc nL c0 own D kA V A) (hS : CS D kA Z A s u H locs) {i : Int32} {v : Int32} (hi : vp_in i 100) (hv : cA u 224 i.toNatClampNeg = v) (hd : decode cc pc = .ok (.iaload, 1)) (kk : W p l e R s m args below meth c H locs cells slots Q (F0 m (pc + 1) ls (.int v :: rest))) : W p l e R s m args below meth c H locs cells slots Q (F0 m pc ls (.int i :: .ref (Z 224) :: rest)) := by
  subst hv
  exact va_iald X.1.1 X.1.2.1 X.2.1 hS.1 24 0 (cw_lit rfl) rfl hi hd kk
theorem cg_X11_312 (X : CC p s m args c cc nL c0 RX11 D kA V A) (hS : CS D kA Z A s u H locs) (hd : decode cc pc = .ok (.getfield 312, 3)) (kk : W p l e R s m args below meth c H locs cells slots Q (F0 m (pc + 3) ls (.ref (Z 225) :: rest))) : W p l e R s m args below meth c H locs cells slots Q (F0 m pc ls (.ref (Z 219) :: rest)) := by
  obtain ⟨⟨hx, hb, hml, hown, hts⟩, hK, hE, hA⟩ := X
  have hG : ∀ w ∈ GW, w.before args s = true := fun w h => hts w (List.mem_cons_of_mem _ h)
  exact va_getN (D := D) (ci := 9) (v := .ref (Z 225)) (C := RX10) (T := TX10) (N := 10) hx hb hG gwl_X10 hown hK hS.1 19 (cw_lit rfl) rfl 6 (by decide) (va_Nw.use rfl (hE.1 _ nw_179)) (fun _ h9 => h9) rfl hd kk
theorem ca_s225 (X : CC p s m args c cc nL c0 own D kA V A) (hS : CS D kA Z A s u H locs) {i : Int32} {v : Int32} (hi : vp_in i 100) (hv : cA u 225 i.toNatClampNeg = v) (hd : decode cc pc = .ok (.iaload, 1)) (kk : W p l e R s m args below meth c H locs cells slots Q (F0 m (pc + 1) ls (.int v :: rest))) : W p l e R s m args below meth c H locs cells slots Q (F0 m pc ls (.int i :: .ref (Z 225) :: rest)) := by
  subst hv
  exact va_iald X.1.1 X.1.2.1 X.2.1 hS.1 25 0 (cw_lit rfl) rfl hi hd kk
theorem cg_X11_315 (X : CC p s m args c cc nL c0 RX11 D kA V A) (hS : CS D kA Z A s u H locs) (hd : decode cc pc = .ok (.getfield 315, 3)) (kk : W p l e R s m args below meth c H locs cells slots Q (F0 m (pc + 3) ls (.ref (Z 226) :: rest))) : W p l e R s m args below meth c H locs cells slots Q (F0 m pc ls (.ref (Z 219) :: rest)) := by
  obtain ⟨⟨hx, hb, hml, hown, hts⟩, hK, hE, hA⟩ := X
  have hG : ∀ w ∈ GW, w.before args s = true := fun w h => hts w (List.mem_cons_of_mem _ h)
  exact va_getN (D := D) (ci := 9) (v := .ref (Z 226)) (C := RX10) (T := TX10) (N := 10) hx hb hG gwl_X10 hown hK hS.1 19 (cw_lit rfl) rfl 7 (by decide) (va_Nw.use rfl (hE.1 _ nw_181)) (fun _ h9 => h9) rfl hd kk
theorem ca_s226 (X : CC p s m args c cc nL c0 own D kA V A) (hS : CS D kA Z A s u H locs) {i : Int32} {v : Int64} (hi : vp_in i 100) (hv : cB u 226 i.toNatClampNeg = v) (hd : decode cc pc = .ok (.laload, 1)) (kk : W p l e R s m args below meth c H locs cells slots Q (F0 m (pc + 1) ls (.long v :: rest))) : W p l e R s m args below meth c H locs cells slots Q (F0 m pc ls (.int i :: .ref (Z 226) :: rest)) := by
  subst hv
  exact va_lald X.1.1 X.1.2.1 X.2.1 hS.1 26 1 (cw_lit rfl) rfl hi hd kk
theorem cg_X11_52 (X : CC p s m args c cc nL c0 RX11 D kA V A) (hS : CS D kA Z A s u H locs) (hd : decode cc pc = .ok (.getfield 52, 3)) (kk : W p l e R s m args below meth c H locs cells slots Q (F0 m (pc + 3) ls (.ref (Z (300 + 50 * cR u 1)) :: rest))) : W p l e R s m args below meth c H locs cells slots Q (F0 m pc ls (.ref (Z 200) :: rest)) := by
  obtain ⟨⟨hx, hb, hml, hown, hts⟩, hK, hE, hA⟩ := X
  have hG : ∀ w ∈ GW, w.before args s = true := fun w h => hts w (List.mem_cons_of_mem _ h)
  exact va_get (D := D) (ci := 10) (v := .ref (Z (300 + 50 * cR u 1))) (C := RX11) (T := TX11) (N := 12) hx hb hG gwl_X11 hown hK hS.1 0 (cw_lit rfl) rfl 9 (by decide) (hG _ gw_574) (fun _ h9 => h9) rfl hd kk
theorem cp_X11_48 (X : CC p s m args c cc nL c0 RX11 D kA V A) (hS : CS D kA Z A s u H locs) {v : Nat} (hu : xR u 0 v = u1) (hd : decode cc pc = .ok (.putfield 48, 3)) (kk : ∀ H locs, CS D kA Z A s u1 H locs → W p l e R s m args below meth c H locs cells slots Q (F0 m (pc + 3) ls rest)) : W p l e R s m args below meth c H locs cells slots Q (F0 m pc ls (.ref (Z (300 + 50 * v)) :: .ref (Z 200) :: rest)) := by
  obtain ⟨⟨hx, hb, hml, hown, hts⟩, hK, hE, hA⟩ := X
  have hG : ∀ w ∈ GW, w.before args s = true := fun w h => hts w (List.mem_cons_of_mem _ h)
  subst hu
  refine va_put (D := D) (ci := 10) (v := .ref (Z (300 + 50 * v))) (ty := (.object "SoftController$Program")) (C := RX11) (T := TX11) (N := 12) hx hb hG gwl_X11 tyX11 tyX11_ok nmX11 hown hK hS.1 hS.2.1 hS.2.2 0 (cw_lit rfl) rfl 8 (by decide) (hG _ gw_573) (fun _ h9 => h9) rfl (by decide +kernel) rfl rfl (Nat.le_of_ble_eq_true rfl) hd (fun H1 locs1 hP hD hS1 => kk H1 locs1 ?_)
  have he := cw_setL (kA := kA) (Z := Z) (u := u) (w := xR u 0 v) (k := 0) (x := (Z 200, .inr (10, ([.ref (Z 201), .int (cI u 0), .ref (Z 202), .ref (Z 208), .ref (Z 227), .ref (Z 209), .ref (Z 234), .ref (Z 219), .ref (Z (300 + 50 * cR u 0)), .ref (Z (300 + 50 * cR u 1)), .int (cI u 1), .int (cI u 2)] : List Value).set 8 (.ref (Z (300 + 50 * v)))))) (by decide) rfl rfl rfl
  exact cs_put he hP hD hS1
theorem cp_X11_52 (X : CC p s m args c cc nL c0 RX11 D kA V A) (hS : CS D kA Z A s u H locs) {v : Nat} (hu : xR u 1 v = u1) (hd : decode cc pc = .ok (.putfield 52, 3)) (kk : ∀ H locs, CS D kA Z A s u1 H locs → W p l e R s m args below meth c H locs cells slots Q (F0 m (pc + 3) ls rest)) : W p l e R s m args below meth c H locs cells slots Q (F0 m pc ls (.ref (Z (300 + 50 * v)) :: .ref (Z 200) :: rest)) := by
  obtain ⟨⟨hx, hb, hml, hown, hts⟩, hK, hE, hA⟩ := X
  have hG : ∀ w ∈ GW, w.before args s = true := fun w h => hts w (List.mem_cons_of_mem _ h)
  subst hu
  refine va_put (D := D) (ci := 10) (v := .ref (Z (300 + 50 * v))) (ty := (.object "SoftController$Program")) (C := RX11) (T := TX11) (N := 12) hx hb hG gwl_X11 tyX11 tyX11_ok nmX11 hown hK hS.1 hS.2.1 hS.2.2 0 (cw_lit rfl) rfl 9 (by decide) (hG _ gw_574) (fun _ h9 => h9) rfl (by decide +kernel) rfl rfl (Nat.le_of_ble_eq_true rfl) hd (fun H1 locs1 hP hD hS1 => kk H1 locs1 ?_)
  have he := cw_setL (kA := kA) (Z := Z) (u := u) (w := xR u 1 v) (k := 0) (x := (Z 200, .inr (10, ([.ref (Z 201), .int (cI u 0), .ref (Z 202), .ref (Z 208), .ref (Z 227), .ref (Z 209), .ref (Z 234), .ref (Z 219), .ref (Z (300 + 50 * cR u 0)), .ref (Z (300 + 50 * cR u 1)), .int (cI u 1), .int (cI u 2)] : List Value).set 9 (.ref (Z (300 + 50 * v)))))) (by decide) rfl rfl rfl
  exact cs_put he hP hD hS1
end C40faceR
section C40face
variable {p : Program} {l : Launch} {e : Env} {R : Room} {s : State} {m : MethodId} {args : Array Value} {below : List Frame} {meth : Method} {c : Code} {H : Heap} {locs : List Loc} {Q : State → Prop} {cells slots : Nat}
variable {ls : Array Slot} {D : va_G} {kA : Nat → ClassId} {V Z : Nat → Nat} {A : Nat → Prop} {N d : Nat} {w : CSt}
def B_X11_append_3 (N : Nat) (R_3 : Int32 × Int32 × CSt → Option (Int32 × CSt)) (l1 : Int32) (l2 : Int32) (u : CSt) : Option (Int32 × CSt) := if l2 < (0 : Int32) then (some (0, u)) else (if (6000 : Int32) ≤ (cI u 0) then (some (0, u)) else (wc 6000 (cI u 0) (xA u 201 (cI u 0).toNatClampNeg (vp_nar .byte ((l1 >>> (l2 &&& 31)).toInt8.toInt32))) fun u_4 => pc (xI u_4 0 ((cI u_4 0) + 1)) fun u_5 => R_3 (l1, (l2 + (-8)), u_5)))
set_option maxHeartbeats 4000000 in
theorem b_X11_append_3 {r : Int32} (X : CC p s m args c cX11_append 3 (Cond.code yX11_append cX11_append 3 none) RX11 D kA V A) (hE : CEv p l e R s m args below meth c cX11_append D kA Z A Q w) (hF : 0 ≤ R.frames) (hL : 0 ≤ R.locals) {R_3 : Int32 × Int32 × CSt → Option (Int32 × CSt)} {l1 : Int32} {l2 : Int32} {u : CSt} (hR_3 : ∀ (l1 : Int32) (l2 : Int32) (u : CSt), R_3 (l1, l2, u) = some (r, w) → ∀ (H : Heap) (locs : List Loc) (ls : Array Slot), CS D kA Z A s u H locs → lv_has ls 3 [(0, .ref (Z 200)), (1, .int l1), (2, .int l2)] → W p l e R s m args below meth c H locs 0 0 Q (F0 m 3 ls [])) (h : B_X11_append_3 N R_3 l1 l2 u = some (r, w))  (hS : CS D kA Z A s u H locs) (hl : lv_has ls 3 [(0, .ref (Z 200)), (1, .int l1), (2, .int l2)]) : W p l e R s m args below meth c H locs 0 0 Q (F0 m 3 ls []) := by
  obtain ⟨⟨hx, hb, hml, hown, hts⟩, hK, hEV, hA⟩ := id X
  have hG : ∀ w ∈ GW, w.before args s = true := fun w h => hts w (List.mem_cons_of_mem _ h)
  unfold B_X11_append_3 at h
  refine lv_iload_n hx hb dX11_append_3 rfl (lv_at hl 2 rfl) ?_
  refine lv_if_lt (tgt := 46) hx hb dX11_append_4 (by decide) (fun c_1 => ?_) (fun c_1 => ?_)
  · have h := ip (c_1) h
    obtain ⟨-, rfl⟩ := so9 h
    exact hE _ _ _ _ hS dX11_append_46
  · have h := im (c_1) h
    refine lv_aload_n hx hb dX11_append_7 rfl (lv_at hl 0 rfl) ?_
    refine cg_X11_77 X hS dX11_append_8 ?_
    refine lv_sipush (v := 6000) hx hb dX11_append_11 (by decide) ?_
    refine lv_icmp_ge (tgt := 46) hx hb dX11_append_14 (by decide) (fun c_2 => ?_) (fun c_2 => ?_)
    · have h := ip (c_2) h
      obtain ⟨-, rfl⟩ := so9 h
      exact hE _ _ _ _ hS dX11_append_46
    · have h := im (c_2) h
      refine lv_aload_n hx hb dX11_append_17 rfl (lv_at hl 0 rfl) ?_
      refine cg_X11_9 X hS dX11_append_18 ?_
      refine lv_aload_n hx hb dX11_append_21 rfl (lv_at hl 0 rfl) ?_
      refine cg_X11_77 X hS dX11_append_22 ?_
      refine lv_iload_n hx hb dX11_append_25 rfl (lv_at hl 1 rfl) ?_
      refine lv_iload_n hx hb dX11_append_26 rfl (lv_at hl 2 rfl) ?_
      refine lv_ishr hx hb dX11_append_27 ?_
      refine lv_i2b (v := (l1 >>> (l2 &&& 31)).toInt8.toInt32) hx hb dX11_append_28 rfl ?_
      obtain ⟨u_4, e_u_4, i_3, h⟩ := wc_of h
      refine cs_s201 X hS i_3 e_u_4 dX11_append_29 (fun H locs hS => ?_)
      refine lv_aload_n hx hb dX11_append_30 rfl (lv_at hl 0 rfl) ?_
      refine lv_dup hx hb dX11_append_31 rfl ?_
      refine cg_X11_77 X hS dX11_append_32 ?_
      refine lv_iconst (v := 1) hx hb dX11_append_35 (by decide) ?_
      refine lv_iadd hx hb dX11_append_36 ?_
      obtain ⟨u_5, e_u_5, h⟩ := pc_of h
      refine cp_X11_77 X hS e_u_5 dX11_append_37 (fun H locs hS => ?_)
      refine lv_iinc (v := l2 + (-8)) (lv' := [(2, .int (l2 + (-8))), (0, .ref (Z 200)), (1, .int l1)]) hx hb dX11_append_40 hl (k := 2) rfl rfl (by decide) rfl (fun ls hl => ?_)
      refine lv_goto (tgt := 3) hx hb dX11_append_43 (by decide) ?_
      exact hR_3 _ _ _  h _ _ _ hS (lv_sub hl [1, 2, 0] rfl)
def LP_X11_append_3 (N : Nat) : Nat → Int32 × Int32 × CSt → Option (Int32 × CSt) := lp (fun R a => B_X11_append_3 N R a.1 a.2.1 a.2.2)
theorem bl_X11_append_3 {r : Int32} (X : CC p s m args c cX11_append 3 (Cond.code yX11_append cX11_append 3 none) RX11 D kA V A) (hE : CEv p l e R s m args below meth c cX11_append D kA Z A Q w) (hF : 0 ≤ R.frames) (hL : 0 ≤ R.locals)  : ∀ (n : Nat) (l1 : Int32) (l2 : Int32) (u : CSt), LP_X11_append_3 N n (l1, l2, u) = some (r, w) → ∀ (H : Heap) (locs : List Loc) (ls : Array Slot), CS D kA Z A s u H locs → lv_has ls 3 [(0, .ref (Z 200)), (1, .int l1), (2, .int l2)] → W p l e R s m args below meth c H locs 0 0 Q (F0 m 3 ls []) := by
  intro n
  induction n with
  | zero => intro l1 l2 u h; exact nomatch h
  | succ n ih => intro l1 l2 u h H locs ls hS hl; exact b_X11_append_3 (N := N) (R_3 := LP_X11_append_3 N n) X hE  hF hL  ih h  hS hl
def B_X11_append_0 (N : Nat) (l1 : Int32) (u : CSt) : Option (Int32 × CSt) := LP_X11_append_3 N N (l1, 24, u)
set_option maxHeartbeats 4000000 in
theorem b_X11_append_0 {r : Int32} (X : CC p s m args c cX11_append 3 (Cond.code yX11_append cX11_append 3 none) RX11 D kA V A) (hE : CEv p l e R s m args below meth c cX11_append D kA Z A Q w) (hF : 0 ≤ R.frames) (hL : 0 ≤ R.locals) {l1 : Int32} {u : CSt}  (h : B_X11_append_0 N l1 u = some (r, w))  (hS : CS D kA Z A s u H locs) (hl : lv_has ls 3 [(0, .ref (Z 200)), (1, .int l1)]) : W p l e R s m args below meth c H locs 0 0 Q (F0 m 0 ls []) := by
  obtain ⟨⟨hx, hb, hml, hown, hts⟩, hK, hEV, hA⟩ := id X
  have hG : ∀ w ∈ GW, w.before args s = true := fun w h => hts w (List.mem_cons_of_mem _ h)
  unfold B_X11_append_0 at h
  refine lv_bipush (v := 24) hx hb dX11_append_0 (by decide) ?_
  refine lv_istore_n (lv' := [(2, .int 24), (0, .ref (Z 200)), (1, .int l1)]) hx hb dX11_append_2 rfl hl (by decide) rfl (fun ls hl => ?_)
  exact bl_X11_append_3 X hE  hF hL  _ _ _ _  h _ _ _ hS (lv_sub hl [1, 2, 0] rfl)
def F_X11_append (N : Nat) (l1 : Int32) (u : CSt) : Option (Int32 × CSt) := B_X11_append_0 N l1 u
set_option maxHeartbeats 4000000 in
theorem k_X11_append (l : Launch) (D : va_G) (kA : Nat → ClassId) (V Z : Nat → Nat) (N : Nat) (l1 : Int32) (u : CSt) (sz : Nat) {r : Int32} {w : CSt} (h : F_X11_append N l1 u = some (r, w)) : Met l yX11_append (Cond.code yX11_append cX11_append 3 none :: GW) { frames := 0, cells := 0, slots := 0, locals := 0 } (cPc D kA V Z [.ref (Z 200), .int l1] u sz) (cQv D kA Z u sz w) 0 0 (va_A (CW kA Z u) sz) := by
  refine Met.ofW (cc := cX11_append) (maxL := 3) (ret := none) (by decide) rfl ?_
  intro p e s m args below meth c s₁ Bd hml hv
  obtain ⟨rfl, hsz, hP, hK, hD0, hE⟩ := hv
  have hts := atoms_spec (ws := Cond.code yX11_append cX11_append 3 none :: GW) Bd.pre
  have hl := lv_entry ([.ref (Z 200), .int l1]) (n := 3) (Nat.le_of_ble_eq_true rfl)
  rw [lg_entry_eq]
  generalize (lg_sl ([.ref (Z 200), .int l1]) ++ List.replicate (3 - (lg_sl ([.ref (Z 200), .int l1])).length) Slot.unset).toArray = ls at hl ⊢
  have hl : lv_has ls 3 [(0, .ref (Z 200)), (1, .int l1)] := hl
  subst hsz
  have X : CC p s m ([.ref (Z 200), .int l1]).toArray c cX11_append 3 (Cond.code yX11_append cX11_append 3 none) RX11 D kA V (va_A (CW kA Z u) s.heap.size) := ⟨⟨Bd.exec, Bd.bytes, hml, findClass_of_methodNamed Bd.named, hts⟩, hK, hE, fun q h => Or.inr h⟩
  refine b_X11_append_0 X (cend_v X Bd.returns Bd.notSynchronized) (Nat.le_refl _) (Nat.le_refl _) h  ⟨hP, hD0.self, va_S.rf⟩ (lv_sub hl [0, 1] rfl)
theorem kc_X11_append_RX11 {cc : ByteArray} {pc nL : Nat} {c0 : Cond} {rest : List Value} {l1 : Int32} {u w1 : CSt} {r : Int32} (X : CC p s m args c cc nL c0 RX11 D kA V A)  (hS : CS D kA Z A s u H locs) (h : F_X11_append N l1 u = some (r, w1)) (hF : 0 + 1 ≤ R.frames) (hL : 8 + (3 + 11) + 0 ≤ R.locals) (hl : ls.size = nL) (hc : (rest.map fun v => v.category).sum ≤ 8) (hdg : decode cc pc = .ok (.invokevirtual 80, 3)) (kk : ∀ H locs, CS D kA Z A s w1 H locs → W p l e R s m args below meth c H locs 0 0 Q (F0 m (pc + 3) ls (rest))) : W p l e R s m args below meth c H locs 0 0 Q (F0 m pc ls (.int l1 :: .ref (Z 200) :: rest)) :=
  ccall_v (n := 1) X hS (k_X11_append l D kA V Z N l1  u H.size h) (gw_V gw_606 gw_608 gs_1_0 gw_1 gw_609) (by decide +kernel) (va_recv X.2.1 hS.1 (ci := 10) (q0 := 0) rfl (cw_lit rfl)) hF hL rfl hl hc rfl hdg kk
def B_X11_feed_0 (N : Nat) (l1 : Int32) (l2 : Int32) (l3 : Int32) (l4 : Int32) (l5 : Int32) (u : CSt) : Option (Int32 × CSt) := if ((cI u 0) + 20) ≤ (6000 : Int32) then (bc (F_X11_append N l1 u) fun _ u_2 => bc (F_X11_append N l2 u_2) fun _ u_3 => bc (F_X11_append N l3 u_3) fun _ u_4 => bc (F_X11_append N l4 u_4) fun _ u_5 => bc (F_X11_append N l5 u_5) fun _ u_6 => some (1, u_6)) else (some (0, u))
set_option maxHeartbeats 4000000 in
theorem b_X11_feed_0 {r : Int32} (X : CC p s m args c cX11_feed 6 (Cond.code yX11_feed cX11_feed 6 (some .boolean)) RX11 D kA V A) (hE : CEz p l e R s m args below meth c cX11_feed D kA Z A Q r w) (hF : 1 ≤ R.frames) (hL : 22 ≤ R.locals) {l1 : Int32} {l2 : Int32} {l3 : Int32} {l4 : Int32} {l5 : Int32} {u : CSt}  (h : B_X11_feed_0 N l1 l2 l3 l4 l5 u = some (r, w))  (hS : CS D kA Z A s u H locs) (hl : lv_has ls 6 [(0, .ref (Z 200)), (1, .int l1), (2, .int l2), (3, .int l3), (4, .int l4), (5, .int l5)]) : W p l e R s m args below meth c H locs 0 0 Q (F0 m 0 ls []) := by
  obtain ⟨⟨hx, hb, hml, hown, hts⟩, hK, hEV, hA⟩ := id X
  have hG : ∀ w ∈ GW, w.before args s = true := fun w h => hts w (List.mem_cons_of_mem _ h)
  unfold B_X11_feed_0 at h
  refine lv_aload_n hx hb dX11_feed_0 rfl (lv_at hl 0 rfl) ?_
  refine cg_X11_77 X hS dX11_feed_1 ?_
  refine lv_bipush (v := 20) hx hb dX11_feed_4 (by decide) ?_
  refine lv_iadd hx hb dX11_feed_6 ?_
  refine lv_sipush (v := 6000) hx hb dX11_feed_7 (by decide) ?_
  refine lv_icmp_le (tgt := 15) hx hb dX11_feed_10 (by decide) (fun c_1 => ?_) (fun c_1 => ?_)
  · have h := ip (c_1) h
    refine lv_aload_n hx hb dX11_feed_15 rfl (lv_at hl 0 rfl) ?_
    refine lv_iload_n hx hb dX11_feed_16 rfl (lv_at hl 1 rfl) ?_
    obtain ⟨r_u_2, u_2, h_u_2, h⟩ := bc_of h
    refine kc_X11_append_RX11 X  hS h_u_2 (Nat.le_trans (Nat.le_of_ble_eq_true rfl) hF) (Nat.le_trans (Nat.le_of_ble_eq_true rfl) hL) hl.1 (Nat.le_of_ble_eq_true rfl) dX11_feed_17 (fun H locs hS => ?_)
    refine lv_aload_n hx hb dX11_feed_20 rfl (lv_at hl 0 rfl) ?_
    refine lv_iload_n hx hb dX11_feed_21 rfl (lv_at hl 2 rfl) ?_
    obtain ⟨r_u_3, u_3, h_u_3, h⟩ := bc_of h
    refine kc_X11_append_RX11 X  hS h_u_3 (Nat.le_trans (Nat.le_of_ble_eq_true rfl) hF) (Nat.le_trans (Nat.le_of_ble_eq_true rfl) hL) hl.1 (Nat.le_of_ble_eq_true rfl) dX11_feed_22 (fun H locs hS => ?_)
    refine lv_aload_n hx hb dX11_feed_25 rfl (lv_at hl 0 rfl) ?_
    refine lv_iload_n hx hb dX11_feed_26 rfl (lv_at hl 3 rfl) ?_
    obtain ⟨r_u_4, u_4, h_u_4, h⟩ := bc_of h
    refine kc_X11_append_RX11 X  hS h_u_4 (Nat.le_trans (Nat.le_of_ble_eq_true rfl) hF) (Nat.le_trans (Nat.le_of_ble_eq_true rfl) hL) hl.1 (Nat.le_of_ble_eq_true rfl) dX11_feed_27 (fun H locs hS => ?_)
    refine lv_aload_n hx hb dX11_feed_30 rfl (lv_at hl 0 rfl) ?_
    refine lv_iload hx hb dX11_feed_31 (lv_at hl 4 rfl) ?_
    obtain ⟨r_u_5, u_5, h_u_5, h⟩ := bc_of h
    refine kc_X11_append_RX11 X  hS h_u_5 (Nat.le_trans (Nat.le_of_ble_eq_true rfl) hF) (Nat.le_trans (Nat.le_of_ble_eq_true rfl) hL) hl.1 (Nat.le_of_ble_eq_true rfl) dX11_feed_33 (fun H locs hS => ?_)
    refine lv_aload_n hx hb dX11_feed_36 rfl (lv_at hl 0 rfl) ?_
    refine lv_iload hx hb dX11_feed_37 (lv_at hl 5 rfl) ?_
    obtain ⟨r_u_6, u_6, h_u_6, h⟩ := bc_of h
    refine kc_X11_append_RX11 X  hS h_u_6 (Nat.le_trans (Nat.le_of_ble_eq_true rfl) hF) (Nat.le_trans (Nat.le_of_ble_eq_true rfl) hL) hl.1 (Nat.le_of_ble_eq_true rfl) dX11_feed_39 (fun H locs hS => ?_)
    refine lv_iconst (v := 1) hx hb dX11_feed_42 (by decide) ?_
    obtain ⟨rfl, rfl⟩ := so9 h
    exact hE _ _ _ _ hS (Or.inr rfl) dX11_feed_43
  · have h := im (c_1) h
    refine lv_iconst (v := 0) hx hb dX11_feed_13 (by decide) ?_
    obtain ⟨rfl, rfl⟩ := so9 h
    exact hE _ _ _ _ hS (Or.inl rfl) dX11_feed_14
def F_X11_feed (N : Nat) (l1 : Int32) (l2 : Int32) (l3 : Int32) (l4 : Int32) (l5 : Int32) (u : CSt) : Option (Int32 × CSt) := B_X11_feed_0 N l1 l2 l3 l4 l5 u
set_option maxHeartbeats 4000000 in
theorem k_X11_feed (l : Launch) (D : va_G) (kA : Nat → ClassId) (V Z : Nat → Nat) (N : Nat) (l1 : Int32) (l2 : Int32) (l3 : Int32) (l4 : Int32) (l5 : Int32) (u : CSt) (sz : Nat) {r : Int32} {w : CSt} (h : F_X11_feed N l1 l2 l3 l4 l5 u = some (r, w)) : Met l yX11_feed (Cond.code yX11_feed cX11_feed 6 (some .boolean) :: GW) { frames := 1, cells := 0, slots := 0, locals := 22 } (cPc D kA V Z [.ref (Z 200), .int l1, .int l2, .int l3, .int l4, .int l5] u sz) (cQi D kA Z u sz r w) 0 0 (va_A (CW kA Z u) sz) := by
  refine Met.ofW (cc := cX11_feed) (maxL := 6) (ret := (some .boolean)) (by decide) rfl ?_
  intro p e s m args below meth c s₁ Bd hml hv
  obtain ⟨rfl, hsz, hP, hK, hD0, hE⟩ := hv
  have hts := atoms_spec (ws := Cond.code yX11_feed cX11_feed 6 (some .boolean) :: GW) Bd.pre
  have hl := lv_entry ([.ref (Z 200), .int l1, .int l2, .int l3, .int l4, .int l5]) (n := 6) (Nat.le_of_ble_eq_true rfl)
  rw [lg_entry_eq]
  generalize (lg_sl ([.ref (Z 200), .int l1, .int l2, .int l3, .int l4, .int l5]) ++ List.replicate (6 - (lg_sl ([.ref (Z 200), .int l1, .int l2, .int l3, .int l4, .int l5])).length) Slot.unset).toArray = ls at hl ⊢
  have hl : lv_has ls 6 [(0, .ref (Z 200)), (1, .int l1), (2, .int l2), (3, .int l3), (4, .int l4), (5, .int l5)] := hl
  subst hsz
  have X : CC p s m ([.ref (Z 200), .int l1, .int l2, .int l3, .int l4, .int l5]).toArray c cX11_feed 6 (Cond.code yX11_feed cX11_feed 6 (some .boolean)) RX11 D kA V (va_A (CW kA Z u) s.heap.size) := ⟨⟨Bd.exec, Bd.bytes, hml, findClass_of_methodNamed Bd.named, hts⟩, hK, hE, fun q h => Or.inr h⟩
  refine b_X11_feed_0 X (cend_z X Bd.returns Bd.notSynchronized) (Nat.le_refl _) (Nat.le_refl _) h  ⟨hP, hD0.self, va_S.rf⟩ (lv_sub hl [0, 1, 2, 3, 4, 5] rfl)
def B_X11_end_0 (N : Nat) (l1 : Int32) (u : CSt) : Option (Int32 × CSt) := if l1 < (0 : Int32) then (some (0, u)) else (if l1 ≤ (cI u 0) then (pc (xI u 0 l1) fun u_3 => some (1, u_3)) else (some (0, u)))
set_option maxHeartbeats 4000000 in
theorem b_X11_end_0 {r : Int32} (X : CC p s m args c cX11_end 2 (Cond.code yX11_end cX11_end 2 (some .boolean)) RX11 D kA V A) (hE : CEz p l e R s m args below meth c cX11_end D kA Z A Q r w) (hF : 0 ≤ R.frames) (hL : 0 ≤ R.locals) {l1 : Int32} {u : CSt}  (h : B_X11_end_0 N l1 u = some (r, w))  (hS : CS D kA Z A s u H locs) (hl : lv_has ls 2 [(0, .ref (Z 200)), (1, .int l1)]) : W p l e R s m args below meth c H locs 0 0 Q (F0 m 0 ls []) := by
  obtain ⟨⟨hx, hb, hml, hown, hts⟩, hK, hEV, hA⟩ := id X
  have hG : ∀ w ∈ GW, w.before args s = true := fun w h => hts w (List.mem_cons_of_mem _ h)
  unfold B_X11_end_0 at h
  refine lv_iload_n hx hb dX11_end_0 rfl (lv_at hl 1 rfl) ?_
  refine lv_if_lt (tgt := 12) hx hb dX11_end_1 (by decide) (fun c_1 => ?_) (fun c_1 => ?_)
  · have h := ip (c_1) h
    refine lv_iconst (v := 0) hx hb dX11_end_12 (by decide) ?_
    obtain ⟨rfl, rfl⟩ := so9 h
    exact hE _ _ _ _ hS (Or.inl rfl) dX11_end_13
  · have h := im (c_1) h
    refine lv_iload_n hx hb dX11_end_4 rfl (lv_at hl 1 rfl) ?_
    refine lv_aload_n hx hb dX11_end_5 rfl (lv_at hl 0 rfl) ?_
    refine cg_X11_77 X hS dX11_end_6 ?_
    refine lv_icmp_le (tgt := 14) hx hb dX11_end_9 (by decide) (fun c_2 => ?_) (fun c_2 => ?_)
    · have h := ip (c_2) h
      refine lv_aload_n hx hb dX11_end_14 rfl (lv_at hl 0 rfl) ?_
      refine lv_iload_n hx hb dX11_end_15 rfl (lv_at hl 1 rfl) ?_
      obtain ⟨u_3, e_u_3, h⟩ := pc_of h
      refine cp_X11_77 X hS e_u_3 dX11_end_16 (fun H locs hS => ?_)
      refine lv_iconst (v := 1) hx hb dX11_end_19 (by decide) ?_
      obtain ⟨rfl, rfl⟩ := so9 h
      exact hE _ _ _ _ hS (Or.inr rfl) dX11_end_20
    · have h := im (c_2) h
      refine lv_iconst (v := 0) hx hb dX11_end_12 (by decide) ?_
      obtain ⟨rfl, rfl⟩ := so9 h
      exact hE _ _ _ _ hS (Or.inl rfl) dX11_end_13
def F_X11_end (N : Nat) (l1 : Int32) (u : CSt) : Option (Int32 × CSt) := B_X11_end_0 N l1 u
set_option maxHeartbeats 4000000 in
theorem k_X11_end (l : Launch) (D : va_G) (kA : Nat → ClassId) (V Z : Nat → Nat) (N : Nat) (l1 : Int32) (u : CSt) (sz : Nat) {r : Int32} {w : CSt} (h : F_X11_end N l1 u = some (r, w)) : Met l yX11_end (Cond.code yX11_end cX11_end 2 (some .boolean) :: GW) { frames := 0, cells := 0, slots := 0, locals := 0 } (cPc D kA V Z [.ref (Z 200), .int l1] u sz) (cQi D kA Z u sz r w) 0 0 (va_A (CW kA Z u) sz) := by
  refine Met.ofW (cc := cX11_end) (maxL := 2) (ret := (some .boolean)) (by decide) rfl ?_
  intro p e s m args below meth c s₁ Bd hml hv
  obtain ⟨rfl, hsz, hP, hK, hD0, hE⟩ := hv
  have hts := atoms_spec (ws := Cond.code yX11_end cX11_end 2 (some .boolean) :: GW) Bd.pre
  have hl := lv_entry ([.ref (Z 200), .int l1]) (n := 2) (Nat.le_of_ble_eq_true rfl)
  rw [lg_entry_eq]
  generalize (lg_sl ([.ref (Z 200), .int l1]) ++ List.replicate (2 - (lg_sl ([.ref (Z 200), .int l1])).length) Slot.unset).toArray = ls at hl ⊢
  have hl : lv_has ls 2 [(0, .ref (Z 200)), (1, .int l1)] := hl
  subst hsz
  have X : CC p s m ([.ref (Z 200), .int l1]).toArray c cX11_end 2 (Cond.code yX11_end cX11_end 2 (some .boolean)) RX11 D kA V (va_A (CW kA Z u) s.heap.size) := ⟨⟨Bd.exec, Bd.bytes, hml, findClass_of_methodNamed Bd.named, hts⟩, hK, hE, fun q h => Or.inr h⟩
  refine b_X11_end_0 X (cend_z X Bd.returns Bd.notSynchronized) (Nat.le_refl _) (Nat.le_refl _) h  ⟨hP, hD0.self, va_S.rf⟩ (lv_sub hl [0, 1] rfl)
def B_X11_place_0 (N : Nat) (u : CSt) : Option (Int32 × CSt) := some (cI u 7, u)
set_option maxHeartbeats 4000000 in
theorem b_X11_place_0 {r : Int32} (X : CC p s m args c cX11_place 1 (Cond.code yX11_place cX11_place 1 (some .int)) RX11 D kA V A) (hE : CEi p l e R s m args below meth c cX11_place D kA Z A Q r w) (hF : 0 ≤ R.frames) (hL : 0 ≤ R.locals) {u : CSt}  (h : B_X11_place_0 N u = some (r, w))  (hS : CS D kA Z A s u H locs) (hl : lv_has ls 1 [(0, .ref (Z 200))]) : W p l e R s m args below meth c H locs 0 0 Q (F0 m 0 ls []) := by
  obtain ⟨⟨hx, hb, hml, hown, hts⟩, hK, hEV, hA⟩ := id X
  have hG : ∀ w ∈ GW, w.before args s = true := fun w h => hts w (List.mem_cons_of_mem _ h)
  unfold B_X11_place_0 at h
  refine lv_aload_n hx hb dX11_place_0 rfl (lv_at hl 0 rfl) ?_
  refine cg_X11_18 X hS dX11_place_1 ?_
  refine cg_X11_103 X hS dX11_place_4 ?_
  obtain ⟨rfl, rfl⟩ := so9 h
  exact hE _ _ _ _ hS dX11_place_7
def F_X11_place (N : Nat) (u : CSt) : Option (Int32 × CSt) := B_X11_place_0 N u
set_option maxHeartbeats 4000000 in
theorem k_X11_place (l : Launch) (D : va_G) (kA : Nat → ClassId) (V Z : Nat → Nat) (N : Nat) (u : CSt) (sz : Nat) {r : Int32} {w : CSt} (h : F_X11_place N u = some (r, w)) : Met l yX11_place (Cond.code yX11_place cX11_place 1 (some .int) :: GW) { frames := 0, cells := 0, slots := 0, locals := 0 } (cPc D kA V Z [.ref (Z 200)] u sz) (cQi D kA Z u sz r w) 0 0 (va_A (CW kA Z u) sz) := by
  refine Met.ofW (cc := cX11_place) (maxL := 1) (ret := (some .int)) (by decide) rfl ?_
  intro p e s m args below meth c s₁ Bd hml hv
  obtain ⟨rfl, hsz, hP, hK, hD0, hE⟩ := hv
  have hts := atoms_spec (ws := Cond.code yX11_place cX11_place 1 (some .int) :: GW) Bd.pre
  have hl := lv_entry ([.ref (Z 200)]) (n := 1) (Nat.le_of_ble_eq_true rfl)
  rw [lg_entry_eq]
  generalize (lg_sl ([.ref (Z 200)]) ++ List.replicate (1 - (lg_sl ([.ref (Z 200)])).length) Slot.unset).toArray = ls at hl ⊢
  have hl : lv_has ls 1 [(0, .ref (Z 200))] := hl
  subst hsz
  have X : CC p s m ([.ref (Z 200)]).toArray c cX11_place 1 (Cond.code yX11_place cX11_place 1 (some .int)) RX11 D kA V (va_A (CW kA Z u) s.heap.size) := ⟨⟨Bd.exec, Bd.bytes, hml, findClass_of_methodNamed Bd.named, hts⟩, hK, hE, fun q h => Or.inr h⟩
  refine b_X11_place_0 X (cend_i X Bd.returns Bd.notSynchronized) (Nat.le_refl _) (Nat.le_refl _) h  ⟨hP, hD0.self, va_S.rf⟩ (lv_sub hl [0] rfl)
def B_X11_hasPlace_0 (N : Nat) (l1 : Int32) (l2 : Int32) (u : CSt) : Option (Int32 × CSt) := ok (cR u 0 < 2) inferInstance <| bc (F_X6_has N (cR u 0) 0 l1 u) fun r_3 u_2 => if r_3 = (0 : Int32) then (some (0, u_2)) else (if l2 < (0 : Int32) then (some (0, u_2)) else (ok (cR u_2 0 < 2) inferInstance <| bc (F_X6_nth N (cR u_2 0) 0 l1 u_2) fun r_8 u_7 => ok (r_8 < 338) inferInstance <| if (mI u_7 r_8 7) ≤ l2 then (some (0, u_7)) else (some (1, u_7))))
set_option maxHeartbeats 4000000 in
theorem b_X11_hasPlace_0 {r : Int32} (X : CC p s m args c cX11_hasPlace 3 (Cond.code yX11_hasPlace cX11_hasPlace 3 (some .boolean)) RX11 D kA V A) (hE : CEz p l e R s m args below meth c cX11_hasPlace D kA Z A Q r w) (hF : 2 ≤ R.frames) (hL : 44 ≤ R.locals) {l1 : Int32} {l2 : Int32} {u : CSt}  (h : B_X11_hasPlace_0 N l1 l2 u = some (r, w))  (hS : CS D kA Z A s u H locs) (hl : lv_has ls 3 [(0, .ref (Z 200)), (1, .int l1), (2, .int l2)]) : W p l e R s m args below meth c H locs 0 0 Q (F0 m 0 ls []) := by
  obtain ⟨⟨hx, hb, hml, hown, hts⟩, hK, hEV, hA⟩ := id X
  have hG : ∀ w ∈ GW, w.before args s = true := fun w h => hts w (List.mem_cons_of_mem _ h)
  unfold B_X11_hasPlace_0 at h
  refine lv_aload_n hx hb dX11_hasPlace_0 rfl (lv_at hl 0 rfl) ?_
  refine cg_X11_48 X hS dX11_hasPlace_1 ?_
  obtain ⟨z_1, h⟩ := ok_of h
  refine lv_iconst (v := 0) hx hb dX11_hasPlace_4 (by decide) ?_
  refine lv_iload_n hx hb dX11_hasPlace_5 rfl (lv_at hl 1 rfl) ?_
  obtain ⟨r_3, u_2, h_u_2, h⟩ := bc_of h
  refine kc_X6_has_RX11 X z_1 hS h_u_2 (Nat.le_trans (Nat.le_of_ble_eq_true rfl) hF) (Nat.le_trans (Nat.le_of_ble_eq_true rfl) hL) hl.1 (Nat.le_of_ble_eq_true rfl) dX11_hasPlace_6 (fun H locs hS => ?_)
  refine lv_if_eq (tgt := 36) hx hb dX11_hasPlace_9 (by decide) (fun c_4 => ?_) (fun c_4 => ?_)
  · have h := ip (c_4) h
    refine lv_iconst (v := 0) hx hb dX11_hasPlace_36 (by decide) ?_
    obtain ⟨rfl, rfl⟩ := so9 h
    exact hE _ _ _ _ hS (Or.inl rfl) dX11_hasPlace_37
  · have h := im (c_4) h
    refine lv_iload_n hx hb dX11_hasPlace_12 rfl (lv_at hl 2 rfl) ?_
    refine lv_if_lt (tgt := 36) hx hb dX11_hasPlace_13 (by decide) (fun c_5 => ?_) (fun c_5 => ?_)
    · have h := ip (c_5) h
      refine lv_iconst (v := 0) hx hb dX11_hasPlace_36 (by decide) ?_
      obtain ⟨rfl, rfl⟩ := so9 h
      exact hE _ _ _ _ hS (Or.inl rfl) dX11_hasPlace_37
    · have h := im (c_5) h
      refine lv_iload_n hx hb dX11_hasPlace_16 rfl (lv_at hl 2 rfl) ?_
      refine lv_aload_n hx hb dX11_hasPlace_17 rfl (lv_at hl 0 rfl) ?_
      refine cg_X11_48 X hS dX11_hasPlace_18 ?_
      obtain ⟨z_6, h⟩ := ok_of h
      refine lv_iconst (v := 0) hx hb dX11_hasPlace_21 (by decide) ?_
      refine lv_iload_n hx hb dX11_hasPlace_22 rfl (lv_at hl 1 rfl) ?_
      obtain ⟨r_8, u_7, h_u_7, h⟩ := bc_of h
      refine kc_X6_nth_RX11 X z_6 hS h_u_7 (Nat.le_trans (Nat.le_of_ble_eq_true rfl) hF) (Nat.le_trans (Nat.le_of_ble_eq_true rfl) hL) hl.1 (Nat.le_of_ble_eq_true rfl) dX11_hasPlace_23 (fun H locs hS => ?_)
      obtain ⟨z_9, h⟩ := ok_of h
      refine cg_X11_133 X z_9 hS dX11_hasPlace_26 ?_
      refine lv_icmp_ge (tgt := 36) hx hb dX11_hasPlace_29 (by decide) (fun c_10 => ?_) (fun c_10 => ?_)
      · have h := ip (c_10) h
        refine lv_iconst (v := 0) hx hb dX11_hasPlace_36 (by decide) ?_
        obtain ⟨rfl, rfl⟩ := so9 h
        exact hE _ _ _ _ hS (Or.inl rfl) dX11_hasPlace_37
      · have h := im (c_10) h
        refine lv_iconst (v := 1) hx hb dX11_hasPlace_32 (by decide) ?_
        refine lv_goto (tgt := 37) hx hb dX11_hasPlace_33 (by decide) ?_
        obtain ⟨rfl, rfl⟩ := so9 h
        exact hE _ _ _ _ hS (Or.inr rfl) dX11_hasPlace_37
def F_X11_hasPlace (N : Nat) (l1 : Int32) (l2 : Int32) (u : CSt) : Option (Int32 × CSt) := B_X11_hasPlace_0 N l1 l2 u
set_option maxHeartbeats 4000000 in
theorem k_X11_hasPlace (l : Launch) (D : va_G) (kA : Nat → ClassId) (V Z : Nat → Nat) (N : Nat) (l1 : Int32) (l2 : Int32) (u : CSt) (sz : Nat) {r : Int32} {w : CSt} (h : F_X11_hasPlace N l1 l2 u = some (r, w)) : Met l yX11_hasPlace (Cond.code yX11_hasPlace cX11_hasPlace 3 (some .boolean) :: GW) { frames := 2, cells := 0, slots := 0, locals := 44 } (cPc D kA V Z [.ref (Z 200), .int l1, .int l2] u sz) (cQi D kA Z u sz r w) 0 0 (va_A (CW kA Z u) sz) := by
  refine Met.ofW (cc := cX11_hasPlace) (maxL := 3) (ret := (some .boolean)) (by decide) rfl ?_
  intro p e s m args below meth c s₁ Bd hml hv
  obtain ⟨rfl, hsz, hP, hK, hD0, hE⟩ := hv
  have hts := atoms_spec (ws := Cond.code yX11_hasPlace cX11_hasPlace 3 (some .boolean) :: GW) Bd.pre
  have hl := lv_entry ([.ref (Z 200), .int l1, .int l2]) (n := 3) (Nat.le_of_ble_eq_true rfl)
  rw [lg_entry_eq]
  generalize (lg_sl ([.ref (Z 200), .int l1, .int l2]) ++ List.replicate (3 - (lg_sl ([.ref (Z 200), .int l1, .int l2])).length) Slot.unset).toArray = ls at hl ⊢
  have hl : lv_has ls 3 [(0, .ref (Z 200)), (1, .int l1), (2, .int l2)] := hl
  subst hsz
  have X : CC p s m ([.ref (Z 200), .int l1, .int l2]).toArray c cX11_hasPlace 3 (Cond.code yX11_hasPlace cX11_hasPlace 3 (some .boolean)) RX11 D kA V (va_A (CW kA Z u) s.heap.size) := ⟨⟨Bd.exec, Bd.bytes, hml, findClass_of_methodNamed Bd.named, hts⟩, hK, hE, fun q h => Or.inr h⟩
  refine b_X11_hasPlace_0 X (cend_z X Bd.returns Bd.notSynchronized) (Nat.le_refl _) (Nat.le_refl _) h  ⟨hP, hD0.self, va_S.rf⟩ (lv_sub hl [0, 1, 2] rfl)
theorem kc_X11_hasPlace_RX11 {cc : ByteArray} {pc nL : Nat} {c0 : Cond} {rest : List Value} {l1 : Int32} {l2 : Int32} {u w1 : CSt} {r : Int32} (X : CC p s m args c cc nL c0 RX11 D kA V A)  (hS : CS D kA Z A s u H locs) (h : F_X11_hasPlace N l1 l2 u = some (r, w1)) (hF : 2 + 1 ≤ R.frames) (hL : 8 + (3 + 11) + 44 ≤ R.locals) (hl : ls.size = nL) (hc : (rest.map fun v => v.category).sum ≤ 8) (hdg : decode cc pc = .ok (.invokevirtual 207, 3)) (kk : ∀ H locs, CS D kA Z A s w1 H locs → W p l e R s m args below meth c H locs 0 0 Q (F0 m (pc + 3) ls (.int r :: rest))) : W p l e R s m args below meth c H locs 0 0 Q (F0 m pc ls (.int l2 :: .int l1 :: .ref (Z 200) :: rest)) :=
  ccall_i (n := 2) X hS (k_X11_hasPlace l D kA V Z N l1 l2  u H.size h) (gw_V gw_1715 gw_1717 gs_7_6 gw_1 gw_1718) (by decide +kernel) (va_recv X.2.1 hS.1 (ci := 10) (q0 := 0) rfl (cw_lit rfl)) hF hL rfl hl hc rfl hdg kk
def B_X11_runTick_89 (N : Nat) (R_11 : Int32 × Int32 × CSt → Option (Int32 × CSt)) (l1 : Int32) (l2 : Int32) (u : CSt) : Option (Int32 × CSt) := R_11 (l1, (l2 + 1), u)
set_option maxHeartbeats 4000000 in
theorem b_X11_runTick_89 {r : Int32} (X : CC p s m args c cX11_runTick 4 (Cond.code yX11_runTick cX11_runTick 4 (some .int)) RX11 D kA V A) (hE : CEi p l e R s m args below meth c cX11_runTick D kA Z A Q r w) (hF : 6 ≤ R.frames) (hL : 150 ≤ R.locals) {R_11 : Int32 × Int32 × CSt → Option (Int32 × CSt)} {l1 : Int32} {l2 : Int32} {u : CSt} (hR_11 : ∀ (l1 : Int32) (l2 : Int32) (u : CSt), R_11 (l1, l2, u) = some (r, w) → ∀ (H : Heap) (locs : List Loc) (ls : Array Slot), CS D kA Z A s u H locs → lv_has ls 4 [(0, .ref (Z 200)), (1, .int l1), (2, .int l2)] → W p l e R s m args below meth c H locs 0 0 Q (F0 m 11 ls [])) (h : B_X11_runTick_89 N R_11 l1 l2 u = some (r, w))  (hS : CS D kA Z A s u H locs) (hl : lv_has ls 4 [(0, .ref (Z 200)), (1, .int l1), (2, .int l2)]) : W p l e R s m args below meth c H locs 0 0 Q (F0 m 89 ls []) := by
  obtain ⟨⟨hx, hb, hml, hown, hts⟩, hK, hEV, hA⟩ := id X
  have hG : ∀ w ∈ GW, w.before args s = true := fun w h => hts w (List.mem_cons_of_mem _ h)
  unfold B_X11_runTick_89 at h
  refine lv_iinc (v := l2 + 1) (lv' := [(2, .int (l2 + 1)), (0, .ref (Z 200)), (1, .int l1)]) hx hb dX11_runTick_89 hl (k := 2) rfl rfl (by decide) rfl (fun ls hl => ?_)
  refine lv_goto (tgt := 11) hx hb dX11_runTick_92 (by decide) ?_
  exact hR_11 _ _ _  h _ _ _ hS (lv_sub hl [1, 2, 0] rfl)
def B_X11_runTick_104 (N : Nat) (R_104 : Int32 × Int32 × CSt → Option (Int32 × CSt)) (l1 : Int32) (l2 : Int32) (u : CSt) : Option (Int32 × CSt) := if (cI u 9) ≤ l2 then (pc (xI u 1 ((cI u 1) + 1)) fun u_2 => some (l1, u_2)) else (ok (cR u 0 < 2) inferInstance <| rd (cA u 220) 16 l2 fun v_5 => bc (F_X6_nth N (cR u 0) 0 v_5 u) fun r_7 u_6 => ok (r_7 < 338) inferInstance <| rd (cA u_6 221) 16 l2 fun v_10 => bc (F_X2_numberOf N r_7 v_10 u_6) fun r_12 u_11 => bc (F_X10_see N l2 (cI u_6 1) r_12 u_11) fun _ u_13 => R_104 (l1, (l2 + 1), u_13))
set_option maxHeartbeats 4000000 in
theorem b_X11_runTick_104 {r : Int32} (X : CC p s m args c cX11_runTick 4 (Cond.code yX11_runTick cX11_runTick 4 (some .int)) RX11 D kA V A) (hE : CEi p l e R s m args below meth c cX11_runTick D kA Z A Q r w) (hF : 6 ≤ R.frames) (hL : 150 ≤ R.locals) {R_104 : Int32 × Int32 × CSt → Option (Int32 × CSt)} {l1 : Int32} {l2 : Int32} {u : CSt} (hR_104 : ∀ (l1 : Int32) (l2 : Int32) (u : CSt), R_104 (l1, l2, u) = some (r, w) → ∀ (H : Heap) (locs : List Loc) (ls : Array Slot), CS D kA Z A s u H locs → lv_has ls 4 [(0, .ref (Z 200)), (1, .int l1), (2, .int l2)] → W p l e R s m args below meth c H locs 0 0 Q (F0 m 104 ls [])) (h : B_X11_runTick_104 N R_104 l1 l2 u = some (r, w))  (hS : CS D kA Z A s u H locs) (hl : lv_has ls 4 [(0, .ref (Z 200)), (1, .int l1), (2, .int l2)]) : W p l e R s m args below meth c H locs 0 0 Q (F0 m 104 ls []) := by
  obtain ⟨⟨hx, hb, hml, hown, hts⟩, hK, hEV, hA⟩ := id X
  have hG : ∀ w ∈ GW, w.before args s = true := fun w h => hts w (List.mem_cons_of_mem _ h)
  unfold B_X11_runTick_104 at h
  refine lv_iload_n hx hb dX11_runTick_104 rfl (lv_at hl 2 rfl) ?_
  refine lv_aload_n hx hb dX11_runTick_105 rfl (lv_at hl 0 rfl) ?_
  refine cg_X11_41 X hS dX11_runTick_106 ?_
  refine cg_X11_285 X hS dX11_runTick_109 ?_
  refine lv_icmp_ge (tgt := 168) hx hb dX11_runTick_112 (by decide) (fun c_1 => ?_) (fun c_1 => ?_)
  · have h := ip (c_1) h
    refine lv_aload_n hx hb dX11_runTick_168 rfl (lv_at hl 0 rfl) ?_
    refine lv_dup hx hb dX11_runTick_169 rfl ?_
    refine cg_X11_150 X hS dX11_runTick_170 ?_
    refine lv_iconst (v := 1) hx hb dX11_runTick_173 (by decide) ?_
    refine lv_iadd hx hb dX11_runTick_174 ?_
    obtain ⟨u_2, e_u_2, h⟩ := pc_of h
    refine cp_X11_150 X hS e_u_2 dX11_runTick_175 (fun H locs hS => ?_)
    refine lv_iload_n hx hb dX11_runTick_178 rfl (lv_at hl 1 rfl) ?_
    obtain ⟨rfl, rfl⟩ := so9 h
    exact hE _ _ _ _ hS dX11_runTick_179
  · have h := im (c_1) h
    refine lv_aload_n hx hb dX11_runTick_115 rfl (lv_at hl 0 rfl) ?_
    refine cg_X11_48 X hS dX11_runTick_116 ?_
    obtain ⟨z_3, h⟩ := ok_of h
    refine lv_iconst (v := 0) hx hb dX11_runTick_119 (by decide) ?_
    refine lv_aload_n hx hb dX11_runTick_120 rfl (lv_at hl 0 rfl) ?_
    refine cg_X11_41 X hS dX11_runTick_121 ?_
    refine cg_X11_386 X hS dX11_runTick_124 ?_
    refine lv_iload_n hx hb dX11_runTick_127 rfl (lv_at hl 2 rfl) ?_
    obtain ⟨v_5, e_v_5, i_4, h⟩ := rd_of h
    refine ca_s220 X hS i_4 e_v_5 dX11_runTick_128 ?_
    obtain ⟨r_7, u_6, h_u_6, h⟩ := bc_of h
    refine kc_X6_nth_RX11 X z_3 hS h_u_6 (Nat.le_trans (Nat.le_of_ble_eq_true rfl) hF) (Nat.le_trans (Nat.le_of_ble_eq_true rfl) hL) hl.1 (Nat.le_of_ble_eq_true rfl) dX11_runTick_129 (fun H locs hS => ?_)
    obtain ⟨z_8, h⟩ := ok_of h
    refine lv_astore_n (lv' := [(3, .ref (Z (1000 + r_7))), (0, .ref (Z 200)), (1, .int l1), (2, .int l2)]) hx hb dX11_runTick_132 rfl hl (by decide) rfl (fun ls hl => ?_)
    refine lv_aload_n hx hb dX11_runTick_133 rfl (lv_at hl 1 rfl) ?_
    refine cg_X11_41 X hS dX11_runTick_134 ?_
    refine lv_iload_n hx hb dX11_runTick_137 rfl (lv_at hl 3 rfl) ?_
    refine lv_aload_n hx hb dX11_runTick_138 rfl (lv_at hl 1 rfl) ?_
    refine cg_X11_150 X hS dX11_runTick_139 ?_
    refine lv_aload_n hx hb dX11_runTick_142 rfl (lv_at hl 1 rfl) ?_
    refine cg_X11_69 X hS dX11_runTick_143 ?_
    refine lv_aload_n hx hb dX11_runTick_146 rfl (lv_at hl 0 rfl) ?_
    refine lv_aload_n hx hb dX11_runTick_147 rfl (lv_at hl 1 rfl) ?_
    refine cg_X11_41 X hS dX11_runTick_148 ?_
    refine cg_X11_389 X hS dX11_runTick_151 ?_
    refine lv_iload_n hx hb dX11_runTick_154 rfl (lv_at hl 3 rfl) ?_
    obtain ⟨v_10, e_v_10, i_9, h⟩ := rd_of h
    refine ca_s221 X hS i_9 e_v_10 dX11_runTick_155 ?_
    obtain ⟨r_12, u_11, h_u_11, h⟩ := bc_of h
    refine kc_X2_numberOf_RX11 X z_8 hS h_u_11 (Nat.le_trans (Nat.le_of_ble_eq_true rfl) hF) (Nat.le_trans (Nat.le_of_ble_eq_true rfl) hL) hl.1 (Nat.le_of_ble_eq_true rfl) dX11_runTick_156 (fun H locs hS => ?_)
    obtain ⟨r_u_13, u_13, h_u_13, h⟩ := bc_of h
    refine kc_X10_see_RX11 X  hS h_u_13 (Nat.le_trans (Nat.le_of_ble_eq_true rfl) hF) (Nat.le_trans (Nat.le_of_ble_eq_true rfl) hL) hl.1 (Nat.le_of_ble_eq_true rfl) dX11_runTick_159 (fun H locs hS => ?_)
    refine lv_iinc (v := l2 + 1) (lv' := [(2, .int (l2 + 1)), (3, .ref (Z (1000 + r_7))), (0, .ref (Z 200)), (1, .int l1)]) hx hb dX11_runTick_162 hl (k := 3) rfl rfl (by decide) rfl (fun ls hl => ?_)
    refine lv_goto (tgt := 104) hx hb dX11_runTick_165 (by decide) ?_
    exact hR_104 _ _ _  h _ _ _ hS (lv_sub hl [2, 3, 0] rfl)
def LP_X11_runTick_104 (N : Nat) : Nat → Int32 × Int32 × CSt → Option (Int32 × CSt) := lp (fun R a => B_X11_runTick_104 N R a.1 a.2.1 a.2.2)
theorem bl_X11_runTick_104 {r : Int32} (X : CC p s m args c cX11_runTick 4 (Cond.code yX11_runTick cX11_runTick 4 (some .int)) RX11 D kA V A) (hE : CEi p l e R s m args below meth c cX11_runTick D kA Z A Q r w) (hF : 6 ≤ R.frames) (hL : 150 ≤ R.locals)  : ∀ (n : Nat) (l1 : Int32) (l2 : Int32) (u : CSt), LP_X11_runTick_104 N n (l1, l2, u) = some (r, w) → ∀ (H : Heap) (locs : List Loc) (ls : Array Slot), CS D kA Z A s u H locs → lv_has ls 4 [(0, .ref (Z 200)), (1, .int l1), (2, .int l2)] → W p l e R s m args below meth c H locs 0 0 Q (F0 m 104 ls []) := by
  intro n
  induction n with
  | zero => intro l1 l2 u h; exact nomatch h
  | succ n ih => intro l1 l2 u h H locs ls hS hl; exact b_X11_runTick_104 (N := N) (R_104 := LP_X11_runTick_104 N n) X hE  hF hL  ih h  hS hl
def B_X11_runTick_11 (N : Nat) (R_11 : Int32 × Int32 × CSt → Option (Int32 × CSt)) (l1 : Int32) (l2 : Int32) (u : CSt) : Option (Int32 × CSt) := ok (cR u 0 < 2) inferInstance <| bc (F_X6_ofSort N (cR u 0) 2 u) fun r_16 u_15 => if r_16 ≤ l2 then (bc (F_X1_giveOutputs N u_15) fun _ u_18 => LP_X11_runTick_104 N N (l1, 0, u_18)) else (ok (cR u_15 0 < 2) inferInstance <| ix 8 l2 <| if (tI u_15 (8 * (cR u_15 0) + l2.toNatClampNeg) 3) = (0 : Int32) then (bc (F_X7_isDue N (8 * (cR u_15 0) + l2.toNatClampNeg) (cI u_15 1) u_15) fun r_23 u_22 => if r_23 = (0 : Int32) then (B_X11_runTick_89 N R_11 l1 l2 u_22) else (ok (cR u_22 0 < 2) inferInstance <| bc (F_X2_run N (cR u_22 0) (tI u_22 (8 * (cR u_15 0) + l2.toNatClampNeg) 2) (cI u_22 2) (cI u_22 1) u_22) fun _ u_26 => bc (F_X7_note N (8 * (cR u_15 0) + l2.toNatClampNeg) (cI u_26 1) u_26) fun _ u_27 => B_X11_runTick_89 N R_11 (l1 + 1) l2 u_27)) else (B_X11_runTick_89 N R_11 l1 l2 u_15))
set_option maxHeartbeats 4000000 in
theorem b_X11_runTick_11 {r : Int32} (X : CC p s m args c cX11_runTick 4 (Cond.code yX11_runTick cX11_runTick 4 (some .int)) RX11 D kA V A) (hE : CEi p l e R s m args below meth c cX11_runTick D kA Z A Q r w) (hF : 6 ≤ R.frames) (hL : 150 ≤ R.locals) {R_11 : Int32 × Int32 × CSt → Option (Int32 × CSt)} {l1 : Int32} {l2 : Int32} {u : CSt} (hR_11 : ∀ (l1 : Int32) (l2 : Int32) (u : CSt), R_11 (l1, l2, u) = some (r, w) → ∀ (H : Heap) (locs : List Loc) (ls : Array Slot), CS D kA Z A s u H locs → lv_has ls 4 [(0, .ref (Z 200)), (1, .int l1), (2, .int l2)] → W p l e R s m args below meth c H locs 0 0 Q (F0 m 11 ls [])) (h : B_X11_runTick_11 N R_11 l1 l2 u = some (r, w))  (hS : CS D kA Z A s u H locs) (hl : lv_has ls 4 [(0, .ref (Z 200)), (1, .int l1), (2, .int l2)]) : W p l e R s m args below meth c H locs 0 0 Q (F0 m 11 ls []) := by
  obtain ⟨⟨hx, hb, hml, hown, hts⟩, hK, hEV, hA⟩ := id X
  have hG : ∀ w ∈ GW, w.before args s = true := fun w h => hts w (List.mem_cons_of_mem _ h)
  unfold B_X11_runTick_11 at h
  refine lv_iload_n hx hb dX11_runTick_11 rfl (lv_at hl 2 rfl) ?_
  refine lv_aload_n hx hb dX11_runTick_12 rfl (lv_at hl 0 rfl) ?_
  refine cg_X11_48 X hS dX11_runTick_13 ?_
  obtain ⟨z_14, h⟩ := ok_of h
  refine lv_iconst (v := 2) hx hb dX11_runTick_16 (by decide) ?_
  obtain ⟨r_16, u_15, h_u_15, h⟩ := bc_of h
  refine kc_X6_ofSort_RX11 X z_14 hS h_u_15 (Nat.le_trans (Nat.le_of_ble_eq_true rfl) hF) (Nat.le_trans (Nat.le_of_ble_eq_true rfl) hL) hl.1 (Nat.le_of_ble_eq_true rfl) dX11_runTick_17 (fun H locs hS => ?_)
  refine lv_icmp_ge (tgt := 95) hx hb dX11_runTick_20 (by decide) (fun c_17 => ?_) (fun c_17 => ?_)
  · have h := ip (c_17) h
    refine lv_aload_n hx hb dX11_runTick_95 rfl (lv_at hl 0 rfl) ?_
    refine cg_X11_34 X hS dX11_runTick_96 ?_
    obtain ⟨r_u_18, u_18, h_u_18, h⟩ := bc_of h
    refine kc_X1_giveOutputs_RX11 X  hS h_u_18 (Nat.le_trans (Nat.le_of_ble_eq_true rfl) hF) (Nat.le_trans (Nat.le_of_ble_eq_true rfl) hL) hl.1 (Nat.le_of_ble_eq_true rfl) dX11_runTick_99 (fun H locs hS => ?_)
    refine lv_iconst (v := 0) hx hb dX11_runTick_102 (by decide) ?_
    refine lv_istore_n (lv' := [(2, .int 0), (0, .ref (Z 200)), (1, .int l1)]) hx hb dX11_runTick_103 rfl hl (by decide) rfl (fun ls hl => ?_)
    exact bl_X11_runTick_104 X hE  hF hL  _ _ _ _  h _ _ _ hS (lv_sub hl [1, 2, 0] rfl)
  · have h := im (c_17) h
    refine lv_aload_n hx hb dX11_runTick_23 rfl (lv_at hl 0 rfl) ?_
    refine cg_X11_48 X hS dX11_runTick_24 ?_
    obtain ⟨z_19, h⟩ := ok_of h
    refine cg_X11_153 X z_19 hS dX11_runTick_27 ?_
    refine lv_iload_n hx hb dX11_runTick_30 rfl (lv_at hl 2 rfl) ?_
    obtain ⟨i_20, h⟩ := ix_of h
    refine cq_10 X z_19 hS i_20 dX11_runTick_31 ?_
    refine lv_astore_n (lv' := [(3, .ref (Z (400 + (8 * (cR u_15 0) + l2.toNatClampNeg)))), (0, .ref (Z 200)), (1, .int l1), (2, .int l2)]) hx hb dX11_runTick_32 rfl hl (by decide) rfl (fun ls hl => ?_)
    refine lv_aload_n hx hb dX11_runTick_33 rfl (lv_at hl 0 rfl) ?_
    refine cg_X11_157 X (bn_t z_19 i_20) hS dX11_runTick_34 ?_
    refine lv_if_ne (tgt := 89) hx hb dX11_runTick_37 (by decide) (fun c_21 => ?_) (fun c_21 => ?_)
    · have h := im (c_21) h
      exact b_X11_runTick_89 X hE  hF hL hR_11 h  hS (lv_sub hl [1, 2, 3] rfl)
    · have h := ip (c_21) h
      refine lv_aload_n hx hb dX11_runTick_40 rfl (lv_at hl 0 rfl) ?_
      refine lv_aload_n hx hb dX11_runTick_41 rfl (lv_at hl 1 rfl) ?_
      refine cg_X11_150 X hS dX11_runTick_42 ?_
      obtain ⟨r_23, u_22, h_u_22, h⟩ := bc_of h
      refine kc_X7_isDue_RX11 X (bn_t z_19 i_20) hS h_u_22 (Nat.le_trans (Nat.le_of_ble_eq_true rfl) hF) (Nat.le_trans (Nat.le_of_ble_eq_true rfl) hL) hl.1 (Nat.le_of_ble_eq_true rfl) dX11_runTick_45 (fun H locs hS => ?_)
      refine lv_if_eq (tgt := 89) hx hb dX11_runTick_48 (by decide) (fun c_24 => ?_) (fun c_24 => ?_)
      · have h := ip (c_24) h
        exact b_X11_runTick_89 X hE  hF hL hR_11 h  hS (lv_sub hl [1, 2, 3] rfl)
      · have h := im (c_24) h
        refine lv_aload_n hx hb dX11_runTick_51 rfl (lv_at hl 1 rfl) ?_
        refine cg_X11_69 X hS dX11_runTick_52 ?_
        refine lv_aload_n hx hb dX11_runTick_55 rfl (lv_at hl 1 rfl) ?_
        refine cg_X11_48 X hS dX11_runTick_56 ?_
        obtain ⟨z_25, h⟩ := ok_of h
        refine lv_aload_n hx hb dX11_runTick_59 rfl (lv_at hl 0 rfl) ?_
        refine cg_X11_372 X (bn_t z_19 i_20) hS dX11_runTick_60 ?_
        refine lv_aload_n hx hb dX11_runTick_63 rfl (lv_at hl 1 rfl) ?_
        refine cg_X11_73 X hS dX11_runTick_64 ?_
        refine lv_aload_n hx hb dX11_runTick_67 rfl (lv_at hl 1 rfl) ?_
        refine cg_X11_150 X hS dX11_runTick_68 ?_
        obtain ⟨r_u_26, u_26, h_u_26, h⟩ := bc_of h
        refine kc_X2_run_RX11 X z_25 hS h_u_26 (Nat.le_trans (Nat.le_of_ble_eq_true rfl) hF) (Nat.le_trans (Nat.le_of_ble_eq_true rfl) hL) hl.1 (Nat.le_of_ble_eq_true rfl) dX11_runTick_71 (fun H locs hS => ?_)
        refine lv_aload_n hx hb dX11_runTick_74 rfl (lv_at hl 0 rfl) ?_
        refine lv_aload_n hx hb dX11_runTick_75 rfl (lv_at hl 1 rfl) ?_
        refine cg_X11_69 X hS dX11_runTick_76 ?_
        refine lv_aload_n hx hb dX11_runTick_79 rfl (lv_at hl 1 rfl) ?_
        refine cg_X11_150 X hS dX11_runTick_80 ?_
        obtain ⟨r_u_27, u_27, h_u_27, h⟩ := bc_of h
        refine kc_X7_note_RX11 X (bn_t z_19 i_20) hS h_u_27 (Nat.le_trans (Nat.le_of_ble_eq_true rfl) hF) (Nat.le_trans (Nat.le_of_ble_eq_true rfl) hL) hl.1 (Nat.le_of_ble_eq_true rfl) dX11_runTick_83 (fun H locs hS => ?_)
        refine lv_iinc (v := l1 + 1) (lv' := [(1, .int (l1 + 1)), (3, .ref (Z (400 + (8 * (cR u_15 0) + l2.toNatClampNeg)))), (0, .ref (Z 200)), (2, .int l2)]) hx hb dX11_runTick_86 hl (k := 2) rfl rfl (by decide) rfl (fun ls hl => ?_)
        exact b_X11_runTick_89 X hE  hF hL hR_11 h  hS (lv_sub hl [2, 0, 3] rfl)
def LP_X11_runTick_11 (N : Nat) : Nat → Int32 × Int32 × CSt → Option (Int32 × CSt) := lp (fun R a => B_X11_runTick_11 N R a.1 a.2.1 a.2.2)
theorem bl_X11_runTick_11 {r : Int32} (X : CC p s m args c cX11_runTick 4 (Cond.code yX11_runTick cX11_runTick 4 (some .int)) RX11 D kA V A) (hE : CEi p l e R s m args below meth c cX11_runTick D kA Z A Q r w) (hF : 6 ≤ R.frames) (hL : 150 ≤ R.locals)  : ∀ (n : Nat) (l1 : Int32) (l2 : Int32) (u : CSt), LP_X11_runTick_11 N n (l1, l2, u) = some (r, w) → ∀ (H : Heap) (locs : List Loc) (ls : Array Slot), CS D kA Z A s u H locs → lv_has ls 4 [(0, .ref (Z 200)), (1, .int l1), (2, .int l2)] → W p l e R s m args below meth c H locs 0 0 Q (F0 m 11 ls []) := by
  intro n
  induction n with
  | zero => intro l1 l2 u h; exact nomatch h
  | succ n ih => intro l1 l2 u h H locs ls hS hl; exact b_X11_runTick_11 (N := N) (R_11 := LP_X11_runTick_11 N n) X hE  hF hL  ih h  hS hl
def B_X11_runTick_0 (N : Nat) (u : CSt) : Option (Int32 × CSt) := bc (F_X1_takeInputs N u) fun _ u_28 => LP_X11_runTick_11 N N (0, 0, u_28)
set_option maxHeartbeats 4000000 in
theorem b_X11_runTick_0 {r : Int32} (X : CC p s m args c cX11_runTick 4 (Cond.code yX11_runTick cX11_runTick 4 (some .int)) RX11 D kA V A) (hE : CEi p l e R s m args below meth c cX11_runTick D kA Z A Q r w) (hF : 6 ≤ R.frames) (hL : 150 ≤ R.locals) {u : CSt}  (h : B_X11_runTick_0 N u = some (r, w))  (hS : CS D kA Z A s u H locs) (hl : lv_has ls 4 [(0, .ref (Z 200))]) : W p l e R s m args below meth c H locs 0 0 Q (F0 m 0 ls []) := by
  obtain ⟨⟨hx, hb, hml, hown, hts⟩, hK, hEV, hA⟩ := id X
  have hG : ∀ w ∈ GW, w.before args s = true := fun w h => hts w (List.mem_cons_of_mem _ h)
  unfold B_X11_runTick_0 at h
  refine lv_aload_n hx hb dX11_runTick_0 rfl (lv_at hl 0 rfl) ?_
  refine cg_X11_34 X hS dX11_runTick_1 ?_
  obtain ⟨r_u_28, u_28, h_u_28, h⟩ := bc_of h
  refine kc_X1_takeInputs_RX11 X  hS h_u_28 (Nat.le_trans (Nat.le_of_ble_eq_true rfl) hF) (Nat.le_trans (Nat.le_of_ble_eq_true rfl) hL) hl.1 (Nat.le_of_ble_eq_true rfl) dX11_runTick_4 (fun H locs hS => ?_)
  refine lv_iconst (v := 0) hx hb dX11_runTick_7 (by decide) ?_
  refine lv_istore_n (lv' := [(1, .int 0), (0, .ref (Z 200))]) hx hb dX11_runTick_8 rfl hl (by decide) rfl (fun ls hl => ?_)
  refine lv_iconst (v := 0) hx hb dX11_runTick_9 (by decide) ?_
  refine lv_istore_n (lv' := [(2, .int 0), (1, .int 0), (0, .ref (Z 200))]) hx hb dX11_runTick_10 rfl hl (by decide) rfl (fun ls hl => ?_)
  exact bl_X11_runTick_11 X hE  hF hL  _ _ _ _  h _ _ _ hS (lv_sub hl [2, 1, 0] rfl)
def F_X11_runTick (N : Nat) (u : CSt) : Option (Int32 × CSt) := B_X11_runTick_0 N u
set_option maxHeartbeats 4000000 in
theorem k_X11_runTick (l : Launch) (D : va_G) (kA : Nat → ClassId) (V Z : Nat → Nat) (N : Nat) (u : CSt) (sz : Nat) {r : Int32} {w : CSt} (h : F_X11_runTick N u = some (r, w)) : Met l yX11_runTick (Cond.code yX11_runTick cX11_runTick 4 (some .int) :: GW) { frames := 6, cells := 0, slots := 0, locals := 150 } (cPc D kA V Z [.ref (Z 200)] u sz) (cQi D kA Z u sz r w) 0 0 (va_A (CW kA Z u) sz) := by
  refine Met.ofW (cc := cX11_runTick) (maxL := 4) (ret := (some .int)) (by decide) rfl ?_
  intro p e s m args below meth c s₁ Bd hml hv
  obtain ⟨rfl, hsz, hP, hK, hD0, hE⟩ := hv
  have hts := atoms_spec (ws := Cond.code yX11_runTick cX11_runTick 4 (some .int) :: GW) Bd.pre
  have hl := lv_entry ([.ref (Z 200)]) (n := 4) (Nat.le_of_ble_eq_true rfl)
  rw [lg_entry_eq]
  generalize (lg_sl ([.ref (Z 200)]) ++ List.replicate (4 - (lg_sl ([.ref (Z 200)])).length) Slot.unset).toArray = ls at hl ⊢
  have hl : lv_has ls 4 [(0, .ref (Z 200))] := hl
  subst hsz
  have X : CC p s m ([.ref (Z 200)]).toArray c cX11_runTick 4 (Cond.code yX11_runTick cX11_runTick 4 (some .int)) RX11 D kA V (va_A (CW kA Z u) s.heap.size) := ⟨⟨Bd.exec, Bd.bytes, hml, findClass_of_methodNamed Bd.named, hts⟩, hK, hE, fun q h => Or.inr h⟩
  refine b_X11_runTick_0 X (cend_i X Bd.returns Bd.notSynchronized) (Nat.le_refl _) (Nat.le_refl _) h  ⟨hP, hD0.self, va_S.rf⟩ (lv_sub hl [0] rfl)
theorem kc_X11_runTick_RX11 {cc : ByteArray} {pc nL : Nat} {c0 : Cond} {rest : List Value} {u w1 : CSt} {r : Int32} (X : CC p s m args c cc nL c0 RX11 D kA V A)  (hS : CS D kA Z A s u H locs) (h : F_X11_runTick N u = some (r, w1)) (hF : 6 + 1 ≤ R.frames) (hL : 8 + (4 + 11) + 150 ≤ R.locals) (hl : ls.size = nL) (hc : (rest.map fun v => v.category).sum ≤ 8) (hdg : decode cc pc = .ok (.invokevirtual 113, 3)) (kk : ∀ H locs, CS D kA Z A s w1 H locs → W p l e R s m args below meth c H locs 0 0 Q (F0 m (pc + 3) ls (.int r :: rest))) : W p l e R s m args below meth c H locs 0 0 Q (F0 m pc ls (.ref (Z 200) :: rest)) :=
  ccall_i (n := 0) X hS (k_X11_runTick l D kA V Z N   u H.size h) (gw_V gw_1483 gw_1485 gs_6_6 gw_1 gw_1486) (by decide +kernel) (va_recv X.2.1 hS.1 (ci := 10) (q0 := 0) rfl (cw_lit rfl)) hF hL rfl hl hc rfl hdg kk
def B_X11_scan_25 (N : Nat) (R_25 : Int32 × Int32 × Int32 × CSt → Option ((Sum Nat Int32) × CSt)) (l1 : Int32) (l2 : Int32) (l3 : Int32) (u : CSt) : Option ((Sum Nat Int32) × CSt) := if l1 ≤ l3 then (some (.inr l2, u)) else (bc (F_X11_runTick N u) fun r_3 u_2 => R_25 (l1, (l2 + r_3), (l3 + 1), u_2))
set_option maxHeartbeats 4000000 in
theorem b_X11_scan_25 {y : (Sum Nat Int32)} (X : CC p s m args c cX11_scan 4 (Cond.code yX11_scan cX11_scan 4 (some .int)) RX11 D kA V A) (hE : CEix p l e R s m args below meth c cX11_scan D kA Z A Q y w) (hst : l.stackTraces = false) (hX : CX p l e R s m args below meth c D kA Z A Q y w) (hC : 1 ≤ R.cells ∧ 6 ≤ R.slots) (hT_11 : y = .inl 1 → ∀ (H : Heap) (locs : List Loc) (ls : Array Slot), CS D kA Z A s w H locs → ls.size = 4 → W p l e R s m args below meth c H locs 0 0 Q (F0 m 11 ls [])) (hF : 7 ≤ R.frames) (hL : 173 ≤ R.locals) {R_25 : Int32 × Int32 × Int32 × CSt → Option ((Sum Nat Int32) × CSt)} {l1 : Int32} {l2 : Int32} {l3 : Int32} {u : CSt} (hR_25 : ∀ (l1 : Int32) (l2 : Int32) (l3 : Int32) (u : CSt), R_25 (l1, l2, l3, u) = some (y, w) → ∀ (H : Heap) (locs : List Loc) (ls : Array Slot), CS D kA Z A s u H locs → lv_has ls 4 [(0, .ref (Z 200)), (1, .int l1), (2, .int l2), (3, .int l3)] → W p l e R s m args below meth c H locs 0 0 Q (F0 m 25 ls [])) (h : B_X11_scan_25 N R_25 l1 l2 l3 u = some (y, w))  (hS : CS D kA Z A s u H locs) (hl : lv_has ls 4 [(0, .ref (Z 200)), (1, .int l1), (2, .int l2), (3, .int l3)]) : W p l e R s m args below meth c H locs 0 0 Q (F0 m 25 ls []) := by
  obtain ⟨⟨hx, hb, hml, hown, hts⟩, hK, hEV, hA⟩ := id X
  have hG : ∀ w ∈ GW, w.before args s = true := fun w h => hts w (List.mem_cons_of_mem _ h)
  unfold B_X11_scan_25 at h
  refine lv_iload_n hx hb dX11_scan_25 rfl (lv_at hl 3 rfl) ?_
  refine lv_iload_n hx hb dX11_scan_26 rfl (lv_at hl 1 rfl) ?_
  refine lv_icmp_ge (tgt := 43) hx hb dX11_scan_27 (by decide) (fun c_1 => ?_) (fun c_1 => ?_)
  · have h := ip (c_1) h
    refine lv_iload_n hx hb dX11_scan_43 rfl (lv_at hl 2 rfl) ?_
    obtain ⟨e9, rfl⟩ := so9 h
    exact hE _ e9.symm _ _ _ _ hS dX11_scan_44
  · have h := im (c_1) h
    refine lv_iload_n hx hb dX11_scan_30 rfl (lv_at hl 2 rfl) ?_
    refine lv_aload_n hx hb dX11_scan_31 rfl (lv_at hl 0 rfl) ?_
    obtain ⟨r_3, u_2, h_u_2, h⟩ := bc_of h
    refine kc_X11_runTick_RX11 X  hS h_u_2 (Nat.le_trans (Nat.le_of_ble_eq_true rfl) hF) (Nat.le_trans (Nat.le_of_ble_eq_true rfl) hL) hl.1 (Nat.le_of_ble_eq_true rfl) dX11_scan_32 (fun H locs hS => ?_)
    refine lv_iadd hx hb dX11_scan_35 ?_
    refine lv_istore_n (lv' := [(2, .int (l2 + r_3)), (0, .ref (Z 200)), (1, .int l1), (3, .int l3)]) hx hb dX11_scan_36 rfl hl (by decide) rfl (fun ls hl => ?_)
    refine lv_iinc (v := l3 + 1) (lv' := [(3, .int (l3 + 1)), (2, .int (l2 + r_3)), (0, .ref (Z 200)), (1, .int l1)]) hx hb dX11_scan_37 hl (k := 3) rfl rfl (by decide) rfl (fun ls hl => ?_)
    refine lv_goto (tgt := 25) hx hb dX11_scan_40 (by decide) ?_
    exact hR_25 _ _ _ _  h _ _ _ hS (lv_sub hl [2, 3, 1, 0] rfl)
def LP_X11_scan_25 (N : Nat) : Nat → Int32 × Int32 × Int32 × CSt → Option ((Sum Nat Int32) × CSt) := lp (fun R a => B_X11_scan_25 N R a.1 a.2.1 a.2.2.1 a.2.2.2)
theorem bl_X11_scan_25 {y : (Sum Nat Int32)} (X : CC p s m args c cX11_scan 4 (Cond.code yX11_scan cX11_scan 4 (some .int)) RX11 D kA V A) (hE : CEix p l e R s m args below meth c cX11_scan D kA Z A Q y w) (hst : l.stackTraces = false) (hX : CX p l e R s m args below meth c D kA Z A Q y w) (hC : 1 ≤ R.cells ∧ 6 ≤ R.slots) (hT_11 : y = .inl 1 → ∀ (H : Heap) (locs : List Loc) (ls : Array Slot), CS D kA Z A s w H locs → ls.size = 4 → W p l e R s m args below meth c H locs 0 0 Q (F0 m 11 ls [])) (hF : 7 ≤ R.frames) (hL : 173 ≤ R.locals)  : ∀ (n : Nat) (l1 : Int32) (l2 : Int32) (l3 : Int32) (u : CSt), LP_X11_scan_25 N n (l1, l2, l3, u) = some (y, w) → ∀ (H : Heap) (locs : List Loc) (ls : Array Slot), CS D kA Z A s u H locs → lv_has ls 4 [(0, .ref (Z 200)), (1, .int l1), (2, .int l2), (3, .int l3)] → W p l e R s m args below meth c H locs 0 0 Q (F0 m 25 ls []) := by
  intro n
  induction n with
  | zero => intro l1 l2 l3 u h; exact nomatch h
  | succ n ih => intro l1 l2 l3 u h H locs ls hS hl; exact b_X11_scan_25 (N := N) (R_25 := LP_X11_scan_25 N n) X hE hst hX hC hT_11 hF hL  ih h  hS hl
def B_X11_scan_0 (N : Nat) (l1 : Int32) (u : CSt) : Option ((Sum Nat Int32) × CSt) := if l1 < (1 : Int32) then (some (.inl 1, u)) else (if l1 ≤ (50 : Int32) then (LP_X11_scan_25 N N (l1, 0, 0, u)) else (some (.inl 1, u)))
set_option maxHeartbeats 4000000 in
theorem b_X11_scan_0 {y : (Sum Nat Int32)} (X : CC p s m args c cX11_scan 4 (Cond.code yX11_scan cX11_scan 4 (some .int)) RX11 D kA V A) (hE : CEix p l e R s m args below meth c cX11_scan D kA Z A Q y w) (hst : l.stackTraces = false) (hX : CX p l e R s m args below meth c D kA Z A Q y w) (hC : 1 ≤ R.cells ∧ 6 ≤ R.slots) (hT_11 : y = .inl 1 → ∀ (H : Heap) (locs : List Loc) (ls : Array Slot), CS D kA Z A s w H locs → ls.size = 4 → W p l e R s m args below meth c H locs 0 0 Q (F0 m 11 ls [])) (hF : 7 ≤ R.frames) (hL : 173 ≤ R.locals) {l1 : Int32} {u : CSt}  (h : B_X11_scan_0 N l1 u = some (y, w))  (hS : CS D kA Z A s u H locs) (hl : lv_has ls 4 [(0, .ref (Z 200)), (1, .int l1)]) : W p l e R s m args below meth c H locs 0 0 Q (F0 m 0 ls []) := by
  obtain ⟨⟨hx, hb, hml, hown, hts⟩, hK, hEV, hA⟩ := id X
  have hG : ∀ w ∈ GW, w.before args s = true := fun w h => hts w (List.mem_cons_of_mem _ h)
  unfold B_X11_scan_0 at h
  refine lv_iload_n hx hb dX11_scan_0 rfl (lv_at hl 1 rfl) ?_
  refine lv_iconst (v := 1) hx hb dX11_scan_1 (by decide) ?_
  refine lv_icmp_lt (tgt := 11) hx hb dX11_scan_2 (by decide) (fun c_4 => ?_) (fun c_4 => ?_)
  · have h := ip (c_4) h
    obtain ⟨e9, rfl⟩ := so9 h
    exact hT_11 e9.symm _ _ _ hS hl.1
  · have h := im (c_4) h
    refine lv_iload_n hx hb dX11_scan_5 rfl (lv_at hl 1 rfl) ?_
    refine lv_bipush (v := 50) hx hb dX11_scan_6 (by decide) ?_
    refine lv_icmp_le (tgt := 21) hx hb dX11_scan_8 (by decide) (fun c_5 => ?_) (fun c_5 => ?_)
    · have h := ip (c_5) h
      refine lv_iconst (v := 0) hx hb dX11_scan_21 (by decide) ?_
      refine lv_istore_n (lv' := [(2, .int 0), (0, .ref (Z 200)), (1, .int l1)]) hx hb dX11_scan_22 rfl hl (by decide) rfl (fun ls hl => ?_)
      refine lv_iconst (v := 0) hx hb dX11_scan_23 (by decide) ?_
      refine lv_istore_n (lv' := [(3, .int 0), (2, .int 0), (0, .ref (Z 200)), (1, .int l1)]) hx hb dX11_scan_24 rfl hl (by decide) rfl (fun ls hl => ?_)
      exact bl_X11_scan_25 X hE hst hX hC hT_11 hF hL  _ _ _ _ _  h _ _ _ hS (lv_sub hl [2, 3, 1, 0] rfl)
    · have h := im (c_5) h
      obtain ⟨e9, rfl⟩ := so9 h
      exact hT_11 e9.symm _ _ _ hS hl.1
def F_X11_scan (N : Nat) (l1 : Int32) (u : CSt) : Option ((Sum Nat Int32) × CSt) := B_X11_scan_0 N l1 u
set_option maxHeartbeats 4000000 in
theorem k_X11_scan (l : Launch) (hst : l.stackTraces = false) (D : va_G) (kA : Nat → ClassId) (V Z : Nat → Nat) (N : Nat) (l1 : Int32) (u : CSt) (sz : Nat) {y : (Sum Nat Int32)} {w : CSt} (h : F_X11_scan N l1 u = some (y, w)) : vx_Met l yX11_scan (Cond.code yX11_scan cX11_scan 4 (some .int) :: GW) { frames := 7, cells := 1, slots := 6, locals := 173 } (cPc D kA V Z [.ref (Z 200), .int l1] u sz) (cQix D kA Z u sz y w) (cXc D kA Z u sz y w) 1 6 (va_A (CW kA Z u) sz) := by
  refine vx_ofW (cc := cX11_scan) (maxL := 4) (ret := (some .int)) (by decide) rfl ?_
  intro p e s m args below meth c s₁ Bd hml hxt hv
  obtain ⟨rfl, hsz, hP, hK, hD0, hE⟩ := hv
  have hts := atoms_spec (ws := Cond.code yX11_scan cX11_scan 4 (some .int) :: GW) Bd.pre
  have hl := lv_entry ([.ref (Z 200), .int l1]) (n := 4) (Nat.le_of_ble_eq_true rfl)
  rw [lg_entry_eq]
  generalize (lg_sl ([.ref (Z 200), .int l1]) ++ List.replicate (4 - (lg_sl ([.ref (Z 200), .int l1])).length) Slot.unset).toArray = ls at hl ⊢
  have hl : lv_has ls 4 [(0, .ref (Z 200)), (1, .int l1)] := hl
  subst hsz
  have X : CC p s m ([.ref (Z 200), .int l1]).toArray c cX11_scan 4 (Cond.code yX11_scan cX11_scan 4 (some .int)) RX11 D kA V (va_A (CW kA Z u) s.heap.size) := ⟨⟨Bd.exec, Bd.bytes, hml, findClass_of_methodNamed Bd.named, hts⟩, hK, hE, fun q h => Or.inr h⟩
  refine b_X11_scan_0 X (cend_ix X Bd.returns Bd.notSynchronized) hst (cend_X X hxt Bd.notSynchronized) ⟨Nat.le_refl _, Nat.le_refl _⟩ (fun hy H locs ls hS hls => cx_throw (x := 1) Bd.exec Bd.bytes hst (findClass_of_methodNamed Bd.named) (by decide +kernel) (by decide +kernel) X hS hy rfl gw_1467 gw_26 (evr_4 hE.2.1) xat_IllegalArgumentException xgo_IllegalArgumentException (by rw [hml]; exact hls) dX11_scan_11 dX11_scan_14 dX11_scan_15 dX11_scan_17 dX11_scan_20 hxt (Nat.le_of_ble_eq_true rfl) (Nat.le_of_ble_eq_true rfl) (Nat.le_of_ble_eq_true rfl) (Nat.le_of_ble_eq_true rfl) Bd.notSynchronized (Nat.le_of_ble_eq_true rfl) (Nat.le_of_ble_eq_true rfl)) (Nat.le_refl _) (Nat.le_refl _) h  ⟨hP, hD0.self, va_S.rf⟩ (lv_sub hl [0, 1] rfl)
def B_X11_power_50 (N : Nat) (R_2 : Int32 × CSt → Option (Int32 × CSt)) (l1 : Int32) (u : CSt) : Option (Int32 × CSt) := R_2 ((l1 + 1), u)
set_option maxHeartbeats 4000000 in
theorem b_X11_power_50 {r : Int32} (X : CC p s m args c cX11_power 3 (Cond.code yX11_power cX11_power 3 none) RX11 D kA V A) (hE : CEv p l e R s m args below meth c cX11_power D kA Z A Q w) (hF : 3 ≤ R.frames) (hL : 74 ≤ R.locals) {R_2 : Int32 × CSt → Option (Int32 × CSt)} {l1 : Int32} {u : CSt} (hR_2 : ∀ (l1 : Int32) (u : CSt), R_2 (l1, u) = some (r, w) → ∀ (H : Heap) (locs : List Loc) (ls : Array Slot), CS D kA Z A s u H locs → lv_has ls 3 [(0, .ref (Z 200)), (1, .int l1)] → W p l e R s m args below meth c H locs 0 0 Q (F0 m 2 ls [])) (h : B_X11_power_50 N R_2 l1 u = some (r, w))  (hS : CS D kA Z A s u H locs) (hl : lv_has ls 3 [(0, .ref (Z 200)), (1, .int l1)]) : W p l e R s m args below meth c H locs 0 0 Q (F0 m 50 ls []) := by
  obtain ⟨⟨hx, hb, hml, hown, hts⟩, hK, hEV, hA⟩ := id X
  have hG : ∀ w ∈ GW, w.before args s = true := fun w h => hts w (List.mem_cons_of_mem _ h)
  unfold B_X11_power_50 at h
  refine lv_iinc (v := l1 + 1) (lv' := [(1, .int (l1 + 1)), (0, .ref (Z 200))]) hx hb dX11_power_50 hl (k := 1) rfl rfl (by decide) rfl (fun ls hl => ?_)
  refine lv_goto (tgt := 2) hx hb dX11_power_53 (by decide) ?_
  exact hR_2 _ _  h _ _ _ hS (lv_sub hl [1, 0] rfl)
def B_X11_power_81 (N : Nat) (R_81 : Int32 × CSt → Option (Int32 × CSt)) (l1 : Int32) (u : CSt) : Option (Int32 × CSt) := ok (cR u 0 < 2) inferInstance <| bc (F_X6_ofSort N (cR u 0) 2 u) fun r_3 u_2 => if r_3 ≤ l1 then (some (0, u_2)) else (ok (cR u_2 0 < 2) inferInstance <| ix 8 l1 <| pc (xtI u_2 (8 * (cR u_2 0) + l1.toNatClampNeg) 3 0) fun u_7 => R_81 ((l1 + 1), u_7))
set_option maxHeartbeats 4000000 in
theorem b_X11_power_81 {r : Int32} (X : CC p s m args c cX11_power 3 (Cond.code yX11_power cX11_power 3 none) RX11 D kA V A) (hE : CEv p l e R s m args below meth c cX11_power D kA Z A Q w) (hF : 3 ≤ R.frames) (hL : 74 ≤ R.locals) {R_81 : Int32 × CSt → Option (Int32 × CSt)} {l1 : Int32} {u : CSt} (hR_81 : ∀ (l1 : Int32) (u : CSt), R_81 (l1, u) = some (r, w) → ∀ (H : Heap) (locs : List Loc) (ls : Array Slot), CS D kA Z A s u H locs → lv_has ls 3 [(0, .ref (Z 200)), (1, .int l1)] → W p l e R s m args below meth c H locs 0 0 Q (F0 m 81 ls [])) (h : B_X11_power_81 N R_81 l1 u = some (r, w))  (hS : CS D kA Z A s u H locs) (hl : lv_has ls 3 [(0, .ref (Z 200)), (1, .int l1)]) : W p l e R s m args below meth c H locs 0 0 Q (F0 m 81 ls []) := by
  obtain ⟨⟨hx, hb, hml, hown, hts⟩, hK, hEV, hA⟩ := id X
  have hG : ∀ w ∈ GW, w.before args s = true := fun w h => hts w (List.mem_cons_of_mem _ h)
  unfold B_X11_power_81 at h
  refine lv_iload_n hx hb dX11_power_81 rfl (lv_at hl 1 rfl) ?_
  refine lv_aload_n hx hb dX11_power_82 rfl (lv_at hl 0 rfl) ?_
  refine cg_X11_48 X hS dX11_power_83 ?_
  obtain ⟨z_1, h⟩ := ok_of h
  refine lv_iconst (v := 2) hx hb dX11_power_86 (by decide) ?_
  obtain ⟨r_3, u_2, h_u_2, h⟩ := bc_of h
  refine kc_X6_ofSort_RX11 X z_1 hS h_u_2 (Nat.le_trans (Nat.le_of_ble_eq_true rfl) hF) (Nat.le_trans (Nat.le_of_ble_eq_true rfl) hL) hl.1 (Nat.le_of_ble_eq_true rfl) dX11_power_87 (fun H locs hS => ?_)
  refine lv_icmp_ge (tgt := 112) hx hb dX11_power_90 (by decide) (fun c_4 => ?_) (fun c_4 => ?_)
  · have h := ip (c_4) h
    obtain ⟨-, rfl⟩ := so9 h
    exact hE _ _ _ _ hS dX11_power_112
  · have h := im (c_4) h
    refine lv_aload_n hx hb dX11_power_93 rfl (lv_at hl 0 rfl) ?_
    refine cg_X11_48 X hS dX11_power_94 ?_
    obtain ⟨z_5, h⟩ := ok_of h
    refine cg_X11_153 X z_5 hS dX11_power_97 ?_
    refine lv_iload_n hx hb dX11_power_100 rfl (lv_at hl 1 rfl) ?_
    obtain ⟨i_6, h⟩ := ix_of h
    refine cq_10 X z_5 hS i_6 dX11_power_101 ?_
    refine lv_iconst (v := 0) hx hb dX11_power_102 (by decide) ?_
    obtain ⟨u_7, e_u_7, h⟩ := pc_of h
    refine cp_X11_157 X (bn_t z_5 i_6) hS e_u_7 (Or.inl rfl) dX11_power_103 (fun H locs hS => ?_)
    refine lv_iinc (v := l1 + 1) (lv' := [(1, .int (l1 + 1)), (0, .ref (Z 200))]) hx hb dX11_power_106 hl (k := 1) rfl rfl (by decide) rfl (fun ls hl => ?_)
    refine lv_goto (tgt := 81) hx hb dX11_power_109 (by decide) ?_
    exact hR_81 _ _  h _ _ _ hS (lv_sub hl [1, 0] rfl)
def LP_X11_power_81 (N : Nat) : Nat → Int32 × CSt → Option (Int32 × CSt) := lp (fun R a => B_X11_power_81 N R a.1 a.2)
theorem bl_X11_power_81 {r : Int32} (X : CC p s m args c cX11_power 3 (Cond.code yX11_power cX11_power 3 none) RX11 D kA V A) (hE : CEv p l e R s m args below meth c cX11_power D kA Z A Q w) (hF : 3 ≤ R.frames) (hL : 74 ≤ R.locals)  : ∀ (n : Nat) (l1 : Int32) (u : CSt), LP_X11_power_81 N n (l1, u) = some (r, w) → ∀ (H : Heap) (locs : List Loc) (ls : Array Slot), CS D kA Z A s u H locs → lv_has ls 3 [(0, .ref (Z 200)), (1, .int l1)] → W p l e R s m args below meth c H locs 0 0 Q (F0 m 81 ls []) := by
  intro n
  induction n with
  | zero => intro l1 u h; exact nomatch h
  | succ n ih => intro l1 u h H locs ls hS hl; exact b_X11_power_81 (N := N) (R_81 := LP_X11_power_81 N n) X hE  hF hL  ih h  hS hl
def B_X11_power_2 (N : Nat) (R_2 : Int32 × CSt → Option (Int32 × CSt)) (l1 : Int32) (u : CSt) : Option (Int32 × CSt) := ok (cR u 0 < 2) inferInstance <| bc (F_X6_ofSort N (cR u 0) 0 u) fun r_10 u_9 => if r_10 ≤ l1 then (ok (cR u_9 0 < 2) inferInstance <| bc (F_X2_resetInstances N (cR u_9 0) u_9) fun _ u_13 => bc (F_X1_wipe N u_13) fun _ u_14 => pc (xI u_14 1 0) fun u_15 => LP_X11_power_81 N N (0, u_15)) else (ok (cR u_9 0 < 2) inferInstance <| bc (F_X6_nth N (cR u_9 0) 0 l1 u_9) fun r_18 u_17 => ok (r_18 < 338) inferInstance <| if (mI u_17 r_18 6) = (0 : Int32) then (bc (F_X2_fill N (mI u_17 r_18 9) (mI u_17 r_18 7) (mL u_17 r_18 10) u_17) fun _ u_21 => B_X11_power_50 N R_2 l1 u_21) else (B_X11_power_50 N R_2 l1 u_17))
set_option maxHeartbeats 4000000 in
theorem b_X11_power_2 {r : Int32} (X : CC p s m args c cX11_power 3 (Cond.code yX11_power cX11_power 3 none) RX11 D kA V A) (hE : CEv p l e R s m args below meth c cX11_power D kA Z A Q w) (hF : 3 ≤ R.frames) (hL : 74 ≤ R.locals) {R_2 : Int32 × CSt → Option (Int32 × CSt)} {l1 : Int32} {u : CSt} (hR_2 : ∀ (l1 : Int32) (u : CSt), R_2 (l1, u) = some (r, w) → ∀ (H : Heap) (locs : List Loc) (ls : Array Slot), CS D kA Z A s u H locs → lv_has ls 3 [(0, .ref (Z 200)), (1, .int l1)] → W p l e R s m args below meth c H locs 0 0 Q (F0 m 2 ls [])) (h : B_X11_power_2 N R_2 l1 u = some (r, w))  (hS : CS D kA Z A s u H locs) (hl : lv_has ls 3 [(0, .ref (Z 200)), (1, .int l1)]) : W p l e R s m args below meth c H locs 0 0 Q (F0 m 2 ls []) := by
  obtain ⟨⟨hx, hb, hml, hown, hts⟩, hK, hEV, hA⟩ := id X
  have hG : ∀ w ∈ GW, w.before args s = true := fun w h => hts w (List.mem_cons_of_mem _ h)
  unfold B_X11_power_2 at h
  refine lv_iload_n hx hb dX11_power_2 rfl (lv_at hl 1 rfl) ?_
  refine lv_aload_n hx hb dX11_power_3 rfl (lv_at hl 0 rfl) ?_
  refine cg_X11_48 X hS dX11_power_4 ?_
  obtain ⟨z_8, h⟩ := ok_of h
  refine lv_iconst (v := 0) hx hb dX11_power_7 (by decide) ?_
  obtain ⟨r_10, u_9, h_u_9, h⟩ := bc_of h
  refine kc_X6_ofSort_RX11 X z_8 hS h_u_9 (Nat.le_trans (Nat.le_of_ble_eq_true rfl) hF) (Nat.le_trans (Nat.le_of_ble_eq_true rfl) hL) hl.1 (Nat.le_of_ble_eq_true rfl) dX11_power_8 (fun H locs hS => ?_)
  refine lv_icmp_ge (tgt := 56) hx hb dX11_power_11 (by decide) (fun c_11 => ?_) (fun c_11 => ?_)
  · have h := ip (c_11) h
    refine lv_aload_n hx hb dX11_power_56 rfl (lv_at hl 0 rfl) ?_
    refine cg_X11_69 X hS dX11_power_57 ?_
    refine lv_aload_n hx hb dX11_power_60 rfl (lv_at hl 0 rfl) ?_
    refine cg_X11_48 X hS dX11_power_61 ?_
    obtain ⟨z_12, h⟩ := ok_of h
    obtain ⟨r_u_13, u_13, h_u_13, h⟩ := bc_of h
    refine kc_X2_resetInstances_RX11 X z_12 hS h_u_13 (Nat.le_trans (Nat.le_of_ble_eq_true rfl) hF) (Nat.le_trans (Nat.le_of_ble_eq_true rfl) hL) hl.1 (Nat.le_of_ble_eq_true rfl) dX11_power_64 (fun H locs hS => ?_)
    refine lv_aload_n hx hb dX11_power_67 rfl (lv_at hl 0 rfl) ?_
    refine cg_X11_34 X hS dX11_power_68 ?_
    obtain ⟨r_u_14, u_14, h_u_14, h⟩ := bc_of h
    refine kc_X1_wipe_RX11 X  hS h_u_14 (Nat.le_trans (Nat.le_of_ble_eq_true rfl) hF) (Nat.le_trans (Nat.le_of_ble_eq_true rfl) hL) hl.1 (Nat.le_of_ble_eq_true rfl) dX11_power_71 (fun H locs hS => ?_)
    refine lv_aload_n hx hb dX11_power_74 rfl (lv_at hl 0 rfl) ?_
    refine lv_iconst (v := 0) hx hb dX11_power_75 (by decide) ?_
    obtain ⟨u_15, e_u_15, h⟩ := pc_of h
    refine cp_X11_150 X hS e_u_15 dX11_power_76 (fun H locs hS => ?_)
    refine lv_iconst (v := 0) hx hb dX11_power_79 (by decide) ?_
    refine lv_istore_n (lv' := [(1, .int 0), (0, .ref (Z 200))]) hx hb dX11_power_80 rfl hl (by decide) rfl (fun ls hl => ?_)
    exact bl_X11_power_81 X hE  hF hL  _ _ _  h _ _ _ hS (lv_sub hl [1, 0] rfl)
  · have h := im (c_11) h
    refine lv_aload_n hx hb dX11_power_14 rfl (lv_at hl 0 rfl) ?_
    refine cg_X11_48 X hS dX11_power_15 ?_
    obtain ⟨z_16, h⟩ := ok_of h
    refine lv_iconst (v := 0) hx hb dX11_power_18 (by decide) ?_
    refine lv_iload_n hx hb dX11_power_19 rfl (lv_at hl 1 rfl) ?_
    obtain ⟨r_18, u_17, h_u_17, h⟩ := bc_of h
    refine kc_X6_nth_RX11 X z_16 hS h_u_17 (Nat.le_trans (Nat.le_of_ble_eq_true rfl) hF) (Nat.le_trans (Nat.le_of_ble_eq_true rfl) hL) hl.1 (Nat.le_of_ble_eq_true rfl) dX11_power_20 (fun H locs hS => ?_)
    obtain ⟨z_19, h⟩ := ok_of h
    refine lv_astore_n (lv' := [(2, .ref (Z (1000 + r_18))), (0, .ref (Z 200)), (1, .int l1)]) hx hb dX11_power_23 rfl hl (by decide) rfl (fun ls hl => ?_)
    refine lv_aload_n hx hb dX11_power_24 rfl (lv_at hl 0 rfl) ?_
    refine cg_X11_125 X z_19 hS dX11_power_25 ?_
    refine lv_if_ne (tgt := 50) hx hb dX11_power_28 (by decide) (fun c_20 => ?_) (fun c_20 => ?_)
    · have h := im (c_20) h
      exact b_X11_power_50 X hE  hF hL hR_2 h  hS (lv_sub hl [1, 2] rfl)
    · have h := ip (c_20) h
      refine lv_aload_n hx hb dX11_power_31 rfl (lv_at hl 1 rfl) ?_
      refine cg_X11_69 X hS dX11_power_32 ?_
      refine lv_aload_n hx hb dX11_power_35 rfl (lv_at hl 0 rfl) ?_
      refine cg_X11_130 X z_19 hS dX11_power_36 ?_
      refine lv_aload_n hx hb dX11_power_39 rfl (lv_at hl 0 rfl) ?_
      refine cg_X11_133 X z_19 hS dX11_power_40 ?_
      refine lv_aload_n hx hb dX11_power_43 rfl (lv_at hl 0 rfl) ?_
      refine cg_X11_136 X z_19 hS dX11_power_44 ?_
      obtain ⟨r_u_21, u_21, h_u_21, h⟩ := bc_of h
      refine kc_X2_fill_RX11 X  hS h_u_21 (Nat.le_trans (Nat.le_of_ble_eq_true rfl) hF) (Nat.le_trans (Nat.le_of_ble_eq_true rfl) hL) hl.1 (Nat.le_of_ble_eq_true rfl) dX11_power_47 (fun H locs hS => ?_)
      exact b_X11_power_50 X hE  hF hL hR_2 h  hS (lv_sub hl [1, 2] rfl)
def LP_X11_power_2 (N : Nat) : Nat → Int32 × CSt → Option (Int32 × CSt) := lp (fun R a => B_X11_power_2 N R a.1 a.2)
theorem bl_X11_power_2 {r : Int32} (X : CC p s m args c cX11_power 3 (Cond.code yX11_power cX11_power 3 none) RX11 D kA V A) (hE : CEv p l e R s m args below meth c cX11_power D kA Z A Q w) (hF : 3 ≤ R.frames) (hL : 74 ≤ R.locals)  : ∀ (n : Nat) (l1 : Int32) (u : CSt), LP_X11_power_2 N n (l1, u) = some (r, w) → ∀ (H : Heap) (locs : List Loc) (ls : Array Slot), CS D kA Z A s u H locs → lv_has ls 3 [(0, .ref (Z 200)), (1, .int l1)] → W p l e R s m args below meth c H locs 0 0 Q (F0 m 2 ls []) := by
  intro n
  induction n with
  | zero => intro l1 u h; exact nomatch h
  | succ n ih => intro l1 u h H locs ls hS hl; exact b_X11_power_2 (N := N) (R_2 := LP_X11_power_2 N n) X hE  hF hL  ih h  hS hl
def B_X11_power_0 (N : Nat) (u : CSt) : Option (Int32 × CSt) := LP_X11_power_2 N N (0, u)
set_option maxHeartbeats 4000000 in
theorem b_X11_power_0 {r : Int32} (X : CC p s m args c cX11_power 3 (Cond.code yX11_power cX11_power 3 none) RX11 D kA V A) (hE : CEv p l e R s m args below meth c cX11_power D kA Z A Q w) (hF : 3 ≤ R.frames) (hL : 74 ≤ R.locals) {u : CSt}  (h : B_X11_power_0 N u = some (r, w))  (hS : CS D kA Z A s u H locs) (hl : lv_has ls 3 [(0, .ref (Z 200))]) : W p l e R s m args below meth c H locs 0 0 Q (F0 m 0 ls []) := by
  obtain ⟨⟨hx, hb, hml, hown, hts⟩, hK, hEV, hA⟩ := id X
  have hG : ∀ w ∈ GW, w.before args s = true := fun w h => hts w (List.mem_cons_of_mem _ h)
  unfold B_X11_power_0 at h
  refine lv_iconst (v := 0) hx hb dX11_power_0 (by decide) ?_
  refine lv_istore_n (lv' := [(1, .int 0), (0, .ref (Z 200))]) hx hb dX11_power_1 rfl hl (by decide) rfl (fun ls hl => ?_)
  exact bl_X11_power_2 X hE  hF hL  _ _ _  h _ _ _ hS (lv_sub hl [1, 0] rfl)
def F_X11_power (N : Nat) (u : CSt) : Option (Int32 × CSt) := B_X11_power_0 N u
set_option maxHeartbeats 4000000 in
theorem k_X11_power (l : Launch) (D : va_G) (kA : Nat → ClassId) (V Z : Nat → Nat) (N : Nat) (u : CSt) (sz : Nat) {r : Int32} {w : CSt} (h : F_X11_power N u = some (r, w)) : Met l yX11_power (Cond.code yX11_power cX11_power 3 none :: GW) { frames := 3, cells := 0, slots := 0, locals := 74 } (cPc D kA V Z [.ref (Z 200)] u sz) (cQv D kA Z u sz w) 0 0 (va_A (CW kA Z u) sz) := by
  refine Met.ofW (cc := cX11_power) (maxL := 3) (ret := none) (by decide) rfl ?_
  intro p e s m args below meth c s₁ Bd hml hv
  obtain ⟨rfl, hsz, hP, hK, hD0, hE⟩ := hv
  have hts := atoms_spec (ws := Cond.code yX11_power cX11_power 3 none :: GW) Bd.pre
  have hl := lv_entry ([.ref (Z 200)]) (n := 3) (Nat.le_of_ble_eq_true rfl)
  rw [lg_entry_eq]
  generalize (lg_sl ([.ref (Z 200)]) ++ List.replicate (3 - (lg_sl ([.ref (Z 200)])).length) Slot.unset).toArray = ls at hl ⊢
  have hl : lv_has ls 3 [(0, .ref (Z 200))] := hl
  subst hsz
  have X : CC p s m ([.ref (Z 200)]).toArray c cX11_power 3 (Cond.code yX11_power cX11_power 3 none) RX11 D kA V (va_A (CW kA Z u) s.heap.size) := ⟨⟨Bd.exec, Bd.bytes, hml, findClass_of_methodNamed Bd.named, hts⟩, hK, hE, fun q h => Or.inr h⟩
  refine b_X11_power_0 X (cend_v X Bd.returns Bd.notSynchronized) (Nat.le_refl _) (Nat.le_refl _) h  ⟨hP, hD0.self, va_S.rf⟩ (lv_sub hl [0] rfl)
def B_X11_input_0 (N : Nat) (l1 : Int32) (l2 : Int32) (u : CSt) : Option ((Sum Nat Int32) × CSt) := if l1 < (0 : Int32) then (some (.inl 2, u)) else (if l1 < (64 : Int32) then (ix 8 0 <| wc 64 l1 (xA u (211 + ((0 : Int32).toNatClampNeg)) l1.toNatClampNeg (l2 &&& 255)) fun u_5 => some (.inr 0, u_5)) else (some (.inl 2, u)))
set_option maxHeartbeats 4000000 in
theorem b_X11_input_0 {y : (Sum Nat Int32)} (X : CC p s m args c cX11_input 3 (Cond.code yX11_input cX11_input 3 none) RX11 D kA V A) (hE : CEvx p l e R s m args below meth c cX11_input D kA Z A Q y w) (hst : l.stackTraces = false) (hX : CX p l e R s m args below meth c D kA Z A Q y w) (hC : 1 ≤ R.cells ∧ 6 ≤ R.slots) (hT_10 : y = .inl 2 → ∀ (H : Heap) (locs : List Loc) (ls : Array Slot), CS D kA Z A s w H locs → ls.size = 3 → W p l e R s m args below meth c H locs 0 0 Q (F0 m 10 ls [])) (hF : 6 ≤ R.frames) (hL : 100 ≤ R.locals) {l1 : Int32} {l2 : Int32} {u : CSt}  (h : B_X11_input_0 N l1 l2 u = some (y, w))  (hS : CS D kA Z A s u H locs) (hl : lv_has ls 3 [(0, .ref (Z 200)), (1, .int l1), (2, .int l2)]) : W p l e R s m args below meth c H locs 0 0 Q (F0 m 0 ls []) := by
  obtain ⟨⟨hx, hb, hml, hown, hts⟩, hK, hEV, hA⟩ := id X
  have hG : ∀ w ∈ GW, w.before args s = true := fun w h => hts w (List.mem_cons_of_mem _ h)
  unfold B_X11_input_0 at h
  refine lv_iload_n hx hb dX11_input_0 rfl (lv_at hl 1 rfl) ?_
  refine lv_if_lt (tgt := 10) hx hb dX11_input_1 (by decide) (fun c_1 => ?_) (fun c_1 => ?_)
  · have h := ip (c_1) h
    obtain ⟨e9, rfl⟩ := so9 h
    exact hT_10 e9.symm _ _ _ hS hl.1
  · have h := im (c_1) h
    refine lv_iload_n hx hb dX11_input_4 rfl (lv_at hl 1 rfl) ?_
    refine lv_bipush (v := 64) hx hb dX11_input_5 (by decide) ?_
    refine lv_icmp_lt (tgt := 20) hx hb dX11_input_7 (by decide) (fun c_2 => ?_) (fun c_2 => ?_)
    · have h := ip (c_2) h
      refine lv_aload_n hx hb dX11_input_20 rfl (lv_at hl 0 rfl) ?_
      refine cg_X11_34 X hS dX11_input_21 ?_
      refine cg_X11_168 X hS dX11_input_24 ?_
      refine lv_iconst (v := 0) hx hb dX11_input_27 (by decide) ?_
      obtain ⟨i_3, h⟩ := ix_of h
      refine cq_rows X hS i_3 dX11_input_28 ?_
      refine lv_iload_n hx hb dX11_input_29 rfl (lv_at hl 1 rfl) ?_
      refine lv_iload_n hx hb dX11_input_30 rfl (lv_at hl 2 rfl) ?_
      refine lv_sipush (v := 255) hx hb dX11_input_31 (by decide) ?_
      refine lv_iand hx hb dX11_input_34 ?_
      obtain ⟨u_5, e_u_5, i_4, h⟩ := wc_of h
      refine cs_i X (vpin_lt i_3) hS i_4 e_u_5 dX11_input_35 (fun H locs hS => ?_)
      obtain ⟨e9, rfl⟩ := so9 h
      exact hE _ e9.symm _ _ _ _ hS dX11_input_36
    · have h := im (c_2) h
      obtain ⟨e9, rfl⟩ := so9 h
      exact hT_10 e9.symm _ _ _ hS hl.1
def F_X11_input (N : Nat) (l1 : Int32) (l2 : Int32) (u : CSt) : Option ((Sum Nat Int32) × CSt) := B_X11_input_0 N l1 l2 u
set_option maxHeartbeats 4000000 in
theorem k_X11_input (l : Launch) (hst : l.stackTraces = false) (D : va_G) (kA : Nat → ClassId) (V Z : Nat → Nat) (N : Nat) (l1 : Int32) (l2 : Int32) (u : CSt) (sz : Nat) {y : (Sum Nat Int32)} {w : CSt} (h : F_X11_input N l1 l2 u = some (y, w)) : vx_Met l yX11_input (Cond.code yX11_input cX11_input 3 none :: GW) { frames := 6, cells := 1, slots := 6, locals := 100 } (cPc D kA V Z [.ref (Z 200), .int l1, .int l2] u sz) (cQvx D kA Z u sz y w) (cXc D kA Z u sz y w) 1 6 (va_A (CW kA Z u) sz) := by
  refine vx_ofW (cc := cX11_input) (maxL := 3) (ret := none) (by decide) rfl ?_
  intro p e s m args below meth c s₁ Bd hml hxt hv
  obtain ⟨rfl, hsz, hP, hK, hD0, hE⟩ := hv
  have hts := atoms_spec (ws := Cond.code yX11_input cX11_input 3 none :: GW) Bd.pre
  have hl := lv_entry ([.ref (Z 200), .int l1, .int l2]) (n := 3) (Nat.le_of_ble_eq_true rfl)
  rw [lg_entry_eq]
  generalize (lg_sl ([.ref (Z 200), .int l1, .int l2]) ++ List.replicate (3 - (lg_sl ([.ref (Z 200), .int l1, .int l2])).length) Slot.unset).toArray = ls at hl ⊢
  have hl : lv_has ls 3 [(0, .ref (Z 200)), (1, .int l1), (2, .int l2)] := hl
  subst hsz
  have X : CC p s m ([.ref (Z 200), .int l1, .int l2]).toArray c cX11_input 3 (Cond.code yX11_input cX11_input 3 none) RX11 D kA V (va_A (CW kA Z u) s.heap.size) := ⟨⟨Bd.exec, Bd.bytes, hml, findClass_of_methodNamed Bd.named, hts⟩, hK, hE, fun q h => Or.inr h⟩
  refine b_X11_input_0 X (cend_vx X Bd.returns Bd.notSynchronized) hst (cend_X X hxt Bd.notSynchronized) ⟨Nat.le_refl _, Nat.le_refl _⟩ (fun hy H locs ls hS hls => cx_throw (x := 2) Bd.exec Bd.bytes hst (findClass_of_methodNamed Bd.named) (by decide +kernel) (by decide +kernel) X hS hy rfl gw_1636 gw_29 (evr_5 hE.2.1) xat_IndexOutOfBoundsException xgo_IndexOutOfBoundsException (by rw [hml]; exact hls) dX11_input_10 dX11_input_13 dX11_input_14 dX11_input_16 dX11_input_19 hxt (Nat.le_of_ble_eq_true rfl) (Nat.le_of_ble_eq_true rfl) (Nat.le_of_ble_eq_true rfl) (Nat.le_of_ble_eq_true rfl) Bd.notSynchronized (Nat.le_of_ble_eq_true rfl) (Nat.le_of_ble_eq_true rfl)) (Nat.le_refl _) (Nat.le_refl _) h  ⟨hP, hD0.self, va_S.rf⟩ (lv_sub hl [0, 1, 2] rfl)
def B_X11_look_0 (N : Nat) (l1 : Int32) (l2 : Int32) (u : CSt) : Option ((Sum Nat Int32) × CSt) := if l1 < (0 : Int32) then (some (.inl 1, u)) else (if l1 ≤ (7 : Int32) then (if l2 < (0 : Int32) then (some (.inl 2, u)) else (if l2 < (64 : Int32) then (ix 8 l1 <| rd (cA u (211 + l1.toNatClampNeg)) 64 l2 fun v_7 => some (.inr v_7, u)) else (some (.inl 2, u)))) else (some (.inl 1, u)))
set_option maxHeartbeats 4000000 in
theorem b_X11_look_0 {y : (Sum Nat Int32)} (X : CC p s m args c cX11_look 3 (Cond.code yX11_look cX11_look 3 (some .int)) RX11 D kA V A) (hE : CEix p l e R s m args below meth c cX11_look D kA Z A Q y w) (hst : l.stackTraces = false) (hX : CX p l e R s m args below meth c D kA Z A Q y w) (hC : 1 ≤ R.cells ∧ 6 ≤ R.slots) (hT_10 : y = .inl 1 → ∀ (H : Heap) (locs : List Loc) (ls : Array Slot), CS D kA Z A s w H locs → ls.size = 3 → W p l e R s m args below meth c H locs 0 0 Q (F0 m 10 ls [])) (hT_30 : y = .inl 2 → ∀ (H : Heap) (locs : List Loc) (ls : Array Slot), CS D kA Z A s w H locs → ls.size = 3 → W p l e R s m args below meth c H locs 0 0 Q (F0 m 30 ls [])) (hF : 6 ≤ R.frames) (hL : 100 ≤ R.locals) {l1 : Int32} {l2 : Int32} {u : CSt}  (h : B_X11_look_0 N l1 l2 u = some (y, w))  (hS : CS D kA Z A s u H locs) (hl : lv_has ls 3 [(0, .ref (Z 200)), (1, .int l1), (2, .int l2)]) : W p l e R s m args below meth c H locs 0 0 Q (F0 m 0 ls []) := by
  obtain ⟨⟨hx, hb, hml, hown, hts⟩, hK, hEV, hA⟩ := id X
  have hG : ∀ w ∈ GW, w.before args s = true := fun w h => hts w (List.mem_cons_of_mem _ h)
  unfold B_X11_look_0 at h
  refine lv_iload_n hx hb dX11_look_0 rfl (lv_at hl 1 rfl) ?_
  refine lv_if_lt (tgt := 10) hx hb dX11_look_1 (by decide) (fun c_1 => ?_) (fun c_1 => ?_)
  · have h := ip (c_1) h
    obtain ⟨e9, rfl⟩ := so9 h
    exact hT_10 e9.symm _ _ _ hS hl.1
  · have h := im (c_1) h
    refine lv_iload_n hx hb dX11_look_4 rfl (lv_at hl 1 rfl) ?_
    refine lv_bipush (v := 7) hx hb dX11_look_5 (by decide) ?_
    refine lv_icmp_le (tgt := 20) hx hb dX11_look_7 (by decide) (fun c_2 => ?_) (fun c_2 => ?_)
    · have h := ip (c_2) h
      refine lv_iload_n hx hb dX11_look_20 rfl (lv_at hl 2 rfl) ?_
      refine lv_if_lt (tgt := 30) hx hb dX11_look_21 (by decide) (fun c_3 => ?_) (fun c_3 => ?_)
      · have h := ip (c_3) h
        obtain ⟨e9, rfl⟩ := so9 h
        exact hT_30 e9.symm _ _ _ hS hl.1
      · have h := im (c_3) h
        refine lv_iload_n hx hb dX11_look_24 rfl (lv_at hl 2 rfl) ?_
        refine lv_bipush (v := 64) hx hb dX11_look_25 (by decide) ?_
        refine lv_icmp_lt (tgt := 40) hx hb dX11_look_27 (by decide) (fun c_4 => ?_) (fun c_4 => ?_)
        · have h := ip (c_4) h
          refine lv_aload_n hx hb dX11_look_40 rfl (lv_at hl 0 rfl) ?_
          refine cg_X11_34 X hS dX11_look_41 ?_
          refine cg_X11_168 X hS dX11_look_44 ?_
          refine lv_iload_n hx hb dX11_look_47 rfl (lv_at hl 1 rfl) ?_
          obtain ⟨i_5, h⟩ := ix_of h
          refine cq_rows X hS i_5 dX11_look_48 ?_
          refine lv_iload_n hx hb dX11_look_49 rfl (lv_at hl 2 rfl) ?_
          obtain ⟨v_7, e_v_7, i_6, h⟩ := rd_of h
          refine ca_i X (vpin_lt i_5) hS i_6 e_v_7 dX11_look_50 ?_
          obtain ⟨e9, rfl⟩ := so9 h
          exact hE _ e9.symm _ _ _ _ hS dX11_look_51
        · have h := im (c_4) h
          obtain ⟨e9, rfl⟩ := so9 h
          exact hT_30 e9.symm _ _ _ hS hl.1
    · have h := im (c_2) h
      obtain ⟨e9, rfl⟩ := so9 h
      exact hT_10 e9.symm _ _ _ hS hl.1
def F_X11_look (N : Nat) (l1 : Int32) (l2 : Int32) (u : CSt) : Option ((Sum Nat Int32) × CSt) := B_X11_look_0 N l1 l2 u
set_option maxHeartbeats 4000000 in
theorem k_X11_look (l : Launch) (hst : l.stackTraces = false) (D : va_G) (kA : Nat → ClassId) (V Z : Nat → Nat) (N : Nat) (l1 : Int32) (l2 : Int32) (u : CSt) (sz : Nat) {y : (Sum Nat Int32)} {w : CSt} (h : F_X11_look N l1 l2 u = some (y, w)) : vx_Met l yX11_look (Cond.code yX11_look cX11_look 3 (some .int) :: GW) { frames := 6, cells := 1, slots := 6, locals := 100 } (cPc D kA V Z [.ref (Z 200), .int l1, .int l2] u sz) (cQix D kA Z u sz y w) (cXc D kA Z u sz y w) 1 6 (va_A (CW kA Z u) sz) := by
  refine vx_ofW (cc := cX11_look) (maxL := 3) (ret := (some .int)) (by decide) rfl ?_
  intro p e s m args below meth c s₁ Bd hml hxt hv
  obtain ⟨rfl, hsz, hP, hK, hD0, hE⟩ := hv
  have hts := atoms_spec (ws := Cond.code yX11_look cX11_look 3 (some .int) :: GW) Bd.pre
  have hl := lv_entry ([.ref (Z 200), .int l1, .int l2]) (n := 3) (Nat.le_of_ble_eq_true rfl)
  rw [lg_entry_eq]
  generalize (lg_sl ([.ref (Z 200), .int l1, .int l2]) ++ List.replicate (3 - (lg_sl ([.ref (Z 200), .int l1, .int l2])).length) Slot.unset).toArray = ls at hl ⊢
  have hl : lv_has ls 3 [(0, .ref (Z 200)), (1, .int l1), (2, .int l2)] := hl
  subst hsz
  have X : CC p s m ([.ref (Z 200), .int l1, .int l2]).toArray c cX11_look 3 (Cond.code yX11_look cX11_look 3 (some .int)) RX11 D kA V (va_A (CW kA Z u) s.heap.size) := ⟨⟨Bd.exec, Bd.bytes, hml, findClass_of_methodNamed Bd.named, hts⟩, hK, hE, fun q h => Or.inr h⟩
  refine b_X11_look_0 X (cend_ix X Bd.returns Bd.notSynchronized) hst (cend_X X hxt Bd.notSynchronized) ⟨Nat.le_refl _, Nat.le_refl _⟩ (fun hy H locs ls hS hls => cx_throw (x := 1) Bd.exec Bd.bytes hst (findClass_of_methodNamed Bd.named) (by decide +kernel) (by decide +kernel) X hS hy rfl gw_1467 gw_26 (evr_6 hE.2.1) xat_IllegalArgumentException xgo_IllegalArgumentException (by rw [hml]; exact hls) dX11_look_10 dX11_look_13 dX11_look_14 dX11_look_16 dX11_look_19 hxt (Nat.le_of_ble_eq_true rfl) (Nat.le_of_ble_eq_true rfl) (Nat.le_of_ble_eq_true rfl) (Nat.le_of_ble_eq_true rfl) Bd.notSynchronized (Nat.le_of_ble_eq_true rfl) (Nat.le_of_ble_eq_true rfl)) (fun hy H locs ls hS hls => cx_throw (x := 2) Bd.exec Bd.bytes hst (findClass_of_methodNamed Bd.named) (by decide +kernel) (by decide +kernel) X hS hy rfl gw_1636 gw_29 (evr_5 hE.2.1) xat_IndexOutOfBoundsException xgo_IndexOutOfBoundsException (by rw [hml]; exact hls) dX11_look_30 dX11_look_33 dX11_look_34 dX11_look_36 dX11_look_39 hxt (Nat.le_of_ble_eq_true rfl) (Nat.le_of_ble_eq_true rfl) (Nat.le_of_ble_eq_true rfl) (Nat.le_of_ble_eq_true rfl) Bd.notSynchronized (Nat.le_of_ble_eq_true rfl) (Nat.le_of_ble_eq_true rfl)) (Nat.le_refl _) (Nat.le_refl _) h  ⟨hP, hD0.self, va_S.rf⟩ (lv_sub hl [0, 1, 2] rfl)
def B_X11_force_62 (N : Nat) (l2 : Int32) (l3 : Int32) (l4 : Int32) (s1 : Int32) (u : CSt) : Option ((Sum Nat Int32) × CSt) := ix 8 s1 <| wc 64 l2 (xA u (211 + s1.toNatClampNeg) l2.toNatClampNeg ((l3 &&& l4) &&& 255)) fun u_3 => some (.inr 0, u_3)
set_option maxHeartbeats 4000000 in
theorem b_X11_force_62 {y : (Sum Nat Int32)} (X : CC p s m args c cX11_force 5 (Cond.code yX11_force cX11_force 5 none) RX11 D kA V A) (hE : CEvx p l e R s m args below meth c cX11_force D kA Z A Q y w) (hst : l.stackTraces = false) (hX : CX p l e R s m args below meth c D kA Z A Q y w) (hC : 1 ≤ R.cells ∧ 6 ≤ R.slots) (hT_10 : y = .inl 2 → ∀ (H : Heap) (locs : List Loc) (ls : Array Slot), CS D kA Z A s w H locs → ls.size = 5 → W p l e R s m args below meth c H locs 0 0 Q (F0 m 10 ls [])) (hF : 6 ≤ R.frames) (hL : 100 ≤ R.locals) {l2 : Int32} {l3 : Int32} {l4 : Int32} {s1 : Int32} {u : CSt}  (h : B_X11_force_62 N l2 l3 l4 s1 u = some (y, w))  (hS : CS D kA Z A s u H locs) (hl : lv_has ls 5 [(2, .int l2), (3, .int l3), (4, .int l4)]) : W p l e R s m args below meth c H locs 0 0 Q (F0 m 62 ls [.int s1, .ref (Z 210)]) := by
  obtain ⟨⟨hx, hb, hml, hown, hts⟩, hK, hEV, hA⟩ := id X
  have hG : ∀ w ∈ GW, w.before args s = true := fun w h => hts w (List.mem_cons_of_mem _ h)
  unfold B_X11_force_62 at h
  obtain ⟨i_1, h⟩ := ix_of h
  refine cq_rows X hS i_1 dX11_force_62 ?_
  refine lv_iload_n hx hb dX11_force_63 rfl (lv_at hl 0 rfl) ?_
  refine lv_iload_n hx hb dX11_force_64 rfl (lv_at hl 1 rfl) ?_
  refine lv_iload hx hb dX11_force_65 (lv_at hl 2 rfl) ?_
  refine lv_iand hx hb dX11_force_67 ?_
  refine lv_sipush (v := 255) hx hb dX11_force_68 (by decide) ?_
  refine lv_iand hx hb dX11_force_71 ?_
  obtain ⟨u_3, e_u_3, i_2, h⟩ := wc_of h
  refine cs_i X (vpin_lt i_1) hS i_2 e_u_3 dX11_force_72 (fun H locs hS => ?_)
  obtain ⟨e9, rfl⟩ := so9 h
  exact hE _ e9.symm _ _ _ _ hS dX11_force_73
def B_X11_force_36 (N : Nat) (l1 : Int32) (l2 : Int32) (l3 : Int32) (l4 : Int32) (s1 : Int32) (u : CSt) : Option ((Sum Nat Int32) × CSt) := ix 8 s1 <| wc 64 l2 (xA u (211 + s1.toNatClampNeg) l2.toNatClampNeg (l3 &&& 255)) fun u_6 => if l1 = (0 : Int32) then (B_X11_force_62 N l2 l3 l4 6 u_6) else (B_X11_force_62 N l2 l3 l4 7 u_6)
set_option maxHeartbeats 4000000 in
theorem b_X11_force_36 {y : (Sum Nat Int32)} (X : CC p s m args c cX11_force 5 (Cond.code yX11_force cX11_force 5 none) RX11 D kA V A) (hE : CEvx p l e R s m args below meth c cX11_force D kA Z A Q y w) (hst : l.stackTraces = false) (hX : CX p l e R s m args below meth c D kA Z A Q y w) (hC : 1 ≤ R.cells ∧ 6 ≤ R.slots) (hT_10 : y = .inl 2 → ∀ (H : Heap) (locs : List Loc) (ls : Array Slot), CS D kA Z A s w H locs → ls.size = 5 → W p l e R s m args below meth c H locs 0 0 Q (F0 m 10 ls [])) (hF : 6 ≤ R.frames) (hL : 100 ≤ R.locals) {l1 : Int32} {l2 : Int32} {l3 : Int32} {l4 : Int32} {s1 : Int32} {u : CSt}  (h : B_X11_force_36 N l1 l2 l3 l4 s1 u = some (y, w))  (hS : CS D kA Z A s u H locs) (hl : lv_has ls 5 [(0, .ref (Z 200)), (1, .int l1), (2, .int l2), (3, .int l3), (4, .int l4)]) : W p l e R s m args below meth c H locs 0 0 Q (F0 m 36 ls [.int s1, .ref (Z 210)]) := by
  obtain ⟨⟨hx, hb, hml, hown, hts⟩, hK, hEV, hA⟩ := id X
  have hG : ∀ w ∈ GW, w.before args s = true := fun w h => hts w (List.mem_cons_of_mem _ h)
  unfold B_X11_force_36 at h
  obtain ⟨i_4, h⟩ := ix_of h
  refine cq_rows X hS i_4 dX11_force_36 ?_
  refine lv_iload_n hx hb dX11_force_37 rfl (lv_at hl 2 rfl) ?_
  refine lv_iload_n hx hb dX11_force_38 rfl (lv_at hl 3 rfl) ?_
  refine lv_sipush (v := 255) hx hb dX11_force_39 (by decide) ?_
  refine lv_iand hx hb dX11_force_42 ?_
  obtain ⟨u_6, e_u_6, i_5, h⟩ := wc_of h
  refine cs_i X (vpin_lt i_4) hS i_5 e_u_6 dX11_force_43 (fun H locs hS => ?_)
  refine lv_aload_n hx hb dX11_force_44 rfl (lv_at hl 0 rfl) ?_
  refine cg_X11_34 X hS dX11_force_45 ?_
  refine cg_X11_168 X hS dX11_force_48 ?_
  refine lv_iload_n hx hb dX11_force_51 rfl (lv_at hl 1 rfl) ?_
  refine lv_if_eq (tgt := 60) hx hb dX11_force_52 (by decide) (fun c_7 => ?_) (fun c_7 => ?_)
  · have h := ip (c_7) h
    refine lv_bipush (v := 6) hx hb dX11_force_60 (by decide) ?_
    exact b_X11_force_62 X hE hst hX hC hT_10 hF hL  h  hS (lv_sub hl [2, 3, 4] rfl)
  · have h := im (c_7) h
    refine lv_bipush (v := 7) hx hb dX11_force_55 (by decide) ?_
    refine lv_goto (tgt := 62) hx hb dX11_force_57 (by decide) ?_
    exact b_X11_force_62 X hE hst hX hC hT_10 hF hL  h  hS (lv_sub hl [2, 3, 4] rfl)
def B_X11_force_0 (N : Nat) (l1 : Int32) (l2 : Int32) (l3 : Int32) (l4 : Int32) (u : CSt) : Option ((Sum Nat Int32) × CSt) := if l2 < (0 : Int32) then (some (.inl 2, u)) else (if l2 < (64 : Int32) then (if l1 = (0 : Int32) then (B_X11_force_36 N l1 l2 l3 l4 4 u) else (B_X11_force_36 N l1 l2 l3 l4 5 u)) else (some (.inl 2, u)))
set_option maxHeartbeats 4000000 in
theorem b_X11_force_0 {y : (Sum Nat Int32)} (X : CC p s m args c cX11_force 5 (Cond.code yX11_force cX11_force 5 none) RX11 D kA V A) (hE : CEvx p l e R s m args below meth c cX11_force D kA Z A Q y w) (hst : l.stackTraces = false) (hX : CX p l e R s m args below meth c D kA Z A Q y w) (hC : 1 ≤ R.cells ∧ 6 ≤ R.slots) (hT_10 : y = .inl 2 → ∀ (H : Heap) (locs : List Loc) (ls : Array Slot), CS D kA Z A s w H locs → ls.size = 5 → W p l e R s m args below meth c H locs 0 0 Q (F0 m 10 ls [])) (hF : 6 ≤ R.frames) (hL : 100 ≤ R.locals) {l1 : Int32} {l2 : Int32} {l3 : Int32} {l4 : Int32} {u : CSt}  (h : B_X11_force_0 N l1 l2 l3 l4 u = some (y, w))  (hS : CS D kA Z A s u H locs) (hl : lv_has ls 5 [(0, .ref (Z 200)), (1, .int l1), (2, .int l2), (3, .int l3), (4, .int l4)]) : W p l e R s m args below meth c H locs 0 0 Q (F0 m 0 ls []) := by
  obtain ⟨⟨hx, hb, hml, hown, hts⟩, hK, hEV, hA⟩ := id X
  have hG : ∀ w ∈ GW, w.before args s = true := fun w h => hts w (List.mem_cons_of_mem _ h)
  unfold B_X11_force_0 at h
  refine lv_iload_n hx hb dX11_force_0 rfl (lv_at hl 2 rfl) ?_
  refine lv_if_lt (tgt := 10) hx hb dX11_force_1 (by decide) (fun c_8 => ?_) (fun c_8 => ?_)
  · have h := ip (c_8) h
    obtain ⟨e9, rfl⟩ := so9 h
    exact hT_10 e9.symm _ _ _ hS hl.1
  · have h := im (c_8) h
    refine lv_iload_n hx hb dX11_force_4 rfl (lv_at hl 2 rfl) ?_
    refine lv_bipush (v := 64) hx hb dX11_force_5 (by decide) ?_
    refine lv_icmp_lt (tgt := 20) hx hb dX11_force_7 (by decide) (fun c_9 => ?_) (fun c_9 => ?_)
    · have h := ip (c_9) h
      refine lv_aload_n hx hb dX11_force_20 rfl (lv_at hl 0 rfl) ?_
      refine cg_X11_34 X hS dX11_force_21 ?_
      refine cg_X11_168 X hS dX11_force_24 ?_
      refine lv_iload_n hx hb dX11_force_27 rfl (lv_at hl 1 rfl) ?_
      refine lv_if_eq (tgt := 35) hx hb dX11_force_28 (by decide) (fun c_10 => ?_) (fun c_10 => ?_)
      · have h := ip (c_10) h
        refine lv_iconst (v := 4) hx hb dX11_force_35 (by decide) ?_
        exact b_X11_force_36 X hE hst hX hC hT_10 hF hL  h  hS (lv_sub hl [0, 1, 2, 3, 4] rfl)
      · have h := im (c_10) h
        refine lv_iconst (v := 5) hx hb dX11_force_31 (by decide) ?_
        refine lv_goto (tgt := 36) hx hb dX11_force_32 (by decide) ?_
        exact b_X11_force_36 X hE hst hX hC hT_10 hF hL  h  hS (lv_sub hl [0, 1, 2, 3, 4] rfl)
    · have h := im (c_9) h
      obtain ⟨e9, rfl⟩ := so9 h
      exact hT_10 e9.symm _ _ _ hS hl.1
def F_X11_force (N : Nat) (l1 : Int32) (l2 : Int32) (l3 : Int32) (l4 : Int32) (u : CSt) : Option ((Sum Nat Int32) × CSt) := B_X11_force_0 N l1 l2 l3 l4 u
set_option maxHeartbeats 4000000 in
theorem k_X11_force (l : Launch) (hst : l.stackTraces = false) (D : va_G) (kA : Nat → ClassId) (V Z : Nat → Nat) (N : Nat) (l1 : Int32) (l2 : Int32) (l3 : Int32) (l4 : Int32) (u : CSt) (sz : Nat) {y : (Sum Nat Int32)} {w : CSt} (h : F_X11_force N l1 l2 l3 l4 u = some (y, w)) : vx_Met l yX11_force (Cond.code yX11_force cX11_force 5 none :: GW) { frames := 6, cells := 1, slots := 6, locals := 100 } (cPc D kA V Z [.ref (Z 200), .int l1, .int l2, .int l3, .int l4] u sz) (cQvx D kA Z u sz y w) (cXc D kA Z u sz y w) 1 6 (va_A (CW kA Z u) sz) := by
  refine vx_ofW (cc := cX11_force) (maxL := 5) (ret := none) (by decide) rfl ?_
  intro p e s m args below meth c s₁ Bd hml hxt hv
  obtain ⟨rfl, hsz, hP, hK, hD0, hE⟩ := hv
  have hts := atoms_spec (ws := Cond.code yX11_force cX11_force 5 none :: GW) Bd.pre
  have hl := lv_entry ([.ref (Z 200), .int l1, .int l2, .int l3, .int l4]) (n := 5) (Nat.le_of_ble_eq_true rfl)
  rw [lg_entry_eq]
  generalize (lg_sl ([.ref (Z 200), .int l1, .int l2, .int l3, .int l4]) ++ List.replicate (5 - (lg_sl ([.ref (Z 200), .int l1, .int l2, .int l3, .int l4])).length) Slot.unset).toArray = ls at hl ⊢
  have hl : lv_has ls 5 [(0, .ref (Z 200)), (1, .int l1), (2, .int l2), (3, .int l3), (4, .int l4)] := hl
  subst hsz
  have X : CC p s m ([.ref (Z 200), .int l1, .int l2, .int l3, .int l4]).toArray c cX11_force 5 (Cond.code yX11_force cX11_force 5 none) RX11 D kA V (va_A (CW kA Z u) s.heap.size) := ⟨⟨Bd.exec, Bd.bytes, hml, findClass_of_methodNamed Bd.named, hts⟩, hK, hE, fun q h => Or.inr h⟩
  refine b_X11_force_0 X (cend_vx X Bd.returns Bd.notSynchronized) hst (cend_X X hxt Bd.notSynchronized) ⟨Nat.le_refl _, Nat.le_refl _⟩ (fun hy H locs ls hS hls => cx_throw (x := 2) Bd.exec Bd.bytes hst (findClass_of_methodNamed Bd.named) (by decide +kernel) (by decide +kernel) X hS hy rfl gw_1636 gw_29 (evr_5 hE.2.1) xat_IndexOutOfBoundsException xgo_IndexOutOfBoundsException (by rw [hml]; exact hls) dX11_force_10 dX11_force_13 dX11_force_14 dX11_force_16 dX11_force_19 hxt (Nat.le_of_ble_eq_true rfl) (Nat.le_of_ble_eq_true rfl) (Nat.le_of_ble_eq_true rfl) (Nat.le_of_ble_eq_true rfl) Bd.notSynchronized (Nat.le_of_ble_eq_true rfl) (Nat.le_of_ble_eq_true rfl)) (Nat.le_refl _) (Nat.le_refl _) h  ⟨hP, hD0.self, va_S.rf⟩ (lv_sub hl [0, 1, 2, 3, 4] rfl)
def B_X11_watchdog_0 (N : Nat) (l1 : Int32) (u : CSt) : Option ((Sum Nat Int32) × CSt) := if l1 < (1 : Int32) then (some (.inl 1, u)) else (if l1 ≤ (5000 : Int32) then (pc (xI u 2 l1) fun u_3 => some (.inr 0, u_3)) else (some (.inl 1, u)))
set_option maxHeartbeats 4000000 in
theorem b_X11_watchdog_0 {y : (Sum Nat Int32)} (X : CC p s m args c cX11_watchdog 2 (Cond.code yX11_watchdog cX11_watchdog 2 none) RX11 D kA V A) (hE : CEvx p l e R s m args below meth c cX11_watchdog D kA Z A Q y w) (hst : l.stackTraces = false) (hX : CX p l e R s m args below meth c D kA Z A Q y w) (hC : 1 ≤ R.cells ∧ 6 ≤ R.slots) (hT_12 : y = .inl 1 → ∀ (H : Heap) (locs : List Loc) (ls : Array Slot), CS D kA Z A s w H locs → ls.size = 2 → W p l e R s m args below meth c H locs 0 0 Q (F0 m 12 ls [])) (hF : 6 ≤ R.frames) (hL : 100 ≤ R.locals) {l1 : Int32} {u : CSt}  (h : B_X11_watchdog_0 N l1 u = some (y, w))  (hS : CS D kA Z A s u H locs) (hl : lv_has ls 2 [(0, .ref (Z 200)), (1, .int l1)]) : W p l e R s m args below meth c H locs 0 0 Q (F0 m 0 ls []) := by
  obtain ⟨⟨hx, hb, hml, hown, hts⟩, hK, hEV, hA⟩ := id X
  have hG : ∀ w ∈ GW, w.before args s = true := fun w h => hts w (List.mem_cons_of_mem _ h)
  unfold B_X11_watchdog_0 at h
  refine lv_iload_n hx hb dX11_watchdog_0 rfl (lv_at hl 1 rfl) ?_
  refine lv_iconst (v := 1) hx hb dX11_watchdog_1 (by decide) ?_
  refine lv_icmp_lt (tgt := 12) hx hb dX11_watchdog_2 (by decide) (fun c_1 => ?_) (fun c_1 => ?_)
  · have h := ip (c_1) h
    obtain ⟨e9, rfl⟩ := so9 h
    exact hT_12 e9.symm _ _ _ hS hl.1
  · have h := im (c_1) h
    refine lv_iload_n hx hb dX11_watchdog_5 rfl (lv_at hl 1 rfl) ?_
    refine lv_sipush (v := 5000) hx hb dX11_watchdog_6 (by decide) ?_
    refine lv_icmp_le (tgt := 22) hx hb dX11_watchdog_9 (by decide) (fun c_2 => ?_) (fun c_2 => ?_)
    · have h := ip (c_2) h
      refine lv_aload_n hx hb dX11_watchdog_22 rfl (lv_at hl 0 rfl) ?_
      refine lv_iload_n hx hb dX11_watchdog_23 rfl (lv_at hl 1 rfl) ?_
      obtain ⟨u_3, e_u_3, h⟩ := pc_of h
      refine cp_X11_73 X hS e_u_3 dX11_watchdog_24 (fun H locs hS => ?_)
      obtain ⟨e9, rfl⟩ := so9 h
      exact hE _ e9.symm _ _ _ _ hS dX11_watchdog_27
    · have h := im (c_2) h
      obtain ⟨e9, rfl⟩ := so9 h
      exact hT_12 e9.symm _ _ _ hS hl.1
def F_X11_watchdog (N : Nat) (l1 : Int32) (u : CSt) : Option ((Sum Nat Int32) × CSt) := B_X11_watchdog_0 N l1 u
set_option maxHeartbeats 4000000 in
theorem k_X11_watchdog (l : Launch) (hst : l.stackTraces = false) (D : va_G) (kA : Nat → ClassId) (V Z : Nat → Nat) (N : Nat) (l1 : Int32) (u : CSt) (sz : Nat) {y : (Sum Nat Int32)} {w : CSt} (h : F_X11_watchdog N l1 u = some (y, w)) : vx_Met l yX11_watchdog (Cond.code yX11_watchdog cX11_watchdog 2 none :: GW) { frames := 6, cells := 1, slots := 6, locals := 100 } (cPc D kA V Z [.ref (Z 200), .int l1] u sz) (cQvx D kA Z u sz y w) (cXc D kA Z u sz y w) 1 6 (va_A (CW kA Z u) sz) := by
  refine vx_ofW (cc := cX11_watchdog) (maxL := 2) (ret := none) (by decide) rfl ?_
  intro p e s m args below meth c s₁ Bd hml hxt hv
  obtain ⟨rfl, hsz, hP, hK, hD0, hE⟩ := hv
  have hts := atoms_spec (ws := Cond.code yX11_watchdog cX11_watchdog 2 none :: GW) Bd.pre
  have hl := lv_entry ([.ref (Z 200), .int l1]) (n := 2) (Nat.le_of_ble_eq_true rfl)
  rw [lg_entry_eq]
  generalize (lg_sl ([.ref (Z 200), .int l1]) ++ List.replicate (2 - (lg_sl ([.ref (Z 200), .int l1])).length) Slot.unset).toArray = ls at hl ⊢
  have hl : lv_has ls 2 [(0, .ref (Z 200)), (1, .int l1)] := hl
  subst hsz
  have X : CC p s m ([.ref (Z 200), .int l1]).toArray c cX11_watchdog 2 (Cond.code yX11_watchdog cX11_watchdog 2 none) RX11 D kA V (va_A (CW kA Z u) s.heap.size) := ⟨⟨Bd.exec, Bd.bytes, hml, findClass_of_methodNamed Bd.named, hts⟩, hK, hE, fun q h => Or.inr h⟩
  refine b_X11_watchdog_0 X (cend_vx X Bd.returns Bd.notSynchronized) hst (cend_X X hxt Bd.notSynchronized) ⟨Nat.le_refl _, Nat.le_refl _⟩ (fun hy H locs ls hS hls => cx_throw (x := 1) Bd.exec Bd.bytes hst (findClass_of_methodNamed Bd.named) (by decide +kernel) (by decide +kernel) X hS hy rfl gw_1467 gw_26 (evr_7 hE.2.1) xat_IllegalArgumentException xgo_IllegalArgumentException (by rw [hml]; exact hls) dX11_watchdog_12 dX11_watchdog_15 dX11_watchdog_16 dX11_watchdog_18 dX11_watchdog_21 hxt (Nat.le_of_ble_eq_true rfl) (Nat.le_of_ble_eq_true rfl) (Nat.le_of_ble_eq_true rfl) (Nat.le_of_ble_eq_true rfl) Bd.notSynchronized (Nat.le_of_ble_eq_true rfl) (Nat.le_of_ble_eq_true rfl)) (Nat.le_refl _) (Nat.le_refl _) h  ⟨hP, hD0.self, va_S.rf⟩ (lv_sub hl [0, 1] rfl)
def B_X11_clear_0 (N : Nat) (l1 : Int32) (u : CSt) : Option ((Sum Nat Int32) × CSt) := ok (cR u 0 < 2) inferInstance <| bc (F_X6_has N (cR u 0) 2 l1 u) fun r_3 u_2 => if r_3 = (0 : Int32) then (some (.inl 3, u_2)) else (ok (cR u_2 0 < 2) inferInstance <| ix 8 l1 <| ix 8 l1 <| pc (xtI u_2 (8 * (cR u_2 0) + l1.toNatClampNeg) 3 0) fun u_8 => zr (tI u_2 (8 * (cR u_2 0) + l1.toNatClampNeg) 3) <| some (.inr (tI u_2 (8 * (cR u_2 0) + l1.toNatClampNeg) 3), u_8))
set_option maxHeartbeats 4000000 in
theorem b_X11_clear_0 {y : (Sum Nat Int32)} (X : CC p s m args c cX11_clear 3 (Cond.code yX11_clear cX11_clear 3 (some .boolean)) RX11 D kA V A) (hE : CEzx p l e R s m args below meth c cX11_clear D kA Z A Q y w) (hst : l.stackTraces = false) (hX : CX p l e R s m args below meth c D kA Z A Q y w) (hC : 1 ≤ R.cells ∧ 6 ≤ R.slots) (hT_12 : y = .inl 3 → ∀ (H : Heap) (locs : List Loc) (ls : Array Slot), CS D kA Z A s w H locs → ls.size = 3 → W p l e R s m args below meth c H locs 0 0 Q (F0 m 12 ls [])) (hF : 6 ≤ R.frames) (hL : 100 ≤ R.locals) {l1 : Int32} {u : CSt}  (h : B_X11_clear_0 N l1 u = some (y, w))  (hS : CS D kA Z A s u H locs) (hl : lv_has ls 3 [(0, .ref (Z 200)), (1, .int l1)]) : W p l e R s m args below meth c H locs 0 0 Q (F0 m 0 ls []) := by
  obtain ⟨⟨hx, hb, hml, hown, hts⟩, hK, hEV, hA⟩ := id X
  have hG : ∀ w ∈ GW, w.before args s = true := fun w h => hts w (List.mem_cons_of_mem _ h)
  unfold B_X11_clear_0 at h
  refine lv_aload_n hx hb dX11_clear_0 rfl (lv_at hl 0 rfl) ?_
  refine cg_X11_48 X hS dX11_clear_1 ?_
  obtain ⟨z_1, h⟩ := ok_of h
  refine lv_iconst (v := 2) hx hb dX11_clear_4 (by decide) ?_
  refine lv_iload_n hx hb dX11_clear_5 rfl (lv_at hl 1 rfl) ?_
  obtain ⟨r_3, u_2, h_u_2, h⟩ := bc_of h
  refine kc_X6_has_RX11 X z_1 hS h_u_2 (Nat.le_trans (Nat.le_of_ble_eq_true rfl) hF) (Nat.le_trans (Nat.le_of_ble_eq_true rfl) hL) hl.1 (Nat.le_of_ble_eq_true rfl) dX11_clear_6 (fun H locs hS => ?_)
  refine lv_if_ne (tgt := 22) hx hb dX11_clear_9 (by decide) (fun c_4 => ?_) (fun c_4 => ?_)
  · have h := im (c_4) h
    refine lv_aload_n hx hb dX11_clear_22 rfl (lv_at hl 0 rfl) ?_
    refine cg_X11_48 X hS dX11_clear_23 ?_
    obtain ⟨z_5, h⟩ := ok_of h
    refine cg_X11_153 X z_5 hS dX11_clear_26 ?_
    refine lv_iload_n hx hb dX11_clear_29 rfl (lv_at hl 1 rfl) ?_
    obtain ⟨i_6, h⟩ := ix_of h
    refine cq_10 X z_5 hS i_6 dX11_clear_30 ?_
    refine cg_X11_157 X (bn_t z_5 i_6) hS dX11_clear_31 ?_
    refine lv_istore_n (lv' := [(2, .int (tI u_2 (8 * (cR u_2 0) + l1.toNatClampNeg) 3)), (0, .ref (Z 200)), (1, .int l1)]) hx hb dX11_clear_34 rfl hl (by decide) rfl (fun ls hl => ?_)
    refine lv_aload_n hx hb dX11_clear_35 rfl (lv_at hl 1 rfl) ?_
    refine cg_X11_48 X hS dX11_clear_36 ?_
    refine cg_X11_153 X z_5 hS dX11_clear_39 ?_
    refine lv_iload_n hx hb dX11_clear_42 rfl (lv_at hl 2 rfl) ?_
    obtain ⟨i_7, h⟩ := ix_of h
    refine cq_10 X z_5 hS i_7 dX11_clear_43 ?_
    refine lv_iconst (v := 0) hx hb dX11_clear_44 (by decide) ?_
    obtain ⟨u_8, e_u_8, h⟩ := pc_of h
    refine cp_X11_157 X (bn_t z_5 i_7) hS e_u_8 (Or.inl rfl) dX11_clear_45 (fun H locs hS => ?_)
    refine lv_iload_n hx hb dX11_clear_48 rfl (lv_at hl 0 rfl) ?_
    obtain ⟨hz, h⟩ := zr_of h
    obtain ⟨e9, rfl⟩ := so9 h
    exact hE _ e9.symm _ _ _ _ hS hz dX11_clear_49
  · have h := ip (c_4) h
    obtain ⟨e9, rfl⟩ := so9 h
    exact hT_12 e9.symm _ _ _ hS hl.1
def F_X11_clear (N : Nat) (l1 : Int32) (u : CSt) : Option ((Sum Nat Int32) × CSt) := B_X11_clear_0 N l1 u
set_option maxHeartbeats 4000000 in
theorem k_X11_clear (l : Launch) (hst : l.stackTraces = false) (D : va_G) (kA : Nat → ClassId) (V Z : Nat → Nat) (N : Nat) (l1 : Int32) (u : CSt) (sz : Nat) {y : (Sum Nat Int32)} {w : CSt} (h : F_X11_clear N l1 u = some (y, w)) : vx_Met l yX11_clear (Cond.code yX11_clear cX11_clear 3 (some .boolean) :: GW) { frames := 6, cells := 1, slots := 6, locals := 100 } (cPc D kA V Z [.ref (Z 200), .int l1] u sz) (cQix D kA Z u sz y w) (cXc D kA Z u sz y w) 1 6 (va_A (CW kA Z u) sz) := by
  refine vx_ofW (cc := cX11_clear) (maxL := 3) (ret := (some .boolean)) (by decide) rfl ?_
  intro p e s m args below meth c s₁ Bd hml hxt hv
  obtain ⟨rfl, hsz, hP, hK, hD0, hE⟩ := hv
  have hts := atoms_spec (ws := Cond.code yX11_clear cX11_clear 3 (some .boolean) :: GW) Bd.pre
  have hl := lv_entry ([.ref (Z 200), .int l1]) (n := 3) (Nat.le_of_ble_eq_true rfl)
  rw [lg_entry_eq]
  generalize (lg_sl ([.ref (Z 200), .int l1]) ++ List.replicate (3 - (lg_sl ([.ref (Z 200), .int l1])).length) Slot.unset).toArray = ls at hl ⊢
  have hl : lv_has ls 3 [(0, .ref (Z 200)), (1, .int l1)] := hl
  subst hsz
  have X : CC p s m ([.ref (Z 200), .int l1]).toArray c cX11_clear 3 (Cond.code yX11_clear cX11_clear 3 (some .boolean)) RX11 D kA V (va_A (CW kA Z u) s.heap.size) := ⟨⟨Bd.exec, Bd.bytes, hml, findClass_of_methodNamed Bd.named, hts⟩, hK, hE, fun q h => Or.inr h⟩
  refine b_X11_clear_0 X (cend_zx X Bd.returns Bd.notSynchronized) hst (cend_X X hxt Bd.notSynchronized) ⟨Nat.le_refl _, Nat.le_refl _⟩ (fun hy H locs ls hS hls => cx_throwN (x := 3) Bd.exec Bd.bytes hst hn_x0 hn_x1 hn_x2 hn_x5 (findClass_of_methodNamed Bd.named) (by decide +kernel) (by decide +kernel) (by decide +kernel) X hS hy rfl gw_1684 gw_30 (evr_8 hE.2.1) xat_NoSuchElementException xgo_NoSuchElementException (by rw [hml]; exact hls) dX11_clear_12 dX11_clear_15 dX11_clear_16 dX11_clear_18 dX11_clear_21 hxt (Nat.le_of_ble_eq_true rfl) (Nat.le_of_ble_eq_true rfl) (Nat.le_of_ble_eq_true rfl) (Nat.le_of_ble_eq_true rfl) Bd.notSynchronized (Nat.le_of_ble_eq_true rfl) (Nat.le_of_ble_eq_true rfl)) (Nat.le_refl _) (Nat.le_refl _) h  ⟨hP, hD0.self, va_S.rf⟩ (lv_sub hl [0, 1] rfl)
def B_X11_task_0 (N : Nat) (l1 : Int32) (l2 : Int32) (u : CSt) : Option ((Sum Nat Int32) × CSt) := ok (cR u 0 < 2) inferInstance <| bc (F_X6_has N (cR u 0) 2 l1 u) fun r_3 u_2 => if r_3 = (0 : Int32) then (some (.inl 3, u_2)) else (ok (cR u_2 0 < 2) inferInstance <| ix 8 l1 <| if l2 = 0 then (some (.inr (tI u_2 (8 * (cR u_2 0) + l1.toNatClampNeg) 0), u_2)) else (if l2 = 1 then (some (.inr (tI u_2 (8 * (cR u_2 0) + l1.toNatClampNeg) 1), u_2)) else (if l2 = 2 then (if (tI u_2 (8 * (cR u_2 0) + l1.toNatClampNeg) 3) = (0 : Int32) then (some (.inr 0, u_2)) else (some (.inr 1, u_2))) else (if l2 = 3 then (some (.inr (tI u_2 (8 * (cR u_2 0) + l1.toNatClampNeg) 4), u_2)) else (if l2 = 4 then (some (.inr (tI u_2 (8 * (cR u_2 0) + l1.toNatClampNeg) 5), u_2)) else (if l2 = 5 then (some (.inr (tI u_2 (8 * (cR u_2 0) + l1.toNatClampNeg) 6), u_2)) else (if l2 = 6 then (some (.inr (tI u_2 (8 * (cR u_2 0) + l1.toNatClampNeg) 7), u_2)) else (if l2 = 7 then (some (.inr (tI u_2 (8 * (cR u_2 0) + l1.toNatClampNeg) 8), u_2)) else (if l2 = 8 then (some (.inr (tI u_2 (8 * (cR u_2 0) + l1.toNatClampNeg) 9), u_2)) else (some (.inl 1, u_2)))))))))))
set_option maxHeartbeats 4000000 in
theorem b_X11_task_0 {y : (Sum Nat Int32)} (X : CC p s m args c cX11_task 4 (Cond.code yX11_task cX11_task 4 (some .int)) RX11 D kA V A) (hE : CEix p l e R s m args below meth c cX11_task D kA Z A Q y w) (hst : l.stackTraces = false) (hX : CX p l e R s m args below meth c D kA Z A Q y w) (hC : 1 ≤ R.cells ∧ 6 ≤ R.slots) (hT_12 : y = .inl 3 → ∀ (H : Heap) (locs : List Loc) (ls : Array Slot), CS D kA Z A s w H locs → ls.size = 4 → W p l e R s m args below meth c H locs 0 0 Q (F0 m 12 ls [])) (hT_137 : y = .inl 1 → ∀ (H : Heap) (locs : List Loc) (ls : Array Slot), CS D kA Z A s w H locs → ls.size = 4 → W p l e R s m args below meth c H locs 0 0 Q (F0 m 137 ls [])) (hF : 6 ≤ R.frames) (hL : 100 ≤ R.locals) {l1 : Int32} {l2 : Int32} {u : CSt}  (h : B_X11_task_0 N l1 l2 u = some (y, w))  (hS : CS D kA Z A s u H locs) (hl : lv_has ls 4 [(0, .ref (Z 200)), (1, .int l1), (2, .int l2)]) : W p l e R s m args below meth c H locs 0 0 Q (F0 m 0 ls []) := by
  obtain ⟨⟨hx, hb, hml, hown, hts⟩, hK, hEV, hA⟩ := id X
  have hG : ∀ w ∈ GW, w.before args s = true := fun w h => hts w (List.mem_cons_of_mem _ h)
  unfold B_X11_task_0 at h
  refine lv_aload_n hx hb dX11_task_0 rfl (lv_at hl 0 rfl) ?_
  refine cg_X11_48 X hS dX11_task_1 ?_
  obtain ⟨z_1, h⟩ := ok_of h
  refine lv_iconst (v := 2) hx hb dX11_task_4 (by decide) ?_
  refine lv_iload_n hx hb dX11_task_5 rfl (lv_at hl 1 rfl) ?_
  obtain ⟨r_3, u_2, h_u_2, h⟩ := bc_of h
  refine kc_X6_has_RX11 X z_1 hS h_u_2 (Nat.le_trans (Nat.le_of_ble_eq_true rfl) hF) (Nat.le_trans (Nat.le_of_ble_eq_true rfl) hL) hl.1 (Nat.le_of_ble_eq_true rfl) dX11_task_6 (fun H locs hS => ?_)
  refine lv_if_ne (tgt := 22) hx hb dX11_task_9 (by decide) (fun c_4 => ?_) (fun c_4 => ?_)
  · have h := im (c_4) h
    refine lv_aload_n hx hb dX11_task_22 rfl (lv_at hl 0 rfl) ?_
    refine cg_X11_48 X hS dX11_task_23 ?_
    obtain ⟨z_5, h⟩ := ok_of h
    refine cg_X11_153 X z_5 hS dX11_task_26 ?_
    refine lv_iload_n hx hb dX11_task_29 rfl (lv_at hl 1 rfl) ?_
    obtain ⟨i_6, h⟩ := ix_of h
    refine cq_10 X z_5 hS i_6 dX11_task_30 ?_
    refine lv_astore_n (lv' := [(3, .ref (Z (400 + (8 * (cR u_2 0) + l1.toNatClampNeg)))), (0, .ref (Z 200)), (1, .int l1), (2, .int l2)]) hx hb dX11_task_31 rfl hl (by decide) rfl (fun ls hl => ?_)
    refine lv_iload_n hx hb dX11_task_32 rfl (lv_at hl 3 rfl) ?_
    by_cases e_7 : l2 = 0
    · have h := ip e_7 h
      refine lv_tableIn (off := 51) (tgt := 84) hx hb dX11_task_33 (by rw [e_7]; decide) (by rw [e_7]; decide) (by rw [e_7]; rfl) (by decide) ?_
      refine lv_aload_n hx hb dX11_task_84 rfl (lv_at hl 0 rfl) ?_
      refine cg_X11_185 X (bn_t z_5 i_6) hS dX11_task_85 ?_
      obtain ⟨e9, rfl⟩ := so9 h
      exact hE _ e9.symm _ _ _ _ hS dX11_task_88
    have h := im e_7 h
    by_cases e_8 : l2 = 1
    · have h := ip e_8 h
      refine lv_tableIn (off := 56) (tgt := 89) hx hb dX11_task_33 (by rw [e_8]; decide) (by rw [e_8]; decide) (by rw [e_8]; rfl) (by decide) ?_
      refine lv_aload_n hx hb dX11_task_89 rfl (lv_at hl 0 rfl) ?_
      refine cg_X11_188 X (bn_t z_5 i_6) hS dX11_task_90 ?_
      obtain ⟨e9, rfl⟩ := so9 h
      exact hE _ e9.symm _ _ _ _ hS dX11_task_93
    have h := im e_8 h
    by_cases e_9 : l2 = 2
    · have h := ip e_9 h
      refine lv_tableIn (off := 61) (tgt := 94) hx hb dX11_task_33 (by rw [e_9]; decide) (by rw [e_9]; decide) (by rw [e_9]; rfl) (by decide) ?_
      refine lv_aload_n hx hb dX11_task_94 rfl (lv_at hl 0 rfl) ?_
      refine cg_X11_157 X (bn_t z_5 i_6) hS dX11_task_95 ?_
      refine lv_if_eq (tgt := 105) hx hb dX11_task_98 (by decide) (fun c_10 => ?_) (fun c_10 => ?_)
      · have h := ip (c_10) h
        refine lv_iconst (v := 0) hx hb dX11_task_105 (by decide) ?_
        obtain ⟨e9, rfl⟩ := so9 h
        exact hE _ e9.symm _ _ _ _ hS dX11_task_106
      · have h := im (c_10) h
        refine lv_iconst (v := 1) hx hb dX11_task_101 (by decide) ?_
        refine lv_goto (tgt := 106) hx hb dX11_task_102 (by decide) ?_
        obtain ⟨e9, rfl⟩ := so9 h
        exact hE _ e9.symm _ _ _ _ hS dX11_task_106
    have h := im e_9 h
    by_cases e_11 : l2 = 3
    · have h := ip e_11 h
      refine lv_tableIn (off := 74) (tgt := 107) hx hb dX11_task_33 (by rw [e_11]; decide) (by rw [e_11]; decide) (by rw [e_11]; rfl) (by decide) ?_
      refine lv_aload_n hx hb dX11_task_107 rfl (lv_at hl 0 rfl) ?_
      refine cg_X11_191 X (bn_t z_5 i_6) hS dX11_task_108 ?_
      obtain ⟨e9, rfl⟩ := so9 h
      exact hE _ e9.symm _ _ _ _ hS dX11_task_111
    have h := im e_11 h
    by_cases e_12 : l2 = 4
    · have h := ip e_12 h
      refine lv_tableIn (off := 79) (tgt := 112) hx hb dX11_task_33 (by rw [e_12]; decide) (by rw [e_12]; decide) (by rw [e_12]; rfl) (by decide) ?_
      refine lv_aload_n hx hb dX11_task_112 rfl (lv_at hl 0 rfl) ?_
      refine cg_X11_194 X (bn_t z_5 i_6) hS dX11_task_113 ?_
      obtain ⟨e9, rfl⟩ := so9 h
      exact hE _ e9.symm _ _ _ _ hS dX11_task_116
    have h := im e_12 h
    by_cases e_13 : l2 = 5
    · have h := ip e_13 h
      refine lv_tableIn (off := 84) (tgt := 117) hx hb dX11_task_33 (by rw [e_13]; decide) (by rw [e_13]; decide) (by rw [e_13]; rfl) (by decide) ?_
      refine lv_aload_n hx hb dX11_task_117 rfl (lv_at hl 0 rfl) ?_
      refine cg_X11_197 X (bn_t z_5 i_6) hS dX11_task_118 ?_
      obtain ⟨e9, rfl⟩ := so9 h
      exact hE _ e9.symm _ _ _ _ hS dX11_task_121
    have h := im e_13 h
    by_cases e_14 : l2 = 6
    · have h := ip e_14 h
      refine lv_tableIn (off := 89) (tgt := 122) hx hb dX11_task_33 (by rw [e_14]; decide) (by rw [e_14]; decide) (by rw [e_14]; rfl) (by decide) ?_
      refine lv_aload_n hx hb dX11_task_122 rfl (lv_at hl 0 rfl) ?_
      refine cg_X11_198 X (bn_t z_5 i_6) hS dX11_task_123 ?_
      obtain ⟨e9, rfl⟩ := so9 h
      exact hE _ e9.symm _ _ _ _ hS dX11_task_126
    have h := im e_14 h
    by_cases e_15 : l2 = 7
    · have h := ip e_15 h
      refine lv_tableIn (off := 94) (tgt := 127) hx hb dX11_task_33 (by rw [e_15]; decide) (by rw [e_15]; decide) (by rw [e_15]; rfl) (by decide) ?_
      refine lv_aload_n hx hb dX11_task_127 rfl (lv_at hl 0 rfl) ?_
      refine cg_X11_199 X (bn_t z_5 i_6) hS dX11_task_128 ?_
      obtain ⟨e9, rfl⟩ := so9 h
      exact hE _ e9.symm _ _ _ _ hS dX11_task_131
    have h := im e_15 h
    by_cases e_16 : l2 = 8
    · have h := ip e_16 h
      refine lv_tableIn (off := 99) (tgt := 132) hx hb dX11_task_33 (by rw [e_16]; decide) (by rw [e_16]; decide) (by rw [e_16]; rfl) (by decide) ?_
      refine lv_aload_n hx hb dX11_task_132 rfl (lv_at hl 0 rfl) ?_
      refine cg_X11_202 X (bn_t z_5 i_6) hS dX11_task_133 ?_
      obtain ⟨e9, rfl⟩ := so9 h
      exact hE _ e9.symm _ _ _ _ hS dX11_task_136
    have h := im e_16 h
    refine lv_tableDef (tgt := 137) hx hb dX11_task_33 (by decide) (fun off h1 h2 ho => by
      have hI : (l2).toInt = 0 ∨ (l2).toInt = 1 ∨ (l2).toInt = 2 ∨ (l2).toInt = 3 ∨ (l2).toInt = 4 ∨ (l2).toInt = 5 ∨ (l2).toInt = 6 ∨ (l2).toInt = 7 ∨ (l2).toInt = 8 := by omega
      rcases hI with q | q | q | q | q | q | q | q | q
      · exact absurd (Int32.toInt_inj.mp (q.trans (by decide))) e_7
      · exact absurd (Int32.toInt_inj.mp (q.trans (by decide))) e_8
      · exact absurd (Int32.toInt_inj.mp (q.trans (by decide))) e_9
      · exact absurd (Int32.toInt_inj.mp (q.trans (by decide))) e_11
      · exact absurd (Int32.toInt_inj.mp (q.trans (by decide))) e_12
      · exact absurd (Int32.toInt_inj.mp (q.trans (by decide))) e_13
      · exact absurd (Int32.toInt_inj.mp (q.trans (by decide))) e_14
      · exact absurd (Int32.toInt_inj.mp (q.trans (by decide))) e_15
      · exact absurd (Int32.toInt_inj.mp (q.trans (by decide))) e_16) (by decide) ?_
    obtain ⟨e9, rfl⟩ := so9 h
    exact hT_137 e9.symm _ _ _ hS hl.1
  · have h := ip (c_4) h
    obtain ⟨e9, rfl⟩ := so9 h
    exact hT_12 e9.symm _ _ _ hS hl.1
def F_X11_task (N : Nat) (l1 : Int32) (l2 : Int32) (u : CSt) : Option ((Sum Nat Int32) × CSt) := B_X11_task_0 N l1 l2 u
set_option maxHeartbeats 4000000 in
theorem k_X11_task (l : Launch) (hst : l.stackTraces = false) (D : va_G) (kA : Nat → ClassId) (V Z : Nat → Nat) (N : Nat) (l1 : Int32) (l2 : Int32) (u : CSt) (sz : Nat) {y : (Sum Nat Int32)} {w : CSt} (h : F_X11_task N l1 l2 u = some (y, w)) : vx_Met l yX11_task (Cond.code yX11_task cX11_task 4 (some .int) :: GW) { frames := 6, cells := 1, slots := 6, locals := 100 } (cPc D kA V Z [.ref (Z 200), .int l1, .int l2] u sz) (cQix D kA Z u sz y w) (cXc D kA Z u sz y w) 1 6 (va_A (CW kA Z u) sz) := by
  refine vx_ofW (cc := cX11_task) (maxL := 4) (ret := (some .int)) (by decide) rfl ?_
  intro p e s m args below meth c s₁ Bd hml hxt hv
  obtain ⟨rfl, hsz, hP, hK, hD0, hE⟩ := hv
  have hts := atoms_spec (ws := Cond.code yX11_task cX11_task 4 (some .int) :: GW) Bd.pre
  have hl := lv_entry ([.ref (Z 200), .int l1, .int l2]) (n := 4) (Nat.le_of_ble_eq_true rfl)
  rw [lg_entry_eq]
  generalize (lg_sl ([.ref (Z 200), .int l1, .int l2]) ++ List.replicate (4 - (lg_sl ([.ref (Z 200), .int l1, .int l2])).length) Slot.unset).toArray = ls at hl ⊢
  have hl : lv_has ls 4 [(0, .ref (Z 200)), (1, .int l1), (2, .int l2)] := hl
  subst hsz
  have X : CC p s m ([.ref (Z 200), .int l1, .int l2]).toArray c cX11_task 4 (Cond.code yX11_task cX11_task 4 (some .int)) RX11 D kA V (va_A (CW kA Z u) s.heap.size) := ⟨⟨Bd.exec, Bd.bytes, hml, findClass_of_methodNamed Bd.named, hts⟩, hK, hE, fun q h => Or.inr h⟩
  refine b_X11_task_0 X (cend_ix X Bd.returns Bd.notSynchronized) hst (cend_X X hxt Bd.notSynchronized) ⟨Nat.le_refl _, Nat.le_refl _⟩ (fun hy H locs ls hS hls => cx_throwN (x := 3) Bd.exec Bd.bytes hst hn_x0 hn_x1 hn_x2 hn_x5 (findClass_of_methodNamed Bd.named) (by decide +kernel) (by decide +kernel) (by decide +kernel) X hS hy rfl gw_1684 gw_30 (evr_8 hE.2.1) xat_NoSuchElementException xgo_NoSuchElementException (by rw [hml]; exact hls) dX11_task_12 dX11_task_15 dX11_task_16 dX11_task_18 dX11_task_21 hxt (Nat.le_of_ble_eq_true rfl) (Nat.le_of_ble_eq_true rfl) (Nat.le_of_ble_eq_true rfl) (Nat.le_of_ble_eq_true rfl) Bd.notSynchronized (Nat.le_of_ble_eq_true rfl) (Nat.le_of_ble_eq_true rfl)) (fun hy H locs ls hS hls => cx_throw (x := 1) Bd.exec Bd.bytes hst (findClass_of_methodNamed Bd.named) (by decide +kernel) (by decide +kernel) X hS hy rfl gw_1467 gw_26 (evr_9 hE.2.1) xat_IllegalArgumentException xgo_IllegalArgumentException (by rw [hml]; exact hls) dX11_task_137 dX11_task_140 dX11_task_141 dX11_task_143 dX11_task_146 hxt (Nat.le_of_ble_eq_true rfl) (Nat.le_of_ble_eq_true rfl) (Nat.le_of_ble_eq_true rfl) (Nat.le_of_ble_eq_true rfl) Bd.notSynchronized (Nat.le_of_ble_eq_true rfl) (Nat.le_of_ble_eq_true rfl)) (Nat.le_refl _) (Nat.le_refl _) h  ⟨hP, hD0.self, va_S.rf⟩ (lv_sub hl [0, 1, 2] rfl)
def B_X11_value_0 (N : Nat) (l1 : Int32) (l2 : Int32) (u : CSt) : Option ((Sum Nat Int64) × CSt) := bc (F_X11_hasPlace N l1 l2 u) fun r_2 u_1 => if r_2 = (0 : Int32) then (some (.inl 3, u_1)) else (ok (cR u_1 0 < 2) inferInstance <| bc (F_X6_nth N (cR u_1 0) 0 l1 u_1) fun r_6 u_5 => ok (r_6 < 338) inferInstance <| bc (F_X2_numberOf N r_6 l2 u_5) fun r_9 u_8 => some (.inr r_9, u_8))
set_option maxHeartbeats 4000000 in
theorem b_X11_value_0 {y : (Sum Nat Int64)} (X : CC p s m args c cX11_value 3 (Cond.code yX11_value cX11_value 3 (some .long)) RX11 D kA V A) (hE : CElx p l e R s m args below meth c cX11_value D kA Z A Q y w) (hst : l.stackTraces = false) (hX : CX p l e R s m args below meth c D kA Z A Q y w) (hC : 1 ≤ R.cells ∧ 6 ≤ R.slots) (hT_9 : y = .inl 3 → ∀ (H : Heap) (locs : List Loc) (ls : Array Slot), CS D kA Z A s w H locs → ls.size = 3 → W p l e R s m args below meth c H locs 0 0 Q (F0 m 9 ls [])) (hF : 6 ≤ R.frames) (hL : 100 ≤ R.locals) {l1 : Int32} {l2 : Int32} {u : CSt}  (h : B_X11_value_0 N l1 l2 u = some (y, w))  (hS : CS D kA Z A s u H locs) (hl : lv_has ls 3 [(0, .ref (Z 200)), (1, .int l1), (2, .int l2)]) : W p l e R s m args below meth c H locs 0 0 Q (F0 m 0 ls []) := by
  obtain ⟨⟨hx, hb, hml, hown, hts⟩, hK, hEV, hA⟩ := id X
  have hG : ∀ w ∈ GW, w.before args s = true := fun w h => hts w (List.mem_cons_of_mem _ h)
  unfold B_X11_value_0 at h
  refine lv_aload_n hx hb dX11_value_0 rfl (lv_at hl 0 rfl) ?_
  refine lv_iload_n hx hb dX11_value_1 rfl (lv_at hl 1 rfl) ?_
  refine lv_iload_n hx hb dX11_value_2 rfl (lv_at hl 2 rfl) ?_
  obtain ⟨r_2, u_1, h_u_1, h⟩ := bc_of h
  refine kc_X11_hasPlace_RX11 X  hS h_u_1 (Nat.le_trans (Nat.le_of_ble_eq_true rfl) hF) (Nat.le_trans (Nat.le_of_ble_eq_true rfl) hL) hl.1 (Nat.le_of_ble_eq_true rfl) dX11_value_3 (fun H locs hS => ?_)
  refine lv_if_ne (tgt := 19) hx hb dX11_value_6 (by decide) (fun c_3 => ?_) (fun c_3 => ?_)
  · have h := im (c_3) h
    refine lv_aload_n hx hb dX11_value_19 rfl (lv_at hl 0 rfl) ?_
    refine cg_X11_69 X hS dX11_value_20 ?_
    refine lv_aload_n hx hb dX11_value_23 rfl (lv_at hl 0 rfl) ?_
    refine cg_X11_48 X hS dX11_value_24 ?_
    obtain ⟨z_4, h⟩ := ok_of h
    refine lv_iconst (v := 0) hx hb dX11_value_27 (by decide) ?_
    refine lv_iload_n hx hb dX11_value_28 rfl (lv_at hl 1 rfl) ?_
    obtain ⟨r_6, u_5, h_u_5, h⟩ := bc_of h
    refine kc_X6_nth_RX11 X z_4 hS h_u_5 (Nat.le_trans (Nat.le_of_ble_eq_true rfl) hF) (Nat.le_trans (Nat.le_of_ble_eq_true rfl) hL) hl.1 (Nat.le_of_ble_eq_true rfl) dX11_value_29 (fun H locs hS => ?_)
    obtain ⟨z_7, h⟩ := ok_of h
    refine lv_iload_n hx hb dX11_value_32 rfl (lv_at hl 2 rfl) ?_
    obtain ⟨r_9, u_8, h_u_8, h⟩ := bc_of h
    refine kc_X2_numberOf_RX11 X z_7 hS h_u_8 (Nat.le_trans (Nat.le_of_ble_eq_true rfl) hF) (Nat.le_trans (Nat.le_of_ble_eq_true rfl) hL) hl.1 (Nat.le_of_ble_eq_true rfl) dX11_value_33 (fun H locs hS => ?_)
    obtain ⟨e9, rfl⟩ := so9 h
    exact hE _ e9.symm _ _ _ _ hS dX11_value_36
  · have h := ip (c_3) h
    obtain ⟨e9, rfl⟩ := so9 h
    exact hT_9 e9.symm _ _ _ hS hl.1
def F_X11_value (N : Nat) (l1 : Int32) (l2 : Int32) (u : CSt) : Option ((Sum Nat Int64) × CSt) := B_X11_value_0 N l1 l2 u
set_option maxHeartbeats 4000000 in
theorem k_X11_value (l : Launch) (hst : l.stackTraces = false) (D : va_G) (kA : Nat → ClassId) (V Z : Nat → Nat) (N : Nat) (l1 : Int32) (l2 : Int32) (u : CSt) (sz : Nat) {y : (Sum Nat Int64)} {w : CSt} (h : F_X11_value N l1 l2 u = some (y, w)) : vx_Met l yX11_value (Cond.code yX11_value cX11_value 3 (some .long) :: GW) { frames := 6, cells := 1, slots := 6, locals := 100 } (cPc D kA V Z [.ref (Z 200), .int l1, .int l2] u sz) (cQlx D kA Z u sz y w) (cXc D kA Z u sz y w) 1 6 (va_A (CW kA Z u) sz) := by
  refine vx_ofW (cc := cX11_value) (maxL := 3) (ret := (some .long)) (by decide) rfl ?_
  intro p e s m args below meth c s₁ Bd hml hxt hv
  obtain ⟨rfl, hsz, hP, hK, hD0, hE⟩ := hv
  have hts := atoms_spec (ws := Cond.code yX11_value cX11_value 3 (some .long) :: GW) Bd.pre
  have hl := lv_entry ([.ref (Z 200), .int l1, .int l2]) (n := 3) (Nat.le_of_ble_eq_true rfl)
  rw [lg_entry_eq]
  generalize (lg_sl ([.ref (Z 200), .int l1, .int l2]) ++ List.replicate (3 - (lg_sl ([.ref (Z 200), .int l1, .int l2])).length) Slot.unset).toArray = ls at hl ⊢
  have hl : lv_has ls 3 [(0, .ref (Z 200)), (1, .int l1), (2, .int l2)] := hl
  subst hsz
  have X : CC p s m ([.ref (Z 200), .int l1, .int l2]).toArray c cX11_value 3 (Cond.code yX11_value cX11_value 3 (some .long)) RX11 D kA V (va_A (CW kA Z u) s.heap.size) := ⟨⟨Bd.exec, Bd.bytes, hml, findClass_of_methodNamed Bd.named, hts⟩, hK, hE, fun q h => Or.inr h⟩
  refine b_X11_value_0 X (cend_lx X Bd.returns Bd.notSynchronized) hst (cend_X X hxt Bd.notSynchronized) ⟨Nat.le_refl _, Nat.le_refl _⟩ (fun hy H locs ls hS hls => cx_throwN (x := 3) Bd.exec Bd.bytes hst hn_x0 hn_x1 hn_x2 hn_x5 (findClass_of_methodNamed Bd.named) (by decide +kernel) (by decide +kernel) (by decide +kernel) X hS hy rfl gw_1684 gw_30 (evr_10 hE.2.1) xat_NoSuchElementException xgo_NoSuchElementException (by rw [hml]; exact hls) dX11_value_9 dX11_value_12 dX11_value_13 dX11_value_15 dX11_value_18 hxt (Nat.le_of_ble_eq_true rfl) (Nat.le_of_ble_eq_true rfl) (Nat.le_of_ble_eq_true rfl) (Nat.le_of_ble_eq_true rfl) Bd.notSynchronized (Nat.le_of_ble_eq_true rfl) (Nat.le_of_ble_eq_true rfl)) (Nat.le_refl _) (Nat.le_refl _) h  ⟨hP, hD0.self, va_S.rf⟩ (lv_sub hl [0, 1, 2] rfl)
def B_X11_poke_0 (N : Nat) (l1 : Int32) (l2 : Int32) (l3 : Int64) (u : CSt) : Option ((Sum Nat Int64) × CSt) := bc (F_X11_hasPlace N l1 l2 u) fun r_2 u_1 => if r_2 = (0 : Int32) then (some (.inl 3, u_1)) else (ok (cR u_1 0 < 2) inferInstance <| bc (F_X6_nth N (cR u_1 0) 0 l1 u_1) fun r_6 u_5 => ok (r_6 < 338) inferInstance <| if (mI u_5 r_6 6) = (2 : Int32) then (some (.inl 4, u_5)) else (bc (F_X2_change N r_6 l2 l3 u_5) fun _ u_9 => bc (F_X2_numberOf N r_6 l2 u_9) fun r_11 u_10 => some (.inr r_11, u_10)))
set_option maxHeartbeats 4000000 in
theorem b_X11_poke_0 {y : (Sum Nat Int64)} (X : CC p s m args c cX11_poke 6 (Cond.code yX11_poke cX11_poke 6 (some .long)) RX11 D kA V A) (hE : CElx p l e R s m args below meth c cX11_poke D kA Z A Q y w) (hst : l.stackTraces = false) (hX : CX p l e R s m args below meth c D kA Z A Q y w) (hC : 1 ≤ R.cells ∧ 6 ≤ R.slots) (hT_9 : y = .inl 3 → ∀ (H : Heap) (locs : List Loc) (ls : Array Slot), CS D kA Z A s w H locs → ls.size = 6 → W p l e R s m args below meth c H locs 0 0 Q (F0 m 9 ls [])) (hT_39 : y = .inl 4 → ∀ (H : Heap) (locs : List Loc) (ls : Array Slot), CS D kA Z A s w H locs → ls.size = 6 → W p l e R s m args below meth c H locs 0 0 Q (F0 m 39 ls [])) (hF : 6 ≤ R.frames) (hL : 100 ≤ R.locals) {l1 : Int32} {l2 : Int32} {l3 : Int64} {u : CSt}  (h : B_X11_poke_0 N l1 l2 l3 u = some (y, w))  (hS : CS D kA Z A s u H locs) (hl : lv_has ls 6 [(0, .ref (Z 200)), (1, .int l1), (2, .int l2), (3, .long l3)]) : W p l e R s m args below meth c H locs 0 0 Q (F0 m 0 ls []) := by
  obtain ⟨⟨hx, hb, hml, hown, hts⟩, hK, hEV, hA⟩ := id X
  have hG : ∀ w ∈ GW, w.before args s = true := fun w h => hts w (List.mem_cons_of_mem _ h)
  unfold B_X11_poke_0 at h
  refine lv_aload_n hx hb dX11_poke_0 rfl (lv_at hl 0 rfl) ?_
  refine lv_iload_n hx hb dX11_poke_1 rfl (lv_at hl 1 rfl) ?_
  refine lv_iload_n hx hb dX11_poke_2 rfl (lv_at hl 2 rfl) ?_
  obtain ⟨r_2, u_1, h_u_1, h⟩ := bc_of h
  refine kc_X11_hasPlace_RX11 X  hS h_u_1 (Nat.le_trans (Nat.le_of_ble_eq_true rfl) hF) (Nat.le_trans (Nat.le_of_ble_eq_true rfl) hL) hl.1 (Nat.le_of_ble_eq_true rfl) dX11_poke_3 (fun H locs hS => ?_)
  refine lv_if_ne (tgt := 19) hx hb dX11_poke_6 (by decide) (fun c_3 => ?_) (fun c_3 => ?_)
  · have h := im (c_3) h
    refine lv_aload_n hx hb dX11_poke_19 rfl (lv_at hl 0 rfl) ?_
    refine cg_X11_48 X hS dX11_poke_20 ?_
    obtain ⟨z_4, h⟩ := ok_of h
    refine lv_iconst (v := 0) hx hb dX11_poke_23 (by decide) ?_
    refine lv_iload_n hx hb dX11_poke_24 rfl (lv_at hl 1 rfl) ?_
    obtain ⟨r_6, u_5, h_u_5, h⟩ := bc_of h
    refine kc_X6_nth_RX11 X z_4 hS h_u_5 (Nat.le_trans (Nat.le_of_ble_eq_true rfl) hF) (Nat.le_trans (Nat.le_of_ble_eq_true rfl) hL) hl.1 (Nat.le_of_ble_eq_true rfl) dX11_poke_25 (fun H locs hS => ?_)
    obtain ⟨z_7, h⟩ := ok_of h
    refine lv_astore (lv' := [(5, .ref (Z (1000 + r_6))), (0, .ref (Z 200)), (1, .int l1), (2, .int l2), (3, .long l3)]) hx hb dX11_poke_28 hl (by decide) rfl (fun ls hl => ?_)
    refine lv_aload hx hb dX11_poke_30 (lv_at hl 0 rfl) ?_
    refine cg_X11_125 X z_7 hS dX11_poke_32 ?_
    refine lv_iconst (v := 2) hx hb dX11_poke_35 (by decide) ?_
    refine lv_icmp_ne (tgt := 49) hx hb dX11_poke_36 (by decide) (fun c_8 => ?_) (fun c_8 => ?_)
    · have h := im (c_8) h
      refine lv_aload_n hx hb dX11_poke_49 rfl (lv_at hl 1 rfl) ?_
      refine cg_X11_69 X hS dX11_poke_50 ?_
      refine lv_aload hx hb dX11_poke_53 (lv_at hl 0 rfl) ?_
      refine lv_iload_n hx hb dX11_poke_55 rfl (lv_at hl 3 rfl) ?_
      refine lv_lload_n hx hb dX11_poke_56 rfl (lv_at hl 4 rfl) ?_
      obtain ⟨r_u_9, u_9, h_u_9, h⟩ := bc_of h
      refine kc_X2_change_RX11 X z_7 hS h_u_9 (Nat.le_trans (Nat.le_of_ble_eq_true rfl) hF) (Nat.le_trans (Nat.le_of_ble_eq_true rfl) hL) hl.1 (Nat.le_of_ble_eq_true rfl) dX11_poke_57 (fun H locs hS => ?_)
      refine lv_aload_n hx hb dX11_poke_60 rfl (lv_at hl 1 rfl) ?_
      refine cg_X11_69 X hS dX11_poke_61 ?_
      refine lv_aload hx hb dX11_poke_64 (lv_at hl 0 rfl) ?_
      refine lv_iload_n hx hb dX11_poke_66 rfl (lv_at hl 3 rfl) ?_
      obtain ⟨r_11, u_10, h_u_10, h⟩ := bc_of h
      refine kc_X2_numberOf_RX11 X z_7 hS h_u_10 (Nat.le_trans (Nat.le_of_ble_eq_true rfl) hF) (Nat.le_trans (Nat.le_of_ble_eq_true rfl) hL) hl.1 (Nat.le_of_ble_eq_true rfl) dX11_poke_67 (fun H locs hS => ?_)
      obtain ⟨e9, rfl⟩ := so9 h
      exact hE _ e9.symm _ _ _ _ hS dX11_poke_70
    · have h := ip (c_8) h
      obtain ⟨e9, rfl⟩ := so9 h
      exact hT_39 e9.symm _ _ _ hS hl.1
  · have h := ip (c_3) h
    obtain ⟨e9, rfl⟩ := so9 h
    exact hT_9 e9.symm _ _ _ hS hl.1
def F_X11_poke (N : Nat) (l1 : Int32) (l2 : Int32) (l3 : Int64) (u : CSt) : Option ((Sum Nat Int64) × CSt) := B_X11_poke_0 N l1 l2 l3 u
set_option maxHeartbeats 4000000 in
theorem k_X11_poke (l : Launch) (hst : l.stackTraces = false) (D : va_G) (kA : Nat → ClassId) (V Z : Nat → Nat) (N : Nat) (l1 : Int32) (l2 : Int32) (l3 : Int64) (u : CSt) (sz : Nat) {y : (Sum Nat Int64)} {w : CSt} (h : F_X11_poke N l1 l2 l3 u = some (y, w)) : vx_Met l yX11_poke (Cond.code yX11_poke cX11_poke 6 (some .long) :: GW) { frames := 6, cells := 1, slots := 6, locals := 100 } (cPc D kA V Z [.ref (Z 200), .int l1, .int l2, .long l3] u sz) (cQlx D kA Z u sz y w) (cXc D kA Z u sz y w) 1 6 (va_A (CW kA Z u) sz) := by
  refine vx_ofW (cc := cX11_poke) (maxL := 6) (ret := (some .long)) (by decide) rfl ?_
  intro p e s m args below meth c s₁ Bd hml hxt hv
  obtain ⟨rfl, hsz, hP, hK, hD0, hE⟩ := hv
  have hts := atoms_spec (ws := Cond.code yX11_poke cX11_poke 6 (some .long) :: GW) Bd.pre
  have hl := lv_entry ([.ref (Z 200), .int l1, .int l2, .long l3]) (n := 6) (Nat.le_of_ble_eq_true rfl)
  rw [lg_entry_eq]
  generalize (lg_sl ([.ref (Z 200), .int l1, .int l2, .long l3]) ++ List.replicate (6 - (lg_sl ([.ref (Z 200), .int l1, .int l2, .long l3])).length) Slot.unset).toArray = ls at hl ⊢
  have hl : lv_has ls 6 [(0, .ref (Z 200)), (1, .int l1), (2, .int l2), (3, .long l3)] := hl
  subst hsz
  have X : CC p s m ([.ref (Z 200), .int l1, .int l2, .long l3]).toArray c cX11_poke 6 (Cond.code yX11_poke cX11_poke 6 (some .long)) RX11 D kA V (va_A (CW kA Z u) s.heap.size) := ⟨⟨Bd.exec, Bd.bytes, hml, findClass_of_methodNamed Bd.named, hts⟩, hK, hE, fun q h => Or.inr h⟩
  refine b_X11_poke_0 X (cend_lx X Bd.returns Bd.notSynchronized) hst (cend_X X hxt Bd.notSynchronized) ⟨Nat.le_refl _, Nat.le_refl _⟩ (fun hy H locs ls hS hls => cx_throwN (x := 3) Bd.exec Bd.bytes hst hn_x0 hn_x1 hn_x2 hn_x5 (findClass_of_methodNamed Bd.named) (by decide +kernel) (by decide +kernel) (by decide +kernel) X hS hy rfl gw_1684 gw_30 (evr_10 hE.2.1) xat_NoSuchElementException xgo_NoSuchElementException (by rw [hml]; exact hls) dX11_poke_9 dX11_poke_12 dX11_poke_13 dX11_poke_15 dX11_poke_18 hxt (Nat.le_of_ble_eq_true rfl) (Nat.le_of_ble_eq_true rfl) (Nat.le_of_ble_eq_true rfl) (Nat.le_of_ble_eq_true rfl) Bd.notSynchronized (Nat.le_of_ble_eq_true rfl) (Nat.le_of_ble_eq_true rfl)) (fun hy H locs ls hS hls => cx_throw (x := 4) Bd.exec Bd.bytes hst (findClass_of_methodNamed Bd.named) (by decide +kernel) (by decide +kernel) X hS hy rfl gw_1728 gw_31 (evr_11 hE.2.1) xat_UnsupportedOperationException xgo_UnsupportedOperationException (by rw [hml]; exact hls) dX11_poke_39 dX11_poke_42 dX11_poke_43 dX11_poke_45 dX11_poke_48 hxt (Nat.le_of_ble_eq_true rfl) (Nat.le_of_ble_eq_true rfl) (Nat.le_of_ble_eq_true rfl) (Nat.le_of_ble_eq_true rfl) Bd.notSynchronized (Nat.le_of_ble_eq_true rfl) (Nat.le_of_ble_eq_true rfl)) (Nat.le_refl _) (Nat.le_refl _) h  ⟨hP, hD0.self, va_S.rf⟩ (lv_sub hl [0, 1, 2, 3] rfl)
def B_X11_variable_0 (N : Nat) (l1 : Int32) (l2 : Int32) (u : CSt) : Option ((Sum Nat Int32) × CSt) := ok (cR u 0 < 2) inferInstance <| bc (F_X6_has N (cR u 0) 0 l1 u) fun r_3 u_2 => if r_3 = (0 : Int32) then (some (.inl 3, u_2)) else (ok (cR u_2 0 < 2) inferInstance <| bc (F_X6_nth N (cR u_2 0) 0 l1 u_2) fun r_7 u_6 => ok (r_7 < 338) inferInstance <| if l2 = 0 then (some (.inr (mI u_6 r_7 5), u_6)) else (if l2 = 1 then (some (.inr (mI u_6 r_7 7), u_6)) else (if l2 = 2 then (some (.inr (mI u_6 r_7 6), u_6)) else (if l2 = 3 then (if (mI u_6 r_7 8) = (0 : Int32) then (some (.inr 0, u_6)) else (some (.inr 1, u_6))) else (if l2 = 4 then (bc (F_X4_isPlaced N r_7 u_6) fun r_16 u_15 => if r_16 = (0 : Int32) then (some (.inr (-1), u_15)) else (some (.inr (mI u_15 r_7 9), u_15))) else (some (.inl 1, u_6)))))))
set_option maxHeartbeats 4000000 in
theorem b_X11_variable_0 {y : (Sum Nat Int32)} (X : CC p s m args c cX11_variable 4 (Cond.code yX11_variable cX11_variable 4 (some .int)) RX11 D kA V A) (hE : CEix p l e R s m args below meth c cX11_variable D kA Z A Q y w) (hst : l.stackTraces = false) (hX : CX p l e R s m args below meth c D kA Z A Q y w) (hC : 1 ≤ R.cells ∧ 6 ≤ R.slots) (hT_12 : y = .inl 3 → ∀ (H : Heap) (locs : List Loc) (ls : Array Slot), CS D kA Z A s w H locs → ls.size = 4 → W p l e R s m args below meth c H locs 0 0 Q (F0 m 12 ls [])) (hT_112 : y = .inl 1 → ∀ (H : Heap) (locs : List Loc) (ls : Array Slot), CS D kA Z A s w H locs → ls.size = 4 → W p l e R s m args below meth c H locs 0 0 Q (F0 m 112 ls [])) (hF : 6 ≤ R.frames) (hL : 100 ≤ R.locals) {l1 : Int32} {l2 : Int32} {u : CSt}  (h : B_X11_variable_0 N l1 l2 u = some (y, w))  (hS : CS D kA Z A s u H locs) (hl : lv_has ls 4 [(0, .ref (Z 200)), (1, .int l1), (2, .int l2)]) : W p l e R s m args below meth c H locs 0 0 Q (F0 m 0 ls []) := by
  obtain ⟨⟨hx, hb, hml, hown, hts⟩, hK, hEV, hA⟩ := id X
  have hG : ∀ w ∈ GW, w.before args s = true := fun w h => hts w (List.mem_cons_of_mem _ h)
  unfold B_X11_variable_0 at h
  refine lv_aload_n hx hb dX11_variable_0 rfl (lv_at hl 0 rfl) ?_
  refine cg_X11_48 X hS dX11_variable_1 ?_
  obtain ⟨z_1, h⟩ := ok_of h
  refine lv_iconst (v := 0) hx hb dX11_variable_4 (by decide) ?_
  refine lv_iload_n hx hb dX11_variable_5 rfl (lv_at hl 1 rfl) ?_
  obtain ⟨r_3, u_2, h_u_2, h⟩ := bc_of h
  refine kc_X6_has_RX11 X z_1 hS h_u_2 (Nat.le_trans (Nat.le_of_ble_eq_true rfl) hF) (Nat.le_trans (Nat.le_of_ble_eq_true rfl) hL) hl.1 (Nat.le_of_ble_eq_true rfl) dX11_variable_6 (fun H locs hS => ?_)
  refine lv_if_ne (tgt := 22) hx hb dX11_variable_9 (by decide) (fun c_4 => ?_) (fun c_4 => ?_)
  · have h := im (c_4) h
    refine lv_aload_n hx hb dX11_variable_22 rfl (lv_at hl 0 rfl) ?_
    refine cg_X11_48 X hS dX11_variable_23 ?_
    obtain ⟨z_5, h⟩ := ok_of h
    refine lv_iconst (v := 0) hx hb dX11_variable_26 (by decide) ?_
    refine lv_iload_n hx hb dX11_variable_27 rfl (lv_at hl 1 rfl) ?_
    obtain ⟨r_7, u_6, h_u_6, h⟩ := bc_of h
    refine kc_X6_nth_RX11 X z_5 hS h_u_6 (Nat.le_trans (Nat.le_of_ble_eq_true rfl) hF) (Nat.le_trans (Nat.le_of_ble_eq_true rfl) hL) hl.1 (Nat.le_of_ble_eq_true rfl) dX11_variable_28 (fun H locs hS => ?_)
    obtain ⟨z_8, h⟩ := ok_of h
    refine lv_astore_n (lv' := [(3, .ref (Z (1000 + r_7))), (0, .ref (Z 200)), (1, .int l1), (2, .int l2)]) hx hb dX11_variable_31 rfl hl (by decide) rfl (fun ls hl => ?_)
    refine lv_iload_n hx hb dX11_variable_32 rfl (lv_at hl 3 rfl) ?_
    by_cases e_9 : l2 = 0
    · have h := ip e_9 h
      refine lv_tableIn (off := 35) (tgt := 68) hx hb dX11_variable_33 (by rw [e_9]; decide) (by rw [e_9]; decide) (by rw [e_9]; rfl) (by decide) ?_
      refine lv_aload_n hx hb dX11_variable_68 rfl (lv_at hl 0 rfl) ?_
      refine cg_X11_227 X z_8 hS dX11_variable_69 ?_
      obtain ⟨e9, rfl⟩ := so9 h
      exact hE _ e9.symm _ _ _ _ hS dX11_variable_72
    have h := im e_9 h
    by_cases e_10 : l2 = 1
    · have h := ip e_10 h
      refine lv_tableIn (off := 40) (tgt := 73) hx hb dX11_variable_33 (by rw [e_10]; decide) (by rw [e_10]; decide) (by rw [e_10]; rfl) (by decide) ?_
      refine lv_aload_n hx hb dX11_variable_73 rfl (lv_at hl 0 rfl) ?_
      refine cg_X11_133 X z_8 hS dX11_variable_74 ?_
      obtain ⟨e9, rfl⟩ := so9 h
      exact hE _ e9.symm _ _ _ _ hS dX11_variable_77
    have h := im e_10 h
    by_cases e_11 : l2 = 2
    · have h := ip e_11 h
      refine lv_tableIn (off := 45) (tgt := 78) hx hb dX11_variable_33 (by rw [e_11]; decide) (by rw [e_11]; decide) (by rw [e_11]; rfl) (by decide) ?_
      refine lv_aload_n hx hb dX11_variable_78 rfl (lv_at hl 0 rfl) ?_
      refine cg_X11_125 X z_8 hS dX11_variable_79 ?_
      obtain ⟨e9, rfl⟩ := so9 h
      exact hE _ e9.symm _ _ _ _ hS dX11_variable_82
    have h := im e_11 h
    by_cases e_12 : l2 = 3
    · have h := ip e_12 h
      refine lv_tableIn (off := 50) (tgt := 83) hx hb dX11_variable_33 (by rw [e_12]; decide) (by rw [e_12]; decide) (by rw [e_12]; rfl) (by decide) ?_
      refine lv_aload_n hx hb dX11_variable_83 rfl (lv_at hl 0 rfl) ?_
      refine cg_X11_230 X z_8 hS dX11_variable_84 ?_
      refine lv_if_eq (tgt := 94) hx hb dX11_variable_87 (by decide) (fun c_13 => ?_) (fun c_13 => ?_)
      · have h := ip (c_13) h
        refine lv_iconst (v := 0) hx hb dX11_variable_94 (by decide) ?_
        obtain ⟨e9, rfl⟩ := so9 h
        exact hE _ e9.symm _ _ _ _ hS dX11_variable_95
      · have h := im (c_13) h
        refine lv_iconst (v := 1) hx hb dX11_variable_90 (by decide) ?_
        refine lv_goto (tgt := 95) hx hb dX11_variable_91 (by decide) ?_
        obtain ⟨e9, rfl⟩ := so9 h
        exact hE _ e9.symm _ _ _ _ hS dX11_variable_95
    have h := im e_12 h
    by_cases e_14 : l2 = 4
    · have h := ip e_14 h
      refine lv_tableIn (off := 63) (tgt := 96) hx hb dX11_variable_33 (by rw [e_14]; decide) (by rw [e_14]; decide) (by rw [e_14]; rfl) (by decide) ?_
      refine lv_aload_n hx hb dX11_variable_96 rfl (lv_at hl 0 rfl) ?_
      obtain ⟨r_16, u_15, h_u_15, h⟩ := bc_of h
      refine kc_X4_isPlaced_RX11 X z_8 hS h_u_15 (Nat.le_trans (Nat.le_of_ble_eq_true rfl) hF) (Nat.le_trans (Nat.le_of_ble_eq_true rfl) hL) hl.1 (Nat.le_of_ble_eq_true rfl) dX11_variable_97 (fun H locs hS => ?_)
      refine lv_if_eq (tgt := 110) hx hb dX11_variable_100 (by decide) (fun c_17 => ?_) (fun c_17 => ?_)
      · have h := ip (c_17) h
        refine lv_iconst (v := (-1)) hx hb dX11_variable_110 (by decide) ?_
        obtain ⟨e9, rfl⟩ := so9 h
        exact hE _ e9.symm _ _ _ _ hS dX11_variable_111
      · have h := im (c_17) h
        refine lv_aload_n hx hb dX11_variable_103 rfl (lv_at hl 0 rfl) ?_
        refine cg_X11_130 X z_8 hS dX11_variable_104 ?_
        refine lv_goto (tgt := 111) hx hb dX11_variable_107 (by decide) ?_
        obtain ⟨e9, rfl⟩ := so9 h
        exact hE _ e9.symm _ _ _ _ hS dX11_variable_111
    have h := im e_14 h
    refine lv_tableDef (tgt := 112) hx hb dX11_variable_33 (by decide) (fun off h1 h2 ho => by
      have hI : (l2).toInt = 0 ∨ (l2).toInt = 1 ∨ (l2).toInt = 2 ∨ (l2).toInt = 3 ∨ (l2).toInt = 4 := by omega
      rcases hI with q | q | q | q | q
      · exact absurd (Int32.toInt_inj.mp (q.trans (by decide))) e_9
      · exact absurd (Int32.toInt_inj.mp (q.trans (by decide))) e_10
      · exact absurd (Int32.toInt_inj.mp (q.trans (by decide))) e_11
      · exact absurd (Int32.toInt_inj.mp (q.trans (by decide))) e_12
      · exact absurd (Int32.toInt_inj.mp (q.trans (by decide))) e_14) (by decide) ?_
    obtain ⟨e9, rfl⟩ := so9 h
    exact hT_112 e9.symm _ _ _ hS hl.1
  · have h := ip (c_4) h
    obtain ⟨e9, rfl⟩ := so9 h
    exact hT_12 e9.symm _ _ _ hS hl.1
def F_X11_variable (N : Nat) (l1 : Int32) (l2 : Int32) (u : CSt) : Option ((Sum Nat Int32) × CSt) := B_X11_variable_0 N l1 l2 u
set_option maxHeartbeats 4000000 in
theorem k_X11_variable (l : Launch) (hst : l.stackTraces = false) (D : va_G) (kA : Nat → ClassId) (V Z : Nat → Nat) (N : Nat) (l1 : Int32) (l2 : Int32) (u : CSt) (sz : Nat) {y : (Sum Nat Int32)} {w : CSt} (h : F_X11_variable N l1 l2 u = some (y, w)) : vx_Met l yX11_variable (Cond.code yX11_variable cX11_variable 4 (some .int) :: GW) { frames := 6, cells := 1, slots := 6, locals := 100 } (cPc D kA V Z [.ref (Z 200), .int l1, .int l2] u sz) (cQix D kA Z u sz y w) (cXc D kA Z u sz y w) 1 6 (va_A (CW kA Z u) sz) := by
  refine vx_ofW (cc := cX11_variable) (maxL := 4) (ret := (some .int)) (by decide) rfl ?_
  intro p e s m args below meth c s₁ Bd hml hxt hv
  obtain ⟨rfl, hsz, hP, hK, hD0, hE⟩ := hv
  have hts := atoms_spec (ws := Cond.code yX11_variable cX11_variable 4 (some .int) :: GW) Bd.pre
  have hl := lv_entry ([.ref (Z 200), .int l1, .int l2]) (n := 4) (Nat.le_of_ble_eq_true rfl)
  rw [lg_entry_eq]
  generalize (lg_sl ([.ref (Z 200), .int l1, .int l2]) ++ List.replicate (4 - (lg_sl ([.ref (Z 200), .int l1, .int l2])).length) Slot.unset).toArray = ls at hl ⊢
  have hl : lv_has ls 4 [(0, .ref (Z 200)), (1, .int l1), (2, .int l2)] := hl
  subst hsz
  have X : CC p s m ([.ref (Z 200), .int l1, .int l2]).toArray c cX11_variable 4 (Cond.code yX11_variable cX11_variable 4 (some .int)) RX11 D kA V (va_A (CW kA Z u) s.heap.size) := ⟨⟨Bd.exec, Bd.bytes, hml, findClass_of_methodNamed Bd.named, hts⟩, hK, hE, fun q h => Or.inr h⟩
  refine b_X11_variable_0 X (cend_ix X Bd.returns Bd.notSynchronized) hst (cend_X X hxt Bd.notSynchronized) ⟨Nat.le_refl _, Nat.le_refl _⟩ (fun hy H locs ls hS hls => cx_throwN (x := 3) Bd.exec Bd.bytes hst hn_x0 hn_x1 hn_x2 hn_x5 (findClass_of_methodNamed Bd.named) (by decide +kernel) (by decide +kernel) (by decide +kernel) X hS hy rfl gw_1684 gw_30 (evr_12 hE.2.1) xat_NoSuchElementException xgo_NoSuchElementException (by rw [hml]; exact hls) dX11_variable_12 dX11_variable_15 dX11_variable_16 dX11_variable_18 dX11_variable_21 hxt (Nat.le_of_ble_eq_true rfl) (Nat.le_of_ble_eq_true rfl) (Nat.le_of_ble_eq_true rfl) (Nat.le_of_ble_eq_true rfl) Bd.notSynchronized (Nat.le_of_ble_eq_true rfl) (Nat.le_of_ble_eq_true rfl)) (fun hy H locs ls hS hls => cx_throw (x := 1) Bd.exec Bd.bytes hst (findClass_of_methodNamed Bd.named) (by decide +kernel) (by decide +kernel) X hS hy rfl gw_1467 gw_26 (evr_13 hE.2.1) xat_IllegalArgumentException xgo_IllegalArgumentException (by rw [hml]; exact hls) dX11_variable_112 dX11_variable_115 dX11_variable_116 dX11_variable_118 dX11_variable_121 hxt (Nat.le_of_ble_eq_true rfl) (Nat.le_of_ble_eq_true rfl) (Nat.le_of_ble_eq_true rfl) (Nat.le_of_ble_eq_true rfl) Bd.notSynchronized (Nat.le_of_ble_eq_true rfl) (Nat.le_of_ble_eq_true rfl)) (Nat.le_refl _) (Nat.le_refl _) h  ⟨hP, hD0.self, va_S.rf⟩ (lv_sub hl [0, 1, 2] rfl)
def B_X11_field_0 (N : Nat) (l1 : Int32) (l2 : Int32) (l3 : Int32) (u : CSt) : Option ((Sum Nat Int64) × CSt) := ok (cR u 0 < 2) inferInstance <| bc (F_X6_has N (cR u 0) 1 l1 u) fun r_3 u_2 => if r_3 = (0 : Int32) then (some (.inl 3, u_2)) else (ok (cR u_2 0 < 2) inferInstance <| bc (F_X6_nth N (cR u_2 0) 1 l1 u_2) fun r_7 u_6 => ok (r_7 < 338) inferInstance <| ok (cR u_6 0 < 2) inferInstance <| bc (F_X6_name N (cR u_6 0) (mI u_6 r_7 14) u_6) fun r_11 u_10 => ok (r_11 < 338) inferInstance <| bc (F_X6_local N (cR u_6 0) r_11 l2 u_10) fun r_14 u_13 => ok (r_14 < 338) inferInstance <| if (mI u_13 r_14 2) = (8 : Int32) then (some (.inl 3, u_13)) else (if l3 < (0 : Int32) then (some (.inl 3, u_13)) else (if l3 < (mI u_13 r_14 7) then (bc (F_X2_numberAt N (((mI u_13 r_7 9) + (mI u_13 r_14 9)) + l3) u_13) fun r_20 u_19 => some (.inr r_20, u_19)) else (some (.inl 3, u_13)))))
set_option maxHeartbeats 4000000 in
theorem b_X11_field_0 {y : (Sum Nat Int64)} (X : CC p s m args c cX11_field 6 (Cond.code yX11_field cX11_field 6 (some .long)) RX11 D kA V A) (hE : CElx p l e R s m args below meth c cX11_field D kA Z A Q y w) (hst : l.stackTraces = false) (hX : CX p l e R s m args below meth c D kA Z A Q y w) (hC : 1 ≤ R.cells ∧ 6 ≤ R.slots) (hT_12 : y = .inl 3 → ∀ (H : Heap) (locs : List Loc) (ls : Array Slot), CS D kA Z A s w H locs → ls.size = 6 → W p l e R s m args below meth c H locs 0 0 Q (F0 m 12 ls [])) (hT_78 : y = .inl 3 → ∀ (H : Heap) (locs : List Loc) (ls : Array Slot), CS D kA Z A s w H locs → ls.size = 6 → W p l e R s m args below meth c H locs 0 0 Q (F0 m 78 ls [])) (hF : 6 ≤ R.frames) (hL : 100 ≤ R.locals) {l1 : Int32} {l2 : Int32} {l3 : Int32} {u : CSt}  (h : B_X11_field_0 N l1 l2 l3 u = some (y, w))  (hS : CS D kA Z A s u H locs) (hl : lv_has ls 6 [(0, .ref (Z 200)), (1, .int l1), (2, .int l2), (3, .int l3)]) : W p l e R s m args below meth c H locs 0 0 Q (F0 m 0 ls []) := by
  obtain ⟨⟨hx, hb, hml, hown, hts⟩, hK, hEV, hA⟩ := id X
  have hG : ∀ w ∈ GW, w.before args s = true := fun w h => hts w (List.mem_cons_of_mem _ h)
  unfold B_X11_field_0 at h
  refine lv_aload_n hx hb dX11_field_0 rfl (lv_at hl 0 rfl) ?_
  refine cg_X11_48 X hS dX11_field_1 ?_
  obtain ⟨z_1, h⟩ := ok_of h
  refine lv_iconst (v := 1) hx hb dX11_field_4 (by decide) ?_
  refine lv_iload_n hx hb dX11_field_5 rfl (lv_at hl 1 rfl) ?_
  obtain ⟨r_3, u_2, h_u_2, h⟩ := bc_of h
  refine kc_X6_has_RX11 X z_1 hS h_u_2 (Nat.le_trans (Nat.le_of_ble_eq_true rfl) hF) (Nat.le_trans (Nat.le_of_ble_eq_true rfl) hL) hl.1 (Nat.le_of_ble_eq_true rfl) dX11_field_6 (fun H locs hS => ?_)
  refine lv_if_ne (tgt := 22) hx hb dX11_field_9 (by decide) (fun c_4 => ?_) (fun c_4 => ?_)
  · have h := im (c_4) h
    refine lv_aload_n hx hb dX11_field_22 rfl (lv_at hl 0 rfl) ?_
    refine cg_X11_48 X hS dX11_field_23 ?_
    obtain ⟨z_5, h⟩ := ok_of h
    refine lv_iconst (v := 1) hx hb dX11_field_26 (by decide) ?_
    refine lv_iload_n hx hb dX11_field_27 rfl (lv_at hl 1 rfl) ?_
    obtain ⟨r_7, u_6, h_u_6, h⟩ := bc_of h
    refine kc_X6_nth_RX11 X z_5 hS h_u_6 (Nat.le_trans (Nat.le_of_ble_eq_true rfl) hF) (Nat.le_trans (Nat.le_of_ble_eq_true rfl) hL) hl.1 (Nat.le_of_ble_eq_true rfl) dX11_field_28 (fun H locs hS => ?_)
    obtain ⟨z_8, h⟩ := ok_of h
    refine lv_astore (lv' := [(4, .ref (Z (1000 + r_7))), (0, .ref (Z 200)), (1, .int l1), (2, .int l2), (3, .int l3)]) hx hb dX11_field_31 hl (by decide) rfl (fun ls hl => ?_)
    refine lv_aload_n hx hb dX11_field_33 rfl (lv_at hl 1 rfl) ?_
    refine cg_X11_48 X hS dX11_field_34 ?_
    obtain ⟨z_9, h⟩ := ok_of h
    refine lv_aload_n hx hb dX11_field_37 rfl (lv_at hl 1 rfl) ?_
    refine cg_X11_48 X hS dX11_field_38 ?_
    refine lv_aload hx hb dX11_field_41 (lv_at hl 0 rfl) ?_
    refine cg_X11_241 X z_8 hS dX11_field_43 ?_
    obtain ⟨r_11, u_10, h_u_10, h⟩ := bc_of h
    refine kc_X6_name_RX11 X z_9 hS h_u_10 (Nat.le_trans (Nat.le_of_ble_eq_true rfl) hF) (Nat.le_trans (Nat.le_of_ble_eq_true rfl) hL) hl.1 (Nat.le_of_ble_eq_true rfl) dX11_field_46 (fun H locs hS => ?_)
    obtain ⟨z_12, h⟩ := ok_of h
    refine lv_iload_n hx hb dX11_field_49 rfl (lv_at hl 3 rfl) ?_
    obtain ⟨r_14, u_13, h_u_13, h⟩ := bc_of h
    refine kc_X6_local_RX11 X z_9 z_12 hS h_u_13 (Nat.le_trans (Nat.le_of_ble_eq_true rfl) hF) (Nat.le_trans (Nat.le_of_ble_eq_true rfl) hL) hl.1 (Nat.le_of_ble_eq_true rfl) dX11_field_50 (fun H locs hS => ?_)
    obtain ⟨z_15, h⟩ := ok_of h
    refine lv_astore (lv' := [(5, .ref (Z (1000 + r_14))), (4, .ref (Z (1000 + r_7))), (0, .ref (Z 200)), (1, .int l1), (2, .int l2), (3, .int l3)]) hx hb dX11_field_53 hl (by decide) rfl (fun ls hl => ?_)
    refine lv_aload hx hb dX11_field_55 (lv_at hl 0 rfl) ?_
    refine cg_X11_252 X z_15 hS dX11_field_57 ?_
    refine lv_bipush (v := 8) hx hb dX11_field_60 (by decide) ?_
    refine lv_icmp_eq (tgt := 78) hx hb dX11_field_62 (by decide) (fun c_16 => ?_) (fun c_16 => ?_)
    · have h := ip (c_16) h
      obtain ⟨e9, rfl⟩ := so9 h
      exact hT_78 e9.symm _ _ _ hS hl.1
    · have h := im (c_16) h
      refine lv_iload_n hx hb dX11_field_65 rfl (lv_at hl 5 rfl) ?_
      refine lv_if_lt (tgt := 78) hx hb dX11_field_66 (by decide) (fun c_17 => ?_) (fun c_17 => ?_)
      · have h := ip (c_17) h
        obtain ⟨e9, rfl⟩ := so9 h
        exact hT_78 e9.symm _ _ _ hS hl.1
      · have h := im (c_17) h
        refine lv_iload_n hx hb dX11_field_69 rfl (lv_at hl 5 rfl) ?_
        refine lv_aload hx hb dX11_field_70 (lv_at hl 0 rfl) ?_
        refine cg_X11_133 X z_15 hS dX11_field_72 ?_
        refine lv_icmp_lt (tgt := 88) hx hb dX11_field_75 (by decide) (fun c_18 => ?_) (fun c_18 => ?_)
        · have h := ip (c_18) h
          refine lv_aload_n hx hb dX11_field_88 rfl (lv_at hl 2 rfl) ?_
          refine cg_X11_69 X hS dX11_field_89 ?_
          refine lv_aload hx hb dX11_field_92 (lv_at hl 1 rfl) ?_
          refine cg_X11_130 X z_8 hS dX11_field_94 ?_
          refine lv_aload hx hb dX11_field_97 (lv_at hl 0 rfl) ?_
          refine cg_X11_130 X z_15 hS dX11_field_99 ?_
          refine lv_iadd hx hb dX11_field_102 ?_
          refine lv_iload_n hx hb dX11_field_103 rfl (lv_at hl 5 rfl) ?_
          refine lv_iadd hx hb dX11_field_104 ?_
          obtain ⟨r_20, u_19, h_u_19, h⟩ := bc_of h
          refine kc_X2_numberAt_RX11 X  hS h_u_19 (Nat.le_trans (Nat.le_of_ble_eq_true rfl) hF) (Nat.le_trans (Nat.le_of_ble_eq_true rfl) hL) hl.1 (Nat.le_of_ble_eq_true rfl) dX11_field_105 (fun H locs hS => ?_)
          obtain ⟨e9, rfl⟩ := so9 h
          exact hE _ e9.symm _ _ _ _ hS dX11_field_108
        · have h := im (c_18) h
          obtain ⟨e9, rfl⟩ := so9 h
          exact hT_78 e9.symm _ _ _ hS hl.1
  · have h := ip (c_4) h
    obtain ⟨e9, rfl⟩ := so9 h
    exact hT_12 e9.symm _ _ _ hS hl.1
def F_X11_field (N : Nat) (l1 : Int32) (l2 : Int32) (l3 : Int32) (u : CSt) : Option ((Sum Nat Int64) × CSt) := B_X11_field_0 N l1 l2 l3 u
set_option maxHeartbeats 4000000 in
theorem k_X11_field (l : Launch) (hst : l.stackTraces = false) (D : va_G) (kA : Nat → ClassId) (V Z : Nat → Nat) (N : Nat) (l1 : Int32) (l2 : Int32) (l3 : Int32) (u : CSt) (sz : Nat) {y : (Sum Nat Int64)} {w : CSt} (h : F_X11_field N l1 l2 l3 u = some (y, w)) : vx_Met l yX11_field (Cond.code yX11_field cX11_field 6 (some .long) :: GW) { frames := 6, cells := 1, slots := 6, locals := 100 } (cPc D kA V Z [.ref (Z 200), .int l1, .int l2, .int l3] u sz) (cQlx D kA Z u sz y w) (cXc D kA Z u sz y w) 1 6 (va_A (CW kA Z u) sz) := by
  refine vx_ofW (cc := cX11_field) (maxL := 6) (ret := (some .long)) (by decide) rfl ?_
  intro p e s m args below meth c s₁ Bd hml hxt hv
  obtain ⟨rfl, hsz, hP, hK, hD0, hE⟩ := hv
  have hts := atoms_spec (ws := Cond.code yX11_field cX11_field 6 (some .long) :: GW) Bd.pre
  have hl := lv_entry ([.ref (Z 200), .int l1, .int l2, .int l3]) (n := 6) (Nat.le_of_ble_eq_true rfl)
  rw [lg_entry_eq]
  generalize (lg_sl ([.ref (Z 200), .int l1, .int l2, .int l3]) ++ List.replicate (6 - (lg_sl ([.ref (Z 200), .int l1, .int l2, .int l3])).length) Slot.unset).toArray = ls at hl ⊢
  have hl : lv_has ls 6 [(0, .ref (Z 200)), (1, .int l1), (2, .int l2), (3, .int l3)] := hl
  subst hsz
  have X : CC p s m ([.ref (Z 200), .int l1, .int l2, .int l3]).toArray c cX11_field 6 (Cond.code yX11_field cX11_field 6 (some .long)) RX11 D kA V (va_A (CW kA Z u) s.heap.size) := ⟨⟨Bd.exec, Bd.bytes, hml, findClass_of_methodNamed Bd.named, hts⟩, hK, hE, fun q h => Or.inr h⟩
  refine b_X11_field_0 X (cend_lx X Bd.returns Bd.notSynchronized) hst (cend_X X hxt Bd.notSynchronized) ⟨Nat.le_refl _, Nat.le_refl _⟩ (fun hy H locs ls hS hls => cx_throwN (x := 3) Bd.exec Bd.bytes hst hn_x0 hn_x1 hn_x2 hn_x5 (findClass_of_methodNamed Bd.named) (by decide +kernel) (by decide +kernel) (by decide +kernel) X hS hy rfl gw_1684 gw_30 (evr_14 hE.2.1) xat_NoSuchElementException xgo_NoSuchElementException (by rw [hml]; exact hls) dX11_field_12 dX11_field_15 dX11_field_16 dX11_field_18 dX11_field_21 hxt (Nat.le_of_ble_eq_true rfl) (Nat.le_of_ble_eq_true rfl) (Nat.le_of_ble_eq_true rfl) (Nat.le_of_ble_eq_true rfl) Bd.notSynchronized (Nat.le_of_ble_eq_true rfl) (Nat.le_of_ble_eq_true rfl)) (fun hy H locs ls hS hls => cx_throwN (x := 3) Bd.exec Bd.bytes hst hn_x0 hn_x1 hn_x2 hn_x5 (findClass_of_methodNamed Bd.named) (by decide +kernel) (by decide +kernel) (by decide +kernel) X hS hy rfl gw_1684 gw_30 (evr_15 hE.2.1) xat_NoSuchElementException xgo_NoSuchElementException (by rw [hml]; exact hls) dX11_field_78 dX11_field_81 dX11_field_82 dX11_field_84 dX11_field_87 hxt (Nat.le_of_ble_eq_true rfl) (Nat.le_of_ble_eq_true rfl) (Nat.le_of_ble_eq_true rfl) (Nat.le_of_ble_eq_true rfl) Bd.notSynchronized (Nat.le_of_ble_eq_true rfl) (Nat.le_of_ble_eq_true rfl)) (Nat.le_refl _) (Nat.le_refl _) h  ⟨hP, hD0.self, va_S.rf⟩ (lv_sub hl [0, 1, 2, 3] rfl)
def B_X11_find_0 (N : Nat) (l1 : Int32) (u : CSt) : Option ((Sum Nat Int32) × CSt) := if l1 < (0 : Int32) then (some (.inl 1, u)) else (if l1 ≤ (4 : Int32) then (bc (F_X9_isWord N (cI u 0) u) fun r_4 u_3 => if r_4 = (0 : Int32) then (some (.inr (-1), u_3)) else (ok (cR u_3 0 < 2) inferInstance <| bc (F_X9_wordHead N 0 (cI u_3 0) u_3) fun r_8 u_7 => bc (F_X9_wordTail N 0 (cI u_7 0) u_7) fun r_10 u_9 => bc (F_X6_ofText N (cR u_3 0) r_8 r_10 u_9) fun r_12 u_11 => ok (r_12 < 338) inferInstance <| if (mI u_11 r_12 2) = l1 then (some (.inr (mI u_11 r_12 4), u_11)) else (some (.inr (-1), u_11)))) else (some (.inl 1, u)))
set_option maxHeartbeats 4000000 in
theorem b_X11_find_0 {y : (Sum Nat Int32)} (X : CC p s m args c cX11_find 3 (Cond.code yX11_find cX11_find 3 (some .int)) RX11 D kA V A) (hE : CEix p l e R s m args below meth c cX11_find D kA Z A Q y w) (hst : l.stackTraces = false) (hX : CX p l e R s m args below meth c D kA Z A Q y w) (hC : 1 ≤ R.cells ∧ 6 ≤ R.slots) (hT_9 : y = .inl 1 → ∀ (H : Heap) (locs : List Loc) (ls : Array Slot), CS D kA Z A s w H locs → ls.size = 3 → W p l e R s m args below meth c H locs 0 0 Q (F0 m 9 ls [])) (hF : 6 ≤ R.frames) (hL : 100 ≤ R.locals) {l1 : Int32} {u : CSt}  (h : B_X11_find_0 N l1 u = some (y, w))  (hS : CS D kA Z A s u H locs) (hl : lv_has ls 3 [(0, .ref (Z 200)), (1, .int l1)]) : W p l e R s m args below meth c H locs 0 0 Q (F0 m 0 ls []) := by
  obtain ⟨⟨hx, hb, hml, hown, hts⟩, hK, hEV, hA⟩ := id X
  have hG : ∀ w ∈ GW, w.before args s = true := fun w h => hts w (List.mem_cons_of_mem _ h)
  unfold B_X11_find_0 at h
  refine lv_iload_n hx hb dX11_find_0 rfl (lv_at hl 1 rfl) ?_
  refine lv_if_lt (tgt := 9) hx hb dX11_find_1 (by decide) (fun c_1 => ?_) (fun c_1 => ?_)
  · have h := ip (c_1) h
    obtain ⟨e9, rfl⟩ := so9 h
    exact hT_9 e9.symm _ _ _ hS hl.1
  · have h := im (c_1) h
    refine lv_iload_n hx hb dX11_find_4 rfl (lv_at hl 1 rfl) ?_
    refine lv_iconst (v := 4) hx hb dX11_find_5 (by decide) ?_
    refine lv_icmp_le (tgt := 20) hx hb dX11_find_6 (by decide) (fun c_2 => ?_) (fun c_2 => ?_)
    · have h := ip (c_2) h
      refine lv_aload_n hx hb dX11_find_20 rfl (lv_at hl 0 rfl) ?_
      refine cg_X11_18 X hS dX11_find_21 ?_
      refine lv_aload_n hx hb dX11_find_24 rfl (lv_at hl 0 rfl) ?_
      refine cg_X11_77 X hS dX11_find_25 ?_
      obtain ⟨r_4, u_3, h_u_3, h⟩ := bc_of h
      refine kc_X9_isWord_RX11 X  hS h_u_3 (Nat.le_trans (Nat.le_of_ble_eq_true rfl) hF) (Nat.le_trans (Nat.le_of_ble_eq_true rfl) hL) hl.1 (Nat.le_of_ble_eq_true rfl) dX11_find_28 (fun H locs hS => ?_)
      refine lv_if_ne (tgt := 36) hx hb dX11_find_31 (by decide) (fun c_5 => ?_) (fun c_5 => ?_)
      · have h := im (c_5) h
        refine lv_aload_n hx hb dX11_find_36 rfl (lv_at hl 0 rfl) ?_
        refine cg_X11_48 X hS dX11_find_37 ?_
        obtain ⟨z_6, h⟩ := ok_of h
        refine lv_aload_n hx hb dX11_find_40 rfl (lv_at hl 0 rfl) ?_
        refine cg_X11_18 X hS dX11_find_41 ?_
        refine lv_iconst (v := 0) hx hb dX11_find_44 (by decide) ?_
        refine lv_aload_n hx hb dX11_find_45 rfl (lv_at hl 0 rfl) ?_
        refine cg_X11_77 X hS dX11_find_46 ?_
        obtain ⟨r_8, u_7, h_u_7, h⟩ := bc_of h
        refine kc_X9_wordHead_RX11 X  hS h_u_7 (Nat.le_trans (Nat.le_of_ble_eq_true rfl) hF) (Nat.le_trans (Nat.le_of_ble_eq_true rfl) hL) hl.1 (Nat.le_of_ble_eq_true rfl) dX11_find_49 (fun H locs hS => ?_)
        refine lv_aload_n hx hb dX11_find_52 rfl (lv_at hl 0 rfl) ?_
        refine cg_X11_18 X hS dX11_find_53 ?_
        refine lv_iconst (v := 0) hx hb dX11_find_56 (by decide) ?_
        refine lv_aload_n hx hb dX11_find_57 rfl (lv_at hl 0 rfl) ?_
        refine cg_X11_77 X hS dX11_find_58 ?_
        obtain ⟨r_10, u_9, h_u_9, h⟩ := bc_of h
        refine kc_X9_wordTail_RX11 X  hS h_u_9 (Nat.le_trans (Nat.le_of_ble_eq_true rfl) hF) (Nat.le_trans (Nat.le_of_ble_eq_true rfl) hL) hl.1 (Nat.le_of_ble_eq_true rfl) dX11_find_61 (fun H locs hS => ?_)
        obtain ⟨r_12, u_11, h_u_11, h⟩ := bc_of h
        refine kc_X6_ofText_RX11 X z_6 hS h_u_11 (Nat.le_trans (Nat.le_of_ble_eq_true rfl) hF) (Nat.le_trans (Nat.le_of_ble_eq_true rfl) hL) hl.1 (Nat.le_of_ble_eq_true rfl) dX11_find_64 (fun H locs hS => ?_)
        obtain ⟨z_13, h⟩ := ok_of h
        refine lv_astore_n (lv' := [(2, .ref (Z (1000 + r_12))), (0, .ref (Z 200)), (1, .int l1)]) hx hb dX11_find_67 rfl hl (by decide) rfl (fun ls hl => ?_)
        refine lv_aload_n hx hb dX11_find_68 rfl (lv_at hl 0 rfl) ?_
        refine cg_X11_252 X z_13 hS dX11_find_69 ?_
        refine lv_iload_n hx hb dX11_find_72 rfl (lv_at hl 2 rfl) ?_
        refine lv_icmp_ne (tgt := 83) hx hb dX11_find_73 (by decide) (fun c_14 => ?_) (fun c_14 => ?_)
        · have h := im (c_14) h
          refine lv_iconst (v := (-1)) hx hb dX11_find_83 (by decide) ?_
          obtain ⟨e9, rfl⟩ := so9 h
          exact hE _ e9.symm _ _ _ _ hS dX11_find_84
        · have h := ip (c_14) h
          refine lv_aload_n hx hb dX11_find_76 rfl (lv_at hl 0 rfl) ?_
          refine cg_X11_279 X z_13 hS dX11_find_77 ?_
          refine lv_goto (tgt := 84) hx hb dX11_find_80 (by decide) ?_
          obtain ⟨e9, rfl⟩ := so9 h
          exact hE _ e9.symm _ _ _ _ hS dX11_find_84
      · have h := ip (c_5) h
        refine lv_iconst (v := (-1)) hx hb dX11_find_34 (by decide) ?_
        obtain ⟨e9, rfl⟩ := so9 h
        exact hE _ e9.symm _ _ _ _ hS dX11_find_35
    · have h := im (c_2) h
      obtain ⟨e9, rfl⟩ := so9 h
      exact hT_9 e9.symm _ _ _ hS hl.1
def F_X11_find (N : Nat) (l1 : Int32) (u : CSt) : Option ((Sum Nat Int32) × CSt) := B_X11_find_0 N l1 u
set_option maxHeartbeats 4000000 in
theorem k_X11_find (l : Launch) (hst : l.stackTraces = false) (D : va_G) (kA : Nat → ClassId) (V Z : Nat → Nat) (N : Nat) (l1 : Int32) (u : CSt) (sz : Nat) {y : (Sum Nat Int32)} {w : CSt} (h : F_X11_find N l1 u = some (y, w)) : vx_Met l yX11_find (Cond.code yX11_find cX11_find 3 (some .int) :: GW) { frames := 6, cells := 1, slots := 6, locals := 100 } (cPc D kA V Z [.ref (Z 200), .int l1] u sz) (cQix D kA Z u sz y w) (cXc D kA Z u sz y w) 1 6 (va_A (CW kA Z u) sz) := by
  refine vx_ofW (cc := cX11_find) (maxL := 3) (ret := (some .int)) (by decide) rfl ?_
  intro p e s m args below meth c s₁ Bd hml hxt hv
  obtain ⟨rfl, hsz, hP, hK, hD0, hE⟩ := hv
  have hts := atoms_spec (ws := Cond.code yX11_find cX11_find 3 (some .int) :: GW) Bd.pre
  have hl := lv_entry ([.ref (Z 200), .int l1]) (n := 3) (Nat.le_of_ble_eq_true rfl)
  rw [lg_entry_eq]
  generalize (lg_sl ([.ref (Z 200), .int l1]) ++ List.replicate (3 - (lg_sl ([.ref (Z 200), .int l1])).length) Slot.unset).toArray = ls at hl ⊢
  have hl : lv_has ls 3 [(0, .ref (Z 200)), (1, .int l1)] := hl
  subst hsz
  have X : CC p s m ([.ref (Z 200), .int l1]).toArray c cX11_find 3 (Cond.code yX11_find cX11_find 3 (some .int)) RX11 D kA V (va_A (CW kA Z u) s.heap.size) := ⟨⟨Bd.exec, Bd.bytes, hml, findClass_of_methodNamed Bd.named, hts⟩, hK, hE, fun q h => Or.inr h⟩
  refine b_X11_find_0 X (cend_ix X Bd.returns Bd.notSynchronized) hst (cend_X X hxt Bd.notSynchronized) ⟨Nat.le_refl _, Nat.le_refl _⟩ (fun hy H locs ls hS hls => cx_throwW (x := 1) Bd.exec Bd.bytes hst (findClass_of_methodNamed Bd.named) (by decide +kernel) (by decide +kernel) X hS hy rfl gw_1467 gw_26 (evr_16 hE.2.1) xat_IllegalArgumentException xgo_IllegalArgumentException (by rw [hml]; exact hls) dX11_find_9 dX11_find_12 dX11_find_13 dX11_find_16 dX11_find_19 hxt (Nat.le_of_ble_eq_true rfl) (Nat.le_of_ble_eq_true rfl) (Nat.le_of_ble_eq_true rfl) (Nat.le_of_ble_eq_true rfl) Bd.notSynchronized (Nat.le_of_ble_eq_true rfl) (Nat.le_of_ble_eq_true rfl)) (Nat.le_refl _) (Nat.le_refl _) h  ⟨hP, hD0.self, va_S.rf⟩ (lv_sub hl [0, 1] rfl)
def B_X11_trace_75 (N : Nat) (l1 : Int32) (l2 : Int32) (l3 : Int32) (l4 : Int32) (s0 : Int32) (s1 : Int32) (u : CSt) : Option ((Sum Nat Int32) × CSt) := if s0 = s1 then (some (.inr 0, u)) else (if l3 = (0 : Int32) then (bc (F_X10_leave N l4 u) fun _ u_3 => some (.inr 1, u_3)) else (ok (cR u 0 < 2) inferInstance <| bc (F_X6_nth N (cR u 0) 0 l1 u) fun r_6 u_5 => ok (r_6 < 338) inferInstance <| bc (F_X2_numberOf N r_6 l2 u_5) fun r_9 u_8 => bc (F_X10_begin N l1 l2 r_9 u_8) fun _ u_10 => some (.inr 1, u_10)))
set_option maxHeartbeats 4000000 in
theorem b_X11_trace_75 {y : (Sum Nat Int32)} (X : CC p s m args c cX11_trace 5 (Cond.code yX11_trace cX11_trace 5 (some .boolean)) RX11 D kA V A) (hE : CEzx p l e R s m args below meth c cX11_trace D kA Z A Q y w) (hst : l.stackTraces = false) (hX : CX p l e R s m args below meth c D kA Z A Q y w) (hC : 1 ≤ R.cells ∧ 6 ≤ R.slots) (hT_9 : y = .inl 3 → ∀ (H : Heap) (locs : List Loc) (ls : Array Slot), CS D kA Z A s w H locs → ls.size = 5 → W p l e R s m args below meth c H locs 0 0 Q (F0 m 9 ls [])) (hT_52 : y = .inl 0 → ∀ (H : Heap) (locs : List Loc) (ls : Array Slot), CS D kA Z A s w H locs → ls.size = 5 → W p l e R s m args below meth c H locs 0 0 Q (F0 m 52 ls [])) (hF : 6 ≤ R.frames) (hL : 100 ≤ R.locals) {l1 : Int32} {l2 : Int32} {l3 : Int32} {l4 : Int32} {s0 : Int32} {s1 : Int32} {u : CSt}  (h : B_X11_trace_75 N l1 l2 l3 l4 s0 s1 u = some (y, w))  (hS : CS D kA Z A s u H locs) (hl : lv_has ls 5 [(0, .ref (Z 200)), (1, .int l1), (2, .int l2), (3, .int l3), (4, .int l4)]) : W p l e R s m args below meth c H locs 0 0 Q (F0 m 75 ls [.int s1, .int s0]) := by
  obtain ⟨⟨hx, hb, hml, hown, hts⟩, hK, hEV, hA⟩ := id X
  have hG : ∀ w ∈ GW, w.before args s = true := fun w h => hts w (List.mem_cons_of_mem _ h)
  unfold B_X11_trace_75 at h
  refine lv_icmp_ne (tgt := 80) hx hb dX11_trace_75 (by decide) (fun c_1 => ?_) (fun c_1 => ?_)
  · have h := im (c_1) h
    refine lv_iload_n hx hb dX11_trace_80 rfl (lv_at hl 3 rfl) ?_
    refine lv_if_eq (tgt := 113) hx hb dX11_trace_81 (by decide) (fun c_2 => ?_) (fun c_2 => ?_)
    · have h := ip (c_2) h
      refine lv_aload_n hx hb dX11_trace_113 rfl (lv_at hl 0 rfl) ?_
      refine cg_X11_41 X hS dX11_trace_114 ?_
      refine lv_iload hx hb dX11_trace_117 (lv_at hl 4 rfl) ?_
      obtain ⟨r_u_3, u_3, h_u_3, h⟩ := bc_of h
      refine kc_X10_leave_RX11 X  hS h_u_3 (Nat.le_trans (Nat.le_of_ble_eq_true rfl) hF) (Nat.le_trans (Nat.le_of_ble_eq_true rfl) hL) hl.1 (Nat.le_of_ble_eq_true rfl) dX11_trace_119 (fun H locs hS => ?_)
      refine lv_iconst (v := 1) hx hb dX11_trace_122 (by decide) ?_
      obtain ⟨e9, rfl⟩ := so9 h
      exact hE _ e9.symm _ _ _ _ hS (Or.inr rfl) dX11_trace_123
    · have h := im (c_2) h
      refine lv_aload_n hx hb dX11_trace_84 rfl (lv_at hl 0 rfl) ?_
      refine cg_X11_41 X hS dX11_trace_85 ?_
      refine lv_iload_n hx hb dX11_trace_88 rfl (lv_at hl 1 rfl) ?_
      refine lv_iload_n hx hb dX11_trace_89 rfl (lv_at hl 2 rfl) ?_
      refine lv_aload_n hx hb dX11_trace_90 rfl (lv_at hl 0 rfl) ?_
      refine cg_X11_69 X hS dX11_trace_91 ?_
      refine lv_aload_n hx hb dX11_trace_94 rfl (lv_at hl 0 rfl) ?_
      refine cg_X11_48 X hS dX11_trace_95 ?_
      obtain ⟨z_4, h⟩ := ok_of h
      refine lv_iconst (v := 0) hx hb dX11_trace_98 (by decide) ?_
      refine lv_iload_n hx hb dX11_trace_99 rfl (lv_at hl 1 rfl) ?_
      obtain ⟨r_6, u_5, h_u_5, h⟩ := bc_of h
      refine kc_X6_nth_RX11 X z_4 hS h_u_5 (Nat.le_trans (Nat.le_of_ble_eq_true rfl) hF) (Nat.le_trans (Nat.le_of_ble_eq_true rfl) hL) hl.1 (Nat.le_of_ble_eq_true rfl) dX11_trace_100 (fun H locs hS => ?_)
      obtain ⟨z_7, h⟩ := ok_of h
      refine lv_iload_n hx hb dX11_trace_103 rfl (lv_at hl 2 rfl) ?_
      obtain ⟨r_9, u_8, h_u_8, h⟩ := bc_of h
      refine kc_X2_numberOf_RX11 X z_7 hS h_u_8 (Nat.le_trans (Nat.le_of_ble_eq_true rfl) hF) (Nat.le_trans (Nat.le_of_ble_eq_true rfl) hL) hl.1 (Nat.le_of_ble_eq_true rfl) dX11_trace_104 (fun H locs hS => ?_)
      obtain ⟨r_u_10, u_10, h_u_10, h⟩ := bc_of h
      refine kc_X10_begin_RX11 X  hS h_u_10 (Nat.le_trans (Nat.le_of_ble_eq_true rfl) hF) (Nat.le_trans (Nat.le_of_ble_eq_true rfl) hL) hl.1 (Nat.le_of_ble_eq_true rfl) dX11_trace_107 (fun H locs hS => ?_)
      refine lv_goto (tgt := 122) hx hb dX11_trace_110 (by decide) ?_
      refine lv_iconst (v := 1) hx hb dX11_trace_122 (by decide) ?_
      obtain ⟨e9, rfl⟩ := so9 h
      exact hE _ e9.symm _ _ _ _ hS (Or.inr rfl) dX11_trace_123
  · have h := ip (c_1) h
    refine lv_iconst (v := 0) hx hb dX11_trace_78 (by decide) ?_
    obtain ⟨e9, rfl⟩ := so9 h
    exact hE _ e9.symm _ _ _ _ hS (Or.inl rfl) dX11_trace_79
def B_X11_trace_63 (N : Nat) (l1 : Int32) (l2 : Int32) (l3 : Int32) (l4 : Int32) (u : CSt) : Option ((Sum Nat Int32) × CSt) := if l4 = ((-1) : Int32) then (B_X11_trace_75 N l1 l2 l3 l4 l3 0 u) else (B_X11_trace_75 N l1 l2 l3 l4 l3 1 u)
set_option maxHeartbeats 4000000 in
theorem b_X11_trace_63 {y : (Sum Nat Int32)} (X : CC p s m args c cX11_trace 5 (Cond.code yX11_trace cX11_trace 5 (some .boolean)) RX11 D kA V A) (hE : CEzx p l e R s m args below meth c cX11_trace D kA Z A Q y w) (hst : l.stackTraces = false) (hX : CX p l e R s m args below meth c D kA Z A Q y w) (hC : 1 ≤ R.cells ∧ 6 ≤ R.slots) (hT_9 : y = .inl 3 → ∀ (H : Heap) (locs : List Loc) (ls : Array Slot), CS D kA Z A s w H locs → ls.size = 5 → W p l e R s m args below meth c H locs 0 0 Q (F0 m 9 ls [])) (hT_52 : y = .inl 0 → ∀ (H : Heap) (locs : List Loc) (ls : Array Slot), CS D kA Z A s w H locs → ls.size = 5 → W p l e R s m args below meth c H locs 0 0 Q (F0 m 52 ls [])) (hF : 6 ≤ R.frames) (hL : 100 ≤ R.locals) {l1 : Int32} {l2 : Int32} {l3 : Int32} {l4 : Int32} {u : CSt}  (h : B_X11_trace_63 N l1 l2 l3 l4 u = some (y, w))  (hS : CS D kA Z A s u H locs) (hl : lv_has ls 5 [(0, .ref (Z 200)), (1, .int l1), (2, .int l2), (3, .int l3), (4, .int l4)]) : W p l e R s m args below meth c H locs 0 0 Q (F0 m 63 ls []) := by
  obtain ⟨⟨hx, hb, hml, hown, hts⟩, hK, hEV, hA⟩ := id X
  have hG : ∀ w ∈ GW, w.before args s = true := fun w h => hts w (List.mem_cons_of_mem _ h)
  unfold B_X11_trace_63 at h
  refine lv_iload_n hx hb dX11_trace_63 rfl (lv_at hl 3 rfl) ?_
  refine lv_iload hx hb dX11_trace_64 (lv_at hl 4 rfl) ?_
  refine lv_iconst (v := (-1)) hx hb dX11_trace_66 (by decide) ?_
  refine lv_icmp_eq (tgt := 74) hx hb dX11_trace_67 (by decide) (fun c_11 => ?_) (fun c_11 => ?_)
  · have h := ip (c_11) h
    refine lv_iconst (v := 0) hx hb dX11_trace_74 (by decide) ?_
    exact b_X11_trace_75 X hE hst hX hC hT_9 hT_52 hF hL  h  hS (lv_sub hl [0, 1, 2, 3, 4] rfl)
  · have h := im (c_11) h
    refine lv_iconst (v := 1) hx hb dX11_trace_70 (by decide) ?_
    refine lv_goto (tgt := 75) hx hb dX11_trace_71 (by decide) ?_
    exact b_X11_trace_75 X hE hst hX hC hT_9 hT_52 hF hL  h  hS (lv_sub hl [0, 1, 2, 3, 4] rfl)
def B_X11_trace_0 (N : Nat) (l1 : Int32) (l2 : Int32) (l3 : Int32) (u : CSt) : Option ((Sum Nat Int32) × CSt) := bc (F_X11_hasPlace N l1 l2 u) fun r_13 u_12 => if r_13 = (0 : Int32) then (some (.inl 3, u_12)) else (bc (F_X10_indexOf N l1 l2 u_12) fun r_16 u_15 => if l3 = (0 : Int32) then (B_X11_trace_63 N l1 l2 l3 r_16 u_15) else (if r_16 = ((-1) : Int32) then (if (cI u_15 9) < (16 : Int32) then (B_X11_trace_63 N l1 l2 l3 r_16 u_15) else (some (.inl 0, u_15))) else (B_X11_trace_63 N l1 l2 l3 r_16 u_15)))
set_option maxHeartbeats 4000000 in
theorem b_X11_trace_0 {y : (Sum Nat Int32)} (X : CC p s m args c cX11_trace 5 (Cond.code yX11_trace cX11_trace 5 (some .boolean)) RX11 D kA V A) (hE : CEzx p l e R s m args below meth c cX11_trace D kA Z A Q y w) (hst : l.stackTraces = false) (hX : CX p l e R s m args below meth c D kA Z A Q y w) (hC : 1 ≤ R.cells ∧ 6 ≤ R.slots) (hT_9 : y = .inl 3 → ∀ (H : Heap) (locs : List Loc) (ls : Array Slot), CS D kA Z A s w H locs → ls.size = 5 → W p l e R s m args below meth c H locs 0 0 Q (F0 m 9 ls [])) (hT_52 : y = .inl 0 → ∀ (H : Heap) (locs : List Loc) (ls : Array Slot), CS D kA Z A s w H locs → ls.size = 5 → W p l e R s m args below meth c H locs 0 0 Q (F0 m 52 ls [])) (hF : 6 ≤ R.frames) (hL : 100 ≤ R.locals) {l1 : Int32} {l2 : Int32} {l3 : Int32} {u : CSt}  (h : B_X11_trace_0 N l1 l2 l3 u = some (y, w))  (hS : CS D kA Z A s u H locs) (hl : lv_has ls 5 [(0, .ref (Z 200)), (1, .int l1), (2, .int l2), (3, .int l3)]) : W p l e R s m args below meth c H locs 0 0 Q (F0 m 0 ls []) := by
  obtain ⟨⟨hx, hb, hml, hown, hts⟩, hK, hEV, hA⟩ := id X
  have hG : ∀ w ∈ GW, w.before args s = true := fun w h => hts w (List.mem_cons_of_mem _ h)
  unfold B_X11_trace_0 at h
  refine lv_aload_n hx hb dX11_trace_0 rfl (lv_at hl 0 rfl) ?_
  refine lv_iload_n hx hb dX11_trace_1 rfl (lv_at hl 1 rfl) ?_
  refine lv_iload_n hx hb dX11_trace_2 rfl (lv_at hl 2 rfl) ?_
  obtain ⟨r_13, u_12, h_u_12, h⟩ := bc_of h
  refine kc_X11_hasPlace_RX11 X  hS h_u_12 (Nat.le_trans (Nat.le_of_ble_eq_true rfl) hF) (Nat.le_trans (Nat.le_of_ble_eq_true rfl) hL) hl.1 (Nat.le_of_ble_eq_true rfl) dX11_trace_3 (fun H locs hS => ?_)
  refine lv_if_ne (tgt := 19) hx hb dX11_trace_6 (by decide) (fun c_14 => ?_) (fun c_14 => ?_)
  · have h := im (c_14) h
    refine lv_aload_n hx hb dX11_trace_19 rfl (lv_at hl 0 rfl) ?_
    refine cg_X11_41 X hS dX11_trace_20 ?_
    refine lv_iload_n hx hb dX11_trace_23 rfl (lv_at hl 1 rfl) ?_
    refine lv_iload_n hx hb dX11_trace_24 rfl (lv_at hl 2 rfl) ?_
    obtain ⟨r_16, u_15, h_u_15, h⟩ := bc_of h
    refine kc_X10_indexOf_RX11 X  hS h_u_15 (Nat.le_trans (Nat.le_of_ble_eq_true rfl) hF) (Nat.le_trans (Nat.le_of_ble_eq_true rfl) hL) hl.1 (Nat.le_of_ble_eq_true rfl) dX11_trace_25 (fun H locs hS => ?_)
    refine lv_istore (lv' := [(4, .int r_16), (0, .ref (Z 200)), (1, .int l1), (2, .int l2), (3, .int l3)]) hx hb dX11_trace_28 hl (by decide) rfl (fun ls hl => ?_)
    refine lv_iload_n hx hb dX11_trace_30 rfl (lv_at hl 4 rfl) ?_
    refine lv_if_eq (tgt := 63) hx hb dX11_trace_31 (by decide) (fun c_17 => ?_) (fun c_17 => ?_)
    · have h := ip (c_17) h
      exact b_X11_trace_63 X hE hst hX hC hT_9 hT_52 hF hL  h  hS (lv_sub hl [1, 2, 3, 4, 0] rfl)
    · have h := im (c_17) h
      refine lv_iload hx hb dX11_trace_34 (lv_at hl 0 rfl) ?_
      refine lv_iconst (v := (-1)) hx hb dX11_trace_36 (by decide) ?_
      refine lv_icmp_ne (tgt := 63) hx hb dX11_trace_37 (by decide) (fun c_18 => ?_) (fun c_18 => ?_)
      · have h := im (c_18) h
        exact b_X11_trace_63 X hE hst hX hC hT_9 hT_52 hF hL  h  hS (lv_sub hl [1, 2, 3, 4, 0] rfl)
      · have h := ip (c_18) h
        refine lv_aload_n hx hb dX11_trace_40 rfl (lv_at hl 1 rfl) ?_
        refine cg_X11_41 X hS dX11_trace_41 ?_
        refine cg_X11_285 X hS dX11_trace_44 ?_
        refine lv_bipush (v := 16) hx hb dX11_trace_47 (by decide) ?_
        refine lv_icmp_lt (tgt := 63) hx hb dX11_trace_49 (by decide) (fun c_19 => ?_) (fun c_19 => ?_)
        · have h := ip (c_19) h
          exact b_X11_trace_63 X hE hst hX hC hT_9 hT_52 hF hL  h  hS (lv_sub hl [1, 2, 3, 4, 0] rfl)
        · have h := im (c_19) h
          obtain ⟨e9, rfl⟩ := so9 h
          exact hT_52 e9.symm _ _ _ hS hl.1
  · have h := ip (c_14) h
    obtain ⟨e9, rfl⟩ := so9 h
    exact hT_9 e9.symm _ _ _ hS hl.1
def F_X11_trace (N : Nat) (l1 : Int32) (l2 : Int32) (l3 : Int32) (u : CSt) : Option ((Sum Nat Int32) × CSt) := B_X11_trace_0 N l1 l2 l3 u
set_option maxHeartbeats 4000000 in
theorem k_X11_trace (l : Launch) (hst : l.stackTraces = false) (D : va_G) (kA : Nat → ClassId) (V Z : Nat → Nat) (N : Nat) (l1 : Int32) (l2 : Int32) (l3 : Int32) (u : CSt) (sz : Nat) {y : (Sum Nat Int32)} {w : CSt} (h : F_X11_trace N l1 l2 l3 u = some (y, w)) : vx_Met l yX11_trace (Cond.code yX11_trace cX11_trace 5 (some .boolean) :: GW) { frames := 6, cells := 1, slots := 6, locals := 100 } (cPc D kA V Z [.ref (Z 200), .int l1, .int l2, .int l3] u sz) (cQix D kA Z u sz y w) (cXc D kA Z u sz y w) 1 6 (va_A (CW kA Z u) sz) := by
  refine vx_ofW (cc := cX11_trace) (maxL := 5) (ret := (some .boolean)) (by decide) rfl ?_
  intro p e s m args below meth c s₁ Bd hml hxt hv
  obtain ⟨rfl, hsz, hP, hK, hD0, hE⟩ := hv
  have hts := atoms_spec (ws := Cond.code yX11_trace cX11_trace 5 (some .boolean) :: GW) Bd.pre
  have hl := lv_entry ([.ref (Z 200), .int l1, .int l2, .int l3]) (n := 5) (Nat.le_of_ble_eq_true rfl)
  rw [lg_entry_eq]
  generalize (lg_sl ([.ref (Z 200), .int l1, .int l2, .int l3]) ++ List.replicate (5 - (lg_sl ([.ref (Z 200), .int l1, .int l2, .int l3])).length) Slot.unset).toArray = ls at hl ⊢
  have hl : lv_has ls 5 [(0, .ref (Z 200)), (1, .int l1), (2, .int l2), (3, .int l3)] := hl
  subst hsz
  have X : CC p s m ([.ref (Z 200), .int l1, .int l2, .int l3]).toArray c cX11_trace 5 (Cond.code yX11_trace cX11_trace 5 (some .boolean)) RX11 D kA V (va_A (CW kA Z u) s.heap.size) := ⟨⟨Bd.exec, Bd.bytes, hml, findClass_of_methodNamed Bd.named, hts⟩, hK, hE, fun q h => Or.inr h⟩
  refine b_X11_trace_0 X (cend_zx X Bd.returns Bd.notSynchronized) hst (cend_X X hxt Bd.notSynchronized) ⟨Nat.le_refl _, Nat.le_refl _⟩ (fun hy H locs ls hS hls => cx_throwN (x := 3) Bd.exec Bd.bytes hst hn_x0 hn_x1 hn_x2 hn_x5 (findClass_of_methodNamed Bd.named) (by decide +kernel) (by decide +kernel) (by decide +kernel) X hS hy rfl gw_1684 gw_30 (evr_10 hE.2.1) xat_NoSuchElementException xgo_NoSuchElementException (by rw [hml]; exact hls) dX11_trace_9 dX11_trace_12 dX11_trace_13 dX11_trace_15 dX11_trace_18 hxt (Nat.le_of_ble_eq_true rfl) (Nat.le_of_ble_eq_true rfl) (Nat.le_of_ble_eq_true rfl) (Nat.le_of_ble_eq_true rfl) Bd.notSynchronized (Nat.le_of_ble_eq_true rfl) (Nat.le_of_ble_eq_true rfl)) (fun hy H locs ls hS hls => cx_throwW (x := 0) Bd.exec Bd.bytes hst (findClass_of_methodNamed Bd.named) (by decide +kernel) (by decide +kernel) X hS hy rfl gw_618 gw_22 (evr_17 hE.2.1) xat_IllegalStateException xgo_IllegalStateException (by rw [hml]; exact hls) dX11_trace_52 dX11_trace_55 dX11_trace_56 dX11_trace_59 dX11_trace_62 hxt (Nat.le_of_ble_eq_true rfl) (Nat.le_of_ble_eq_true rfl) (Nat.le_of_ble_eq_true rfl) (Nat.le_of_ble_eq_true rfl) Bd.notSynchronized (Nat.le_of_ble_eq_true rfl) (Nat.le_of_ble_eq_true rfl)) (Nat.le_refl _) (Nat.le_refl _) h  ⟨hP, hD0.self, va_S.rf⟩ (lv_sub hl [0, 1, 2, 3] rfl)
def B_X11_event_0 (N : Nat) (l1 : Int32) (l2 : Int32) (u : CSt) : Option ((Sum Nat Int64) × CSt) := if l1 < (0 : Int32) then (some (.inl 3, u)) else (if l1 < (cI u 10) then (bc (F_X10_latest N l1 u) fun r_4 u_3 => if l2 = 0 then (rd (cA u_3 223) 100 r_4 fun v_7 => some (.inr v_7.toInt64, u_3)) else (if l2 = 1 then (rd (cA u_3 224) 100 r_4 fun v_10 => some (.inr v_10.toInt64, u_3)) else (if l2 = 2 then (rd (cA u_3 225) 100 r_4 fun v_13 => some (.inr v_13.toInt64, u_3)) else (if l2 = 3 then (rd (cB u_3 226) 100 r_4 fun v_16 => some (.inr v_16, u_3)) else (some (.inl 1, u_3)))))) else (some (.inl 3, u)))
set_option maxHeartbeats 4000000 in
theorem b_X11_event_0 {y : (Sum Nat Int64)} (X : CC p s m args c cX11_event 4 (Cond.code yX11_event cX11_event 4 (some .long)) RX11 D kA V A) (hE : CElx p l e R s m args below meth c cX11_event D kA Z A Q y w) (hst : l.stackTraces = false) (hX : CX p l e R s m args below meth c D kA Z A Q y w) (hC : 1 ≤ R.cells ∧ 6 ≤ R.slots) (hT_15 : y = .inl 3 → ∀ (H : Heap) (locs : List Loc) (ls : Array Slot), CS D kA Z A s w H locs → ls.size = 4 → W p l e R s m args below meth c H locs 0 0 Q (F0 m 15 ls [])) (hT_111 : y = .inl 1 → ∀ (H : Heap) (locs : List Loc) (ls : Array Slot), CS D kA Z A s w H locs → ls.size = 4 → W p l e R s m args below meth c H locs 0 0 Q (F0 m 111 ls [])) (hF : 6 ≤ R.frames) (hL : 100 ≤ R.locals) {l1 : Int32} {l2 : Int32} {u : CSt}  (h : B_X11_event_0 N l1 l2 u = some (y, w))  (hS : CS D kA Z A s u H locs) (hl : lv_has ls 4 [(0, .ref (Z 200)), (1, .int l1), (2, .int l2)]) : W p l e R s m args below meth c H locs 0 0 Q (F0 m 0 ls []) := by
  obtain ⟨⟨hx, hb, hml, hown, hts⟩, hK, hEV, hA⟩ := id X
  have hG : ∀ w ∈ GW, w.before args s = true := fun w h => hts w (List.mem_cons_of_mem _ h)
  unfold B_X11_event_0 at h
  refine lv_iload_n hx hb dX11_event_0 rfl (lv_at hl 1 rfl) ?_
  refine lv_if_lt (tgt := 15) hx hb dX11_event_1 (by decide) (fun c_1 => ?_) (fun c_1 => ?_)
  · have h := ip (c_1) h
    obtain ⟨e9, rfl⟩ := so9 h
    exact hT_15 e9.symm _ _ _ hS hl.1
  · have h := im (c_1) h
    refine lv_iload_n hx hb dX11_event_4 rfl (lv_at hl 1 rfl) ?_
    refine lv_aload_n hx hb dX11_event_5 rfl (lv_at hl 0 rfl) ?_
    refine cg_X11_41 X hS dX11_event_6 ?_
    refine cg_X11_297 X hS dX11_event_9 ?_
    refine lv_icmp_lt (tgt := 26) hx hb dX11_event_12 (by decide) (fun c_2 => ?_) (fun c_2 => ?_)
    · have h := ip (c_2) h
      refine lv_aload_n hx hb dX11_event_26 rfl (lv_at hl 0 rfl) ?_
      refine cg_X11_41 X hS dX11_event_27 ?_
      refine lv_iload_n hx hb dX11_event_30 rfl (lv_at hl 1 rfl) ?_
      obtain ⟨r_4, u_3, h_u_3, h⟩ := bc_of h
      refine kc_X10_latest_RX11 X  hS h_u_3 (Nat.le_trans (Nat.le_of_ble_eq_true rfl) hF) (Nat.le_trans (Nat.le_of_ble_eq_true rfl) hL) hl.1 (Nat.le_of_ble_eq_true rfl) dX11_event_31 (fun H locs hS => ?_)
      refine lv_istore_n (lv' := [(3, .int r_4), (0, .ref (Z 200)), (1, .int l1), (2, .int l2)]) hx hb dX11_event_34 rfl hl (by decide) rfl (fun ls hl => ?_)
      refine lv_iload_n hx hb dX11_event_35 rfl (lv_at hl 3 rfl) ?_
      by_cases e_5 : l2 = 0
      · have h := ip e_5 h
        refine lv_tableIn (off := 32) (tgt := 68) hx hb dX11_event_36 (by rw [e_5]; decide) (by rw [e_5]; decide) (by rw [e_5]; rfl) (by decide) ?_
        refine lv_aload_n hx hb dX11_event_68 rfl (lv_at hl 1 rfl) ?_
        refine cg_X11_41 X hS dX11_event_69 ?_
        refine cg_X11_305 X hS dX11_event_72 ?_
        refine lv_iload_n hx hb dX11_event_75 rfl (lv_at hl 0 rfl) ?_
        obtain ⟨v_7, e_v_7, i_6, h⟩ := rd_of h
        refine ca_s223 X hS i_6 e_v_7 dX11_event_76 ?_
        refine lv_i2l (v := v_7.toInt64) hx hb dX11_event_77 rfl ?_
        obtain ⟨e9, rfl⟩ := so9 h
        exact hE _ e9.symm _ _ _ _ hS dX11_event_78
      have h := im e_5 h
      by_cases e_8 : l2 = 1
      · have h := ip e_8 h
        refine lv_tableIn (off := 43) (tgt := 79) hx hb dX11_event_36 (by rw [e_8]; decide) (by rw [e_8]; decide) (by rw [e_8]; rfl) (by decide) ?_
        refine lv_aload_n hx hb dX11_event_79 rfl (lv_at hl 1 rfl) ?_
        refine cg_X11_41 X hS dX11_event_80 ?_
        refine cg_X11_309 X hS dX11_event_83 ?_
        refine lv_iload_n hx hb dX11_event_86 rfl (lv_at hl 0 rfl) ?_
        obtain ⟨v_10, e_v_10, i_9, h⟩ := rd_of h
        refine ca_s224 X hS i_9 e_v_10 dX11_event_87 ?_
        refine lv_i2l (v := v_10.toInt64) hx hb dX11_event_88 rfl ?_
        obtain ⟨e9, rfl⟩ := so9 h
        exact hE _ e9.symm _ _ _ _ hS dX11_event_89
      have h := im e_8 h
      by_cases e_11 : l2 = 2
      · have h := ip e_11 h
        refine lv_tableIn (off := 54) (tgt := 90) hx hb dX11_event_36 (by rw [e_11]; decide) (by rw [e_11]; decide) (by rw [e_11]; rfl) (by decide) ?_
        refine lv_aload_n hx hb dX11_event_90 rfl (lv_at hl 1 rfl) ?_
        refine cg_X11_41 X hS dX11_event_91 ?_
        refine cg_X11_312 X hS dX11_event_94 ?_
        refine lv_iload_n hx hb dX11_event_97 rfl (lv_at hl 0 rfl) ?_
        obtain ⟨v_13, e_v_13, i_12, h⟩ := rd_of h
        refine ca_s225 X hS i_12 e_v_13 dX11_event_98 ?_
        refine lv_i2l (v := v_13.toInt64) hx hb dX11_event_99 rfl ?_
        obtain ⟨e9, rfl⟩ := so9 h
        exact hE _ e9.symm _ _ _ _ hS dX11_event_100
      have h := im e_11 h
      by_cases e_14 : l2 = 3
      · have h := ip e_14 h
        refine lv_tableIn (off := 65) (tgt := 101) hx hb dX11_event_36 (by rw [e_14]; decide) (by rw [e_14]; decide) (by rw [e_14]; rfl) (by decide) ?_
        refine lv_aload_n hx hb dX11_event_101 rfl (lv_at hl 1 rfl) ?_
        refine cg_X11_41 X hS dX11_event_102 ?_
        refine cg_X11_315 X hS dX11_event_105 ?_
        refine lv_iload_n hx hb dX11_event_108 rfl (lv_at hl 0 rfl) ?_
        obtain ⟨v_16, e_v_16, i_15, h⟩ := rd_of h
        refine ca_s226 X hS i_15 e_v_16 dX11_event_109 ?_
        obtain ⟨e9, rfl⟩ := so9 h
        exact hE _ e9.symm _ _ _ _ hS dX11_event_110
      have h := im e_14 h
      refine lv_tableDef (tgt := 111) hx hb dX11_event_36 (by decide) (fun off h1 h2 ho => by
        have hI : (l2).toInt = 0 ∨ (l2).toInt = 1 ∨ (l2).toInt = 2 ∨ (l2).toInt = 3 := by omega
        rcases hI with q | q | q | q
        · exact absurd (Int32.toInt_inj.mp (q.trans (by decide))) e_5
        · exact absurd (Int32.toInt_inj.mp (q.trans (by decide))) e_8
        · exact absurd (Int32.toInt_inj.mp (q.trans (by decide))) e_11
        · exact absurd (Int32.toInt_inj.mp (q.trans (by decide))) e_14) (by decide) ?_
      obtain ⟨e9, rfl⟩ := so9 h
      exact hT_111 e9.symm _ _ _ hS hl.1
    · have h := im (c_2) h
      obtain ⟨e9, rfl⟩ := so9 h
      exact hT_15 e9.symm _ _ _ hS hl.1
def F_X11_event (N : Nat) (l1 : Int32) (l2 : Int32) (u : CSt) : Option ((Sum Nat Int64) × CSt) := B_X11_event_0 N l1 l2 u
set_option maxHeartbeats 4000000 in
theorem k_X11_event (l : Launch) (hst : l.stackTraces = false) (D : va_G) (kA : Nat → ClassId) (V Z : Nat → Nat) (N : Nat) (l1 : Int32) (l2 : Int32) (u : CSt) (sz : Nat) {y : (Sum Nat Int64)} {w : CSt} (h : F_X11_event N l1 l2 u = some (y, w)) : vx_Met l yX11_event (Cond.code yX11_event cX11_event 4 (some .long) :: GW) { frames := 6, cells := 1, slots := 6, locals := 100 } (cPc D kA V Z [.ref (Z 200), .int l1, .int l2] u sz) (cQlx D kA Z u sz y w) (cXc D kA Z u sz y w) 1 6 (va_A (CW kA Z u) sz) := by
  refine vx_ofW (cc := cX11_event) (maxL := 4) (ret := (some .long)) (by decide) rfl ?_
  intro p e s m args below meth c s₁ Bd hml hxt hv
  obtain ⟨rfl, hsz, hP, hK, hD0, hE⟩ := hv
  have hts := atoms_spec (ws := Cond.code yX11_event cX11_event 4 (some .long) :: GW) Bd.pre
  have hl := lv_entry ([.ref (Z 200), .int l1, .int l2]) (n := 4) (Nat.le_of_ble_eq_true rfl)
  rw [lg_entry_eq]
  generalize (lg_sl ([.ref (Z 200), .int l1, .int l2]) ++ List.replicate (4 - (lg_sl ([.ref (Z 200), .int l1, .int l2])).length) Slot.unset).toArray = ls at hl ⊢
  have hl : lv_has ls 4 [(0, .ref (Z 200)), (1, .int l1), (2, .int l2)] := hl
  subst hsz
  have X : CC p s m ([.ref (Z 200), .int l1, .int l2]).toArray c cX11_event 4 (Cond.code yX11_event cX11_event 4 (some .long)) RX11 D kA V (va_A (CW kA Z u) s.heap.size) := ⟨⟨Bd.exec, Bd.bytes, hml, findClass_of_methodNamed Bd.named, hts⟩, hK, hE, fun q h => Or.inr h⟩
  refine b_X11_event_0 X (cend_lx X Bd.returns Bd.notSynchronized) hst (cend_X X hxt Bd.notSynchronized) ⟨Nat.le_refl _, Nat.le_refl _⟩ (fun hy H locs ls hS hls => cx_throwNW (x := 3) Bd.exec Bd.bytes hst hn_x0 hn_x1 hn_x2 hn_x5 (findClass_of_methodNamed Bd.named) (by decide +kernel) (by decide +kernel) (by decide +kernel) X hS hy rfl gw_1684 gw_30 (evr_18 hE.2.1) xat_NoSuchElementException xgo_NoSuchElementException (by rw [hml]; exact hls) dX11_event_15 dX11_event_18 dX11_event_19 dX11_event_22 dX11_event_25 hxt (Nat.le_of_ble_eq_true rfl) (Nat.le_of_ble_eq_true rfl) (Nat.le_of_ble_eq_true rfl) (Nat.le_of_ble_eq_true rfl) Bd.notSynchronized (Nat.le_of_ble_eq_true rfl) (Nat.le_of_ble_eq_true rfl)) (fun hy H locs ls hS hls => cx_throwW (x := 1) Bd.exec Bd.bytes hst (findClass_of_methodNamed Bd.named) (by decide +kernel) (by decide +kernel) X hS hy rfl gw_1467 gw_26 (evr_19 hE.2.1) xat_IllegalArgumentException xgo_IllegalArgumentException (by rw [hml]; exact hls) dX11_event_111 dX11_event_114 dX11_event_115 dX11_event_118 dX11_event_121 hxt (Nat.le_of_ble_eq_true rfl) (Nat.le_of_ble_eq_true rfl) (Nat.le_of_ble_eq_true rfl) (Nat.le_of_ble_eq_true rfl) Bd.notSynchronized (Nat.le_of_ble_eq_true rfl) (Nat.le_of_ble_eq_true rfl)) (Nat.le_refl _) (Nat.le_refl _) h  ⟨hP, hD0.self, va_S.rf⟩ (lv_sub hl [0, 1, 2] rfl)
def B_X11_count_0 (N : Nat) (l1 : Int32) (u : CSt) : Option ((Sum Nat Int32) × CSt) := if l1 = 0 then (ok (cR u 0 < 2) inferInstance <| bc (F_X6_ofSort N (cR u 0) l1 u) fun r_4 u_3 => some (.inr r_4, u_3)) else (if l1 = 1 then (ok (cR u 0 < 2) inferInstance <| bc (F_X6_ofSort N (cR u 0) l1 u) fun r_8 u_7 => some (.inr r_8, u_7)) else (if l1 = 2 then (ok (cR u 0 < 2) inferInstance <| bc (F_X6_ofSort N (cR u 0) l1 u) fun r_12 u_11 => some (.inr r_12, u_11)) else (if l1 = 3 then (ok (cR u 0 < 2) inferInstance <| bc (F_X6_ofSort N (cR u 0) l1 u) fun r_16 u_15 => some (.inr r_16, u_15)) else (if l1 = 4 then (ok (cR u 0 < 2) inferInstance <| bc (F_X6_ofSort N (cR u 0) l1 u) fun r_20 u_19 => some (.inr r_20, u_19)) else (if l1 = 5 then (some (.inr (cI u 1), u)) else (if l1 = 6 then (ok (cR u 0 < 2) inferInstance <| bc (F_X6_stoppedTasks N (cR u 0) u) fun r_25 u_24 => some (.inr r_25, u_24)) else (if l1 = 7 then (some (.inr (cI u 9), u)) else (if l1 = 8 then (some (.inr (cI u 10), u)) else (if l1 = 9 then (some (.inr (cI u 0), u)) else (if l1 = 10 then (some (.inr (cI u 2), u)) else (some (.inl 1, u))))))))))))
set_option maxHeartbeats 4000000 in
theorem b_X11_count_0 {y : (Sum Nat Int32)} (X : CC p s m args c cX11_count 2 (Cond.code yX11_count cX11_count 2 (some .int)) RX11 D kA V A) (hE : CEix p l e R s m args below meth c cX11_count D kA Z A Q y w) (hst : l.stackTraces = false) (hX : CX p l e R s m args below meth c D kA Z A Q y w) (hC : 1 ≤ R.cells ∧ 6 ≤ R.slots) (hT_108 : y = .inl 1 → ∀ (H : Heap) (locs : List Loc) (ls : Array Slot), CS D kA Z A s w H locs → ls.size = 2 → W p l e R s m args below meth c H locs 0 0 Q (F0 m 108 ls [])) (hF : 6 ≤ R.frames) (hL : 100 ≤ R.locals) {l1 : Int32} {u : CSt}  (h : B_X11_count_0 N l1 u = some (y, w))  (hS : CS D kA Z A s u H locs) (hl : lv_has ls 2 [(0, .ref (Z 200)), (1, .int l1)]) : W p l e R s m args below meth c H locs 0 0 Q (F0 m 0 ls []) := by
  obtain ⟨⟨hx, hb, hml, hown, hts⟩, hK, hEV, hA⟩ := id X
  have hG : ∀ w ∈ GW, w.before args s = true := fun w h => hts w (List.mem_cons_of_mem _ h)
  unfold B_X11_count_0 at h
  refine lv_iload_n hx hb dX11_count_0 rfl (lv_at hl 1 rfl) ?_
  by_cases e_1 : l1 = 0
  · have h := ip e_1 h
    refine lv_tableIn (off := 59) (tgt := 60) hx hb dX11_count_1 (by rw [e_1]; decide) (by rw [e_1]; decide) (by rw [e_1]; rfl) (by decide) ?_
    refine lv_aload_n hx hb dX11_count_60 rfl (lv_at hl 0 rfl) ?_
    refine cg_X11_48 X hS dX11_count_61 ?_
    obtain ⟨z_2, h⟩ := ok_of h
    refine lv_iload_n hx hb dX11_count_64 rfl (lv_at hl 1 rfl) ?_
    obtain ⟨r_4, u_3, h_u_3, h⟩ := bc_of h
    refine kc_X6_ofSort_RX11 X z_2 hS h_u_3 (Nat.le_trans (Nat.le_of_ble_eq_true rfl) hF) (Nat.le_trans (Nat.le_of_ble_eq_true rfl) hL) hl.1 (Nat.le_of_ble_eq_true rfl) dX11_count_65 (fun H locs hS => ?_)
    obtain ⟨e9, rfl⟩ := so9 h
    exact hE _ e9.symm _ _ _ _ hS dX11_count_68
  have h := im e_1 h
  by_cases e_5 : l1 = 1
  · have h := ip e_5 h
    refine lv_tableIn (off := 59) (tgt := 60) hx hb dX11_count_1 (by rw [e_5]; decide) (by rw [e_5]; decide) (by rw [e_5]; rfl) (by decide) ?_
    refine lv_aload_n hx hb dX11_count_60 rfl (lv_at hl 0 rfl) ?_
    refine cg_X11_48 X hS dX11_count_61 ?_
    obtain ⟨z_6, h⟩ := ok_of h
    refine lv_iload_n hx hb dX11_count_64 rfl (lv_at hl 1 rfl) ?_
    obtain ⟨r_8, u_7, h_u_7, h⟩ := bc_of h
    refine kc_X6_ofSort_RX11 X z_6 hS h_u_7 (Nat.le_trans (Nat.le_of_ble_eq_true rfl) hF) (Nat.le_trans (Nat.le_of_ble_eq_true rfl) hL) hl.1 (Nat.le_of_ble_eq_true rfl) dX11_count_65 (fun H locs hS => ?_)
    obtain ⟨e9, rfl⟩ := so9 h
    exact hE _ e9.symm _ _ _ _ hS dX11_count_68
  have h := im e_5 h
  by_cases e_9 : l1 = 2
  · have h := ip e_9 h
    refine lv_tableIn (off := 59) (tgt := 60) hx hb dX11_count_1 (by rw [e_9]; decide) (by rw [e_9]; decide) (by rw [e_9]; rfl) (by decide) ?_
    refine lv_aload_n hx hb dX11_count_60 rfl (lv_at hl 0 rfl) ?_
    refine cg_X11_48 X hS dX11_count_61 ?_
    obtain ⟨z_10, h⟩ := ok_of h
    refine lv_iload_n hx hb dX11_count_64 rfl (lv_at hl 1 rfl) ?_
    obtain ⟨r_12, u_11, h_u_11, h⟩ := bc_of h
    refine kc_X6_ofSort_RX11 X z_10 hS h_u_11 (Nat.le_trans (Nat.le_of_ble_eq_true rfl) hF) (Nat.le_trans (Nat.le_of_ble_eq_true rfl) hL) hl.1 (Nat.le_of_ble_eq_true rfl) dX11_count_65 (fun H locs hS => ?_)
    obtain ⟨e9, rfl⟩ := so9 h
    exact hE _ e9.symm _ _ _ _ hS dX11_count_68
  have h := im e_9 h
  by_cases e_13 : l1 = 3
  · have h := ip e_13 h
    refine lv_tableIn (off := 59) (tgt := 60) hx hb dX11_count_1 (by rw [e_13]; decide) (by rw [e_13]; decide) (by rw [e_13]; rfl) (by decide) ?_
    refine lv_aload_n hx hb dX11_count_60 rfl (lv_at hl 0 rfl) ?_
    refine cg_X11_48 X hS dX11_count_61 ?_
    obtain ⟨z_14, h⟩ := ok_of h
    refine lv_iload_n hx hb dX11_count_64 rfl (lv_at hl 1 rfl) ?_
    obtain ⟨r_16, u_15, h_u_15, h⟩ := bc_of h
    refine kc_X6_ofSort_RX11 X z_14 hS h_u_15 (Nat.le_trans (Nat.le_of_ble_eq_true rfl) hF) (Nat.le_trans (Nat.le_of_ble_eq_true rfl) hL) hl.1 (Nat.le_of_ble_eq_true rfl) dX11_count_65 (fun H locs hS => ?_)
    obtain ⟨e9, rfl⟩ := so9 h
    exact hE _ e9.symm _ _ _ _ hS dX11_count_68
  have h := im e_13 h
  by_cases e_17 : l1 = 4
  · have h := ip e_17 h
    refine lv_tableIn (off := 59) (tgt := 60) hx hb dX11_count_1 (by rw [e_17]; decide) (by rw [e_17]; decide) (by rw [e_17]; rfl) (by decide) ?_
    refine lv_aload_n hx hb dX11_count_60 rfl (lv_at hl 0 rfl) ?_
    refine cg_X11_48 X hS dX11_count_61 ?_
    obtain ⟨z_18, h⟩ := ok_of h
    refine lv_iload_n hx hb dX11_count_64 rfl (lv_at hl 1 rfl) ?_
    obtain ⟨r_20, u_19, h_u_19, h⟩ := bc_of h
    refine kc_X6_ofSort_RX11 X z_18 hS h_u_19 (Nat.le_trans (Nat.le_of_ble_eq_true rfl) hF) (Nat.le_trans (Nat.le_of_ble_eq_true rfl) hL) hl.1 (Nat.le_of_ble_eq_true rfl) dX11_count_65 (fun H locs hS => ?_)
    obtain ⟨e9, rfl⟩ := so9 h
    exact hE _ e9.symm _ _ _ _ hS dX11_count_68
  have h := im e_17 h
  by_cases e_21 : l1 = 5
  · have h := ip e_21 h
    refine lv_tableIn (off := 68) (tgt := 69) hx hb dX11_count_1 (by rw [e_21]; decide) (by rw [e_21]; decide) (by rw [e_21]; rfl) (by decide) ?_
    refine lv_aload_n hx hb dX11_count_69 rfl (lv_at hl 0 rfl) ?_
    refine cg_X11_150 X hS dX11_count_70 ?_
    obtain ⟨e9, rfl⟩ := so9 h
    exact hE _ e9.symm _ _ _ _ hS dX11_count_73
  have h := im e_21 h
  by_cases e_22 : l1 = 6
  · have h := ip e_22 h
    refine lv_tableIn (off := 73) (tgt := 74) hx hb dX11_count_1 (by rw [e_22]; decide) (by rw [e_22]; decide) (by rw [e_22]; rfl) (by decide) ?_
    refine lv_aload_n hx hb dX11_count_74 rfl (lv_at hl 0 rfl) ?_
    refine cg_X11_48 X hS dX11_count_75 ?_
    obtain ⟨z_23, h⟩ := ok_of h
    obtain ⟨r_25, u_24, h_u_24, h⟩ := bc_of h
    refine kc_X6_stoppedTasks_RX11 X z_23 hS h_u_24 (Nat.le_trans (Nat.le_of_ble_eq_true rfl) hF) (Nat.le_trans (Nat.le_of_ble_eq_true rfl) hL) hl.1 (Nat.le_of_ble_eq_true rfl) dX11_count_78 (fun H locs hS => ?_)
    obtain ⟨e9, rfl⟩ := so9 h
    exact hE _ e9.symm _ _ _ _ hS dX11_count_81
  have h := im e_22 h
  by_cases e_26 : l1 = 7
  · have h := ip e_26 h
    refine lv_tableIn (off := 81) (tgt := 82) hx hb dX11_count_1 (by rw [e_26]; decide) (by rw [e_26]; decide) (by rw [e_26]; rfl) (by decide) ?_
    refine lv_aload_n hx hb dX11_count_82 rfl (lv_at hl 0 rfl) ?_
    refine cg_X11_41 X hS dX11_count_83 ?_
    refine cg_X11_285 X hS dX11_count_86 ?_
    obtain ⟨e9, rfl⟩ := so9 h
    exact hE _ e9.symm _ _ _ _ hS dX11_count_89
  have h := im e_26 h
  by_cases e_27 : l1 = 8
  · have h := ip e_27 h
    refine lv_tableIn (off := 89) (tgt := 90) hx hb dX11_count_1 (by rw [e_27]; decide) (by rw [e_27]; decide) (by rw [e_27]; rfl) (by decide) ?_
    refine lv_aload_n hx hb dX11_count_90 rfl (lv_at hl 0 rfl) ?_
    refine cg_X11_41 X hS dX11_count_91 ?_
    refine cg_X11_297 X hS dX11_count_94 ?_
    obtain ⟨e9, rfl⟩ := so9 h
    exact hE _ e9.symm _ _ _ _ hS dX11_count_97
  have h := im e_27 h
  by_cases e_28 : l1 = 9
  · have h := ip e_28 h
    refine lv_tableIn (off := 97) (tgt := 98) hx hb dX11_count_1 (by rw [e_28]; decide) (by rw [e_28]; decide) (by rw [e_28]; rfl) (by decide) ?_
    refine lv_aload_n hx hb dX11_count_98 rfl (lv_at hl 0 rfl) ?_
    refine cg_X11_77 X hS dX11_count_99 ?_
    obtain ⟨e9, rfl⟩ := so9 h
    exact hE _ e9.symm _ _ _ _ hS dX11_count_102
  have h := im e_28 h
  by_cases e_29 : l1 = 10
  · have h := ip e_29 h
    refine lv_tableIn (off := 102) (tgt := 103) hx hb dX11_count_1 (by rw [e_29]; decide) (by rw [e_29]; decide) (by rw [e_29]; rfl) (by decide) ?_
    refine lv_aload_n hx hb dX11_count_103 rfl (lv_at hl 0 rfl) ?_
    refine cg_X11_73 X hS dX11_count_104 ?_
    obtain ⟨e9, rfl⟩ := so9 h
    exact hE _ e9.symm _ _ _ _ hS dX11_count_107
  have h := im e_29 h
  refine lv_tableDef (tgt := 108) hx hb dX11_count_1 (by decide) (fun off h1 h2 ho => by
    have hI : (l1).toInt = 0 ∨ (l1).toInt = 1 ∨ (l1).toInt = 2 ∨ (l1).toInt = 3 ∨ (l1).toInt = 4 ∨ (l1).toInt = 5 ∨ (l1).toInt = 6 ∨ (l1).toInt = 7 ∨ (l1).toInt = 8 ∨ (l1).toInt = 9 ∨ (l1).toInt = 10 := by omega
    rcases hI with q | q | q | q | q | q | q | q | q | q | q
    · exact absurd (Int32.toInt_inj.mp (q.trans (by decide))) e_1
    · exact absurd (Int32.toInt_inj.mp (q.trans (by decide))) e_5
    · exact absurd (Int32.toInt_inj.mp (q.trans (by decide))) e_9
    · exact absurd (Int32.toInt_inj.mp (q.trans (by decide))) e_13
    · exact absurd (Int32.toInt_inj.mp (q.trans (by decide))) e_17
    · exact absurd (Int32.toInt_inj.mp (q.trans (by decide))) e_21
    · exact absurd (Int32.toInt_inj.mp (q.trans (by decide))) e_22
    · exact absurd (Int32.toInt_inj.mp (q.trans (by decide))) e_26
    · exact absurd (Int32.toInt_inj.mp (q.trans (by decide))) e_27
    · exact absurd (Int32.toInt_inj.mp (q.trans (by decide))) e_28
    · exact absurd (Int32.toInt_inj.mp (q.trans (by decide))) e_29) (by decide) ?_
  obtain ⟨e9, rfl⟩ := so9 h
  exact hT_108 e9.symm _ _ _ hS hl.1
def F_X11_count (N : Nat) (l1 : Int32) (u : CSt) : Option ((Sum Nat Int32) × CSt) := B_X11_count_0 N l1 u
set_option maxHeartbeats 4000000 in
theorem k_X11_count (l : Launch) (hst : l.stackTraces = false) (D : va_G) (kA : Nat → ClassId) (V Z : Nat → Nat) (N : Nat) (l1 : Int32) (u : CSt) (sz : Nat) {y : (Sum Nat Int32)} {w : CSt} (h : F_X11_count N l1 u = some (y, w)) : vx_Met l yX11_count (Cond.code yX11_count cX11_count 2 (some .int) :: GW) { frames := 6, cells := 1, slots := 6, locals := 100 } (cPc D kA V Z [.ref (Z 200), .int l1] u sz) (cQix D kA Z u sz y w) (cXc D kA Z u sz y w) 1 6 (va_A (CW kA Z u) sz) := by
  refine vx_ofW (cc := cX11_count) (maxL := 2) (ret := (some .int)) (by decide) rfl ?_
  intro p e s m args below meth c s₁ Bd hml hxt hv
  obtain ⟨rfl, hsz, hP, hK, hD0, hE⟩ := hv
  have hts := atoms_spec (ws := Cond.code yX11_count cX11_count 2 (some .int) :: GW) Bd.pre
  have hl := lv_entry ([.ref (Z 200), .int l1]) (n := 2) (Nat.le_of_ble_eq_true rfl)
  rw [lg_entry_eq]
  generalize (lg_sl ([.ref (Z 200), .int l1]) ++ List.replicate (2 - (lg_sl ([.ref (Z 200), .int l1])).length) Slot.unset).toArray = ls at hl ⊢
  have hl : lv_has ls 2 [(0, .ref (Z 200)), (1, .int l1)] := hl
  subst hsz
  have X : CC p s m ([.ref (Z 200), .int l1]).toArray c cX11_count 2 (Cond.code yX11_count cX11_count 2 (some .int)) RX11 D kA V (va_A (CW kA Z u) s.heap.size) := ⟨⟨Bd.exec, Bd.bytes, hml, findClass_of_methodNamed Bd.named, hts⟩, hK, hE, fun q h => Or.inr h⟩
  refine b_X11_count_0 X (cend_ix X Bd.returns Bd.notSynchronized) hst (cend_X X hxt Bd.notSynchronized) ⟨Nat.le_refl _, Nat.le_refl _⟩ (fun hy H locs ls hS hls => cx_throwW (x := 1) Bd.exec Bd.bytes hst (findClass_of_methodNamed Bd.named) (by decide +kernel) (by decide +kernel) X hS hy rfl gw_1467 gw_26 (evr_20 hE.2.1) xat_IllegalArgumentException xgo_IllegalArgumentException (by rw [hml]; exact hls) dX11_count_108 dX11_count_111 dX11_count_112 dX11_count_115 dX11_count_118 hxt (Nat.le_of_ble_eq_true rfl) (Nat.le_of_ble_eq_true rfl) (Nat.le_of_ble_eq_true rfl) (Nat.le_of_ble_eq_true rfl) Bd.notSynchronized (Nat.le_of_ble_eq_true rfl) (Nat.le_of_ble_eq_true rfl)) (Nat.le_refl _) (Nat.le_refl _) h  ⟨hP, hD0.self, va_S.rf⟩ (lv_sub hl [0, 1] rfl)
def B_X11_sum_30 (N : Nat) (R_4 : Int64 × Int32 × CSt → Option (Int64 × CSt)) (R_30 : Int64 × Int32 × Nat × Int32 × CSt → Option (Int64 × CSt)) (l1 : Int64) (l3 : Int32) (l4 : Nat) (l5 : Int32) (u : CSt) : Option (Int64 × CSt) := if (mI u l4 7) ≤ l5 then (R_4 (l1, (l3 + 1), u)) else (bc (F_X2_numberOf N l4 l5 u) fun r_3 u_2 => R_30 (((31 * l1) + r_3), l3, l4, (l5 + 1), u_2))
set_option maxHeartbeats 4000000 in
theorem b_X11_sum_30 {r : Int64} (X : CC p s m args c cX11_sum 7 (Cond.code yX11_sum cX11_sum 7 (some .long)) RX11 D kA V A) (hE : CEl p l e R s m args below meth c cX11_sum D kA Z A Q r w) (hF : 3 ≤ R.frames) (hL : 70 ≤ R.locals) {R_4 : Int64 × Int32 × CSt → Option (Int64 × CSt)} {R_30 : Int64 × Int32 × Nat × Int32 × CSt → Option (Int64 × CSt)} {l1 : Int64} {l3 : Int32} {l4 : Nat} {l5 : Int32} {u : CSt} (hR_4 : ∀ (l1 : Int64) (l3 : Int32) (u : CSt), R_4 (l1, l3, u) = some (r, w) → ∀ (H : Heap) (locs : List Loc) (ls : Array Slot), CS D kA Z A s u H locs → lv_has ls 7 [(0, .ref (Z 200)), (1, .long l1), (3, .int l3)] → W p l e R s m args below meth c H locs 0 0 Q (F0 m 4 ls [])) (hR_30 : ∀ (l1 : Int64) (l3 : Int32) (l4 : Nat) (l5 : Int32) (u : CSt), l4 < 338 → R_30 (l1, l3, l4, l5, u) = some (r, w) → ∀ (H : Heap) (locs : List Loc) (ls : Array Slot), CS D kA Z A s u H locs → lv_has ls 7 [(0, .ref (Z 200)), (1, .long l1), (3, .int l3), (4, .ref (Z (1000 + l4))), (5, .int l5)] → W p l e R s m args below meth c H locs 0 0 Q (F0 m 30 ls [])) (h : B_X11_sum_30 N R_4 R_30 l1 l3 l4 l5 u = some (r, w)) (h_l4 : l4 < 338) (hS : CS D kA Z A s u H locs) (hl : lv_has ls 7 [(0, .ref (Z 200)), (1, .long l1), (3, .int l3), (4, .ref (Z (1000 + l4))), (5, .int l5)]) : W p l e R s m args below meth c H locs 0 0 Q (F0 m 30 ls []) := by
  obtain ⟨⟨hx, hb, hml, hown, hts⟩, hK, hEV, hA⟩ := id X
  have hG : ∀ w ∈ GW, w.before args s = true := fun w h => hts w (List.mem_cons_of_mem _ h)
  unfold B_X11_sum_30 at h
  refine lv_iload hx hb dX11_sum_30 (lv_at hl 4 rfl) ?_
  refine lv_aload hx hb dX11_sum_32 (lv_at hl 3 rfl) ?_
  refine cg_X11_133 X h_l4 hS dX11_sum_34 ?_
  refine lv_icmp_ge (tgt := 64) hx hb dX11_sum_37 (by decide) (fun c_1 => ?_) (fun c_1 => ?_)
  · have h := ip (c_1) h
    refine lv_iinc (v := l3 + 1) (lv' := [(3, .int (l3 + 1)), (0, .ref (Z 200)), (1, .long l1), (4, .ref (Z (1000 + l4))), (5, .int l5)]) hx hb dX11_sum_64 hl (k := 2) rfl rfl (by decide) rfl (fun ls hl => ?_)
    refine lv_goto (tgt := 4) hx hb dX11_sum_67 (by decide) ?_
    exact hR_4 _ _ _  h _ _ _ hS (lv_sub hl [1, 2, 0] rfl)
  · have h := im (c_1) h
    refine lv_ldc2 (v := 31) hx hb hown (hG _ gw_1441) dX11_sum_40 ?_
    refine lv_lload_n hx hb dX11_sum_43 rfl (lv_at hl 1 rfl) ?_
    refine lv_lmul hx hb dX11_sum_44 ?_
    refine lv_aload_n hx hb dX11_sum_45 rfl (lv_at hl 0 rfl) ?_
    refine cg_X11_69 X hS dX11_sum_46 ?_
    refine lv_aload hx hb dX11_sum_49 (lv_at hl 3 rfl) ?_
    refine lv_iload hx hb dX11_sum_51 (lv_at hl 4 rfl) ?_
    obtain ⟨r_3, u_2, h_u_2, h⟩ := bc_of h
    refine kc_X2_numberOf_RX11 X h_l4 hS h_u_2 (Nat.le_trans (Nat.le_of_ble_eq_true rfl) hF) (Nat.le_trans (Nat.le_of_ble_eq_true rfl) hL) hl.1 (Nat.le_of_ble_eq_true rfl) dX11_sum_53 (fun H locs hS => ?_)
    refine lv_ladd hx hb dX11_sum_56 ?_
    refine lv_lstore_n (lv' := [(1, .long ((31 * l1) + r_3)), (0, .ref (Z 200)), (3, .int l3), (4, .ref (Z (1000 + l4))), (5, .int l5)]) hx hb dX11_sum_57 rfl hl (by decide) rfl (fun ls hl => ?_)
    refine lv_iinc (v := l5 + 1) (lv' := [(5, .int (l5 + 1)), (1, .long ((31 * l1) + r_3)), (0, .ref (Z 200)), (3, .int l3), (4, .ref (Z (1000 + l4)))]) hx hb dX11_sum_58 hl (k := 4) rfl rfl (by decide) rfl (fun ls hl => ?_)
    refine lv_goto (tgt := 30) hx hb dX11_sum_61 (by decide) ?_
    exact hR_30 _ _ _ _ _ h_l4 h _ _ _ hS (lv_sub hl [2, 1, 3, 4, 0] rfl)
def LP_X11_sum_30 (N : Nat) (R_4 : Int64 × Int32 × CSt → Option (Int64 × CSt)) : Nat → Int64 × Int32 × Nat × Int32 × CSt → Option (Int64 × CSt) := lp (fun R a => B_X11_sum_30 N R_4 R a.1 a.2.1 a.2.2.1 a.2.2.2.1 a.2.2.2.2)
theorem bl_X11_sum_30 {r : Int64} (X : CC p s m args c cX11_sum 7 (Cond.code yX11_sum cX11_sum 7 (some .long)) RX11 D kA V A) (hE : CEl p l e R s m args below meth c cX11_sum D kA Z A Q r w) (hF : 3 ≤ R.frames) (hL : 70 ≤ R.locals) {R_4 : Int64 × Int32 × CSt → Option (Int64 × CSt)} (hR_4 : ∀ (l1 : Int64) (l3 : Int32) (u : CSt), R_4 (l1, l3, u) = some (r, w) → ∀ (H : Heap) (locs : List Loc) (ls : Array Slot), CS D kA Z A s u H locs → lv_has ls 7 [(0, .ref (Z 200)), (1, .long l1), (3, .int l3)] → W p l e R s m args below meth c H locs 0 0 Q (F0 m 4 ls [])) : ∀ (n : Nat) (l1 : Int64) (l3 : Int32) (l4 : Nat) (l5 : Int32) (u : CSt), l4 < 338 → LP_X11_sum_30 N R_4 n (l1, l3, l4, l5, u) = some (r, w) → ∀ (H : Heap) (locs : List Loc) (ls : Array Slot), CS D kA Z A s u H locs → lv_has ls 7 [(0, .ref (Z 200)), (1, .long l1), (3, .int l3), (4, .ref (Z (1000 + l4))), (5, .int l5)] → W p l e R s m args below meth c H locs 0 0 Q (F0 m 30 ls []) := by
  intro n
  induction n with
  | zero => intro l1 l3 l4 l5 u h_l4 h; exact nomatch h
  | succ n ih => intro l1 l3 l4 l5 u h_l4 h H locs ls hS hl; exact b_X11_sum_30 (N := N) (R_30 := LP_X11_sum_30 N R_4 n) X hE  hF hL hR_4 ih h h_l4 hS hl
def B_X11_sum_115 (N : Nat) (R_72 : Int64 × Int32 × CSt → Option (Int64 × CSt)) (R_115 : Int64 × Int32 × Nat × Int32 × Int32 × CSt → Option (Int64 × CSt)) (l1 : Int64) (l3 : Int32) (l4 : Nat) (l5 : Int32) (l6 : Int32) (u : CSt) : Option (Int64 × CSt) := if l5 ≤ l6 then (R_72 (l1, (l3 + 1), u)) else (bc (F_X2_numberAt N ((mI u l4 9) + l6) u) fun r_6 u_5 => R_115 (((31 * l1) + r_6), l3, l4, l5, (l6 + 1), u_5))
set_option maxHeartbeats 4000000 in
theorem b_X11_sum_115 {r : Int64} (X : CC p s m args c cX11_sum 7 (Cond.code yX11_sum cX11_sum 7 (some .long)) RX11 D kA V A) (hE : CEl p l e R s m args below meth c cX11_sum D kA Z A Q r w) (hF : 3 ≤ R.frames) (hL : 70 ≤ R.locals) {R_72 : Int64 × Int32 × CSt → Option (Int64 × CSt)} {R_115 : Int64 × Int32 × Nat × Int32 × Int32 × CSt → Option (Int64 × CSt)} {l1 : Int64} {l3 : Int32} {l4 : Nat} {l5 : Int32} {l6 : Int32} {u : CSt} (hR_72 : ∀ (l1 : Int64) (l3 : Int32) (u : CSt), R_72 (l1, l3, u) = some (r, w) → ∀ (H : Heap) (locs : List Loc) (ls : Array Slot), CS D kA Z A s u H locs → lv_has ls 7 [(0, .ref (Z 200)), (1, .long l1), (3, .int l3)] → W p l e R s m args below meth c H locs 0 0 Q (F0 m 72 ls [])) (hR_115 : ∀ (l1 : Int64) (l3 : Int32) (l4 : Nat) (l5 : Int32) (l6 : Int32) (u : CSt), l4 < 338 → R_115 (l1, l3, l4, l5, l6, u) = some (r, w) → ∀ (H : Heap) (locs : List Loc) (ls : Array Slot), CS D kA Z A s u H locs → lv_has ls 7 [(0, .ref (Z 200)), (1, .long l1), (3, .int l3), (4, .ref (Z (1000 + l4))), (5, .int l5), (6, .int l6)] → W p l e R s m args below meth c H locs 0 0 Q (F0 m 115 ls [])) (h : B_X11_sum_115 N R_72 R_115 l1 l3 l4 l5 l6 u = some (r, w)) (h_l4 : l4 < 338) (hS : CS D kA Z A s u H locs) (hl : lv_has ls 7 [(0, .ref (Z 200)), (1, .long l1), (3, .int l3), (4, .ref (Z (1000 + l4))), (5, .int l5), (6, .int l6)]) : W p l e R s m args below meth c H locs 0 0 Q (F0 m 115 ls []) := by
  obtain ⟨⟨hx, hb, hml, hown, hts⟩, hK, hEV, hA⟩ := id X
  have hG : ∀ w ∈ GW, w.before args s = true := fun w h => hts w (List.mem_cons_of_mem _ h)
  unfold B_X11_sum_115 at h
  refine lv_iload hx hb dX11_sum_115 (lv_at hl 5 rfl) ?_
  refine lv_iload hx hb dX11_sum_117 (lv_at hl 4 rfl) ?_
  refine lv_icmp_ge (tgt := 150) hx hb dX11_sum_119 (by decide) (fun c_4 => ?_) (fun c_4 => ?_)
  · have h := ip (c_4) h
    refine lv_iinc (v := l3 + 1) (lv' := [(3, .int (l3 + 1)), (0, .ref (Z 200)), (1, .long l1), (4, .ref (Z (1000 + l4))), (5, .int l5), (6, .int l6)]) hx hb dX11_sum_150 hl (k := 2) rfl rfl (by decide) rfl (fun ls hl => ?_)
    refine lv_goto (tgt := 72) hx hb dX11_sum_153 (by decide) ?_
    exact hR_72 _ _ _  h _ _ _ hS (lv_sub hl [1, 2, 0] rfl)
  · have h := im (c_4) h
    refine lv_ldc2 (v := 31) hx hb hown (hG _ gw_1441) dX11_sum_122 ?_
    refine lv_lload_n hx hb dX11_sum_125 rfl (lv_at hl 1 rfl) ?_
    refine lv_lmul hx hb dX11_sum_126 ?_
    refine lv_aload_n hx hb dX11_sum_127 rfl (lv_at hl 0 rfl) ?_
    refine cg_X11_69 X hS dX11_sum_128 ?_
    refine lv_aload hx hb dX11_sum_131 (lv_at hl 3 rfl) ?_
    refine cg_X11_130 X h_l4 hS dX11_sum_133 ?_
    refine lv_iload hx hb dX11_sum_136 (lv_at hl 5 rfl) ?_
    refine lv_iadd hx hb dX11_sum_138 ?_
    obtain ⟨r_6, u_5, h_u_5, h⟩ := bc_of h
    refine kc_X2_numberAt_RX11 X  hS h_u_5 (Nat.le_trans (Nat.le_of_ble_eq_true rfl) hF) (Nat.le_trans (Nat.le_of_ble_eq_true rfl) hL) hl.1 (Nat.le_of_ble_eq_true rfl) dX11_sum_139 (fun H locs hS => ?_)
    refine lv_ladd hx hb dX11_sum_142 ?_
    refine lv_lstore_n (lv' := [(1, .long ((31 * l1) + r_6)), (0, .ref (Z 200)), (3, .int l3), (4, .ref (Z (1000 + l4))), (5, .int l5), (6, .int l6)]) hx hb dX11_sum_143 rfl hl (by decide) rfl (fun ls hl => ?_)
    refine lv_iinc (v := l6 + 1) (lv' := [(6, .int (l6 + 1)), (1, .long ((31 * l1) + r_6)), (0, .ref (Z 200)), (3, .int l3), (4, .ref (Z (1000 + l4))), (5, .int l5)]) hx hb dX11_sum_144 hl (k := 5) rfl rfl (by decide) rfl (fun ls hl => ?_)
    refine lv_goto (tgt := 115) hx hb dX11_sum_147 (by decide) ?_
    exact hR_115 _ _ _ _ _ _ h_l4 h _ _ _ hS (lv_sub hl [2, 1, 3, 4, 5, 0] rfl)
def LP_X11_sum_115 (N : Nat) (R_72 : Int64 × Int32 × CSt → Option (Int64 × CSt)) : Nat → Int64 × Int32 × Nat × Int32 × Int32 × CSt → Option (Int64 × CSt) := lp (fun R a => B_X11_sum_115 N R_72 R a.1 a.2.1 a.2.2.1 a.2.2.2.1 a.2.2.2.2.1 a.2.2.2.2.2)
theorem bl_X11_sum_115 {r : Int64} (X : CC p s m args c cX11_sum 7 (Cond.code yX11_sum cX11_sum 7 (some .long)) RX11 D kA V A) (hE : CEl p l e R s m args below meth c cX11_sum D kA Z A Q r w) (hF : 3 ≤ R.frames) (hL : 70 ≤ R.locals) {R_72 : Int64 × Int32 × CSt → Option (Int64 × CSt)} (hR_72 : ∀ (l1 : Int64) (l3 : Int32) (u : CSt), R_72 (l1, l3, u) = some (r, w) → ∀ (H : Heap) (locs : List Loc) (ls : Array Slot), CS D kA Z A s u H locs → lv_has ls 7 [(0, .ref (Z 200)), (1, .long l1), (3, .int l3)] → W p l e R s m args below meth c H locs 0 0 Q (F0 m 72 ls [])) : ∀ (n : Nat) (l1 : Int64) (l3 : Int32) (l4 : Nat) (l5 : Int32) (l6 : Int32) (u : CSt), l4 < 338 → LP_X11_sum_115 N R_72 n (l1, l3, l4, l5, l6, u) = some (r, w) → ∀ (H : Heap) (locs : List Loc) (ls : Array Slot), CS D kA Z A s u H locs → lv_has ls 7 [(0, .ref (Z 200)), (1, .long l1), (3, .int l3), (4, .ref (Z (1000 + l4))), (5, .int l5), (6, .int l6)] → W p l e R s m args below meth c H locs 0 0 Q (F0 m 115 ls []) := by
  intro n
  induction n with
  | zero => intro l1 l3 l4 l5 l6 u h_l4 h; exact nomatch h
  | succ n ih => intro l1 l3 l4 l5 l6 u h_l4 h H locs ls hS hl; exact b_X11_sum_115 (N := N) (R_115 := LP_X11_sum_115 N R_72 n) X hE  hF hL hR_72 ih h h_l4 hS hl
def B_X11_sum_72 (N : Nat) (R_72 : Int64 × Int32 × CSt → Option (Int64 × CSt)) (l1 : Int64) (l3 : Int32) (u : CSt) : Option (Int64 × CSt) := ok (cR u 0 < 2) inferInstance <| bc (F_X6_ofSort N (cR u 0) 1 u) fun r_9 u_8 => if r_9 ≤ l3 then (some (l1, u_8)) else (ok (cR u_8 0 < 2) inferInstance <| bc (F_X6_nth N (cR u_8 0) 1 l3 u_8) fun r_13 u_12 => ok (r_13 < 338) inferInstance <| ok (cR u_12 0 < 2) inferInstance <| bc (F_X6_name N (cR u_12 0) (mI u_12 r_13 14) u_12) fun r_17 u_16 => ok (r_17 < 338) inferInstance <| LP_X11_sum_115 N R_72 N (l1, l3, r_13, (mI u_16 r_17 7), 0, u_16))
set_option maxHeartbeats 4000000 in
theorem b_X11_sum_72 {r : Int64} (X : CC p s m args c cX11_sum 7 (Cond.code yX11_sum cX11_sum 7 (some .long)) RX11 D kA V A) (hE : CEl p l e R s m args below meth c cX11_sum D kA Z A Q r w) (hF : 3 ≤ R.frames) (hL : 70 ≤ R.locals) {R_72 : Int64 × Int32 × CSt → Option (Int64 × CSt)} {l1 : Int64} {l3 : Int32} {u : CSt} (hR_72 : ∀ (l1 : Int64) (l3 : Int32) (u : CSt), R_72 (l1, l3, u) = some (r, w) → ∀ (H : Heap) (locs : List Loc) (ls : Array Slot), CS D kA Z A s u H locs → lv_has ls 7 [(0, .ref (Z 200)), (1, .long l1), (3, .int l3)] → W p l e R s m args below meth c H locs 0 0 Q (F0 m 72 ls [])) (h : B_X11_sum_72 N R_72 l1 l3 u = some (r, w))  (hS : CS D kA Z A s u H locs) (hl : lv_has ls 7 [(0, .ref (Z 200)), (1, .long l1), (3, .int l3)]) : W p l e R s m args below meth c H locs 0 0 Q (F0 m 72 ls []) := by
  obtain ⟨⟨hx, hb, hml, hown, hts⟩, hK, hEV, hA⟩ := id X
  have hG : ∀ w ∈ GW, w.before args s = true := fun w h => hts w (List.mem_cons_of_mem _ h)
  unfold B_X11_sum_72 at h
  refine lv_iload_n hx hb dX11_sum_72 rfl (lv_at hl 2 rfl) ?_
  refine lv_aload_n hx hb dX11_sum_73 rfl (lv_at hl 0 rfl) ?_
  refine cg_X11_48 X hS dX11_sum_74 ?_
  obtain ⟨z_7, h⟩ := ok_of h
  refine lv_iconst (v := 1) hx hb dX11_sum_77 (by decide) ?_
  obtain ⟨r_9, u_8, h_u_8, h⟩ := bc_of h
  refine kc_X6_ofSort_RX11 X z_7 hS h_u_8 (Nat.le_trans (Nat.le_of_ble_eq_true rfl) hF) (Nat.le_trans (Nat.le_of_ble_eq_true rfl) hL) hl.1 (Nat.le_of_ble_eq_true rfl) dX11_sum_78 (fun H locs hS => ?_)
  refine lv_icmp_ge (tgt := 156) hx hb dX11_sum_81 (by decide) (fun c_10 => ?_) (fun c_10 => ?_)
  · have h := ip (c_10) h
    refine lv_lload_n hx hb dX11_sum_156 rfl (lv_at hl 1 rfl) ?_
    obtain ⟨rfl, rfl⟩ := so9 h
    exact hE _ _ _ _ hS dX11_sum_157
  · have h := im (c_10) h
    refine lv_aload_n hx hb dX11_sum_84 rfl (lv_at hl 0 rfl) ?_
    refine cg_X11_48 X hS dX11_sum_85 ?_
    obtain ⟨z_11, h⟩ := ok_of h
    refine lv_iconst (v := 1) hx hb dX11_sum_88 (by decide) ?_
    refine lv_iload_n hx hb dX11_sum_89 rfl (lv_at hl 2 rfl) ?_
    obtain ⟨r_13, u_12, h_u_12, h⟩ := bc_of h
    refine kc_X6_nth_RX11 X z_11 hS h_u_12 (Nat.le_trans (Nat.le_of_ble_eq_true rfl) hF) (Nat.le_trans (Nat.le_of_ble_eq_true rfl) hL) hl.1 (Nat.le_of_ble_eq_true rfl) dX11_sum_90 (fun H locs hS => ?_)
    obtain ⟨z_14, h⟩ := ok_of h
    refine lv_astore (lv' := [(4, .ref (Z (1000 + r_13))), (0, .ref (Z 200)), (1, .long l1), (3, .int l3)]) hx hb dX11_sum_93 hl (by decide) rfl (fun ls hl => ?_)
    refine lv_aload_n hx hb dX11_sum_95 rfl (lv_at hl 1 rfl) ?_
    refine cg_X11_48 X hS dX11_sum_96 ?_
    obtain ⟨z_15, h⟩ := ok_of h
    refine lv_aload hx hb dX11_sum_99 (lv_at hl 0 rfl) ?_
    refine cg_X11_241 X z_14 hS dX11_sum_101 ?_
    obtain ⟨r_17, u_16, h_u_16, h⟩ := bc_of h
    refine kc_X6_name_RX11 X z_15 hS h_u_16 (Nat.le_trans (Nat.le_of_ble_eq_true rfl) hF) (Nat.le_trans (Nat.le_of_ble_eq_true rfl) hL) hl.1 (Nat.le_of_ble_eq_true rfl) dX11_sum_104 (fun H locs hS => ?_)
    obtain ⟨z_18, h⟩ := ok_of h
    refine cg_X11_133 X z_18 hS dX11_sum_107 ?_
    refine lv_istore (lv' := [(5, .int (mI u_16 r_17 7)), (4, .ref (Z (1000 + r_13))), (0, .ref (Z 200)), (1, .long l1), (3, .int l3)]) hx hb dX11_sum_110 hl (by decide) rfl (fun ls hl => ?_)
    refine lv_iconst (v := 0) hx hb dX11_sum_112 (by decide) ?_
    refine lv_istore (lv' := [(6, .int 0), (5, .int (mI u_16 r_17 7)), (4, .ref (Z (1000 + r_13))), (0, .ref (Z 200)), (1, .long l1), (3, .int l3)]) hx hb dX11_sum_113 hl (by decide) rfl (fun ls hl => ?_)
    exact bl_X11_sum_115 X hE  hF hL hR_72 _ _ _ _ _ _ _ z_14 h _ _ _ hS (lv_sub hl [3, 4, 5, 2, 1, 0] rfl)
def LP_X11_sum_72 (N : Nat) : Nat → Int64 × Int32 × CSt → Option (Int64 × CSt) := lp (fun R a => B_X11_sum_72 N R a.1 a.2.1 a.2.2)
theorem bl_X11_sum_72 {r : Int64} (X : CC p s m args c cX11_sum 7 (Cond.code yX11_sum cX11_sum 7 (some .long)) RX11 D kA V A) (hE : CEl p l e R s m args below meth c cX11_sum D kA Z A Q r w) (hF : 3 ≤ R.frames) (hL : 70 ≤ R.locals)  : ∀ (n : Nat) (l1 : Int64) (l3 : Int32) (u : CSt), LP_X11_sum_72 N n (l1, l3, u) = some (r, w) → ∀ (H : Heap) (locs : List Loc) (ls : Array Slot), CS D kA Z A s u H locs → lv_has ls 7 [(0, .ref (Z 200)), (1, .long l1), (3, .int l3)] → W p l e R s m args below meth c H locs 0 0 Q (F0 m 72 ls []) := by
  intro n
  induction n with
  | zero => intro l1 l3 u h; exact nomatch h
  | succ n ih => intro l1 l3 u h H locs ls hS hl; exact b_X11_sum_72 (N := N) (R_72 := LP_X11_sum_72 N n) X hE  hF hL  ih h  hS hl
def B_X11_sum_4 (N : Nat) (R_4 : Int64 × Int32 × CSt → Option (Int64 × CSt)) (l1 : Int64) (l3 : Int32) (u : CSt) : Option (Int64 × CSt) := ok (cR u 0 < 2) inferInstance <| bc (F_X6_ofSort N (cR u 0) 0 u) fun r_21 u_20 => if r_21 ≤ l3 then (LP_X11_sum_72 N N (l1, 0, u_20)) else (ok (cR u_20 0 < 2) inferInstance <| bc (F_X6_nth N (cR u_20 0) 0 l3 u_20) fun r_25 u_24 => ok (r_25 < 338) inferInstance <| LP_X11_sum_30 N R_4 N (l1, l3, r_25, 0, u_24))
set_option maxHeartbeats 4000000 in
theorem b_X11_sum_4 {r : Int64} (X : CC p s m args c cX11_sum 7 (Cond.code yX11_sum cX11_sum 7 (some .long)) RX11 D kA V A) (hE : CEl p l e R s m args below meth c cX11_sum D kA Z A Q r w) (hF : 3 ≤ R.frames) (hL : 70 ≤ R.locals) {R_4 : Int64 × Int32 × CSt → Option (Int64 × CSt)} {l1 : Int64} {l3 : Int32} {u : CSt} (hR_4 : ∀ (l1 : Int64) (l3 : Int32) (u : CSt), R_4 (l1, l3, u) = some (r, w) → ∀ (H : Heap) (locs : List Loc) (ls : Array Slot), CS D kA Z A s u H locs → lv_has ls 7 [(0, .ref (Z 200)), (1, .long l1), (3, .int l3)] → W p l e R s m args below meth c H locs 0 0 Q (F0 m 4 ls [])) (h : B_X11_sum_4 N R_4 l1 l3 u = some (r, w))  (hS : CS D kA Z A s u H locs) (hl : lv_has ls 7 [(0, .ref (Z 200)), (1, .long l1), (3, .int l3)]) : W p l e R s m args below meth c H locs 0 0 Q (F0 m 4 ls []) := by
  obtain ⟨⟨hx, hb, hml, hown, hts⟩, hK, hEV, hA⟩ := id X
  have hG : ∀ w ∈ GW, w.before args s = true := fun w h => hts w (List.mem_cons_of_mem _ h)
  unfold B_X11_sum_4 at h
  refine lv_iload_n hx hb dX11_sum_4 rfl (lv_at hl 2 rfl) ?_
  refine lv_aload_n hx hb dX11_sum_5 rfl (lv_at hl 0 rfl) ?_
  refine cg_X11_48 X hS dX11_sum_6 ?_
  obtain ⟨z_19, h⟩ := ok_of h
  refine lv_iconst (v := 0) hx hb dX11_sum_9 (by decide) ?_
  obtain ⟨r_21, u_20, h_u_20, h⟩ := bc_of h
  refine kc_X6_ofSort_RX11 X z_19 hS h_u_20 (Nat.le_trans (Nat.le_of_ble_eq_true rfl) hF) (Nat.le_trans (Nat.le_of_ble_eq_true rfl) hL) hl.1 (Nat.le_of_ble_eq_true rfl) dX11_sum_10 (fun H locs hS => ?_)
  refine lv_icmp_ge (tgt := 70) hx hb dX11_sum_13 (by decide) (fun c_22 => ?_) (fun c_22 => ?_)
  · have h := ip (c_22) h
    refine lv_iconst (v := 0) hx hb dX11_sum_70 (by decide) ?_
    refine lv_istore_n (lv' := [(3, .int 0), (0, .ref (Z 200)), (1, .long l1)]) hx hb dX11_sum_71 rfl hl (by decide) rfl (fun ls hl => ?_)
    exact bl_X11_sum_72 X hE  hF hL  _ _ _ _  h _ _ _ hS (lv_sub hl [1, 2, 0] rfl)
  · have h := im (c_22) h
    refine lv_aload_n hx hb dX11_sum_16 rfl (lv_at hl 0 rfl) ?_
    refine cg_X11_48 X hS dX11_sum_17 ?_
    obtain ⟨z_23, h⟩ := ok_of h
    refine lv_iconst (v := 0) hx hb dX11_sum_20 (by decide) ?_
    refine lv_iload_n hx hb dX11_sum_21 rfl (lv_at hl 2 rfl) ?_
    obtain ⟨r_25, u_24, h_u_24, h⟩ := bc_of h
    refine kc_X6_nth_RX11 X z_23 hS h_u_24 (Nat.le_trans (Nat.le_of_ble_eq_true rfl) hF) (Nat.le_trans (Nat.le_of_ble_eq_true rfl) hL) hl.1 (Nat.le_of_ble_eq_true rfl) dX11_sum_22 (fun H locs hS => ?_)
    obtain ⟨z_26, h⟩ := ok_of h
    refine lv_astore (lv' := [(4, .ref (Z (1000 + r_25))), (0, .ref (Z 200)), (1, .long l1), (3, .int l3)]) hx hb dX11_sum_25 hl (by decide) rfl (fun ls hl => ?_)
    refine lv_iconst (v := 0) hx hb dX11_sum_27 (by decide) ?_
    refine lv_istore (lv' := [(5, .int 0), (4, .ref (Z (1000 + r_25))), (0, .ref (Z 200)), (1, .long l1), (3, .int l3)]) hx hb dX11_sum_28 hl (by decide) rfl (fun ls hl => ?_)
    exact bl_X11_sum_30 X hE  hF hL hR_4 _ _ _ _ _ _ z_26 h _ _ _ hS (lv_sub hl [2, 3, 4, 1, 0] rfl)
def LP_X11_sum_4 (N : Nat) : Nat → Int64 × Int32 × CSt → Option (Int64 × CSt) := lp (fun R a => B_X11_sum_4 N R a.1 a.2.1 a.2.2)
theorem bl_X11_sum_4 {r : Int64} (X : CC p s m args c cX11_sum 7 (Cond.code yX11_sum cX11_sum 7 (some .long)) RX11 D kA V A) (hE : CEl p l e R s m args below meth c cX11_sum D kA Z A Q r w) (hF : 3 ≤ R.frames) (hL : 70 ≤ R.locals)  : ∀ (n : Nat) (l1 : Int64) (l3 : Int32) (u : CSt), LP_X11_sum_4 N n (l1, l3, u) = some (r, w) → ∀ (H : Heap) (locs : List Loc) (ls : Array Slot), CS D kA Z A s u H locs → lv_has ls 7 [(0, .ref (Z 200)), (1, .long l1), (3, .int l3)] → W p l e R s m args below meth c H locs 0 0 Q (F0 m 4 ls []) := by
  intro n
  induction n with
  | zero => intro l1 l3 u h; exact nomatch h
  | succ n ih => intro l1 l3 u h H locs ls hS hl; exact b_X11_sum_4 (N := N) (R_4 := LP_X11_sum_4 N n) X hE  hF hL  ih h  hS hl
def B_X11_sum_0 (N : Nat) (u : CSt) : Option (Int64 × CSt) := LP_X11_sum_4 N N (0, 0, u)
set_option maxHeartbeats 4000000 in
theorem b_X11_sum_0 {r : Int64} (X : CC p s m args c cX11_sum 7 (Cond.code yX11_sum cX11_sum 7 (some .long)) RX11 D kA V A) (hE : CEl p l e R s m args below meth c cX11_sum D kA Z A Q r w) (hF : 3 ≤ R.frames) (hL : 70 ≤ R.locals) {u : CSt}  (h : B_X11_sum_0 N u = some (r, w))  (hS : CS D kA Z A s u H locs) (hl : lv_has ls 7 [(0, .ref (Z 200))]) : W p l e R s m args below meth c H locs 0 0 Q (F0 m 0 ls []) := by
  obtain ⟨⟨hx, hb, hml, hown, hts⟩, hK, hEV, hA⟩ := id X
  have hG : ∀ w ∈ GW, w.before args s = true := fun w h => hts w (List.mem_cons_of_mem _ h)
  unfold B_X11_sum_0 at h
  refine lv_lconst (v := 0) hx hb dX11_sum_0 (by decide) ?_
  refine lv_lstore_n (lv' := [(1, .long 0), (0, .ref (Z 200))]) hx hb dX11_sum_1 rfl hl (by decide) rfl (fun ls hl => ?_)
  refine lv_iconst (v := 0) hx hb dX11_sum_2 (by decide) ?_
  refine lv_istore_n (lv' := [(3, .int 0), (1, .long 0), (0, .ref (Z 200))]) hx hb dX11_sum_3 rfl hl (by decide) rfl (fun ls hl => ?_)
  exact bl_X11_sum_4 X hE  hF hL  _ _ _ _  h _ _ _ hS (lv_sub hl [2, 1, 0] rfl)
def F_X11_sum (N : Nat) (u : CSt) : Option (Int64 × CSt) := B_X11_sum_0 N u
set_option maxHeartbeats 4000000 in
theorem k_X11_sum (l : Launch) (D : va_G) (kA : Nat → ClassId) (V Z : Nat → Nat) (N : Nat) (u : CSt) (sz : Nat) {r : Int64} {w : CSt} (h : F_X11_sum N u = some (r, w)) : Met l yX11_sum (Cond.code yX11_sum cX11_sum 7 (some .long) :: GW) { frames := 3, cells := 0, slots := 0, locals := 70 } (cPc D kA V Z [.ref (Z 200)] u sz) (cQl D kA Z u sz r w) 0 0 (va_A (CW kA Z u) sz) := by
  refine Met.ofW (cc := cX11_sum) (maxL := 7) (ret := (some .long)) (by decide) rfl ?_
  intro p e s m args below meth c s₁ Bd hml hv
  obtain ⟨rfl, hsz, hP, hK, hD0, hE⟩ := hv
  have hts := atoms_spec (ws := Cond.code yX11_sum cX11_sum 7 (some .long) :: GW) Bd.pre
  have hl := lv_entry ([.ref (Z 200)]) (n := 7) (Nat.le_of_ble_eq_true rfl)
  rw [lg_entry_eq]
  generalize (lg_sl ([.ref (Z 200)]) ++ List.replicate (7 - (lg_sl ([.ref (Z 200)])).length) Slot.unset).toArray = ls at hl ⊢
  have hl : lv_has ls 7 [(0, .ref (Z 200))] := hl
  subst hsz
  have X : CC p s m ([.ref (Z 200)]).toArray c cX11_sum 7 (Cond.code yX11_sum cX11_sum 7 (some .long)) RX11 D kA V (va_A (CW kA Z u) s.heap.size) := ⟨⟨Bd.exec, Bd.bytes, hml, findClass_of_methodNamed Bd.named, hts⟩, hK, hE, fun q h => Or.inr h⟩
  refine b_X11_sum_0 X (cend_l X Bd.returns Bd.notSynchronized) (Nat.le_refl _) (Nat.le_refl _) h  ⟨hP, hD0.self, va_S.rf⟩ (lv_sub hl [0] rfl)
def B_X11_cut_0 (N : Nat) (l1 : Int32) (l2 : Int64) (u : CSt) : Option ((Sum Nat Int64) × CSt) := if (n_isKind l1) = (0 : Int32) then (some (.inl 1, u)) else (some (.inr (n_cut l1 l2), u))
set_option maxHeartbeats 4000000 in
theorem b_X11_cut_0 {y : (Sum Nat Int64)} (X : CC p s m args c cX11_cut 4 (Cond.code yX11_cut cX11_cut 4 (some .long)) RX11 D kA V A) (hE : CElx p l e R s m args below meth c cX11_cut D kA Z A Q y w) (hst : l.stackTraces = false) (hX : CX p l e R s m args below meth c D kA Z A Q y w) (hC : 1 ≤ R.cells ∧ 6 ≤ R.slots) (hT_7 : y = .inl 1 → ∀ (H : Heap) (locs : List Loc) (ls : Array Slot), CS D kA Z A s w H locs → ls.size = 4 → W p l e R s m args below meth c H locs 0 0 Q (F0 m 7 ls [])) (hF : 6 ≤ R.frames) (hL : 100 ≤ R.locals) {l1 : Int32} {l2 : Int64} {u : CSt}  (h : B_X11_cut_0 N l1 l2 u = some (y, w))  (hS : CS D kA Z A s u H locs) (hl : lv_has ls 4 [(1, .int l1), (2, .long l2)]) : W p l e R s m args below meth c H locs 0 0 Q (F0 m 0 ls []) := by
  obtain ⟨⟨hx, hb, hml, hown, hts⟩, hK, hEV, hA⟩ := id X
  have hG : ∀ w ∈ GW, w.before args s = true := fun w h => hts w (List.mem_cons_of_mem _ h)
  unfold B_X11_cut_0 at h
  refine lv_iload_n hx hb dX11_cut_0 rfl (lv_at hl 0 rfl) ?_
  refine vp_callSi (W.runS (As := [.int l1]) (rest := []) X.1 (c_X5_isKind l l1) (va_cwS 1 hts (gw_P gw_1838 gw_1839 gw_24 gwp_X5_isKind) rfl rfl rfl (by decide +kernel) ⟨Nat.le_trans (Nat.le_of_ble_eq_true rfl) hF, Nat.le_trans (Nat.le_of_ble_eq_true rfl) hL⟩) ⟨fun _ _ _ _ q => q, fun _ _ _ => ⟨rfl, trivial⟩⟩ rfl rfl hl.1 rfl (lv_room (Nat.le_of_ble_eq_true rfl)) dX11_cut_1 ⟨Nat.zero_le _, Nat.zero_le _⟩) (fun r_1 q_2 => ?_)
  subst q_2
  refine lv_if_ne (tgt := 18) hx hb dX11_cut_4 (by decide) (fun c_3 => ?_) (fun c_3 => ?_)
  · have h := im (c_3) h
    refine lv_iload_n hx hb dX11_cut_18 rfl (lv_at hl 0 rfl) ?_
    refine lv_lload_n hx hb dX11_cut_19 rfl (lv_at hl 1 rfl) ?_
    refine vp_callSl (W.runS (As := [.int l1, .long l2]) (rest := []) X.1 (c_X5_cutTo l l1 l2) (va_cwS 2 hts (gw_P gw_1842 gw_1077 gw_24 gwp_X5_cutTo) rfl rfl rfl (by decide +kernel) ⟨Nat.le_trans (Nat.le_of_ble_eq_true rfl) hF, Nat.le_trans (Nat.le_of_ble_eq_true rfl) hL⟩) ⟨fun _ _ _ _ q => q, fun _ _ _ => ⟨rfl, trivial⟩⟩ rfl rfl hl.1 rfl (lv_room (Nat.le_of_ble_eq_true rfl)) dX11_cut_20 ⟨Nat.zero_le _, Nat.zero_le _⟩) (fun r_4 q_5 => ?_)
    subst q_5
    obtain ⟨e9, rfl⟩ := so9 h
    exact hE _ e9.symm _ _ _ _ hS dX11_cut_23
  · have h := ip (c_3) h
    obtain ⟨e9, rfl⟩ := so9 h
    exact hT_7 e9.symm _ _ _ hS hl.1
def F_X11_cut (N : Nat) (l1 : Int32) (l2 : Int64) (u : CSt) : Option ((Sum Nat Int64) × CSt) := B_X11_cut_0 N l1 l2 u
set_option maxHeartbeats 4000000 in
theorem k_X11_cut (l : Launch) (hst : l.stackTraces = false) (D : va_G) (kA : Nat → ClassId) (V Z : Nat → Nat) (N : Nat) (l1 : Int32) (l2 : Int64) (u : CSt) (sz : Nat) {y : (Sum Nat Int64)} {w : CSt} (h : F_X11_cut N l1 l2 u = some (y, w)) : vx_Met l yX11_cut (Cond.code yX11_cut cX11_cut 4 (some .long) :: GW) { frames := 6, cells := 1, slots := 6, locals := 100 } (cPc D kA V Z [.ref (Z 200), .int l1, .long l2] u sz) (cQlx D kA Z u sz y w) (cXc D kA Z u sz y w) 1 6 (va_A (CW kA Z u) sz) := by
  refine vx_ofW (cc := cX11_cut) (maxL := 4) (ret := (some .long)) (by decide) rfl ?_
  intro p e s m args below meth c s₁ Bd hml hxt hv
  obtain ⟨rfl, hsz, hP, hK, hD0, hE⟩ := hv
  have hts := atoms_spec (ws := Cond.code yX11_cut cX11_cut 4 (some .long) :: GW) Bd.pre
  have hl := lv_entry ([.ref (Z 200), .int l1, .long l2]) (n := 4) (Nat.le_of_ble_eq_true rfl)
  rw [lg_entry_eq]
  generalize (lg_sl ([.ref (Z 200), .int l1, .long l2]) ++ List.replicate (4 - (lg_sl ([.ref (Z 200), .int l1, .long l2])).length) Slot.unset).toArray = ls at hl ⊢
  have hl : lv_has ls 4 [(0, .ref (Z 200)), (1, .int l1), (2, .long l2)] := hl
  subst hsz
  have X : CC p s m ([.ref (Z 200), .int l1, .long l2]).toArray c cX11_cut 4 (Cond.code yX11_cut cX11_cut 4 (some .long)) RX11 D kA V (va_A (CW kA Z u) s.heap.size) := ⟨⟨Bd.exec, Bd.bytes, hml, findClass_of_methodNamed Bd.named, hts⟩, hK, hE, fun q h => Or.inr h⟩
  refine b_X11_cut_0 X (cend_lx X Bd.returns Bd.notSynchronized) hst (cend_X X hxt Bd.notSynchronized) ⟨Nat.le_refl _, Nat.le_refl _⟩ (fun hy H locs ls hS hls => cx_throwW (x := 1) Bd.exec Bd.bytes hst (findClass_of_methodNamed Bd.named) (by decide +kernel) (by decide +kernel) X hS hy rfl gw_1467 gw_26 (evr_21 hE.2.1) xat_IllegalArgumentException xgo_IllegalArgumentException (by rw [hml]; exact hls) dX11_cut_7 dX11_cut_10 dX11_cut_11 dX11_cut_14 dX11_cut_17 hxt (Nat.le_of_ble_eq_true rfl) (Nat.le_of_ble_eq_true rfl) (Nat.le_of_ble_eq_true rfl) (Nat.le_of_ble_eq_true rfl) Bd.notSynchronized (Nat.le_of_ble_eq_true rfl) (Nat.le_of_ble_eq_true rfl)) (Nat.le_refl _) (Nat.le_refl _) h  ⟨hP, hD0.self, va_S.rf⟩ (lv_sub hl [1, 2] rfl)
def B_X11_work_68 (N : Nat) (l1 : Int32) (l2 : Int32) (l3 : Int32) (l4 : Int64) (l8 : Int64) (u : CSt) : Option ((Sum Nat Int64) × CSt) := some (.inr (n_cut l2 (n_combine l1 (n_wide l1 l2 l3) (n_cut l2 l4) l8)), u)
set_option maxHeartbeats 4000000 in
theorem b_X11_work_68 {y : (Sum Nat Int64)} (X : CC p s m args c cX11_work 11 (Cond.code yX11_work cX11_work 11 (some .long)) RX11 D kA V A) (hE : CElx p l e R s m args below meth c cX11_work D kA Z A Q y w) (hst : l.stackTraces = false) (hX : CX p l e R s m args below meth c D kA Z A Q y w) (hC : 1 ≤ R.cells ∧ 6 ≤ R.slots) (hT_24 : y = .inl 1 → ∀ (H : Heap) (locs : List Loc) (ls : Array Slot), CS D kA Z A s w H locs → ls.size = 11 → W p l e R s m args below meth c H locs 0 0 Q (F0 m 24 ls [])) (hT_57 : y = .inl 5 → ∀ (H : Heap) (locs : List Loc) (ls : Array Slot), CS D kA Z A s w H locs → ls.size = 11 → W p l e R s m args below meth c H locs 0 0 Q (F0 m 57 ls [])) (hF : 6 ≤ R.frames) (hL : 100 ≤ R.locals) {l1 : Int32} {l2 : Int32} {l3 : Int32} {l4 : Int64} {l8 : Int64} {u : CSt}  (h : B_X11_work_68 N l1 l2 l3 l4 l8 u = some (y, w))  (hS : CS D kA Z A s u H locs) (hl : lv_has ls 11 [(1, .int l1), (2, .int l2), (3, .int l3), (4, .long l4), (8, .long l8)]) : W p l e R s m args below meth c H locs 0 0 Q (F0 m 68 ls []) := by
  obtain ⟨⟨hx, hb, hml, hown, hts⟩, hK, hEV, hA⟩ := id X
  have hG : ∀ w ∈ GW, w.before args s = true := fun w h => hts w (List.mem_cons_of_mem _ h)
  unfold B_X11_work_68 at h
  refine lv_iload_n hx hb dX11_work_68 rfl (lv_at hl 0 rfl) ?_
  refine lv_iload_n hx hb dX11_work_69 rfl (lv_at hl 1 rfl) ?_
  refine lv_iload_n hx hb dX11_work_70 rfl (lv_at hl 2 rfl) ?_
  refine vp_callSi (W.runS (As := [.int l1, .int l2, .int l3]) (rest := []) X.1 (c_X5_isWide l l1 l2 l3) (va_cwS 3 hts (gw_P gw_1869 gw_1269 gw_24 gwp_X5_isWide) rfl rfl rfl (by decide +kernel) ⟨Nat.le_trans (Nat.le_of_ble_eq_true rfl) hF, Nat.le_trans (Nat.le_of_ble_eq_true rfl) hL⟩) ⟨fun _ _ _ _ q => q, fun _ _ _ => ⟨rfl, trivial⟩⟩ rfl rfl hl.1 rfl (lv_room (Nat.le_of_ble_eq_true rfl)) dX11_work_71 ⟨Nat.zero_le _, Nat.zero_le _⟩) (fun r_1 q_2 => ?_)
  subst q_2
  refine lv_istore (lv' := [(10, .int (n_wide l1 l2 l3)), (1, .int l1), (2, .int l2), (3, .int l3), (4, .long l4), (8, .long l8)]) hx hb dX11_work_74 hl (by decide) rfl (fun ls hl => ?_)
  refine lv_iload_n hx hb dX11_work_76 rfl (lv_at hl 2 rfl) ?_
  refine lv_iload_n hx hb dX11_work_77 rfl (lv_at hl 1 rfl) ?_
  refine lv_iload hx hb dX11_work_78 (lv_at hl 0 rfl) ?_
  refine lv_iload_n hx hb dX11_work_80 rfl (lv_at hl 2 rfl) ?_
  refine lv_lload hx hb dX11_work_81 (lv_at hl 4 rfl) ?_
  refine vp_callSl (W.runS (As := [.int l2, .long l4]) (rest := [.int (n_wide l1 l2 l3), .int l1, .int l2]) X.1 (c_X5_cutTo l l2 l4) (va_cwS 2 hts (gw_P gw_1842 gw_1077 gw_24 gwp_X5_cutTo) rfl rfl rfl (by decide +kernel) ⟨Nat.le_trans (Nat.le_of_ble_eq_true rfl) hF, Nat.le_trans (Nat.le_of_ble_eq_true rfl) hL⟩) ⟨fun _ _ _ _ q => q, fun _ _ _ => ⟨rfl, trivial⟩⟩ rfl rfl hl.1 rfl (lv_room (Nat.le_of_ble_eq_true rfl)) dX11_work_83 ⟨Nat.zero_le _, Nat.zero_le _⟩) (fun r_3 q_4 => ?_)
  subst q_4
  refine lv_lload hx hb dX11_work_86 (lv_at hl 5 rfl) ?_
  refine vp_callSl (W.runS (As := [.int l1, .int (n_wide l1 l2 l3), .long (n_cut l2 l4), .long l8]) (rest := [.int l2]) X.1 (c_X5_combine l l1 (n_wide l1 l2 l3) (n_cut l2 l4) l8) (va_cwS 4 hts (gw_P gw_1870 gw_1576 gw_24 gwp_X5_combine) rfl rfl rfl (by decide +kernel) ⟨Nat.le_trans (Nat.le_of_ble_eq_true rfl) hF, Nat.le_trans (Nat.le_of_ble_eq_true rfl) hL⟩) ⟨fun _ _ _ _ q => q, fun _ _ _ => ⟨rfl, trivial⟩⟩ rfl rfl hl.1 rfl (lv_room (Nat.le_of_ble_eq_true rfl)) dX11_work_88 ⟨Nat.zero_le _, Nat.zero_le _⟩) (fun r_5 q_6 => ?_)
  subst q_6
  refine vp_callSl (W.runS (As := [.int l2, .long (n_combine l1 (n_wide l1 l2 l3) (n_cut l2 l4) l8)]) (rest := []) X.1 (c_X5_cutTo l l2 (n_combine l1 (n_wide l1 l2 l3) (n_cut l2 l4) l8)) (va_cwS 2 hts (gw_P gw_1842 gw_1077 gw_24 gwp_X5_cutTo) rfl rfl rfl (by decide +kernel) ⟨Nat.le_trans (Nat.le_of_ble_eq_true rfl) hF, Nat.le_trans (Nat.le_of_ble_eq_true rfl) hL⟩) ⟨fun _ _ _ _ q => q, fun _ _ _ => ⟨rfl, trivial⟩⟩ rfl rfl hl.1 rfl (lv_room (Nat.le_of_ble_eq_true rfl)) dX11_work_91 ⟨Nat.zero_le _, Nat.zero_le _⟩) (fun r_7 q_8 => ?_)
  subst q_8
  obtain ⟨e9, rfl⟩ := so9 h
  exact hE _ e9.symm _ _ _ _ hS dX11_work_94
def B_X11_work_0 (N : Nat) (l1 : Int32) (l2 : Int32) (l3 : Int32) (l4 : Int64) (l6 : Int64) (u : CSt) : Option ((Sum Nat Int64) × CSt) := if (n_isKind l2) = (0 : Int32) then (some (.inl 1, u)) else (if (n_isKind l3) = (0 : Int32) then (some (.inl 1, u)) else (if l1 < (0 : Int32) then (some (.inl 1, u)) else (if l1 ≤ (10 : Int32) then (if (n_cut l3 l6) = (0 : Int64) then (if (n_divides l1) = (0 : Int32) then (B_X11_work_68 N l1 l2 l3 l4 (n_cut l3 l6) u) else (some (.inl 5, u))) else (B_X11_work_68 N l1 l2 l3 l4 (n_cut l3 l6) u)) else (some (.inl 1, u)))))
set_option maxHeartbeats 4000000 in
theorem b_X11_work_0 {y : (Sum Nat Int64)} (X : CC p s m args c cX11_work 11 (Cond.code yX11_work cX11_work 11 (some .long)) RX11 D kA V A) (hE : CElx p l e R s m args below meth c cX11_work D kA Z A Q y w) (hst : l.stackTraces = false) (hX : CX p l e R s m args below meth c D kA Z A Q y w) (hC : 1 ≤ R.cells ∧ 6 ≤ R.slots) (hT_24 : y = .inl 1 → ∀ (H : Heap) (locs : List Loc) (ls : Array Slot), CS D kA Z A s w H locs → ls.size = 11 → W p l e R s m args below meth c H locs 0 0 Q (F0 m 24 ls [])) (hT_57 : y = .inl 5 → ∀ (H : Heap) (locs : List Loc) (ls : Array Slot), CS D kA Z A s w H locs → ls.size = 11 → W p l e R s m args below meth c H locs 0 0 Q (F0 m 57 ls [])) (hF : 6 ≤ R.frames) (hL : 100 ≤ R.locals) {l1 : Int32} {l2 : Int32} {l3 : Int32} {l4 : Int64} {l6 : Int64} {u : CSt}  (h : B_X11_work_0 N l1 l2 l3 l4 l6 u = some (y, w))  (hS : CS D kA Z A s u H locs) (hl : lv_has ls 11 [(1, .int l1), (2, .int l2), (3, .int l3), (4, .long l4), (6, .long l6)]) : W p l e R s m args below meth c H locs 0 0 Q (F0 m 0 ls []) := by
  obtain ⟨⟨hx, hb, hml, hown, hts⟩, hK, hEV, hA⟩ := id X
  have hG : ∀ w ∈ GW, w.before args s = true := fun w h => hts w (List.mem_cons_of_mem _ h)
  unfold B_X11_work_0 at h
  refine lv_iload_n hx hb dX11_work_0 rfl (lv_at hl 1 rfl) ?_
  refine vp_callSi (W.runS (As := [.int l2]) (rest := []) X.1 (c_X5_isKind l l2) (va_cwS 1 hts (gw_P gw_1838 gw_1839 gw_24 gwp_X5_isKind) rfl rfl rfl (by decide +kernel) ⟨Nat.le_trans (Nat.le_of_ble_eq_true rfl) hF, Nat.le_trans (Nat.le_of_ble_eq_true rfl) hL⟩) ⟨fun _ _ _ _ q => q, fun _ _ _ => ⟨rfl, trivial⟩⟩ rfl rfl hl.1 rfl (lv_room (Nat.le_of_ble_eq_true rfl)) dX11_work_1 ⟨Nat.zero_le _, Nat.zero_le _⟩) (fun r_9 q_10 => ?_)
  subst q_10
  refine lv_if_eq (tgt := 24) hx hb dX11_work_4 (by decide) (fun c_11 => ?_) (fun c_11 => ?_)
  · have h := ip (c_11) h
    obtain ⟨e9, rfl⟩ := so9 h
    exact hT_24 e9.symm _ _ _ hS hl.1
  · have h := im (c_11) h
    refine lv_iload_n hx hb dX11_work_7 rfl (lv_at hl 2 rfl) ?_
    refine vp_callSi (W.runS (As := [.int l3]) (rest := []) X.1 (c_X5_isKind l l3) (va_cwS 1 hts (gw_P gw_1838 gw_1839 gw_24 gwp_X5_isKind) rfl rfl rfl (by decide +kernel) ⟨Nat.le_trans (Nat.le_of_ble_eq_true rfl) hF, Nat.le_trans (Nat.le_of_ble_eq_true rfl) hL⟩) ⟨fun _ _ _ _ q => q, fun _ _ _ => ⟨rfl, trivial⟩⟩ rfl rfl hl.1 rfl (lv_room (Nat.le_of_ble_eq_true rfl)) dX11_work_8 ⟨Nat.zero_le _, Nat.zero_le _⟩) (fun r_12 q_13 => ?_)
    subst q_13
    refine lv_if_eq (tgt := 24) hx hb dX11_work_11 (by decide) (fun c_14 => ?_) (fun c_14 => ?_)
    · have h := ip (c_14) h
      obtain ⟨e9, rfl⟩ := so9 h
      exact hT_24 e9.symm _ _ _ hS hl.1
    · have h := im (c_14) h
      refine lv_iload_n hx hb dX11_work_14 rfl (lv_at hl 0 rfl) ?_
      refine lv_if_lt (tgt := 24) hx hb dX11_work_15 (by decide) (fun c_15 => ?_) (fun c_15 => ?_)
      · have h := ip (c_15) h
        obtain ⟨e9, rfl⟩ := so9 h
        exact hT_24 e9.symm _ _ _ hS hl.1
      · have h := im (c_15) h
        refine lv_iload_n hx hb dX11_work_18 rfl (lv_at hl 0 rfl) ?_
        refine lv_bipush (v := 10) hx hb dX11_work_19 (by decide) ?_
        refine lv_icmp_le (tgt := 35) hx hb dX11_work_21 (by decide) (fun c_16 => ?_) (fun c_16 => ?_)
        · have h := ip (c_16) h
          refine lv_iload_n hx hb dX11_work_35 rfl (lv_at hl 2 rfl) ?_
          refine lv_lload hx hb dX11_work_36 (lv_at hl 4 rfl) ?_
          refine vp_callSl (W.runS (As := [.int l3, .long l6]) (rest := []) X.1 (c_X5_cutTo l l3 l6) (va_cwS 2 hts (gw_P gw_1842 gw_1077 gw_24 gwp_X5_cutTo) rfl rfl rfl (by decide +kernel) ⟨Nat.le_trans (Nat.le_of_ble_eq_true rfl) hF, Nat.le_trans (Nat.le_of_ble_eq_true rfl) hL⟩) ⟨fun _ _ _ _ q => q, fun _ _ _ => ⟨rfl, trivial⟩⟩ rfl rfl hl.1 rfl (lv_room (Nat.le_of_ble_eq_true rfl)) dX11_work_38 ⟨Nat.zero_le _, Nat.zero_le _⟩) (fun r_17 q_18 => ?_)
          subst q_18
          refine lv_lstore (lv' := [(8, .long (n_cut l3 l6)), (1, .int l1), (2, .int l2), (3, .int l3), (4, .long l4), (6, .long l6)]) hx hb dX11_work_41 hl (by decide) rfl (fun ls hl => ?_)
          refine lv_lload hx hb dX11_work_43 (lv_at hl 0 rfl) ?_
          refine lv_lconst (v := 0) hx hb dX11_work_45 (by decide) ?_
          refine W.lcmp hx hb dX11_work_46 ?_
          refine lv_if_ne (tgt := 68) hx hb dX11_work_47 (by decide) (fun c_19 => ?_) (fun c_19 => ?_)
          · have h := im (mt (lg_cmp_eq _ _).mpr c_19) h
            exact b_X11_work_68 X hE hst hX hC hT_24 hT_57 hF hL  h  hS (lv_sub hl [1, 2, 3, 4, 0] rfl)
          · have h := ip ((lg_cmp_eq _ _).mp c_19) h
            refine lv_iload_n hx hb dX11_work_50 rfl (lv_at hl 1 rfl) ?_
            refine vp_callSi (W.runS (As := [.int l1]) (rest := []) X.1 (c_X5_divides l l1) (va_cwS 1 hts (gw_P gw_1852 gw_1573 gw_24 gwp_X5_divides) rfl rfl rfl (by decide +kernel) ⟨Nat.le_trans (Nat.le_of_ble_eq_true rfl) hF, Nat.le_trans (Nat.le_of_ble_eq_true rfl) hL⟩) ⟨fun _ _ _ _ q => q, fun _ _ _ => ⟨rfl, trivial⟩⟩ rfl rfl hl.1 rfl (lv_room (Nat.le_of_ble_eq_true rfl)) dX11_work_51 ⟨Nat.zero_le _, Nat.zero_le _⟩) (fun r_20 q_21 => ?_)
            subst q_21
            refine lv_if_eq (tgt := 68) hx hb dX11_work_54 (by decide) (fun c_22 => ?_) (fun c_22 => ?_)
            · have h := ip (c_22) h
              exact b_X11_work_68 X hE hst hX hC hT_24 hT_57 hF hL  h  hS (lv_sub hl [1, 2, 3, 4, 0] rfl)
            · have h := im (c_22) h
              obtain ⟨e9, rfl⟩ := so9 h
              exact hT_57 e9.symm _ _ _ hS hl.1
        · have h := im (c_16) h
          obtain ⟨e9, rfl⟩ := so9 h
          exact hT_24 e9.symm _ _ _ hS hl.1
def F_X11_work (N : Nat) (l1 : Int32) (l2 : Int32) (l3 : Int32) (l4 : Int64) (l6 : Int64) (u : CSt) : Option ((Sum Nat Int64) × CSt) := B_X11_work_0 N l1 l2 l3 l4 l6 u
set_option maxHeartbeats 4000000 in
theorem k_X11_work (l : Launch) (hst : l.stackTraces = false) (D : va_G) (kA : Nat → ClassId) (V Z : Nat → Nat) (N : Nat) (l1 : Int32) (l2 : Int32) (l3 : Int32) (l4 : Int64) (l6 : Int64) (u : CSt) (sz : Nat) {y : (Sum Nat Int64)} {w : CSt} (h : F_X11_work N l1 l2 l3 l4 l6 u = some (y, w)) : vx_Met l yX11_work (Cond.code yX11_work cX11_work 11 (some .long) :: GW) { frames := 6, cells := 1, slots := 6, locals := 100 } (cPc D kA V Z [.ref (Z 200), .int l1, .int l2, .int l3, .long l4, .long l6] u sz) (cQlx D kA Z u sz y w) (cXc D kA Z u sz y w) 1 6 (va_A (CW kA Z u) sz) := by
  refine vx_ofW (cc := cX11_work) (maxL := 11) (ret := (some .long)) (by decide) rfl ?_
  intro p e s m args below meth c s₁ Bd hml hxt hv
  obtain ⟨rfl, hsz, hP, hK, hD0, hE⟩ := hv
  have hts := atoms_spec (ws := Cond.code yX11_work cX11_work 11 (some .long) :: GW) Bd.pre
  have hl := lv_entry ([.ref (Z 200), .int l1, .int l2, .int l3, .long l4, .long l6]) (n := 11) (Nat.le_of_ble_eq_true rfl)
  rw [lg_entry_eq]
  generalize (lg_sl ([.ref (Z 200), .int l1, .int l2, .int l3, .long l4, .long l6]) ++ List.replicate (11 - (lg_sl ([.ref (Z 200), .int l1, .int l2, .int l3, .long l4, .long l6])).length) Slot.unset).toArray = ls at hl ⊢
  have hl : lv_has ls 11 [(0, .ref (Z 200)), (1, .int l1), (2, .int l2), (3, .int l3), (4, .long l4), (6, .long l6)] := hl
  subst hsz
  have X : CC p s m ([.ref (Z 200), .int l1, .int l2, .int l3, .long l4, .long l6]).toArray c cX11_work 11 (Cond.code yX11_work cX11_work 11 (some .long)) RX11 D kA V (va_A (CW kA Z u) s.heap.size) := ⟨⟨Bd.exec, Bd.bytes, hml, findClass_of_methodNamed Bd.named, hts⟩, hK, hE, fun q h => Or.inr h⟩
  refine b_X11_work_0 X (cend_lx X Bd.returns Bd.notSynchronized) hst (cend_X X hxt Bd.notSynchronized) ⟨Nat.le_refl _, Nat.le_refl _⟩ (fun hy H locs ls hS hls => cx_throwW (x := 1) Bd.exec Bd.bytes hst (findClass_of_methodNamed Bd.named) (by decide +kernel) (by decide +kernel) X hS hy rfl gw_1467 gw_26 (evr_22 hE.2.1) xat_IllegalArgumentException xgo_IllegalArgumentException (by rw [hml]; exact hls) dX11_work_24 dX11_work_27 dX11_work_28 dX11_work_31 dX11_work_34 hxt (Nat.le_of_ble_eq_true rfl) (Nat.le_of_ble_eq_true rfl) (Nat.le_of_ble_eq_true rfl) (Nat.le_of_ble_eq_true rfl) Bd.notSynchronized (Nat.le_of_ble_eq_true rfl) (Nat.le_of_ble_eq_true rfl)) (fun hy H locs ls hS hls => cx_throwW (x := 5) Bd.exec Bd.bytes hst (findClass_of_methodNamed Bd.named) (by decide +kernel) (by decide +kernel) X hS hy rfl gw_1853 gw_32 (evr_23 hE.2.1) xat_ArithmeticException xgo_ArithmeticException (by rw [hml]; exact hls) dX11_work_57 dX11_work_60 dX11_work_61 dX11_work_64 dX11_work_67 hxt (Nat.le_of_ble_eq_true rfl) (Nat.le_of_ble_eq_true rfl) (Nat.le_of_ble_eq_true rfl) (Nat.le_of_ble_eq_true rfl) Bd.notSynchronized (Nat.le_of_ble_eq_true rfl) (Nat.le_of_ble_eq_true rfl)) (Nat.le_refl _) (Nat.le_refl _) h  ⟨hP, hD0.self, va_S.rf⟩ (lv_sub hl [1, 2, 3, 4, 5] rfl)
def B_X11_tell_46 (N : Nat) (l2 : Int32) (l3 : Int32) (l4 : Int64) (l6 : Int64) (s0 : Int32) (s1 : Int32) (u : CSt) : Option ((Sum Nat Int64) × CSt) := some (.inr (n_apply s0 s1 (n_cut l2 l4) (n_cut l3 l6)), u)
set_option maxHeartbeats 4000000 in
theorem b_X11_tell_46 {y : (Sum Nat Int64)} (X : CC p s m args c cX11_tell 8 (Cond.code yX11_tell cX11_tell 8 (some .long)) RX11 D kA V A) (hE : CElx p l e R s m args below meth c cX11_tell D kA Z A Q y w) (hst : l.stackTraces = false) (hX : CX p l e R s m args below meth c D kA Z A Q y w) (hC : 1 ≤ R.cells ∧ 6 ≤ R.slots) (hT_24 : y = .inl 1 → ∀ (H : Heap) (locs : List Loc) (ls : Array Slot), CS D kA Z A s w H locs → ls.size = 8 → W p l e R s m args below meth c H locs 0 0 Q (F0 m 24 ls [])) (hF : 6 ≤ R.frames) (hL : 100 ≤ R.locals) {l2 : Int32} {l3 : Int32} {l4 : Int64} {l6 : Int64} {s0 : Int32} {s1 : Int32} {u : CSt}  (h : B_X11_tell_46 N l2 l3 l4 l6 s0 s1 u = some (y, w))  (hS : CS D kA Z A s u H locs) (hl : lv_has ls 8 [(2, .int l2), (3, .int l3), (4, .long l4), (6, .long l6)]) : W p l e R s m args below meth c H locs 0 0 Q (F0 m 46 ls [.int s1, .int s0]) := by
  obtain ⟨⟨hx, hb, hml, hown, hts⟩, hK, hEV, hA⟩ := id X
  have hG : ∀ w ∈ GW, w.before args s = true := fun w h => hts w (List.mem_cons_of_mem _ h)
  unfold B_X11_tell_46 at h
  refine lv_iload_n hx hb dX11_tell_46 rfl (lv_at hl 0 rfl) ?_
  refine lv_lload hx hb dX11_tell_47 (lv_at hl 2 rfl) ?_
  refine vp_callSl (W.runS (As := [.int l2, .long l4]) (rest := [.int s1, .int s0]) X.1 (c_X5_cutTo l l2 l4) (va_cwS 2 hts (gw_P gw_1842 gw_1077 gw_24 gwp_X5_cutTo) rfl rfl rfl (by decide +kernel) ⟨Nat.le_trans (Nat.le_of_ble_eq_true rfl) hF, Nat.le_trans (Nat.le_of_ble_eq_true rfl) hL⟩) ⟨fun _ _ _ _ q => q, fun _ _ _ => ⟨rfl, trivial⟩⟩ rfl rfl hl.1 rfl (lv_room (Nat.le_of_ble_eq_true rfl)) dX11_tell_49 ⟨Nat.zero_le _, Nat.zero_le _⟩) (fun r_1 q_2 => ?_)
  subst q_2
  refine lv_iload_n hx hb dX11_tell_52 rfl (lv_at hl 1 rfl) ?_
  refine lv_lload hx hb dX11_tell_53 (lv_at hl 3 rfl) ?_
  refine vp_callSl (W.runS (As := [.int l3, .long l6]) (rest := [.long (n_cut l2 l4), .int s1, .int s0]) X.1 (c_X5_cutTo l l3 l6) (va_cwS 2 hts (gw_P gw_1842 gw_1077 gw_24 gwp_X5_cutTo) rfl rfl rfl (by decide +kernel) ⟨Nat.le_trans (Nat.le_of_ble_eq_true rfl) hF, Nat.le_trans (Nat.le_of_ble_eq_true rfl) hL⟩) ⟨fun _ _ _ _ q => q, fun _ _ _ => ⟨rfl, trivial⟩⟩ rfl rfl hl.1 rfl (lv_room (Nat.le_of_ble_eq_true rfl)) dX11_tell_55 ⟨Nat.zero_le _, Nat.zero_le _⟩) (fun r_3 q_4 => ?_)
  subst q_4
  refine vp_callSl (W.runS (As := [.int s0, .int s1, .long (n_cut l2 l4), .long (n_cut l3 l6)]) (rest := []) X.1 (c_X5_apply l s0 s1 (n_cut l2 l4) (n_cut l3 l6)) (va_cwS 4 hts (gw_P gw_1878 gw_1542 gw_24 gwp_X5_apply) rfl rfl rfl (by decide +kernel) ⟨Nat.le_trans (Nat.le_of_ble_eq_true rfl) hF, Nat.le_trans (Nat.le_of_ble_eq_true rfl) hL⟩) ⟨fun _ _ _ _ q => q, fun _ _ _ => ⟨rfl, trivial⟩⟩ rfl rfl hl.1 rfl (lv_room (Nat.le_of_ble_eq_true rfl)) dX11_tell_58 ⟨Nat.zero_le _, Nat.zero_le _⟩) (fun r_5 q_6 => ?_)
  subst q_6
  obtain ⟨e9, rfl⟩ := so9 h
  exact hE _ e9.symm _ _ _ _ hS dX11_tell_61
def B_X11_tell_0 (N : Nat) (l1 : Int32) (l2 : Int32) (l3 : Int32) (l4 : Int64) (l6 : Int64) (u : CSt) : Option ((Sum Nat Int64) × CSt) := if (n_isKind l2) = (0 : Int32) then (some (.inl 1, u)) else (if (n_isKind l3) = (0 : Int32) then (some (.inl 1, u)) else (if l1 < (0 : Int32) then (some (.inl 1, u)) else (if l1 ≤ (16 : Int32) then (if l2 = (4 : Int32) then (B_X11_tell_46 N l2 l3 l4 l6 l1 1 u) else (B_X11_tell_46 N l2 l3 l4 l6 l1 0 u)) else (some (.inl 1, u)))))
set_option maxHeartbeats 4000000 in
theorem b_X11_tell_0 {y : (Sum Nat Int64)} (X : CC p s m args c cX11_tell 8 (Cond.code yX11_tell cX11_tell 8 (some .long)) RX11 D kA V A) (hE : CElx p l e R s m args below meth c cX11_tell D kA Z A Q y w) (hst : l.stackTraces = false) (hX : CX p l e R s m args below meth c D kA Z A Q y w) (hC : 1 ≤ R.cells ∧ 6 ≤ R.slots) (hT_24 : y = .inl 1 → ∀ (H : Heap) (locs : List Loc) (ls : Array Slot), CS D kA Z A s w H locs → ls.size = 8 → W p l e R s m args below meth c H locs 0 0 Q (F0 m 24 ls [])) (hF : 6 ≤ R.frames) (hL : 100 ≤ R.locals) {l1 : Int32} {l2 : Int32} {l3 : Int32} {l4 : Int64} {l6 : Int64} {u : CSt}  (h : B_X11_tell_0 N l1 l2 l3 l4 l6 u = some (y, w))  (hS : CS D kA Z A s u H locs) (hl : lv_has ls 8 [(1, .int l1), (2, .int l2), (3, .int l3), (4, .long l4), (6, .long l6)]) : W p l e R s m args below meth c H locs 0 0 Q (F0 m 0 ls []) := by
  obtain ⟨⟨hx, hb, hml, hown, hts⟩, hK, hEV, hA⟩ := id X
  have hG : ∀ w ∈ GW, w.before args s = true := fun w h => hts w (List.mem_cons_of_mem _ h)
  unfold B_X11_tell_0 at h
  refine lv_iload_n hx hb dX11_tell_0 rfl (lv_at hl 1 rfl) ?_
  refine vp_callSi (W.runS (As := [.int l2]) (rest := []) X.1 (c_X5_isKind l l2) (va_cwS 1 hts (gw_P gw_1838 gw_1839 gw_24 gwp_X5_isKind) rfl rfl rfl (by decide +kernel) ⟨Nat.le_trans (Nat.le_of_ble_eq_true rfl) hF, Nat.le_trans (Nat.le_of_ble_eq_true rfl) hL⟩) ⟨fun _ _ _ _ q => q, fun _ _ _ => ⟨rfl, trivial⟩⟩ rfl rfl hl.1 rfl (lv_room (Nat.le_of_ble_eq_true rfl)) dX11_tell_1 ⟨Nat.zero_le _, Nat.zero_le _⟩) (fun r_7 q_8 => ?_)
  subst q_8
  refine lv_if_eq (tgt := 24) hx hb dX11_tell_4 (by decide) (fun c_9 => ?_) (fun c_9 => ?_)
  · have h := ip (c_9) h
    obtain ⟨e9, rfl⟩ := so9 h
    exact hT_24 e9.symm _ _ _ hS hl.1
  · have h := im (c_9) h
    refine lv_iload_n hx hb dX11_tell_7 rfl (lv_at hl 2 rfl) ?_
    refine vp_callSi (W.runS (As := [.int l3]) (rest := []) X.1 (c_X5_isKind l l3) (va_cwS 1 hts (gw_P gw_1838 gw_1839 gw_24 gwp_X5_isKind) rfl rfl rfl (by decide +kernel) ⟨Nat.le_trans (Nat.le_of_ble_eq_true rfl) hF, Nat.le_trans (Nat.le_of_ble_eq_true rfl) hL⟩) ⟨fun _ _ _ _ q => q, fun _ _ _ => ⟨rfl, trivial⟩⟩ rfl rfl hl.1 rfl (lv_room (Nat.le_of_ble_eq_true rfl)) dX11_tell_8 ⟨Nat.zero_le _, Nat.zero_le _⟩) (fun r_10 q_11 => ?_)
    subst q_11
    refine lv_if_eq (tgt := 24) hx hb dX11_tell_11 (by decide) (fun c_12 => ?_) (fun c_12 => ?_)
    · have h := ip (c_12) h
      obtain ⟨e9, rfl⟩ := so9 h
      exact hT_24 e9.symm _ _ _ hS hl.1
    · have h := im (c_12) h
      refine lv_iload_n hx hb dX11_tell_14 rfl (lv_at hl 0 rfl) ?_
      refine lv_if_lt (tgt := 24) hx hb dX11_tell_15 (by decide) (fun c_13 => ?_) (fun c_13 => ?_)
      · have h := ip (c_13) h
        obtain ⟨e9, rfl⟩ := so9 h
        exact hT_24 e9.symm _ _ _ hS hl.1
      · have h := im (c_13) h
        refine lv_iload_n hx hb dX11_tell_18 rfl (lv_at hl 0 rfl) ?_
        refine lv_bipush (v := 16) hx hb dX11_tell_19 (by decide) ?_
        refine lv_icmp_le (tgt := 35) hx hb dX11_tell_21 (by decide) (fun c_14 => ?_) (fun c_14 => ?_)
        · have h := ip (c_14) h
          refine lv_iload_n hx hb dX11_tell_35 rfl (lv_at hl 0 rfl) ?_
          refine lv_iload_n hx hb dX11_tell_36 rfl (lv_at hl 1 rfl) ?_
          refine lv_iconst (v := 4) hx hb dX11_tell_37 (by decide) ?_
          refine lv_icmp_ne (tgt := 45) hx hb dX11_tell_38 (by decide) (fun c_15 => ?_) (fun c_15 => ?_)
          · have h := im (c_15) h
            refine lv_iconst (v := 0) hx hb dX11_tell_45 (by decide) ?_
            exact b_X11_tell_46 X hE hst hX hC hT_24 hF hL  h  hS (lv_sub hl [1, 2, 3, 4] rfl)
          · have h := ip (c_15) h
            refine lv_iconst (v := 1) hx hb dX11_tell_41 (by decide) ?_
            refine lv_goto (tgt := 46) hx hb dX11_tell_42 (by decide) ?_
            exact b_X11_tell_46 X hE hst hX hC hT_24 hF hL  h  hS (lv_sub hl [1, 2, 3, 4] rfl)
        · have h := im (c_14) h
          obtain ⟨e9, rfl⟩ := so9 h
          exact hT_24 e9.symm _ _ _ hS hl.1
def F_X11_tell (N : Nat) (l1 : Int32) (l2 : Int32) (l3 : Int32) (l4 : Int64) (l6 : Int64) (u : CSt) : Option ((Sum Nat Int64) × CSt) := B_X11_tell_0 N l1 l2 l3 l4 l6 u
set_option maxHeartbeats 4000000 in
theorem k_X11_tell (l : Launch) (hst : l.stackTraces = false) (D : va_G) (kA : Nat → ClassId) (V Z : Nat → Nat) (N : Nat) (l1 : Int32) (l2 : Int32) (l3 : Int32) (l4 : Int64) (l6 : Int64) (u : CSt) (sz : Nat) {y : (Sum Nat Int64)} {w : CSt} (h : F_X11_tell N l1 l2 l3 l4 l6 u = some (y, w)) : vx_Met l yX11_tell (Cond.code yX11_tell cX11_tell 8 (some .long) :: GW) { frames := 6, cells := 1, slots := 6, locals := 100 } (cPc D kA V Z [.ref (Z 200), .int l1, .int l2, .int l3, .long l4, .long l6] u sz) (cQlx D kA Z u sz y w) (cXc D kA Z u sz y w) 1 6 (va_A (CW kA Z u) sz) := by
  refine vx_ofW (cc := cX11_tell) (maxL := 8) (ret := (some .long)) (by decide) rfl ?_
  intro p e s m args below meth c s₁ Bd hml hxt hv
  obtain ⟨rfl, hsz, hP, hK, hD0, hE⟩ := hv
  have hts := atoms_spec (ws := Cond.code yX11_tell cX11_tell 8 (some .long) :: GW) Bd.pre
  have hl := lv_entry ([.ref (Z 200), .int l1, .int l2, .int l3, .long l4, .long l6]) (n := 8) (Nat.le_of_ble_eq_true rfl)
  rw [lg_entry_eq]
  generalize (lg_sl ([.ref (Z 200), .int l1, .int l2, .int l3, .long l4, .long l6]) ++ List.replicate (8 - (lg_sl ([.ref (Z 200), .int l1, .int l2, .int l3, .long l4, .long l6])).length) Slot.unset).toArray = ls at hl ⊢
  have hl : lv_has ls 8 [(0, .ref (Z 200)), (1, .int l1), (2, .int l2), (3, .int l3), (4, .long l4), (6, .long l6)] := hl
  subst hsz
  have X : CC p s m ([.ref (Z 200), .int l1, .int l2, .int l3, .long l4, .long l6]).toArray c cX11_tell 8 (Cond.code yX11_tell cX11_tell 8 (some .long)) RX11 D kA V (va_A (CW kA Z u) s.heap.size) := ⟨⟨Bd.exec, Bd.bytes, hml, findClass_of_methodNamed Bd.named, hts⟩, hK, hE, fun q h => Or.inr h⟩
  refine b_X11_tell_0 X (cend_lx X Bd.returns Bd.notSynchronized) hst (cend_X X hxt Bd.notSynchronized) ⟨Nat.le_refl _, Nat.le_refl _⟩ (fun hy H locs ls hS hls => cx_throwW (x := 1) Bd.exec Bd.bytes hst (findClass_of_methodNamed Bd.named) (by decide +kernel) (by decide +kernel) X hS hy rfl gw_1467 gw_26 (evr_22 hE.2.1) xat_IllegalArgumentException xgo_IllegalArgumentException (by rw [hml]; exact hls) dX11_tell_24 dX11_tell_27 dX11_tell_28 dX11_tell_31 dX11_tell_34 hxt (Nat.le_of_ble_eq_true rfl) (Nat.le_of_ble_eq_true rfl) (Nat.le_of_ble_eq_true rfl) (Nat.le_of_ble_eq_true rfl) Bd.notSynchronized (Nat.le_of_ble_eq_true rfl) (Nat.le_of_ble_eq_true rfl)) (Nat.le_refl _) (Nat.le_refl _) h  ⟨hP, hD0.self, va_S.rf⟩ (lv_sub hl [1, 2, 3, 4, 5] rfl)
def B_X11_install_0 (N : Nat) (l1 : Int32) (u : CSt) : Option (Int32 × CSt) := ok (cR u 0 < 2) inferInstance <| ok (cR u 1 < 2) inferInstance <| pc (xR u 0 (cR u 1)) fun u_3 => pc (xR u_3 1 (cR u 0)) fun u_4 => ok (cR u_4 0 < 2) inferInstance <| bc (F_X2_install N (cR u_4 0) (cR u 0) l1 u_4) fun _ u_6 => bc (F_X10_forget N u_6) fun _ u_7 => if l1 = (0 : Int32) then (bc (F_X1_wipe N u_7) fun _ u_9 => pc (xI u_9 1 0) fun u_10 => some (0, u_10)) else (some (0, u_7))
set_option maxHeartbeats 4000000 in
theorem b_X11_install_0 {r : Int32} (X : CC p s m args c cX11_install 3 (Cond.code yX11_install cX11_install 3 none) RX11 D kA V A) (hE : CEv p l e R s m args below meth c cX11_install D kA Z A Q w) (hF : 4 ≤ R.frames) (hL : 99 ≤ R.locals) {l1 : Int32} {u : CSt}  (h : B_X11_install_0 N l1 u = some (r, w))  (hS : CS D kA Z A s u H locs) (hl : lv_has ls 3 [(0, .ref (Z 200)), (1, .int l1)]) : W p l e R s m args below meth c H locs 0 0 Q (F0 m 0 ls []) := by
  obtain ⟨⟨hx, hb, hml, hown, hts⟩, hK, hEV, hA⟩ := id X
  have hG : ∀ w ∈ GW, w.before args s = true := fun w h => hts w (List.mem_cons_of_mem _ h)
  unfold B_X11_install_0 at h
  refine lv_aload_n hx hb dX11_install_0 rfl (lv_at hl 0 rfl) ?_
  refine cg_X11_48 X hS dX11_install_1 ?_
  obtain ⟨z_1, h⟩ := ok_of h
  refine lv_astore_n (lv' := [(2, .ref (Z (300 + 50 * (cR u 0)))), (0, .ref (Z 200)), (1, .int l1)]) hx hb dX11_install_4 rfl hl (by decide) rfl (fun ls hl => ?_)
  refine lv_aload_n hx hb dX11_install_5 rfl (lv_at hl 1 rfl) ?_
  refine lv_aload_n hx hb dX11_install_6 rfl (lv_at hl 1 rfl) ?_
  refine cg_X11_52 X hS dX11_install_7 ?_
  obtain ⟨z_2, h⟩ := ok_of h
  obtain ⟨u_3, e_u_3, h⟩ := pc_of h
  refine cp_X11_48 X hS e_u_3 dX11_install_10 (fun H locs hS => ?_)
  refine lv_aload_n hx hb dX11_install_13 rfl (lv_at hl 1 rfl) ?_
  refine lv_aload_n hx hb dX11_install_14 rfl (lv_at hl 0 rfl) ?_
  obtain ⟨u_4, e_u_4, h⟩ := pc_of h
  refine cp_X11_52 X hS e_u_4 dX11_install_15 (fun H locs hS => ?_)
  refine lv_aload_n hx hb dX11_install_18 rfl (lv_at hl 1 rfl) ?_
  refine cg_X11_69 X hS dX11_install_19 ?_
  refine lv_aload_n hx hb dX11_install_22 rfl (lv_at hl 1 rfl) ?_
  refine cg_X11_48 X hS dX11_install_23 ?_
  obtain ⟨z_5, h⟩ := ok_of h
  refine lv_aload_n hx hb dX11_install_26 rfl (lv_at hl 0 rfl) ?_
  refine lv_iload_n hx hb dX11_install_27 rfl (lv_at hl 2 rfl) ?_
  obtain ⟨r_u_6, u_6, h_u_6, h⟩ := bc_of h
  refine kc_X2_install_RX11 X z_5 z_1 hS h_u_6 (Nat.le_trans (Nat.le_of_ble_eq_true rfl) hF) (Nat.le_trans (Nat.le_of_ble_eq_true rfl) hL) hl.1 (Nat.le_of_ble_eq_true rfl) dX11_install_28 (fun H locs hS => ?_)
  refine lv_aload_n hx hb dX11_install_31 rfl (lv_at hl 1 rfl) ?_
  refine cg_X11_41 X hS dX11_install_32 ?_
  obtain ⟨r_u_7, u_7, h_u_7, h⟩ := bc_of h
  refine kc_X10_forget_RX11 X  hS h_u_7 (Nat.le_trans (Nat.le_of_ble_eq_true rfl) hF) (Nat.le_trans (Nat.le_of_ble_eq_true rfl) hL) hl.1 (Nat.le_of_ble_eq_true rfl) dX11_install_35 (fun H locs hS => ?_)
  refine lv_iload_n hx hb dX11_install_38 rfl (lv_at hl 2 rfl) ?_
  refine lv_if_ne (tgt := 54) hx hb dX11_install_39 (by decide) (fun c_8 => ?_) (fun c_8 => ?_)
  · have h := im (c_8) h
    obtain ⟨-, rfl⟩ := so9 h
    exact hE _ _ _ _ hS dX11_install_54
  · have h := ip (c_8) h
    refine lv_aload_n hx hb dX11_install_42 rfl (lv_at hl 1 rfl) ?_
    refine cg_X11_34 X hS dX11_install_43 ?_
    obtain ⟨r_u_9, u_9, h_u_9, h⟩ := bc_of h
    refine kc_X1_wipe_RX11 X  hS h_u_9 (Nat.le_trans (Nat.le_of_ble_eq_true rfl) hF) (Nat.le_trans (Nat.le_of_ble_eq_true rfl) hL) hl.1 (Nat.le_of_ble_eq_true rfl) dX11_install_46 (fun H locs hS => ?_)
    refine lv_aload_n hx hb dX11_install_49 rfl (lv_at hl 1 rfl) ?_
    refine lv_iconst (v := 0) hx hb dX11_install_50 (by decide) ?_
    obtain ⟨u_10, e_u_10, h⟩ := pc_of h
    refine cp_X11_150 X hS e_u_10 dX11_install_51 (fun H locs hS => ?_)
    obtain ⟨-, rfl⟩ := so9 h
    exact hE _ _ _ _ hS dX11_install_54
def F_X11_install (N : Nat) (l1 : Int32) (u : CSt) : Option (Int32 × CSt) := B_X11_install_0 N l1 u
set_option maxHeartbeats 4000000 in
theorem k_X11_install (l : Launch) (D : va_G) (kA : Nat → ClassId) (V Z : Nat → Nat) (N : Nat) (l1 : Int32) (u : CSt) (sz : Nat) {r : Int32} {w : CSt} (h : F_X11_install N l1 u = some (r, w)) : Met l yX11_install (Cond.code yX11_install cX11_install 3 none :: GW) { frames := 4, cells := 0, slots := 0, locals := 99 } (cPc D kA V Z [.ref (Z 200), .int l1] u sz) (cQv D kA Z u sz w) 0 0 (va_A (CW kA Z u) sz) := by
  refine Met.ofW (cc := cX11_install) (maxL := 3) (ret := none) (by decide) rfl ?_
  intro p e s m args below meth c s₁ Bd hml hv
  obtain ⟨rfl, hsz, hP, hK, hD0, hE⟩ := hv
  have hts := atoms_spec (ws := Cond.code yX11_install cX11_install 3 none :: GW) Bd.pre
  have hl := lv_entry ([.ref (Z 200), .int l1]) (n := 3) (Nat.le_of_ble_eq_true rfl)
  rw [lg_entry_eq]
  generalize (lg_sl ([.ref (Z 200), .int l1]) ++ List.replicate (3 - (lg_sl ([.ref (Z 200), .int l1])).length) Slot.unset).toArray = ls at hl ⊢
  have hl : lv_has ls 3 [(0, .ref (Z 200)), (1, .int l1)] := hl
  subst hsz
  have X : CC p s m ([.ref (Z 200), .int l1]).toArray c cX11_install 3 (Cond.code yX11_install cX11_install 3 none) RX11 D kA V (va_A (CW kA Z u) s.heap.size) := ⟨⟨Bd.exec, Bd.bytes, hml, findClass_of_methodNamed Bd.named, hts⟩, hK, hE, fun q h => Or.inr h⟩
  refine b_X11_install_0 X (cend_v X Bd.returns Bd.notSynchronized) (Nat.le_refl _) (Nat.le_refl _) h  ⟨hP, hD0.self, va_S.rf⟩ (lv_sub hl [0, 1] rfl)
theorem kc_X11_install_RX11 {cc : ByteArray} {pc nL : Nat} {c0 : Cond} {rest : List Value} {l1 : Int32} {u w1 : CSt} {r : Int32} (X : CC p s m args c cc nL c0 RX11 D kA V A)  (hS : CS D kA Z A s u H locs) (h : F_X11_install N l1 u = some (r, w1)) (hF : 4 + 1 ≤ R.frames) (hL : 8 + (3 + 11) + 99 ≤ R.locals) (hl : ls.size = nL) (hc : (rest.map fun v => v.category).sum ≤ 8) (hdg : decode cc pc = .ok (.invokevirtual 96, 3)) (kk : ∀ H locs, CS D kA Z A s w1 H locs → W p l e R s m args below meth c H locs 0 0 Q (F0 m (pc + 3) ls (rest))) : W p l e R s m args below meth c H locs 0 0 Q (F0 m pc ls (.int l1 :: .ref (Z 200) :: rest)) :=
  ccall_v (n := 1) X hS (k_X11_install l D kA V Z N l1  u H.size h) (gw_V gw_1372 gw_1374 gs_6_3 gw_1 gw_1375) (by decide +kernel) (va_recv X.2.1 hS.1 (ci := 10) (q0 := 0) rfl (cw_lit rfl)) hF hL rfl hl hc rfl hdg kk
end C40face
