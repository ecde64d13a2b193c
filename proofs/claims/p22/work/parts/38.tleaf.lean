abbrev cX8_begin : ByteArray := prog_10_method_2_code
def yX8_begin : MethodName := ⟨RX8, "begin", "(LSoftController$Program;)V"⟩
theorem dX8_begin_0 : decode cX8_begin 0 = .ok (.aload_n 0, 1) := by decide +kernel
theorem dX8_begin_1 : decode cX8_begin 1 = .ok (.aload_n 1, 1) := by decide +kernel
theorem dX8_begin_2 : decode cX8_begin 2 = .ok (.putfield 28, 3) := by decide +kernel
theorem dX8_begin_5 : decode cX8_begin 5 = .ok (.aload_n 0, 1) := by decide +kernel
theorem dX8_begin_6 : decode cX8_begin 6 = .ok (.iconst 0, 1) := by decide +kernel
theorem dX8_begin_7 : decode cX8_begin 7 = .ok (.putfield 32, 3) := by decide +kernel
theorem dX8_begin_10 : decode cX8_begin 10 = .ok (.return_, 1) := by decide +kernel
abbrev cX8_known : ByteArray := prog_10_method_3_code
def yX8_known : MethodName := ⟨RX8, "known", "()LSoftController$Name;"⟩
theorem dX8_known_0 : decode cX8_known 0 = .ok (.aload_n 0, 1) := by decide +kernel
theorem dX8_known_1 : decode cX8_known 1 = .ok (.getfield 24, 3) := by decide +kernel
theorem dX8_known_4 : decode cX8_known 4 = .ok (.invokevirtual 36, 3) := by decide +kernel
theorem dX8_known_7 : decode cX8_known 7 = .ok (.lstore_n 1, 1) := by decide +kernel
theorem dX8_known_8 : decode cX8_known 8 = .ok (.aload_n 0, 1) := by decide +kernel
theorem dX8_known_9 : decode cX8_known 9 = .ok (.getfield 24, 3) := by decide +kernel
theorem dX8_known_12 : decode cX8_known 12 = .ok (.invokevirtual 42, 3) := by decide +kernel
theorem dX8_known_15 : decode cX8_known 15 = .ok (.istore_n 3, 1) := by decide +kernel
theorem dX8_known_16 : decode cX8_known 16 = .ok (.aload_n 0, 1) := by decide +kernel
theorem dX8_known_17 : decode cX8_known 17 = .ok (.getfield 28, 3) := by decide +kernel
theorem dX8_known_20 : decode cX8_known 20 = .ok (.aload_n 0, 1) := by decide +kernel
theorem dX8_known_21 : decode cX8_known 21 = .ok (.getfield 28, 3) := by decide +kernel
theorem dX8_known_24 : decode cX8_known 24 = .ok (.aload_n 0, 1) := by decide +kernel
theorem dX8_known_25 : decode cX8_known 25 = .ok (.getfield 28, 3) := by decide +kernel
theorem dX8_known_28 : decode cX8_known 28 = .ok (.getfield 46, 3) := by decide +kernel
theorem dX8_known_31 : decode cX8_known 31 = .ok (.invokevirtual 51, 3) := by decide +kernel
theorem dX8_known_34 : decode cX8_known 34 = .ok (.lload_n 1, 1) := by decide +kernel
theorem dX8_known_35 : decode cX8_known 35 = .ok (.iload_n 3, 1) := by decide +kernel
theorem dX8_known_36 : decode cX8_known 36 = .ok (.invokevirtual 55, 3) := by decide +kernel
theorem dX8_known_39 : decode cX8_known 39 = .ok (.astore 4, 2) := by decide +kernel
theorem dX8_known_41 : decode cX8_known 41 = .ok (.aload 4, 2) := by decide +kernel
theorem dX8_known_43 : decode cX8_known 43 = .ok (.getfield 59, 3) := by decide +kernel
theorem dX8_known_46 : decode cX8_known 46 = .ok (.bipush 8, 2) := by decide +kernel
theorem dX8_known_48 : decode cX8_known 48 = .ok (.if_icmp .eq 8, 3) := by decide +kernel
theorem dX8_known_51 : decode cX8_known 51 = .ok (.aload 4, 2) := by decide +kernel
theorem dX8_known_53 : decode cX8_known 53 = .ok (.goto 12, 3) := by decide +kernel
theorem dX8_known_56 : decode cX8_known 56 = .ok (.aload_n 0, 1) := by decide +kernel
theorem dX8_known_57 : decode cX8_known 57 = .ok (.getfield 28, 3) := by decide +kernel
theorem dX8_known_60 : decode cX8_known 60 = .ok (.lload_n 1, 1) := by decide +kernel
theorem dX8_known_61 : decode cX8_known 61 = .ok (.iload_n 3, 1) := by decide +kernel
theorem dX8_known_62 : decode cX8_known 62 = .ok (.invokevirtual 64, 3) := by decide +kernel
theorem dX8_known_65 : decode cX8_known 65 = .ok (.areturn, 1) := by decide +kernel
abbrev cX8_placeName : ByteArray := prog_10_method_4_code
def yX8_placeName : MethodName := ⟨RX8, "placeName", "(Z)LSoftController$Name;"⟩
theorem dX8_placeName_0 : decode cX8_placeName 0 = .ok (.aload_n 0, 1) := by decide +kernel
theorem dX8_placeName_1 : decode cX8_placeName 1 = .ok (.invokevirtual 68, 3) := by decide +kernel
theorem dX8_placeName_4 : decode cX8_placeName 4 = .ok (.astore_n 2, 1) := by decide +kernel
theorem dX8_placeName_5 : decode cX8_placeName 5 = .ok (.aload_n 2, 1) := by decide +kernel
theorem dX8_placeName_6 : decode cX8_placeName 6 = .ok (.invokevirtual 72, 3) := by decide +kernel
theorem dX8_placeName_9 : decode cX8_placeName 9 = .ok (.ifCond .ne 18, 3) := by decide +kernel
theorem dX8_placeName_12 : decode cX8_placeName 12 = .ok (.aload_n 0, 1) := by decide +kernel
theorem dX8_placeName_13 : decode cX8_placeName 13 = .ok (.getfield 24, 3) := by decide +kernel
theorem dX8_placeName_16 : decode cX8_placeName 16 = .ok (.iconst 3, 1) := by decide +kernel
theorem dX8_placeName_17 : decode cX8_placeName 17 = .ok (.aload_n 0, 1) := by decide +kernel
theorem dX8_placeName_18 : decode cX8_placeName 18 = .ok (.getfield 24, 3) := by decide +kernel
theorem dX8_placeName_21 : decode cX8_placeName 21 = .ok (.invokevirtual 76, 3) := by decide +kernel
theorem dX8_placeName_24 : decode cX8_placeName 24 = .ok (.invokevirtual 79, 3) := by decide +kernel
theorem dX8_placeName_27 : decode cX8_placeName 27 = .ok (.aload_n 2, 1) := by decide +kernel
theorem dX8_placeName_28 : decode cX8_placeName 28 = .ok (.getfield 83, 3) := by decide +kernel
theorem dX8_placeName_31 : decode cX8_placeName 31 = .ok (.aload_n 0, 1) := by decide +kernel
theorem dX8_placeName_32 : decode cX8_placeName 32 = .ok (.getfield 24, 3) := by decide +kernel
theorem dX8_placeName_35 : decode cX8_placeName 35 = .ok (.iconst 1, 1) := by decide +kernel
theorem dX8_placeName_36 : decode cX8_placeName 36 = .ok (.invokevirtual 87, 3) := by decide +kernel
theorem dX8_placeName_39 : decode cX8_placeName 39 = .ok (.bipush 91, 2) := by decide +kernel
theorem dX8_placeName_41 : decode cX8_placeName 41 = .ok (.if_icmp .ne 7, 3) := by decide +kernel
theorem dX8_placeName_44 : decode cX8_placeName 44 = .ok (.iconst 1, 1) := by decide +kernel
theorem dX8_placeName_45 : decode cX8_placeName 45 = .ok (.goto 4, 3) := by decide +kernel
theorem dX8_placeName_48 : decode cX8_placeName 48 = .ok (.iconst 0, 1) := by decide +kernel
theorem dX8_placeName_49 : decode cX8_placeName 49 = .ok (.if_icmp .ne 14, 3) := by decide +kernel
theorem dX8_placeName_52 : decode cX8_placeName 52 = .ok (.iload_n 1, 1) := by decide +kernel
theorem dX8_placeName_53 : decode cX8_placeName 53 = .ok (.ifCond .eq 25, 3) := by decide +kernel
theorem dX8_placeName_56 : decode cX8_placeName 56 = .ok (.aload_n 2, 1) := by decide +kernel
theorem dX8_placeName_57 : decode cX8_placeName 57 = .ok (.invokevirtual 91, 3) := by decide +kernel
theorem dX8_placeName_60 : decode cX8_placeName 60 = .ok (.ifCond .eq 18, 3) := by decide +kernel
theorem dX8_placeName_63 : decode cX8_placeName 63 = .ok (.aload_n 0, 1) := by decide +kernel
theorem dX8_placeName_64 : decode cX8_placeName 64 = .ok (.getfield 24, 3) := by decide +kernel
theorem dX8_placeName_67 : decode cX8_placeName 67 = .ok (.iconst 4, 1) := by decide +kernel
theorem dX8_placeName_68 : decode cX8_placeName 68 = .ok (.aload_n 0, 1) := by decide +kernel
theorem dX8_placeName_69 : decode cX8_placeName 69 = .ok (.getfield 24, 3) := by decide +kernel
theorem dX8_placeName_72 : decode cX8_placeName 72 = .ok (.invokevirtual 76, 3) := by decide +kernel
theorem dX8_placeName_75 : decode cX8_placeName 75 = .ok (.invokevirtual 79, 3) := by decide +kernel
theorem dX8_placeName_78 : decode cX8_placeName 78 = .ok (.aload_n 2, 1) := by decide +kernel
theorem dX8_placeName_79 : decode cX8_placeName 79 = .ok (.areturn, 1) := by decide +kernel
abbrev cX8_isTooWide : ByteArray := prog_10_method_5_code
def yX8_isTooWide : MethodName := ⟨RX8, "isTooWide", "(II)Z"⟩
theorem dX8_isTooWide_0 : decode cX8_isTooWide 0 = .ok (.iload_n 1, 1) := by decide +kernel
theorem dX8_isTooWide_1 : decode cX8_isTooWide 1 = .ok (.iload_n 2, 1) := by decide +kernel
theorem dX8_isTooWide_2 : decode cX8_isTooWide 2 = .ok (.invokestatic 94, 3) := by decide +kernel
theorem dX8_isTooWide_5 : decode cX8_isTooWide 5 = .ok (.ifCond .ne 25, 3) := by decide +kernel
theorem dX8_isTooWide_8 : decode cX8_isTooWide 8 = .ok (.aload_n 0, 1) := by decide +kernel
theorem dX8_isTooWide_9 : decode cX8_isTooWide 9 = .ok (.getfield 100, 3) := by decide +kernel
theorem dX8_isTooWide_12 : decode cX8_isTooWide 12 = .ok (.ifCond .eq 14, 3) := by decide +kernel
theorem dX8_isTooWide_15 : decode cX8_isTooWide 15 = .ok (.iload_n 2, 1) := by decide +kernel
theorem dX8_isTooWide_16 : decode cX8_isTooWide 16 = .ok (.aload_n 0, 1) := by decide +kernel
theorem dX8_isTooWide_17 : decode cX8_isTooWide 17 = .ok (.getfield 103, 3) := by decide +kernel
theorem dX8_isTooWide_20 : decode cX8_isTooWide 20 = .ok (.invokestatic 107, 3) := by decide +kernel
theorem dX8_isTooWide_23 : decode cX8_isTooWide 23 = .ok (.ifCond .ne 7, 3) := by decide +kernel
theorem dX8_isTooWide_26 : decode cX8_isTooWide 26 = .ok (.iconst 1, 1) := by decide +kernel
theorem dX8_isTooWide_27 : decode cX8_isTooWide 27 = .ok (.goto 4, 3) := by decide +kernel
theorem dX8_isTooWide_30 : decode cX8_isTooWide 30 = .ok (.iconst 0, 1) := by decide +kernel
theorem dX8_isTooWide_31 : decode cX8_isTooWide 31 = .ok (.ireturn, 1) := by decide +kernel
abbrev cX8_combine : ByteArray := prog_10_method_10_code
def yX8_combine : MethodName := ⟨RX8, "combine", "(IIII)I"⟩
theorem dX8_combine_0 : decode cX8_combine 0 = .ok (.iload_n 1, 1) := by decide +kernel
theorem dX8_combine_1 : decode cX8_combine 1 = .ok (.iload_n 2, 1) := by decide +kernel
theorem dX8_combine_2 : decode cX8_combine 2 = .ok (.iload_n 3, 1) := by decide +kernel
theorem dX8_combine_3 : decode cX8_combine 3 = .ok (.invokestatic 161, 3) := by decide +kernel
theorem dX8_combine_6 : decode cX8_combine 6 = .ok (.istore 5, 2) := by decide +kernel
theorem dX8_combine_8 : decode cX8_combine 8 = .ok (.aload_n 0, 1) := by decide +kernel
theorem dX8_combine_9 : decode cX8_combine 9 = .ok (.getfield 28, 3) := by decide +kernel
theorem dX8_combine_12 : decode cX8_combine 12 = .ok (.bipush 22, 2) := by decide +kernel
theorem dX8_combine_14 : decode cX8_combine 14 = .ok (.iload_n 1, 1) := by decide +kernel
theorem dX8_combine_15 : decode cX8_combine 15 = .ok (.iload 5, 2) := by decide +kernel
theorem dX8_combine_17 : decode cX8_combine 17 = .ok (.ifCond .eq 7, 3) := by decide +kernel
theorem dX8_combine_20 : decode cX8_combine 20 = .ok (.iconst 1, 1) := by decide +kernel
theorem dX8_combine_21 : decode cX8_combine 21 = .ok (.goto 4, 3) := by decide +kernel
theorem dX8_combine_24 : decode cX8_combine 24 = .ok (.iconst 0, 1) := by decide +kernel
theorem dX8_combine_25 : decode cX8_combine 25 = .ok (.iload 4, 2) := by decide +kernel
theorem dX8_combine_27 : decode cX8_combine 27 = .ok (.invokevirtual 118, 3) := by decide +kernel
theorem dX8_combine_30 : decode cX8_combine 30 = .ok (.pop, 1) := by decide +kernel
theorem dX8_combine_31 : decode cX8_combine 31 = .ok (.iload 5, 2) := by decide +kernel
theorem dX8_combine_33 : decode cX8_combine 33 = .ok (.ifCond .eq 7, 3) := by decide +kernel
theorem dX8_combine_36 : decode cX8_combine 36 = .ok (.iconst 4, 1) := by decide +kernel
theorem dX8_combine_37 : decode cX8_combine 37 = .ok (.goto 4, 3) := by decide +kernel
theorem dX8_combine_40 : decode cX8_combine 40 = .ok (.iconst 3, 1) := by decide +kernel
theorem dX8_combine_41 : decode cX8_combine 41 = .ok (.ireturn, 1) := by decide +kernel
abbrev cX8_defer : ByteArray := prog_10_method_8_code
def yX8_defer : MethodName := ⟨RX8, "defer", "(I)V"⟩
theorem dX8_defer_0 : decode cX8_defer 0 = .ok (.aload_n 0, 1) := by decide +kernel
theorem dX8_defer_1 : decode cX8_defer 1 = .ok (.getfield 24, 3) := by decide +kernel
theorem dX8_defer_4 : decode cX8_defer 4 = .ok (.invokevirtual 139, 3) := by decide +kernel
theorem dX8_defer_7 : decode cX8_defer 7 = .ok (.istore_n 2, 1) := by decide +kernel
theorem dX8_defer_8 : decode cX8_defer 8 = .ok (.aload_n 0, 1) := by decide +kernel
theorem dX8_defer_9 : decode cX8_defer 9 = .ok (.getfield 24, 3) := by decide +kernel
theorem dX8_defer_12 : decode cX8_defer 12 = .ok (.invokevirtual 76, 3) := by decide +kernel
theorem dX8_defer_15 : decode cX8_defer 15 = .ok (.istore_n 3, 1) := by decide +kernel
theorem dX8_defer_16 : decode cX8_defer 16 = .ok (.iload_n 2, 1) := by decide +kernel
theorem dX8_defer_17 : decode cX8_defer 17 = .ok (.sipush 9766, 3) := by decide +kernel
theorem dX8_defer_20 : decode cX8_defer 20 = .ok (.if_icmp .ne 8, 3) := by decide +kernel
theorem dX8_defer_23 : decode cX8_defer 23 = .ok (.bipush 32, 2) := by decide +kernel
theorem dX8_defer_25 : decode cX8_defer 25 = .ok (.goto 16, 3) := by decide +kernel
theorem dX8_defer_28 : decode cX8_defer 28 = .ok (.iload_n 2, 1) := by decide +kernel
theorem dX8_defer_29 : decode cX8_defer 29 = .ok (.sipush 31868, 3) := by decide +kernel
theorem dX8_defer_32 : decode cX8_defer 32 = .ok (.if_icmp .ne 8, 3) := by decide +kernel
theorem dX8_defer_35 : decode cX8_defer 35 = .ok (.bipush 33, 2) := by decide +kernel
theorem dX8_defer_37 : decode cX8_defer 37 = .ok (.goto 4, 3) := by decide +kernel
theorem dX8_defer_40 : decode cX8_defer 40 = .ok (.iconst 0, 1) := by decide +kernel
theorem dX8_defer_41 : decode cX8_defer 41 = .ok (.istore 4, 2) := by decide +kernel
theorem dX8_defer_43 : decode cX8_defer 43 = .ok (.aload_n 0, 1) := by decide +kernel
theorem dX8_defer_44 : decode cX8_defer 44 = .ok (.getfield 28, 3) := by decide +kernel
theorem dX8_defer_47 : decode cX8_defer 47 = .ok (.iload 4, 2) := by decide +kernel
theorem dX8_defer_49 : decode cX8_defer 49 = .ok (.bipush 64, 2) := by decide +kernel
theorem dX8_defer_51 : decode cX8_defer 51 = .ok (.iadd, 1) := by decide +kernel
theorem dX8_defer_52 : decode cX8_defer 52 = .ok (.iconst (-1), 1) := by decide +kernel
theorem dX8_defer_53 : decode cX8_defer 53 = .ok (.iconst 0, 1) := by decide +kernel
theorem dX8_defer_54 : decode cX8_defer 54 = .ok (.iload_n 3, 1) := by decide +kernel
theorem dX8_defer_55 : decode cX8_defer 55 = .ok (.invokevirtual 118, 3) := by decide +kernel
theorem dX8_defer_58 : decode cX8_defer 58 = .ok (.istore 5, 2) := by decide +kernel
theorem dX8_defer_60 : decode cX8_defer 60 = .ok (.aload_n 0, 1) := by decide +kernel
theorem dX8_defer_61 : decode cX8_defer 61 = .ok (.getfield 32, 3) := by decide +kernel
theorem dX8_defer_64 : decode cX8_defer 64 = .ok (.sipush 250, 3) := by decide +kernel
theorem dX8_defer_67 : decode cX8_defer 67 = .ok (.if_icmp .ge 54, 3) := by decide +kernel
theorem dX8_defer_70 : decode cX8_defer 70 = .ok (.aload_n 0, 1) := by decide +kernel
theorem dX8_defer_71 : decode cX8_defer 71 = .ok (.getfield 9, 3) := by decide +kernel
theorem dX8_defer_74 : decode cX8_defer 74 = .ok (.aload_n 0, 1) := by decide +kernel
theorem dX8_defer_75 : decode cX8_defer 75 = .ok (.getfield 32, 3) := by decide +kernel
theorem dX8_defer_78 : decode cX8_defer 78 = .ok (.iload_n 2, 1) := by decide +kernel
theorem dX8_defer_79 : decode cX8_defer 79 = .ok (.iastore, 1) := by decide +kernel
theorem dX8_defer_80 : decode cX8_defer 80 = .ok (.aload_n 0, 1) := by decide +kernel
theorem dX8_defer_81 : decode cX8_defer 81 = .ok (.getfield 15, 3) := by decide +kernel
theorem dX8_defer_84 : decode cX8_defer 84 = .ok (.aload_n 0, 1) := by decide +kernel
theorem dX8_defer_85 : decode cX8_defer 85 = .ok (.getfield 32, 3) := by decide +kernel
theorem dX8_defer_88 : decode cX8_defer 88 = .ok (.iload_n 3, 1) := by decide +kernel
theorem dX8_defer_89 : decode cX8_defer 89 = .ok (.iastore, 1) := by decide +kernel
theorem dX8_defer_90 : decode cX8_defer 90 = .ok (.aload_n 0, 1) := by decide +kernel
theorem dX8_defer_91 : decode cX8_defer 91 = .ok (.getfield 18, 3) := by decide +kernel
theorem dX8_defer_94 : decode cX8_defer 94 = .ok (.aload_n 0, 1) := by decide +kernel
theorem dX8_defer_95 : decode cX8_defer 95 = .ok (.getfield 32, 3) := by decide +kernel
theorem dX8_defer_98 : decode cX8_defer 98 = .ok (.iload_n 1, 1) := by decide +kernel
theorem dX8_defer_99 : decode cX8_defer 99 = .ok (.iastore, 1) := by decide +kernel
theorem dX8_defer_100 : decode cX8_defer 100 = .ok (.aload_n 0, 1) := by decide +kernel
theorem dX8_defer_101 : decode cX8_defer 101 = .ok (.getfield 21, 3) := by decide +kernel
theorem dX8_defer_104 : decode cX8_defer 104 = .ok (.aload_n 0, 1) := by decide +kernel
theorem dX8_defer_105 : decode cX8_defer 105 = .ok (.getfield 32, 3) := by decide +kernel
theorem dX8_defer_108 : decode cX8_defer 108 = .ok (.iload 5, 2) := by decide +kernel
theorem dX8_defer_110 : decode cX8_defer 110 = .ok (.iastore, 1) := by decide +kernel
theorem dX8_defer_111 : decode cX8_defer 111 = .ok (.aload_n 0, 1) := by decide +kernel
theorem dX8_defer_112 : decode cX8_defer 112 = .ok (.dup, 1) := by decide +kernel
theorem dX8_defer_113 : decode cX8_defer 113 = .ok (.getfield 32, 3) := by decide +kernel
theorem dX8_defer_116 : decode cX8_defer 116 = .ok (.iconst 1, 1) := by decide +kernel
theorem dX8_defer_117 : decode cX8_defer 117 = .ok (.iadd, 1) := by decide +kernel
theorem dX8_defer_118 : decode cX8_defer 118 = .ok (.putfield 32, 3) := by decide +kernel
theorem dX8_defer_121 : decode cX8_defer 121 = .ok (.aload_n 0, 1) := by decide +kernel
theorem dX8_defer_122 : decode cX8_defer 122 = .ok (.getfield 24, 3) := by decide +kernel
theorem dX8_defer_125 : decode cX8_defer 125 = .ok (.invokevirtual 122, 3) := by decide +kernel
theorem dX8_defer_128 : decode cX8_defer 128 = .ok (.return_, 1) := by decide +kernel
abbrev cX8_settle : ByteArray := prog_10_method_9_code
def yX8_settle : MethodName := ⟨RX8, "settle", "(III)I"⟩
theorem dX8_settle_0 : decode cX8_settle 0 = .ok (.iload_n 3, 1) := by decide +kernel
theorem dX8_settle_1 : decode cX8_settle 1 = .ok (.istore 4, 2) := by decide +kernel
theorem dX8_settle_3 : decode cX8_settle 3 = .ok (.aload_n 0, 1) := by decide +kernel
theorem dX8_settle_4 : decode cX8_settle 4 = .ok (.getfield 32, 3) := by decide +kernel
theorem dX8_settle_7 : decode cX8_settle 7 = .ok (.iload_n 1, 1) := by decide +kernel
theorem dX8_settle_8 : decode cX8_settle 8 = .ok (.if_icmp .le 166, 3) := by decide +kernel
theorem dX8_settle_11 : decode cX8_settle 11 = .ok (.aload_n 0, 1) := by decide +kernel
theorem dX8_settle_12 : decode cX8_settle 12 = .ok (.getfield 9, 3) := by decide +kernel
theorem dX8_settle_15 : decode cX8_settle 15 = .ok (.aload_n 0, 1) := by decide +kernel
theorem dX8_settle_16 : decode cX8_settle 16 = .ok (.getfield 32, 3) := by decide +kernel
theorem dX8_settle_19 : decode cX8_settle 19 = .ok (.iconst 1, 1) := by decide +kernel
theorem dX8_settle_20 : decode cX8_settle 20 = .ok (.isub, 1) := by decide +kernel
theorem dX8_settle_21 : decode cX8_settle 21 = .ok (.iaload, 1) := by decide +kernel
theorem dX8_settle_22 : decode cX8_settle 22 = .ok (.invokestatic 142, 3) := by decide +kernel
theorem dX8_settle_25 : decode cX8_settle 25 = .ok (.iload_n 2, 1) := by decide +kernel
theorem dX8_settle_26 : decode cX8_settle 26 = .ok (.if_icmp .lt 148, 3) := by decide +kernel
theorem dX8_settle_29 : decode cX8_settle 29 = .ok (.aload_n 0, 1) := by decide +kernel
theorem dX8_settle_30 : decode cX8_settle 30 = .ok (.dup, 1) := by decide +kernel
theorem dX8_settle_31 : decode cX8_settle 31 = .ok (.getfield 32, 3) := by decide +kernel
theorem dX8_settle_34 : decode cX8_settle 34 = .ok (.iconst 1, 1) := by decide +kernel
theorem dX8_settle_35 : decode cX8_settle 35 = .ok (.isub, 1) := by decide +kernel
theorem dX8_settle_36 : decode cX8_settle 36 = .ok (.putfield 32, 3) := by decide +kernel
theorem dX8_settle_39 : decode cX8_settle 39 = .ok (.aload_n 0, 1) := by decide +kernel
theorem dX8_settle_40 : decode cX8_settle 40 = .ok (.getfield 9, 3) := by decide +kernel
theorem dX8_settle_43 : decode cX8_settle 43 = .ok (.aload_n 0, 1) := by decide +kernel
theorem dX8_settle_44 : decode cX8_settle 44 = .ok (.getfield 32, 3) := by decide +kernel
theorem dX8_settle_47 : decode cX8_settle 47 = .ok (.iaload, 1) := by decide +kernel
theorem dX8_settle_48 : decode cX8_settle 48 = .ok (.istore 5, 2) := by decide +kernel
theorem dX8_settle_50 : decode cX8_settle 50 = .ok (.aload_n 0, 1) := by decide +kernel
theorem dX8_settle_51 : decode cX8_settle 51 = .ok (.getfield 15, 3) := by decide +kernel
theorem dX8_settle_54 : decode cX8_settle 54 = .ok (.aload_n 0, 1) := by decide +kernel
theorem dX8_settle_55 : decode cX8_settle 55 = .ok (.getfield 32, 3) := by decide +kernel
theorem dX8_settle_58 : decode cX8_settle 58 = .ok (.iaload, 1) := by decide +kernel
theorem dX8_settle_59 : decode cX8_settle 59 = .ok (.istore 6, 2) := by decide +kernel
theorem dX8_settle_61 : decode cX8_settle 61 = .ok (.iload 5, 2) := by decide +kernel
theorem dX8_settle_63 : decode cX8_settle 63 = .ok (.invokestatic 152, 3) := by decide +kernel
theorem dX8_settle_66 : decode cX8_settle 66 = .ok (.istore 7, 2) := by decide +kernel
theorem dX8_settle_68 : decode cX8_settle 68 = .ok (.iload 5, 2) := by decide +kernel
theorem dX8_settle_70 : decode cX8_settle 70 = .ok (.sipush 9766, 3) := by decide +kernel
theorem dX8_settle_73 : decode cX8_settle 73 = .ok (.if_icmp .eq 11, 3) := by decide +kernel
theorem dX8_settle_76 : decode cX8_settle 76 = .ok (.iload 5, 2) := by decide +kernel
theorem dX8_settle_78 : decode cX8_settle 78 = .ok (.sipush 31868, 3) := by decide +kernel
theorem dX8_settle_81 : decode cX8_settle 81 = .ok (.if_icmp .ne 39, 3) := by decide +kernel
theorem dX8_settle_84 : decode cX8_settle 84 = .ok (.aload_n 0, 1) := by decide +kernel
theorem dX8_settle_85 : decode cX8_settle 85 = .ok (.getfield 28, 3) := by decide +kernel
theorem dX8_settle_88 : decode cX8_settle 88 = .ok (.bipush 26, 2) := by decide +kernel
theorem dX8_settle_90 : decode cX8_settle 90 = .ok (.iconst 0, 1) := by decide +kernel
theorem dX8_settle_91 : decode cX8_settle 91 = .ok (.iconst 0, 1) := by decide +kernel
theorem dX8_settle_92 : decode cX8_settle 92 = .ok (.iload 6, 2) := by decide +kernel
theorem dX8_settle_94 : decode cX8_settle 94 = .ok (.invokevirtual 118, 3) := by decide +kernel
theorem dX8_settle_97 : decode cX8_settle 97 = .ok (.pop, 1) := by decide +kernel
theorem dX8_settle_98 : decode cX8_settle 98 = .ok (.aload_n 0, 1) := by decide +kernel
theorem dX8_settle_99 : decode cX8_settle 99 = .ok (.getfield 28, 3) := by decide +kernel
theorem dX8_settle_102 : decode cX8_settle 102 = .ok (.aload_n 0, 1) := by decide +kernel
theorem dX8_settle_103 : decode cX8_settle 103 = .ok (.getfield 21, 3) := by decide +kernel
theorem dX8_settle_106 : decode cX8_settle 106 = .ok (.aload_n 0, 1) := by decide +kernel
theorem dX8_settle_107 : decode cX8_settle 107 = .ok (.getfield 32, 3) := by decide +kernel
theorem dX8_settle_110 : decode cX8_settle 110 = .ok (.iaload, 1) := by decide +kernel
theorem dX8_settle_111 : decode cX8_settle 111 = .ok (.invokevirtual 128, 3) := by decide +kernel
theorem dX8_settle_114 : decode cX8_settle 114 = .ok (.iconst 3, 1) := by decide +kernel
theorem dX8_settle_115 : decode cX8_settle 115 = .ok (.istore 4, 2) := by decide +kernel
theorem dX8_settle_117 : decode cX8_settle 117 = .ok (.goto 54, 3) := by decide +kernel
theorem dX8_settle_120 : decode cX8_settle 120 = .ok (.iload 7, 2) := by decide +kernel
theorem dX8_settle_122 : decode cX8_settle 122 = .ok (.iconst (-1), 1) := by decide +kernel
theorem dX8_settle_123 : decode cX8_settle 123 = .ok (.if_icmp .eq 24, 3) := by decide +kernel
theorem dX8_settle_126 : decode cX8_settle 126 = .ok (.aload_n 0, 1) := by decide +kernel
theorem dX8_settle_127 : decode cX8_settle 127 = .ok (.getfield 28, 3) := by decide +kernel
theorem dX8_settle_130 : decode cX8_settle 130 = .ok (.bipush 23, 2) := by decide +kernel
theorem dX8_settle_132 : decode cX8_settle 132 = .ok (.iload 7, 2) := by decide +kernel
theorem dX8_settle_134 : decode cX8_settle 134 = .ok (.iconst 0, 1) := by decide +kernel
theorem dX8_settle_135 : decode cX8_settle 135 = .ok (.iload 6, 2) := by decide +kernel
theorem dX8_settle_137 : decode cX8_settle 137 = .ok (.invokevirtual 118, 3) := by decide +kernel
theorem dX8_settle_140 : decode cX8_settle 140 = .ok (.pop, 1) := by decide +kernel
theorem dX8_settle_141 : decode cX8_settle 141 = .ok (.iconst 3, 1) := by decide +kernel
theorem dX8_settle_142 : decode cX8_settle 142 = .ok (.istore 4, 2) := by decide +kernel
theorem dX8_settle_144 : decode cX8_settle 144 = .ok (.goto 27, 3) := by decide +kernel
theorem dX8_settle_147 : decode cX8_settle 147 = .ok (.aload_n 0, 1) := by decide +kernel
theorem dX8_settle_148 : decode cX8_settle 148 = .ok (.iload 5, 2) := by decide +kernel
theorem dX8_settle_150 : decode cX8_settle 150 = .ok (.invokestatic 155, 3) := by decide +kernel
theorem dX8_settle_153 : decode cX8_settle 153 = .ok (.aload_n 0, 1) := by decide +kernel
theorem dX8_settle_154 : decode cX8_settle 154 = .ok (.getfield 18, 3) := by decide +kernel
theorem dX8_settle_157 : decode cX8_settle 157 = .ok (.aload_n 0, 1) := by decide +kernel
theorem dX8_settle_158 : decode cX8_settle 158 = .ok (.getfield 32, 3) := by decide +kernel
theorem dX8_settle_161 : decode cX8_settle 161 = .ok (.iaload, 1) := by decide +kernel
theorem dX8_settle_162 : decode cX8_settle 162 = .ok (.iload 4, 2) := by decide +kernel
theorem dX8_settle_164 : decode cX8_settle 164 = .ok (.iload 6, 2) := by decide +kernel
theorem dX8_settle_166 : decode cX8_settle 166 = .ok (.invokevirtual 158, 3) := by decide +kernel
theorem dX8_settle_169 : decode cX8_settle 169 = .ok (.istore 4, 2) := by decide +kernel
theorem dX8_settle_171 : decode cX8_settle 171 = .ok (.goto (-168), 3) := by decide +kernel
theorem dX8_settle_174 : decode cX8_settle 174 = .ok (.iload 4, 2) := by decide +kernel
theorem dX8_settle_176 : decode cX8_settle 176 = .ok (.ireturn, 1) := by decide +kernel
abbrev cX8_number : ByteArray := prog_10_method_12_code
def yX8_number : MethodName := ⟨RX8, "number", "(I)I"⟩
theorem dX8_number_0 : decode cX8_number 0 = .ok (.aload_n 0, 1) := by decide +kernel
theorem dX8_number_1 : decode cX8_number 1 = .ok (.getfield 24, 3) := by decide +kernel
theorem dX8_number_4 : decode cX8_number 4 = .ok (.invokevirtual 177, 3) := by decide +kernel
theorem dX8_number_7 : decode cX8_number 7 = .ok (.ifCond .eq 7, 3) := by decide +kernel
theorem dX8_number_10 : decode cX8_number 10 = .ok (.iconst 4, 1) := by decide +kernel
theorem dX8_number_11 : decode cX8_number 11 = .ok (.goto 4, 3) := by decide +kernel
theorem dX8_number_14 : decode cX8_number 14 = .ok (.iconst 3, 1) := by decide +kernel
theorem dX8_number_15 : decode cX8_number 15 = .ok (.istore_n 2, 1) := by decide +kernel
theorem dX8_number_16 : decode cX8_number 16 = .ok (.aload_n 0, 1) := by decide +kernel
theorem dX8_number_17 : decode cX8_number 17 = .ok (.aload_n 0, 1) := by decide +kernel
theorem dX8_number_18 : decode cX8_number 18 = .ok (.getfield 24, 3) := by decide +kernel
theorem dX8_number_21 : decode cX8_number 21 = .ok (.invokevirtual 179, 3) := by decide +kernel
theorem dX8_number_24 : decode cX8_number 24 = .ok (.putfield 103, 3) := by decide +kernel
theorem dX8_number_27 : decode cX8_number 27 = .ok (.aload_n 0, 1) := by decide +kernel
theorem dX8_number_28 : decode cX8_number 28 = .ok (.iconst 1, 1) := by decide +kernel
theorem dX8_number_29 : decode cX8_number 29 = .ok (.putfield 100, 3) := by decide +kernel
theorem dX8_number_32 : decode cX8_number 32 = .ok (.aload_n 0, 1) := by decide +kernel
theorem dX8_number_33 : decode cX8_number 33 = .ok (.getfield 28, 3) := by decide +kernel
theorem dX8_number_36 : decode cX8_number 36 = .ok (.aload_n 0, 1) := by decide +kernel
theorem dX8_number_37 : decode cX8_number 37 = .ok (.getfield 103, 3) := by decide +kernel
theorem dX8_number_40 : decode cX8_number 40 = .ok (.bipush 64, 2) := by decide +kernel
theorem dX8_number_42 : decode cX8_number 42 = .ok (.iload_n 1, 1) := by decide +kernel
theorem dX8_number_43 : decode cX8_number 43 = .ok (.invokevirtual 182, 3) := by decide +kernel
theorem dX8_number_46 : decode cX8_number 46 = .ok (.iload_n 2, 1) := by decide +kernel
theorem dX8_number_47 : decode cX8_number 47 = .ok (.ireturn, 1) := by decide +kernel
abbrev cX8_bit : ByteArray := prog_10_method_23_code
def yX8_bit : MethodName := ⟨RX8, "bit", "(I)I"⟩
theorem dX8_bit_0 : decode cX8_bit 0 = .ok (.aload_n 0, 1) := by decide +kernel
theorem dX8_bit_1 : decode cX8_bit 1 = .ok (.getfield 24, 3) := by decide +kernel
theorem dX8_bit_4 : decode cX8_bit 4 = .ok (.invokevirtual 122, 3) := by decide +kernel
theorem dX8_bit_7 : decode cX8_bit 7 = .ok (.aload_n 0, 1) := by decide +kernel
theorem dX8_bit_8 : decode cX8_bit 8 = .ok (.getfield 24, 3) := by decide +kernel
theorem dX8_bit_11 : decode cX8_bit 11 = .ok (.lconst 0, 1) := by decide +kernel
theorem dX8_bit_12 : decode cX8_bit 12 = .ok (.getstatic 262, 3) := by decide +kernel
theorem dX8_bit_15 : decode cX8_bit 15 = .ok (.iload_n 1, 1) := by decide +kernel
theorem dX8_bit_16 : decode cX8_bit 16 = .ok (.iaload, 1) := by decide +kernel
theorem dX8_bit_17 : decode cX8_bit 17 = .ok (.iconst 1, 1) := by decide +kernel
theorem dX8_bit_18 : decode cX8_bit 18 = .ok (.isub, 1) := by decide +kernel
theorem dX8_bit_19 : decode cX8_bit 19 = .ok (.i2l, 1) := by decide +kernel
theorem dX8_bit_20 : decode cX8_bit 20 = .ok (.invokevirtual 265, 3) := by decide +kernel
theorem dX8_bit_23 : decode cX8_bit 23 = .ok (.l2i, 1) := by decide +kernel
theorem dX8_bit_24 : decode cX8_bit 24 = .ok (.ireturn, 1) := by decide +kernel
abbrev cX8_get : ByteArray := prog_10_method_24_code
def yX8_get : MethodName := ⟨RX8, "get", "(LSoftController$Name;II)V"⟩
theorem dX8_get_0 : decode cX8_get 0 = .ok (.aload_n 1, 1) := by decide +kernel
theorem dX8_get_1 : decode cX8_get 1 = .ok (.invokevirtual 259, 3) := by decide +kernel
theorem dX8_get_4 : decode cX8_get 4 = .ok (.ifCond .eq 7, 3) := by decide +kernel
theorem dX8_get_7 : decode cX8_get 7 = .ok (.iconst 4, 1) := by decide +kernel
theorem dX8_get_8 : decode cX8_get 8 = .ok (.goto 4, 3) := by decide +kernel
theorem dX8_get_11 : decode cX8_get 11 = .ok (.iconst 3, 1) := by decide +kernel
theorem dX8_get_12 : decode cX8_get 12 = .ok (.istore 4, 2) := by decide +kernel
theorem dX8_get_14 : decode cX8_get 14 = .ok (.aload_n 1, 1) := by decide +kernel
theorem dX8_get_15 : decode cX8_get 15 = .ok (.invokevirtual 269, 3) := by decide +kernel
theorem dX8_get_18 : decode cX8_get 18 = .ok (.ifCond .eq 18, 3) := by decide +kernel
theorem dX8_get_21 : decode cX8_get 21 = .ok (.aload_n 1, 1) := by decide +kernel
theorem dX8_get_22 : decode cX8_get 22 = .ok (.invokevirtual 91, 3) := by decide +kernel
theorem dX8_get_25 : decode cX8_get 25 = .ok (.ifCond .eq 7, 3) := by decide +kernel
theorem dX8_get_28 : decode cX8_get 28 = .ok (.iconst 5, 1) := by decide +kernel
theorem dX8_get_29 : decode cX8_get 29 = .ok (.goto 5, 3) := by decide +kernel
theorem dX8_get_32 : decode cX8_get 32 = .ok (.bipush 6, 2) := by decide +kernel
theorem dX8_get_34 : decode cX8_get 34 = .ok (.istore 4, 2) := by decide +kernel
theorem dX8_get_36 : decode cX8_get 36 = .ok (.aload_n 0, 1) := by decide +kernel
theorem dX8_get_37 : decode cX8_get 37 = .ok (.getfield 28, 3) := by decide +kernel
theorem dX8_get_40 : decode cX8_get 40 = .ok (.iload 4, 2) := by decide +kernel
theorem dX8_get_42 : decode cX8_get 42 = .ok (.iload_n 2, 1) := by decide +kernel
theorem dX8_get_43 : decode cX8_get 43 = .ok (.iadd, 1) := by decide +kernel
theorem dX8_get_44 : decode cX8_get 44 = .ok (.aload_n 1, 1) := by decide +kernel
theorem dX8_get_45 : decode cX8_get 45 = .ok (.getfield 229, 3) := by decide +kernel
theorem dX8_get_48 : decode cX8_get 48 = .ok (.aload_n 1, 1) := by decide +kernel
theorem dX8_get_49 : decode cX8_get 49 = .ok (.getfield 220, 3) := by decide +kernel
theorem dX8_get_52 : decode cX8_get 52 = .ok (.iload_n 3, 1) := by decide +kernel
theorem dX8_get_53 : decode cX8_get 53 = .ok (.invokevirtual 118, 3) := by decide +kernel
theorem dX8_get_56 : decode cX8_get 56 = .ok (.pop, 1) := by decide +kernel
theorem dX8_get_57 : decode cX8_get 57 = .ok (.return_, 1) := by decide +kernel
abbrev cX8_set : ByteArray := prog_10_method_25_code
def yX8_set : MethodName := ⟨RX8, "set", "(LSoftController$Name;I)V"⟩
theorem dX8_set_0 : decode cX8_set 0 = .ok (.aload_n 1, 1) := by decide +kernel
theorem dX8_set_1 : decode cX8_set 1 = .ok (.invokevirtual 259, 3) := by decide +kernel
theorem dX8_set_4 : decode cX8_set 4 = .ok (.ifCond .eq 8, 3) := by decide +kernel
theorem dX8_set_7 : decode cX8_set 7 = .ok (.bipush 8, 2) := by decide +kernel
theorem dX8_set_9 : decode cX8_set 9 = .ok (.goto 17, 3) := by decide +kernel
theorem dX8_set_12 : decode cX8_set 12 = .ok (.aload_n 1, 1) := by decide +kernel
theorem dX8_set_13 : decode cX8_set 13 = .ok (.invokevirtual 269, 3) := by decide +kernel
theorem dX8_set_16 : decode cX8_set 16 = .ok (.ifCond .eq 8, 3) := by decide +kernel
theorem dX8_set_19 : decode cX8_set 19 = .ok (.bipush 9, 2) := by decide +kernel
theorem dX8_set_21 : decode cX8_set 21 = .ok (.goto 5, 3) := by decide +kernel
theorem dX8_set_24 : decode cX8_set 24 = .ok (.bipush 7, 2) := by decide +kernel
theorem dX8_set_26 : decode cX8_set 26 = .ok (.istore_n 3, 1) := by decide +kernel
theorem dX8_set_27 : decode cX8_set 27 = .ok (.aload_n 0, 1) := by decide +kernel
theorem dX8_set_28 : decode cX8_set 28 = .ok (.getfield 28, 3) := by decide +kernel
theorem dX8_set_31 : decode cX8_set 31 = .ok (.iload_n 3, 1) := by decide +kernel
theorem dX8_set_32 : decode cX8_set 32 = .ok (.aload_n 1, 1) := by decide +kernel
theorem dX8_set_33 : decode cX8_set 33 = .ok (.getfield 229, 3) := by decide +kernel
theorem dX8_set_36 : decode cX8_set 36 = .ok (.aload_n 1, 1) := by decide +kernel
theorem dX8_set_37 : decode cX8_set 37 = .ok (.getfield 220, 3) := by decide +kernel
theorem dX8_set_40 : decode cX8_set 40 = .ok (.iload_n 2, 1) := by decide +kernel
theorem dX8_set_41 : decode cX8_set 41 = .ok (.invokevirtual 118, 3) := by decide +kernel
theorem dX8_set_44 : decode cX8_set 44 = .ok (.pop, 1) := by decide +kernel
theorem dX8_set_45 : decode cX8_set 45 = .ok (.return_, 1) := by decide +kernel
theorem gs_4_9 : Cond.selects "SoftController$Terms" ⟨"SoftController$Terms", "number", "(I)I"⟩ ⟨"SoftController$Terms", "number", "(I)I"⟩ ∈ GW := gw_s (List.mem_map.mpr ⟨_, pin_4 _ (List.mem_of_getElem? (i := 9) rfl), rfl⟩) rfl
theorem gs_5_0 : Cond.selects "SoftController$Terms" ⟨"SoftController$Terms", "settle", "(III)I"⟩ ⟨"SoftController$Terms", "settle", "(III)I"⟩ ∈ GW := gw_s (List.mem_map.mpr ⟨_, pin_5 _ (List.mem_of_getElem? (i := 0) rfl), rfl⟩) rfl
theorem gs_5_1 : Cond.selects "SoftController$Terms" ⟨"SoftController$Terms", "defer", "(I)V"⟩ ⟨"SoftController$Terms", "defer", "(I)V"⟩ ∈ GW := gw_s (List.mem_map.mpr ⟨_, pin_5 _ (List.mem_of_getElem? (i := 1) rfl), rfl⟩) rfl
theorem gw_1074 : (Jvm.Cond.static ({ cls := "SoftController$Numbers", name := "fits", desc := "(IJ)Z" } : Jvm.MethodName)) ∈ GW := gw_t (tin_5 _ (List.mem_of_getElem? (i := 114) rfl)) rfl
theorem gw_1155 : (Jvm.Cond.methodLink "SoftController$Terms" (171 : Nat) ({ cls := "SoftController$Terms", name := "number", desc := "(I)I" } : Jvm.MethodName)) ∈ GW := gw_t (tin_5 _ (List.mem_of_getElem? (i := 195) rfl)) rfl
theorem gw_1157 : (Jvm.Cond.instanceMethod ({ cls := "SoftController$Terms", name := "number", desc := "(I)I" } : Jvm.MethodName)) ∈ GW := gw_t (tin_5 _ (List.mem_of_getElem? (i := 197) rfl)) rfl
theorem gw_1158 : (Jvm.Cond.code ({ cls := "SoftController$Terms", name := "number", desc := "(I)I" } : Jvm.MethodName) prog_10_method_12_code (3 : Nat) (Option.some Jvm.ClassFile.FieldType.int)) ∈ GW := gw_t (tin_5 _ (List.mem_of_getElem? (i := 198) rfl)) rfl
theorem gw_1174 : (Jvm.Cond.methodLink "SoftController$Terms" (68 : Nat) ({ cls := "SoftController$Terms", name := "known", desc := "()LSoftController$Name;" } : Jvm.MethodName)) ∈ GW := gw_t (tin_5 _ (List.mem_of_getElem? (i := 214) rfl)) rfl
theorem gw_1175 : (Jvm.Cond.instanceMethod ({ cls := "SoftController$Terms", name := "known", desc := "()LSoftController$Name;" } : Jvm.MethodName)) ∈ GW := gw_t (tin_5 _ (List.mem_of_getElem? (i := 215) rfl)) rfl
theorem gw_1176 : (Jvm.Cond.selects "SoftController$Terms" ({ cls := "SoftController$Terms", name := "known", desc := "()LSoftController$Name;" } : Jvm.MethodName) ({ cls := "SoftController$Terms", name := "known", desc := "()LSoftController$Name;" } : Jvm.MethodName)) ∈ GW := gw_t (tin_5 _ (List.mem_of_getElem? (i := 216) rfl)) rfl
theorem gw_1177 : (Jvm.Cond.code ({ cls := "SoftController$Terms", name := "known", desc := "()LSoftController$Name;" } : Jvm.MethodName) prog_10_method_3_code (5 : Nat) (Option.some (Jvm.ClassFile.FieldType.object "SoftController$Name"))) ∈ GW := gw_t (tin_5 _ (List.mem_of_getElem? (i := 217) rfl)) rfl
theorem gw_1196 : (Jvm.Cond.methodLink "SoftController$Terms" (256 : Nat) ({ cls := "SoftController$Terms", name := "isTooWide", desc := "(II)Z" } : Jvm.MethodName)) ∈ GW := gw_t (tin_5 _ (List.mem_of_getElem? (i := 236) rfl)) rfl
theorem gw_1197 : (Jvm.Cond.instanceMethod ({ cls := "SoftController$Terms", name := "isTooWide", desc := "(II)Z" } : Jvm.MethodName)) ∈ GW := gw_t (tin_5 _ (List.mem_of_getElem? (i := 237) rfl)) rfl
theorem gw_1198 : (Jvm.Cond.selects "SoftController$Terms" ({ cls := "SoftController$Terms", name := "isTooWide", desc := "(II)Z" } : Jvm.MethodName) ({ cls := "SoftController$Terms", name := "isTooWide", desc := "(II)Z" } : Jvm.MethodName)) ∈ GW := gw_t (tin_5 _ (List.mem_of_getElem? (i := 238) rfl)) rfl
theorem gw_1199 : (Jvm.Cond.code ({ cls := "SoftController$Terms", name := "isTooWide", desc := "(II)Z" } : Jvm.MethodName) prog_10_method_5_code (3 : Nat) (Option.some Jvm.ClassFile.FieldType.boolean)) ∈ GW := gw_t (tin_5 _ (List.mem_of_getElem? (i := 239) rfl)) rfl
theorem gw_1200 : (Jvm.Cond.methodLink "SoftController$Terms" (94 : Nat) ({ cls := "SoftController$Numbers", name := "hasRoom", desc := "(II)Z" } : Jvm.MethodName)) ∈ GW := gw_t (tin_6 _ (List.mem_of_getElem? (i := 0) rfl)) rfl
theorem gw_1201 : (Jvm.Cond.static ({ cls := "SoftController$Numbers", name := "hasRoom", desc := "(II)Z" } : Jvm.MethodName)) ∈ GW := gw_t (tin_6 _ (List.mem_of_getElem? (i := 1) rfl)) rfl
theorem gw_1203 : (Jvm.Cond.methodLink "SoftController$Terms" (107 : Nat) ({ cls := "SoftController$Numbers", name := "fits", desc := "(IJ)Z" } : Jvm.MethodName)) ∈ GW := gw_t (tin_6 _ (List.mem_of_getElem? (i := 3) rfl)) rfl
theorem gw_1216 : (Jvm.Cond.methodLink "SoftController$Terms" (208 : Nat) ({ cls := "SoftController$Terms", name := "placeName", desc := "(Z)LSoftController$Name;" } : Jvm.MethodName)) ∈ GW := gw_t (tin_6 _ (List.mem_of_getElem? (i := 16) rfl)) rfl
theorem gw_1217 : (Jvm.Cond.instanceMethod ({ cls := "SoftController$Terms", name := "placeName", desc := "(Z)LSoftController$Name;" } : Jvm.MethodName)) ∈ GW := gw_t (tin_6 _ (List.mem_of_getElem? (i := 17) rfl)) rfl
theorem gw_1218 : (Jvm.Cond.selects "SoftController$Terms" ({ cls := "SoftController$Terms", name := "placeName", desc := "(Z)LSoftController$Name;" } : Jvm.MethodName) ({ cls := "SoftController$Terms", name := "placeName", desc := "(Z)LSoftController$Name;" } : Jvm.MethodName)) ∈ GW := gw_t (tin_6 _ (List.mem_of_getElem? (i := 18) rfl)) rfl
theorem gw_1219 : (Jvm.Cond.code ({ cls := "SoftController$Terms", name := "placeName", desc := "(Z)LSoftController$Name;" } : Jvm.MethodName) prog_10_method_4_code (3 : Nat) (Option.some (Jvm.ClassFile.FieldType.object "SoftController$Name"))) ∈ GW := gw_t (tin_6 _ (List.mem_of_getElem? (i := 19) rfl)) rfl
theorem gw_1237 : (Jvm.Cond.methodLink "SoftController$Terms" (216 : Nat) ({ cls := "SoftController$Terms", name := "get", desc := "(LSoftController$Name;II)V" } : Jvm.MethodName)) ∈ GW := gw_t (tin_6 _ (List.mem_of_getElem? (i := 37) rfl)) rfl
theorem gw_1238 : (Jvm.Cond.instanceMethod ({ cls := "SoftController$Terms", name := "get", desc := "(LSoftController$Name;II)V" } : Jvm.MethodName)) ∈ GW := gw_t (tin_6 _ (List.mem_of_getElem? (i := 38) rfl)) rfl
theorem gw_1239 : (Jvm.Cond.selects "SoftController$Terms" ({ cls := "SoftController$Terms", name := "get", desc := "(LSoftController$Name;II)V" } : Jvm.MethodName) ({ cls := "SoftController$Terms", name := "get", desc := "(LSoftController$Name;II)V" } : Jvm.MethodName)) ∈ GW := gw_t (tin_6 _ (List.mem_of_getElem? (i := 39) rfl)) rfl
theorem gw_1240 : (Jvm.Cond.code ({ cls := "SoftController$Terms", name := "get", desc := "(LSoftController$Name;II)V" } : Jvm.MethodName) prog_10_method_24_code (5 : Nat) (Option.none : Option Jvm.ClassFile.FieldType)) ∈ GW := gw_t (tin_6 _ (List.mem_of_getElem? (i := 40) rfl)) rfl
theorem gw_1245 : (Jvm.Cond.methodLink "SoftController$Terms" (223 : Nat) ({ cls := "SoftController$Terms", name := "bit", desc := "(I)I" } : Jvm.MethodName)) ∈ GW := gw_t (tin_6 _ (List.mem_of_getElem? (i := 45) rfl)) rfl
theorem gw_1246 : (Jvm.Cond.instanceMethod ({ cls := "SoftController$Terms", name := "bit", desc := "(I)I" } : Jvm.MethodName)) ∈ GW := gw_t (tin_6 _ (List.mem_of_getElem? (i := 46) rfl)) rfl
theorem gw_1247 : (Jvm.Cond.selects "SoftController$Terms" ({ cls := "SoftController$Terms", name := "bit", desc := "(I)I" } : Jvm.MethodName) ({ cls := "SoftController$Terms", name := "bit", desc := "(I)I" } : Jvm.MethodName)) ∈ GW := gw_t (tin_6 _ (List.mem_of_getElem? (i := 47) rfl)) rfl
theorem gw_1248 : (Jvm.Cond.code ({ cls := "SoftController$Terms", name := "bit", desc := "(I)I" } : Jvm.MethodName) prog_10_method_23_code (2 : Nat) (Option.some Jvm.ClassFile.FieldType.int)) ∈ GW := gw_t (tin_6 _ (List.mem_of_getElem? (i := 48) rfl)) rfl
theorem gw_1251 : (Jvm.Cond.methodLink "SoftController$Terms" (142 : Nat) ({ cls := "SoftController$Tokens", name := "strength", desc := "(I)I" } : Jvm.MethodName)) ∈ GW := gw_t (tin_6 _ (List.mem_of_getElem? (i := 51) rfl)) rfl
theorem gw_1252 : (Jvm.Cond.methodLink "SoftController$Terms" (145 : Nat) ({ cls := "SoftController$Terms", name := "settle", desc := "(III)I" } : Jvm.MethodName)) ∈ GW := gw_t (tin_6 _ (List.mem_of_getElem? (i := 52) rfl)) rfl
theorem gw_1254 : (Jvm.Cond.instanceMethod ({ cls := "SoftController$Terms", name := "settle", desc := "(III)I" } : Jvm.MethodName)) ∈ GW := gw_t (tin_6 _ (List.mem_of_getElem? (i := 54) rfl)) rfl
theorem gw_1255 : (Jvm.Cond.code ({ cls := "SoftController$Terms", name := "settle", desc := "(III)I" } : Jvm.MethodName) prog_10_method_9_code (8 : Nat) (Option.some Jvm.ClassFile.FieldType.int)) ∈ GW := gw_t (tin_6 _ (List.mem_of_getElem? (i := 55) rfl)) rfl
theorem gw_1256 : (Jvm.Cond.methodLink "SoftController$Terms" (152 : Nat) ({ cls := "SoftController$Tokens", name := "comparison", desc := "(I)I" } : Jvm.MethodName)) ∈ GW := gw_t (tin_6 _ (List.mem_of_getElem? (i := 56) rfl)) rfl
theorem gw_1257 : (Jvm.Cond.static ({ cls := "SoftController$Tokens", name := "comparison", desc := "(I)I" } : Jvm.MethodName)) ∈ GW := gw_t (tin_6 _ (List.mem_of_getElem? (i := 57) rfl)) rfl
theorem gw_1258 : (Jvm.Cond.code ({ cls := "SoftController$Tokens", name := "comparison", desc := "(I)I" } : Jvm.MethodName) prog_11_method_41_code (1 : Nat) (Option.some Jvm.ClassFile.FieldType.int)) ∈ GW := gw_t (tin_6 _ (List.mem_of_getElem? (i := 58) rfl)) rfl
theorem gw_1263 : (Jvm.Cond.methodLink "SoftController$Terms" (155 : Nat) ({ cls := "SoftController$Tokens", name := "operation", desc := "(I)I" } : Jvm.MethodName)) ∈ GW := gw_t (tin_6 _ (List.mem_of_getElem? (i := 63) rfl)) rfl
theorem gw_1264 : (Jvm.Cond.methodLink "SoftController$Terms" (158 : Nat) ({ cls := "SoftController$Terms", name := "combine", desc := "(IIII)I" } : Jvm.MethodName)) ∈ GW := gw_t (tin_6 _ (List.mem_of_getElem? (i := 64) rfl)) rfl
theorem gw_1265 : (Jvm.Cond.instanceMethod ({ cls := "SoftController$Terms", name := "combine", desc := "(IIII)I" } : Jvm.MethodName)) ∈ GW := gw_t (tin_6 _ (List.mem_of_getElem? (i := 65) rfl)) rfl
theorem gw_1266 : (Jvm.Cond.selects "SoftController$Terms" ({ cls := "SoftController$Terms", name := "combine", desc := "(IIII)I" } : Jvm.MethodName) ({ cls := "SoftController$Terms", name := "combine", desc := "(IIII)I" } : Jvm.MethodName)) ∈ GW := gw_t (tin_6 _ (List.mem_of_getElem? (i := 66) rfl)) rfl
theorem gw_1267 : (Jvm.Cond.code ({ cls := "SoftController$Terms", name := "combine", desc := "(IIII)I" } : Jvm.MethodName) prog_10_method_10_code (6 : Nat) (Option.some Jvm.ClassFile.FieldType.int)) ∈ GW := gw_t (tin_6 _ (List.mem_of_getElem? (i := 67) rfl)) rfl
theorem gw_1268 : (Jvm.Cond.methodLink "SoftController$Terms" (161 : Nat) ({ cls := "SoftController$Numbers", name := "isWide", desc := "(III)Z" } : Jvm.MethodName)) ∈ GW := gw_t (tin_6 _ (List.mem_of_getElem? (i := 68) rfl)) rfl
theorem gw_1269 : (Jvm.Cond.static ({ cls := "SoftController$Numbers", name := "isWide", desc := "(III)Z" } : Jvm.MethodName)) ∈ GW := gw_t (tin_6 _ (List.mem_of_getElem? (i := 69) rfl)) rfl
theorem gw_1271 : (Jvm.Cond.methodLink "SoftController$Terms" (149 : Nat) ({ cls := "SoftController$Terms", name := "defer", desc := "(I)V" } : Jvm.MethodName)) ∈ GW := gw_t (tin_6 _ (List.mem_of_getElem? (i := 71) rfl)) rfl
theorem gw_1273 : (Jvm.Cond.instanceMethod ({ cls := "SoftController$Terms", name := "defer", desc := "(I)V" } : Jvm.MethodName)) ∈ GW := gw_t (tin_6 _ (List.mem_of_getElem? (i := 73) rfl)) rfl
theorem gw_1274 : (Jvm.Cond.code ({ cls := "SoftController$Terms", name := "defer", desc := "(I)V" } : Jvm.MethodName) prog_10_method_8_code (6 : Nat) (Option.none : Option Jvm.ClassFile.FieldType)) ∈ GW := gw_t (tin_6 _ (List.mem_of_getElem? (i := 74) rfl)) rfl
theorem gw_1293 : (Jvm.Cond.methodLink "SoftController$Maker" (206 : Nat) ({ cls := "SoftController$Terms", name := "known", desc := "()LSoftController$Name;" } : Jvm.MethodName)) ∈ GW := gw_t (tin_6 _ (List.mem_of_getElem? (i := 93) rfl)) rfl
theorem gw_1300 : (Jvm.Cond.methodLink "SoftController$Maker" (322 : Nat) ({ cls := "SoftController$Terms", name := "isTooWide", desc := "(II)Z" } : Jvm.MethodName)) ∈ GW := gw_t (tin_6 _ (List.mem_of_getElem? (i := 100) rfl)) rfl
theorem gw_1301 : (Jvm.Cond.methodLink "SoftController$Maker" (332 : Nat) ({ cls := "SoftController$Terms", name := "set", desc := "(LSoftController$Name;I)V" } : Jvm.MethodName)) ∈ GW := gw_t (tin_6 _ (List.mem_of_getElem? (i := 101) rfl)) rfl
theorem gw_1302 : (Jvm.Cond.instanceMethod ({ cls := "SoftController$Terms", name := "set", desc := "(LSoftController$Name;I)V" } : Jvm.MethodName)) ∈ GW := gw_t (tin_6 _ (List.mem_of_getElem? (i := 102) rfl)) rfl
theorem gw_1303 : (Jvm.Cond.selects "SoftController$Terms" ({ cls := "SoftController$Terms", name := "set", desc := "(LSoftController$Name;I)V" } : Jvm.MethodName) ({ cls := "SoftController$Terms", name := "set", desc := "(LSoftController$Name;I)V" } : Jvm.MethodName)) ∈ GW := gw_t (tin_6 _ (List.mem_of_getElem? (i := 103) rfl)) rfl
theorem gw_1304 : (Jvm.Cond.code ({ cls := "SoftController$Terms", name := "set", desc := "(LSoftController$Name;I)V" } : Jvm.MethodName) prog_10_method_25_code (4 : Nat) (Option.none : Option Jvm.ClassFile.FieldType)) ∈ GW := gw_t (tin_6 _ (List.mem_of_getElem? (i := 104) rfl)) rfl
theorem gw_1305 : (Jvm.Cond.methodLink "SoftController$Maker" (319 : Nat) ({ cls := "SoftController$Terms", name := "get", desc := "(LSoftController$Name;II)V" } : Jvm.MethodName)) ∈ GW := gw_t (tin_6 _ (List.mem_of_getElem? (i := 105) rfl)) rfl
theorem gw_1307 : (Jvm.Cond.methodLink "SoftController$Maker" (326 : Nat) ({ cls := "SoftController$Terms", name := "combine", desc := "(IIII)I" } : Jvm.MethodName)) ∈ GW := gw_t (tin_6 _ (List.mem_of_getElem? (i := 107) rfl)) rfl
theorem gw_1338 : (Jvm.Cond.methodLink "SoftController$Maker" (298 : Nat) ({ cls := "SoftController$Terms", name := "placeName", desc := "(Z)LSoftController$Name;" } : Jvm.MethodName)) ∈ GW := gw_t (tin_6 _ (List.mem_of_getElem? (i := 138) rfl)) rfl
theorem gw_1340 : (Jvm.Cond.methodLink "SoftController$Maker" (304 : Nat) ({ cls := "SoftController$Terms", name := "bit", desc := "(I)I" } : Jvm.MethodName)) ∈ GW := gw_t (tin_6 _ (List.mem_of_getElem? (i := 140) rfl)) rfl
theorem gw_14 : (Jvm.Cond.initialized "SoftController$Terms") ∈ GW := gw_t (tin_1 _ (List.mem_of_getElem? (i := 14) rfl)) rfl
theorem gw_447 : (Jvm.Cond.fieldLink "SoftController$Terms" (24 : Nat) "SoftController$Terms" "tokens" "LSoftController$Tokens;") ∈ GW := gw_t (tin_2 _ (List.mem_of_getElem? (i := 207) rfl)) rfl
theorem gw_448 : (Jvm.Cond.fieldLink "SoftController$Terms" (9 : Nat) "SoftController$Terms" "signs" "[I") ∈ GW := gw_t (tin_2 _ (List.mem_of_getElem? (i := 208) rfl)) rfl
theorem gw_449 : (Jvm.Cond.fieldLink "SoftController$Terms" (15 : Nat) "SoftController$Terms" "signPlaces" "[I") ∈ GW := gw_t (tin_2 _ (List.mem_of_getElem? (i := 209) rfl)) rfl
theorem gw_450 : (Jvm.Cond.fieldLink "SoftController$Terms" (18 : Nat) "SoftController$Terms" "leftKinds" "[I") ∈ GW := gw_t (tin_2 _ (List.mem_of_getElem? (i := 210) rfl)) rfl
theorem gw_451 : (Jvm.Cond.fieldLink "SoftController$Terms" (21 : Nat) "SoftController$Terms" "jumps" "[I") ∈ GW := gw_t (tin_2 _ (List.mem_of_getElem? (i := 211) rfl)) rfl
theorem gw_452 : (Jvm.Cond.fieldLink "SoftController$Terms" (32 : Nat) "SoftController$Terms" "waiting" "I") ∈ GW := gw_t (tin_2 _ (List.mem_of_getElem? (i := 212) rfl)) rfl
theorem gw_453 : (Jvm.Cond.fieldLink "SoftController$Terms" (28 : Nat) "SoftController$Terms" "program" "LSoftController$Program;") ∈ GW := gw_t (tin_2 _ (List.mem_of_getElem? (i := 213) rfl)) rfl
theorem gw_454 : (Jvm.Cond.fieldLink "SoftController$Terms" (100 : Nat) "SoftController$Terms" "isConst" "Z") ∈ GW := gw_t (tin_2 _ (List.mem_of_getElem? (i := 214) rfl)) rfl
theorem gw_455 : (Jvm.Cond.fieldLink "SoftController$Terms" (103 : Nat) "SoftController$Terms" "constNumber" "J") ∈ GW := gw_t (tin_2 _ (List.mem_of_getElem? (i := 215) rfl)) rfl
theorem gw_992 : (Jvm.Cond.methodLink "SoftController$Maker" (37 : Nat) ({ cls := "SoftController$Terms", name := "begin", desc := "(LSoftController$Program;)V" } : Jvm.MethodName)) ∈ GW := gw_t (tin_5 _ (List.mem_of_getElem? (i := 32) rfl)) rfl
theorem gw_993 : (Jvm.Cond.instanceMethod ({ cls := "SoftController$Terms", name := "begin", desc := "(LSoftController$Program;)V" } : Jvm.MethodName)) ∈ GW := gw_t (tin_5 _ (List.mem_of_getElem? (i := 33) rfl)) rfl
theorem gw_994 : (Jvm.Cond.selects "SoftController$Terms" ({ cls := "SoftController$Terms", name := "begin", desc := "(LSoftController$Program;)V" } : Jvm.MethodName) ({ cls := "SoftController$Terms", name := "begin", desc := "(LSoftController$Program;)V" } : Jvm.MethodName)) ∈ GW := gw_t (tin_5 _ (List.mem_of_getElem? (i := 34) rfl)) rfl
theorem gw_995 : (Jvm.Cond.code ({ cls := "SoftController$Terms", name := "begin", desc := "(LSoftController$Program;)V" } : Jvm.MethodName) prog_10_method_2_code (2 : Nat) (Option.none : Option Jvm.ClassFile.FieldType)) ∈ GW := gw_t (tin_5 _ (List.mem_of_getElem? (i := 35) rfl)) rfl
theorem gwp_X5_fits : ∀ w ∈ wsX5_fits, w ∈ GW := gwl [1075, 1076, 1077, 24, 1078, 1079] (by decide +kernel) (by decide +kernel)
theorem gwp_X5_hasRoom : ∀ w ∈ wsX5_hasRoom, w ∈ GW := gwl [1202] (by decide +kernel) (by decide +kernel)
theorem gwp_X5_isWide : ∀ w ∈ wsX5_isWide, w ∈ GW := gwl [1270] (by decide +kernel) (by decide +kernel)
theorem nw_1249 : (Jvm.Cond.fieldLinkNest "SoftController$Terms" (262 : Nat) "SoftController" "BITS" "[I" "SoftController") ∈ NWL := gw_n (tin_6 _ (List.mem_of_getElem? (i := 49) rfl)) rfl
theorem nw_228 : (Jvm.Cond.fieldLinkNest "SoftController$Terms" (59 : Nat) "SoftController$Name" "sort" "I" "SoftController") ∈ NWL := gw_n (tin_1 _ (List.mem_of_getElem? (i := 228) rfl)) rfl
theorem nw_246 : (Jvm.Cond.fieldLinkNest "SoftController$Terms" (220 : Nat) "SoftController$Name" "kind" "I" "SoftController") ∈ NWL := gw_n (tin_2 _ (List.mem_of_getElem? (i := 6) rfl)) rfl
theorem nw_256 : (Jvm.Cond.fieldLinkNest "SoftController$Terms" (83 : Nat) "SoftController$Name" "row" "Z" "SoftController") ∈ NWL := gw_n (tin_2 _ (List.mem_of_getElem? (i := 16) rfl)) rfl
theorem nw_263 : (Jvm.Cond.fieldLinkNest "SoftController$Terms" (229 : Nat) "SoftController$Name" "at" "I" "SoftController") ∈ NWL := gw_n (tin_2 _ (List.mem_of_getElem? (i := 23) rfl)) rfl
theorem nw_400 : (Jvm.Cond.fieldLinkNest "SoftController$Terms" (46 : Nat) "SoftController$Program" "owner" "I" "SoftController") ∈ NWL := gw_n (tin_2 _ (List.mem_of_getElem? (i := 160) rfl)) rfl
section C38tleafR
variable {p : Program} {l : Launch} {e : Env} {R : Room} {s : State} {m : MethodId} {args : Array Value} {below : List Frame} {meth : Method} {c : Code} {H : Heap} {locs : List Loc} {Q : State → Prop} {cells slots : Nat}
variable {cc : ByteArray} {pc nL : Nat} {c0 : Cond} {own : String} {ls : Array Slot} {rest : List Value} {D : va_G} {kA : Nat → ClassId} {V Z : Nat → Nat} {A : Nat → Prop}
variable {u u1 : CSt}
theorem cp_X8_28 (X : CC p s m args c cc nL c0 RX8 D kA V A) (hS : CS D kA Z A s u H locs) {v : Nat} (hu : xR u 3 v = u1) (hd : decode cc pc = .ok (.putfield 28, 3)) (kk : ∀ H locs, CS D kA Z A s u1 H locs → W p l e R s m args below meth c H locs cells slots Q (F0 m (pc + 3) ls rest)) : W p l e R s m args below meth c H locs cells slots Q (F0 m pc ls (.ref (Z (300 + 50 * v)) :: .ref (Z 229) :: rest)) := by
  obtain ⟨⟨hx, hb, hml, hown, hts⟩, hK, hE, hA⟩ := X
  have hG : ∀ w ∈ GW, w.before args s = true := fun w h => hts w (List.mem_cons_of_mem _ h)
  subst hu
  refine va_put (D := D) (ci := 7) (v := .ref (Z (300 + 50 * v))) (ty := (.object "SoftController$Program")) (C := RX8) (T := TX8) (N := 9) hx hb hG gwl_X8 tyX8 tyX8_ok nmX8 hown hK hS.1 hS.2.1 hS.2.2 29 (cw_lit rfl) rfl 6 (by decide) (hG _ gw_453) (fun _ h9 => h9) rfl (by decide +kernel) rfl rfl (Nat.le_of_ble_eq_true rfl) hd (fun H1 locs1 hP hD hS1 => kk H1 locs1 ?_)
  have he := cw_setL (kA := kA) (Z := Z) (u := u) (w := xR u 3 v) (k := 29) (x := (Z 229, .inr (7, ([.ref (Z 202), .ref (Z 230), .ref (Z 231), .ref (Z 232), .ref (Z 233), .int (cI u 16), .ref (Z (300 + 50 * cR u 3)), .int (cI u 17), .long (cL u 0)] : List Value).set 6 (.ref (Z (300 + 50 * v)))))) (by decide) rfl rfl rfl
  exact cs_put he hP hD hS1
theorem cp_X8_32 (X : CC p s m args c cc nL c0 RX8 D kA V A) (hS : CS D kA Z A s u H locs) {v : Int32} (hu : xI u 16 v = u1) (hd : decode cc pc = .ok (.putfield 32, 3)) (kk : ∀ H locs, CS D kA Z A s u1 H locs → W p l e R s m args below meth c H locs cells slots Q (F0 m (pc + 3) ls rest)) : W p l e R s m args below meth c H locs cells slots Q (F0 m pc ls (.int v :: .ref (Z 229) :: rest)) := by
  obtain ⟨⟨hx, hb, hml, hown, hts⟩, hK, hE, hA⟩ := X
  have hG : ∀ w ∈ GW, w.before args s = true := fun w h => hts w (List.mem_cons_of_mem _ h)
  subst hu
  refine va_put (D := D) (ci := 7) (v := .int v) (ty := .int) (C := RX8) (T := TX8) (N := 9) hx hb hG gwl_X8 tyX8 tyX8_ok nmX8 hown hK hS.1 hS.2.1 hS.2.2 29 (cw_lit rfl) rfl 5 (by decide) (hG _ gw_452) (fun _ h9 => h9) rfl (by decide +kernel) rfl rfl (Nat.le_of_ble_eq_true rfl) hd (fun H1 locs1 hP hD hS1 => kk H1 locs1 ?_)
  have he := cw_setL (kA := kA) (Z := Z) (u := u) (w := xI u 16 v) (k := 29) (x := (Z 229, .inr (7, ([.ref (Z 202), .ref (Z 230), .ref (Z 231), .ref (Z 232), .ref (Z 233), .int (cI u 16), .ref (Z (300 + 50 * cR u 3)), .int (cI u 17), .long (cL u 0)] : List Value).set 5 (.int v)))) (by decide) rfl rfl rfl
  exact cs_put he hP hD hS1
theorem cg_X8_24 (X : CC p s m args c cc nL c0 RX8 D kA V A) (hS : CS D kA Z A s u H locs) (hd : decode cc pc = .ok (.getfield 24, 3)) (kk : W p l e R s m args below meth c H locs cells slots Q (F0 m (pc + 3) ls (.ref (Z 202) :: rest))) : W p l e R s m args below meth c H locs cells slots Q (F0 m pc ls (.ref (Z 229) :: rest)) := by
  obtain ⟨⟨hx, hb, hml, hown, hts⟩, hK, hE, hA⟩ := X
  have hG : ∀ w ∈ GW, w.before args s = true := fun w h => hts w (List.mem_cons_of_mem _ h)
  exact va_get (D := D) (ci := 7) (v := .ref (Z 202)) (C := RX8) (T := TX8) (N := 9) hx hb hG gwl_X8 hown hK hS.1 29 (cw_lit rfl) rfl 0 (by decide) (hG _ gw_447) (fun _ h9 => h9) rfl hd kk
theorem cg_X8_28 (X : CC p s m args c cc nL c0 RX8 D kA V A) (hS : CS D kA Z A s u H locs) (hd : decode cc pc = .ok (.getfield 28, 3)) (kk : W p l e R s m args below meth c H locs cells slots Q (F0 m (pc + 3) ls (.ref (Z (300 + 50 * cR u 3)) :: rest))) : W p l e R s m args below meth c H locs cells slots Q (F0 m pc ls (.ref (Z 229) :: rest)) := by
  obtain ⟨⟨hx, hb, hml, hown, hts⟩, hK, hE, hA⟩ := X
  have hG : ∀ w ∈ GW, w.before args s = true := fun w h => hts w (List.mem_cons_of_mem _ h)
  exact va_get (D := D) (ci := 7) (v := .ref (Z (300 + 50 * cR u 3))) (C := RX8) (T := TX8) (N := 9) hx hb hG gwl_X8 hown hK hS.1 29 (cw_lit rfl) rfl 6 (by decide) (hG _ gw_453) (fun _ h9 => h9) rfl hd kk
theorem cg_X8_46 (X : CC p s m args c cc nL c0 RX8 D kA V A) {q : Nat} (hq : q < 2) (hS : CS D kA Z A s u H locs) (hd : decode cc pc = .ok (.getfield 46, 3)) (kk : W p l e R s m args below meth c H locs cells slots Q (F0 m (pc + 3) ls (.int (pI u q 15) :: rest))) : W p l e R s m args below meth c H locs cells slots Q (F0 m pc ls (.ref (Z (300 + 50 * q)) :: rest)) := by
  obtain ⟨⟨hx, hb, hml, hown, hts⟩, hK, hE, hA⟩ := X
  have hG : ∀ w ∈ GW, w.before args s = true := fun w h => hts w (List.mem_cons_of_mem _ h)
  rcases (show q = 0 ∨ q = 1 by omega) with rfl | rfl
  · exact va_getN (D := D) (ci := 5) (v := .int (pI u 0 15)) (C := RX6) (T := TX6) (N := 16) hx hb hG gwl_X6 hown hK hS.1 40 (cw_lit rfl) rfl 15 (by decide) (va_Nw.use rfl (hE.1 _ nw_400)) (fun _ h9 => h9) rfl hd kk
  · exact va_getN (D := D) (ci := 5) (v := .int (pI u 1 15)) (C := RX6) (T := TX6) (N := 16) hx hb hG gwl_X6 hown hK hS.1 57 (cw_lit rfl) rfl 15 (by decide) (va_Nw.use rfl (hE.1 _ nw_400)) (fun _ h9 => h9) rfl hd kk
theorem cg_X8_59 (X : CC p s m args c cc nL c0 RX8 D kA V A) {q : Nat} (hq : q < 338) (hS : CS D kA Z A s u H locs) (hd : decode cc pc = .ok (.getfield 59, 3)) (kk : W p l e R s m args below meth c H locs cells slots Q (F0 m (pc + 3) ls (.int (mI u q 2) :: rest))) : W p l e R s m args below meth c H locs cells slots Q (F0 m pc ls (.ref (Z (1000 + q)) :: rest)) := by
  obtain ⟨⟨hx, hb, hml, hown, hts⟩, hK, hE, hA⟩ := X
  have hG : ∀ w ∈ GW, w.before args s = true := fun w h => hts w (List.mem_cons_of_mem _ h)
  exact va_getN (D := D) (ci := 4) (v := .int (mI u q 2)) (C := RX4) (T := TX4) (N := 15) hx hb hG gwl_X4 hown hK hS.1 (90 + q) (cw_name hq) rfl 2 (by decide) (va_Nw.use rfl (hE.1 _ nw_228)) (fun _ h9 => h9) rfl hd kk
theorem cg_X8_83 (X : CC p s m args c cc nL c0 RX8 D kA V A) {q : Nat} (hq : q < 338) (hS : CS D kA Z A s u H locs) (hd : decode cc pc = .ok (.getfield 83, 3)) (kk : W p l e R s m args below meth c H locs cells slots Q (F0 m (pc + 3) ls (.int (mI u q 8) :: rest))) : W p l e R s m args below meth c H locs cells slots Q (F0 m pc ls (.ref (Z (1000 + q)) :: rest)) := by
  obtain ⟨⟨hx, hb, hml, hown, hts⟩, hK, hE, hA⟩ := X
  have hG : ∀ w ∈ GW, w.before args s = true := fun w h => hts w (List.mem_cons_of_mem _ h)
  exact va_getN (D := D) (ci := 4) (v := .int (mI u q 8)) (C := RX4) (T := TX4) (N := 15) hx hb hG gwl_X4 hown hK hS.1 (90 + q) (cw_name hq) rfl 8 (by decide) (va_Nw.use rfl (hE.1 _ nw_256)) (fun _ h9 => h9) rfl hd kk
theorem cg_X8_100 (X : CC p s m args c cc nL c0 RX8 D kA V A) (hS : CS D kA Z A s u H locs) (hd : decode cc pc = .ok (.getfield 100, 3)) (kk : W p l e R s m args below meth c H locs cells slots Q (F0 m (pc + 3) ls (.int (cI u 17) :: rest))) : W p l e R s m args below meth c H locs cells slots Q (F0 m pc ls (.ref (Z 229) :: rest)) := by
  obtain ⟨⟨hx, hb, hml, hown, hts⟩, hK, hE, hA⟩ := X
  have hG : ∀ w ∈ GW, w.before args s = true := fun w h => hts w (List.mem_cons_of_mem _ h)
  exact va_get (D := D) (ci := 7) (v := .int (cI u 17)) (C := RX8) (T := TX8) (N := 9) hx hb hG gwl_X8 hown hK hS.1 29 (cw_lit rfl) rfl 7 (by decide) (hG _ gw_454) (fun _ h9 => h9) rfl hd kk
theorem cg_X8_103 (X : CC p s m args c cc nL c0 RX8 D kA V A) (hS : CS D kA Z A s u H locs) (hd : decode cc pc = .ok (.getfield 103, 3)) (kk : W p l e R s m args below meth c H locs cells slots Q (F0 m (pc + 3) ls (.long (cL u 0) :: rest))) : W p l e R s m args below meth c H locs cells slots Q (F0 m pc ls (.ref (Z 229) :: rest)) := by
  obtain ⟨⟨hx, hb, hml, hown, hts⟩, hK, hE, hA⟩ := X
  have hG : ∀ w ∈ GW, w.before args s = true := fun w h => hts w (List.mem_cons_of_mem _ h)
  exact va_get (D := D) (ci := 7) (v := .long (cL u 0)) (C := RX8) (T := TX8) (N := 9) hx hb hG gwl_X8 hown hK hS.1 29 (cw_lit rfl) rfl 8 (by decide) (hG _ gw_455) (fun _ h9 => h9) rfl hd kk
theorem cg_X8_32 (X : CC p s m args c cc nL c0 RX8 D kA V A) (hS : CS D kA Z A s u H locs) (hd : decode cc pc = .ok (.getfield 32, 3)) (kk : W p l e R s m args below meth c H locs cells slots Q (F0 m (pc + 3) ls (.int (cI u 16) :: rest))) : W p l e R s m args below meth c H locs cells slots Q (F0 m pc ls (.ref (Z 229) :: rest)) := by
  obtain ⟨⟨hx, hb, hml, hown, hts⟩, hK, hE, hA⟩ := X
  have hG : ∀ w ∈ GW, w.before args s = true := fun w h => hts w (List.mem_cons_of_mem _ h)
  exact va_get (D := D) (ci := 7) (v := .int (cI u 16)) (C := RX8) (T := TX8) (N := 9) hx hb hG gwl_X8 hown hK hS.1 29 (cw_lit rfl) rfl 5 (by decide) (hG _ gw_452) (fun _ h9 => h9) rfl hd kk
theorem cg_X8_9 (X : CC p s m args c cc nL c0 RX8 D kA V A) (hS : CS D kA Z A s u H locs) (hd : decode cc pc = .ok (.getfield 9, 3)) (kk : W p l e R s m args below meth c H locs cells slots Q (F0 m (pc + 3) ls (.ref (Z 230) :: rest))) : W p l e R s m args below meth c H locs cells slots Q (F0 m pc ls (.ref (Z 229) :: rest)) := by
  obtain ⟨⟨hx, hb, hml, hown, hts⟩, hK, hE, hA⟩ := X
  have hG : ∀ w ∈ GW, w.before args s = true := fun w h => hts w (List.mem_cons_of_mem _ h)
  exact va_get (D := D) (ci := 7) (v := .ref (Z 230)) (C := RX8) (T := TX8) (N := 9) hx hb hG gwl_X8 hown hK hS.1 29 (cw_lit rfl) rfl 1 (by decide) (hG _ gw_448) (fun _ h9 => h9) rfl hd kk
theorem cs_s230 (X : CC p s m args c cc nL c0 own D kA V A) (hS : CS D kA Z A s u H locs) {i : Int32} {v : Int32} (hi : vp_in i 250) (hu : xA u 230 i.toNatClampNeg v = u1) (hd : decode cc pc = .ok (.iastore, 1)) (kk : ∀ H locs, CS D kA Z A s u1 H locs → W p l e R s m args below meth c H locs cells slots Q (F0 m (pc + 1) ls rest)) : W p l e R s m args below meth c H locs cells slots Q (F0 m pc ls (.int v :: .int i :: .ref (Z 230) :: rest)) := by
  subst hu
  refine va_iast X.1.1 X.1.2.1 X.2.1 hS.1 hS.2.1 hS.2.2 30 0 (cw_lit rfl) rfl hi hd (fun H1 locs1 hP hD hS1 => kk H1 locs1 ?_)
  have he := cw_setL (kA := kA) (Z := Z) (u := u) (w := xA u 230 i.toNatClampNeg v) (k := 30) (x := (Z 230, .inl (kA 0, 250, .inl (upd (cA u 230) i.toNatClampNeg v)))) (by decide) rfl rfl rfl
  exact cs_put he hP hD hS1
theorem cg_X8_15 (X : CC p s m args c cc nL c0 RX8 D kA V A) (hS : CS D kA Z A s u H locs) (hd : decode cc pc = .ok (.getfield 15, 3)) (kk : W p l e R s m args below meth c H locs cells slots Q (F0 m (pc + 3) ls (.ref (Z 231) :: rest))) : W p l e R s m args below meth c H locs cells slots Q (F0 m pc ls (.ref (Z 229) :: rest)) := by
  obtain ⟨⟨hx, hb, hml, hown, hts⟩, hK, hE, hA⟩ := X
  have hG : ∀ w ∈ GW, w.before args s = true := fun w h => hts w (List.mem_cons_of_mem _ h)
  exact va_get (D := D) (ci := 7) (v := .ref (Z 231)) (C := RX8) (T := TX8) (N := 9) hx hb hG gwl_X8 hown hK hS.1 29 (cw_lit rfl) rfl 2 (by decide) (hG _ gw_449) (fun _ h9 => h9) rfl hd kk
theorem cs_s231 (X : CC p s m args c cc nL c0 own D kA V A) (hS : CS D kA Z A s u H locs) {i : Int32} {v : Int32} (hi : vp_in i 250) (hu : xA u 231 i.toNatClampNeg v = u1) (hd : decode cc pc = .ok (.iastore, 1)) (kk : ∀ H locs, CS D kA Z A s u1 H locs → W p l e R s m args below meth c H locs cells slots Q (F0 m (pc + 1) ls rest)) : W p l e R s m args below meth c H locs cells slots Q (F0 m pc ls (.int v :: .int i :: .ref (Z 231) :: rest)) := by
  subst hu
  refine va_iast X.1.1 X.1.2.1 X.2.1 hS.1 hS.2.1 hS.2.2 31 0 (cw_lit rfl) rfl hi hd (fun H1 locs1 hP hD hS1 => kk H1 locs1 ?_)
  have he := cw_setL (kA := kA) (Z := Z) (u := u) (w := xA u 231 i.toNatClampNeg v) (k := 31) (x := (Z 231, .inl (kA 0, 250, .inl (upd (cA u 231) i.toNatClampNeg v)))) (by decide) rfl rfl rfl
  exact cs_put he hP hD hS1
theorem cg_X8_18 (X : CC p s m args c cc nL c0 RX8 D kA V A) (hS : CS D kA Z A s u H locs) (hd : decode cc pc = .ok (.getfield 18, 3)) (kk : W p l e R s m args below meth c H locs cells slots Q (F0 m (pc + 3) ls (.ref (Z 232) :: rest))) : W p l e R s m args below meth c H locs cells slots Q (F0 m pc ls (.ref (Z 229) :: rest)) := by
  obtain ⟨⟨hx, hb, hml, hown, hts⟩, hK, hE, hA⟩ := X
  have hG : ∀ w ∈ GW, w.before args s = true := fun w h => hts w (List.mem_cons_of_mem _ h)
  exact va_get (D := D) (ci := 7) (v := .ref (Z 232)) (C := RX8) (T := TX8) (N := 9) hx hb hG gwl_X8 hown hK hS.1 29 (cw_lit rfl) rfl 3 (by decide) (hG _ gw_450) (fun _ h9 => h9) rfl hd kk
theorem cs_s232 (X : CC p s m args c cc nL c0 own D kA V A) (hS : CS D kA Z A s u H locs) {i : Int32} {v : Int32} (hi : vp_in i 250) (hu : xA u 232 i.toNatClampNeg v = u1) (hd : decode cc pc = .ok (.iastore, 1)) (kk : ∀ H locs, CS D kA Z A s u1 H locs → W p l e R s m args below meth c H locs cells slots Q (F0 m (pc + 1) ls rest)) : W p l e R s m args below meth c H locs cells slots Q (F0 m pc ls (.int v :: .int i :: .ref (Z 232) :: rest)) := by
  subst hu
  refine va_iast X.1.1 X.1.2.1 X.2.1 hS.1 hS.2.1 hS.2.2 32 0 (cw_lit rfl) rfl hi hd (fun H1 locs1 hP hD hS1 => kk H1 locs1 ?_)
  have he := cw_setL (kA := kA) (Z := Z) (u := u) (w := xA u 232 i.toNatClampNeg v) (k := 32) (x := (Z 232, .inl (kA 0, 250, .inl (upd (cA u 232) i.toNatClampNeg v)))) (by decide) rfl rfl rfl
  exact cs_put he hP hD hS1
theorem cg_X8_21 (X : CC p s m args c cc nL c0 RX8 D kA V A) (hS : CS D kA Z A s u H locs) (hd : decode cc pc = .ok (.getfield 21, 3)) (kk : W p l e R s m args below meth c H locs cells slots Q (F0 m (pc + 3) ls (.ref (Z 233) :: rest))) : W p l e R s m args below meth c H locs cells slots Q (F0 m pc ls (.ref (Z 229) :: rest)) := by
  obtain ⟨⟨hx, hb, hml, hown, hts⟩, hK, hE, hA⟩ := X
  have hG : ∀ w ∈ GW, w.before args s = true := fun w h => hts w (List.mem_cons_of_mem _ h)
  exact va_get (D := D) (ci := 7) (v := .ref (Z 233)) (C := RX8) (T := TX8) (N := 9) hx hb hG gwl_X8 hown hK hS.1 29 (cw_lit rfl) rfl 4 (by decide) (hG _ gw_451) (fun _ h9 => h9) rfl hd kk
theorem cs_s233 (X : CC p s m args c cc nL c0 own D kA V A) (hS : CS D kA Z A s u H locs) {i : Int32} {v : Int32} (hi : vp_in i 250) (hu : xA u 233 i.toNatClampNeg v = u1) (hd : decode cc pc = .ok (.iastore, 1)) (kk : ∀ H locs, CS D kA Z A s u1 H locs → W p l e R s m args below meth c H locs cells slots Q (F0 m (pc + 1) ls rest)) : W p l e R s m args below meth c H locs cells slots Q (F0 m pc ls (.int v :: .int i :: .ref (Z 233) :: rest)) := by
  subst hu
  refine va_iast X.1.1 X.1.2.1 X.2.1 hS.1 hS.2.1 hS.2.2 33 0 (cw_lit rfl) rfl hi hd (fun H1 locs1 hP hD hS1 => kk H1 locs1 ?_)
  have he := cw_setL (kA := kA) (Z := Z) (u := u) (w := xA u 233 i.toNatClampNeg v) (k := 33) (x := (Z 233, .inl (kA 0, 250, .inl (upd (cA u 233) i.toNatClampNeg v)))) (by decide) rfl rfl rfl
  exact cs_put he hP hD hS1
theorem ca_s233 (X : CC p s m args c cc nL c0 own D kA V A) (hS : CS D kA Z A s u H locs) {i : Int32} {v : Int32} (hi : vp_in i 250) (hv : cA u 233 i.toNatClampNeg = v) (hd : decode cc pc = .ok (.iaload, 1)) (kk : W p l e R s m args below meth c H locs cells slots Q (F0 m (pc + 1) ls (.int v :: rest))) : W p l e R s m args below meth c H locs cells slots Q (F0 m pc ls (.int i :: .ref (Z 233) :: rest)) := by
  subst hv
  exact va_iald X.1.1 X.1.2.1 X.2.1 hS.1 33 0 (cw_lit rfl) rfl hi hd kk
theorem ca_s230 (X : CC p s m args c cc nL c0 own D kA V A) (hS : CS D kA Z A s u H locs) {i : Int32} {v : Int32} (hi : vp_in i 250) (hv : cA u 230 i.toNatClampNeg = v) (hd : decode cc pc = .ok (.iaload, 1)) (kk : W p l e R s m args below meth c H locs cells slots Q (F0 m (pc + 1) ls (.int v :: rest))) : W p l e R s m args below meth c H locs cells slots Q (F0 m pc ls (.int i :: .ref (Z 230) :: rest)) := by
  subst hv
  exact va_iald X.1.1 X.1.2.1 X.2.1 hS.1 30 0 (cw_lit rfl) rfl hi hd kk
theorem ca_s231 (X : CC p s m args c cc nL c0 own D kA V A) (hS : CS D kA Z A s u H locs) {i : Int32} {v : Int32} (hi : vp_in i 250) (hv : cA u 231 i.toNatClampNeg = v) (hd : decode cc pc = .ok (.iaload, 1)) (kk : W p l e R s m args below meth c H locs cells slots Q (F0 m (pc + 1) ls (.int v :: rest))) : W p l e R s m args below meth c H locs cells slots Q (F0 m pc ls (.int i :: .ref (Z 231) :: rest)) := by
  subst hv
  exact va_iald X.1.1 X.1.2.1 X.2.1 hS.1 31 0 (cw_lit rfl) rfl hi hd kk
theorem ca_s232 (X : CC p s m args c cc nL c0 own D kA V A) (hS : CS D kA Z A s u H locs) {i : Int32} {v : Int32} (hi : vp_in i 250) (hv : cA u 232 i.toNatClampNeg = v) (hd : decode cc pc = .ok (.iaload, 1)) (kk : W p l e R s m args below meth c H locs cells slots Q (F0 m (pc + 1) ls (.int v :: rest))) : W p l e R s m args below meth c H locs cells slots Q (F0 m pc ls (.int i :: .ref (Z 232) :: rest)) := by
  subst hv
  exact va_iald X.1.1 X.1.2.1 X.2.1 hS.1 32 0 (cw_lit rfl) rfl hi hd kk
theorem cp_X8_103 (X : CC p s m args c cc nL c0 RX8 D kA V A) (hS : CS D kA Z A s u H locs) {v : Int64} (hu : xL u 0 v = u1) (hd : decode cc pc = .ok (.putfield 103, 3)) (kk : ∀ H locs, CS D kA Z A s u1 H locs → W p l e R s m args below meth c H locs cells slots Q (F0 m (pc + 3) ls rest)) : W p l e R s m args below meth c H locs cells slots Q (F0 m pc ls (.long v :: .ref (Z 229) :: rest)) := by
  obtain ⟨⟨hx, hb, hml, hown, hts⟩, hK, hE, hA⟩ := X
  have hG : ∀ w ∈ GW, w.before args s = true := fun w h => hts w (List.mem_cons_of_mem _ h)
  subst hu
  refine va_put (D := D) (ci := 7) (v := .long v) (ty := .long) (C := RX8) (T := TX8) (N := 9) hx hb hG gwl_X8 tyX8 tyX8_ok nmX8 hown hK hS.1 hS.2.1 hS.2.2 29 (cw_lit rfl) rfl 8 (by decide) (hG _ gw_455) (fun _ h9 => h9) rfl (by decide +kernel) rfl rfl (Nat.le_of_ble_eq_true rfl) hd (fun H1 locs1 hP hD hS1 => kk H1 locs1 ?_)
  have he := cw_setL (kA := kA) (Z := Z) (u := u) (w := xL u 0 v) (k := 29) (x := (Z 229, .inr (7, ([.ref (Z 202), .ref (Z 230), .ref (Z 231), .ref (Z 232), .ref (Z 233), .int (cI u 16), .ref (Z (300 + 50 * cR u 3)), .int (cI u 17), .long (cL u 0)] : List Value).set 8 (.long v)))) (by decide) rfl rfl rfl
  exact cs_put he hP hD hS1
theorem cp_X8_100 (X : CC p s m args c cc nL c0 RX8 D kA V A) (hS : CS D kA Z A s u H locs) {v : Int32} (hu : xI u 17 v = u1) (hn : v = 0 ∨ v = 1) (hd : decode cc pc = .ok (.putfield 100, 3)) (kk : ∀ H locs, CS D kA Z A s u1 H locs → W p l e R s m args below meth c H locs cells slots Q (F0 m (pc + 3) ls rest)) : W p l e R s m args below meth c H locs cells slots Q (F0 m pc ls (.int v :: .ref (Z 229) :: rest)) := by
  obtain ⟨⟨hx, hb, hml, hown, hts⟩, hK, hE, hA⟩ := X
  have hG : ∀ w ∈ GW, w.before args s = true := fun w h => hts w (List.mem_cons_of_mem _ h)
  subst hu
  refine va_put (D := D) (ci := 7) (v := .int v) (ty := .boolean) (C := RX8) (T := TX8) (N := 9) hx hb hG gwl_X8 tyX8 tyX8_ok nmX8 hown hK hS.1 hS.2.1 hS.2.2 29 (cw_lit rfl) rfl 7 (by decide) (hG _ gw_454) (fun _ h9 => h9) rfl (by decide +kernel) (zr_n hn) (zr_f hn) (Nat.le_of_ble_eq_true rfl) hd (fun H1 locs1 hP hD hS1 => kk H1 locs1 ?_)
  have he := cw_setL (kA := kA) (Z := Z) (u := u) (w := xI u 17 v) (k := 29) (x := (Z 229, .inr (7, ([.ref (Z 202), .ref (Z 230), .ref (Z 231), .ref (Z 232), .ref (Z 233), .int (cI u 16), .ref (Z (300 + 50 * cR u 3)), .int (cI u 17), .long (cL u 0)] : List Value).set 7 (.int v)))) (by decide) rfl rfl rfl
  exact cs_put he hP hD hS1
theorem cg_X8_229 (X : CC p s m args c cc nL c0 RX8 D kA V A) {q : Nat} (hq : q < 338) (hS : CS D kA Z A s u H locs) (hd : decode cc pc = .ok (.getfield 229, 3)) (kk : W p l e R s m args below meth c H locs cells slots Q (F0 m (pc + 3) ls (.int (mI u q 9) :: rest))) : W p l e R s m args below meth c H locs cells slots Q (F0 m pc ls (.ref (Z (1000 + q)) :: rest)) := by
  obtain ⟨⟨hx, hb, hml, hown, hts⟩, hK, hE, hA⟩ := X
  have hG : ∀ w ∈ GW, w.before args s = true := fun w h => hts w (List.mem_cons_of_mem _ h)
  exact va_getN (D := D) (ci := 4) (v := .int (mI u q 9)) (C := RX4) (T := TX4) (N := 15) hx hb hG gwl_X4 hown hK hS.1 (90 + q) (cw_name hq) rfl 9 (by decide) (va_Nw.use rfl (hE.1 _ nw_263)) (fun _ h9 => h9) rfl hd kk
theorem cg_X8_220 (X : CC p s m args c cc nL c0 RX8 D kA V A) {q : Nat} (hq : q < 338) (hS : CS D kA Z A s u H locs) (hd : decode cc pc = .ok (.getfield 220, 3)) (kk : W p l e R s m args below meth c H locs cells slots Q (F0 m (pc + 3) ls (.int (mI u q 5) :: rest))) : W p l e R s m args below meth c H locs cells slots Q (F0 m pc ls (.ref (Z (1000 + q)) :: rest)) := by
  obtain ⟨⟨hx, hb, hml, hown, hts⟩, hK, hE, hA⟩ := X
  have hG : ∀ w ∈ GW, w.before args s = true := fun w h => hts w (List.mem_cons_of_mem _ h)
  exact va_getN (D := D) (ci := 4) (v := .int (mI u q 5)) (C := RX4) (T := TX4) (N := 15) hx hb hG gwl_X4 hown hK hS.1 (90 + q) (cw_name hq) rfl 5 (by decide) (va_Nw.use rfl (hE.1 _ nw_246)) (fun _ h9 => h9) rfl hd kk
end C38tleafR
section C38tleaf
variable {p : Program} {l : Launch} {e : Env} {R : Room} {s : State} {m : MethodId} {args : Array Value} {below : List Frame} {meth : Method} {c : Code} {H : Heap} {locs : List Loc} {Q : State → Prop} {cells slots : Nat}
variable {ls : Array Slot} {D : va_G} {kA : Nat → ClassId} {V Z : Nat → Nat} {A : Nat → Prop} {N d : Nat} {w : CSt}
def B_X8_begin_0 (N : Nat) (l1 : Nat) (u : CSt) : Option (Int32 × CSt) := pc (xR u 3 l1) fun u_1 => pc (xI u_1 16 0) fun u_2 => some (0, u_2)
set_option maxHeartbeats 4000000 in
theorem b_X8_begin_0 {r : Int32} (X : CC p s m args c cX8_begin 2 (Cond.code yX8_begin cX8_begin 2 none) RX8 D kA V A) (hE : CEv p l e R s m args below meth c cX8_begin D kA Z A Q w) (hF : 0 ≤ R.frames) (hL : 0 ≤ R.locals) {l1 : Nat} {u : CSt}  (h : B_X8_begin_0 N l1 u = some (r, w)) (h_l1 : l1 < 2) (hS : CS D kA Z A s u H locs) (hl : lv_has ls 2 [(0, .ref (Z 229)), (1, .ref (Z (300 + 50 * l1)))]) : W p l e R s m args below meth c H locs 0 0 Q (F0 m 0 ls []) := by
  obtain ⟨⟨hx, hb, hml, hown, hts⟩, hK, hEV, hA⟩ := id X
  have hG : ∀ w ∈ GW, w.before args s = true := fun w h => hts w (List.mem_cons_of_mem _ h)
  unfold B_X8_begin_0 at h
  refine lv_aload_n hx hb dX8_begin_0 rfl (lv_at hl 0 rfl) ?_
  refine lv_aload_n hx hb dX8_begin_1 rfl (lv_at hl 1 rfl) ?_
  obtain ⟨u_1, e_u_1, h⟩ := pc_of h
  refine cp_X8_28 X hS e_u_1 dX8_begin_2 (fun H locs hS => ?_)
  refine lv_aload_n hx hb dX8_begin_5 rfl (lv_at hl 0 rfl) ?_
  refine lv_iconst (v := 0) hx hb dX8_begin_6 (by decide) ?_
  obtain ⟨u_2, e_u_2, h⟩ := pc_of h
  refine cp_X8_32 X hS e_u_2 dX8_begin_7 (fun H locs hS => ?_)
  obtain ⟨-, rfl⟩ := so9 h
  exact hE _ _ _ _ hS dX8_begin_10
def F_X8_begin (N : Nat) (l1 : Nat) (u : CSt) : Option (Int32 × CSt) := B_X8_begin_0 N l1 u
set_option maxHeartbeats 4000000 in
theorem k_X8_begin (l : Launch) (D : va_G) (kA : Nat → ClassId) (V Z : Nat → Nat) (N : Nat) (l1 : Nat) (h_l1 : l1 < 2) (u : CSt) (sz : Nat) {r : Int32} {w : CSt} (h : F_X8_begin N l1 u = some (r, w)) : Met l yX8_begin (Cond.code yX8_begin cX8_begin 2 none :: GW) { frames := 0, cells := 0, slots := 0, locals := 0 } (cPc D kA V Z [.ref (Z 229), .ref (Z (300 + 50 * l1))] u sz) (cQv D kA Z u sz w) 0 0 (va_A (CW kA Z u) sz) := by
  refine Met.ofW (cc := cX8_begin) (maxL := 2) (ret := none) (by decide) rfl ?_
  intro p e s m args below meth c s₁ Bd hml hv
  obtain ⟨rfl, hsz, hP, hK, hD0, hE⟩ := hv
  have hts := atoms_spec (ws := Cond.code yX8_begin cX8_begin 2 none :: GW) Bd.pre
  have hl := lv_entry ([.ref (Z 229), .ref (Z (300 + 50 * l1))]) (n := 2) (Nat.le_of_ble_eq_true rfl)
  rw [lg_entry_eq]
  generalize (lg_sl ([.ref (Z 229), .ref (Z (300 + 50 * l1))]) ++ List.replicate (2 - (lg_sl ([.ref (Z 229), .ref (Z (300 + 50 * l1))])).length) Slot.unset).toArray = ls at hl ⊢
  have hl : lv_has ls 2 [(0, .ref (Z 229)), (1, .ref (Z (300 + 50 * l1)))] := hl
  subst hsz
  have X : CC p s m ([.ref (Z 229), .ref (Z (300 + 50 * l1))]).toArray c cX8_begin 2 (Cond.code yX8_begin cX8_begin 2 none) RX8 D kA V (va_A (CW kA Z u) s.heap.size) := ⟨⟨Bd.exec, Bd.bytes, hml, findClass_of_methodNamed Bd.named, hts⟩, hK, hE, fun q h => Or.inr h⟩
  refine b_X8_begin_0 X (cend_v X Bd.returns Bd.notSynchronized) (Nat.le_refl _) (Nat.le_refl _) h h_l1 ⟨hP, hD0.self, va_S.rf⟩ (lv_sub hl [0, 1] rfl)
theorem kc_X8_begin_RX3 {cc : ByteArray} {pc nL : Nat} {c0 : Cond} {rest : List Value} {l1 : Nat} {u w1 : CSt} {r : Int32} (X : CC p s m args c cc nL c0 RX3 D kA V A) (h_l1 : l1 < 2) (hS : CS D kA Z A s u H locs) (h : F_X8_begin N l1 u = some (r, w1)) (hF : 0 + 1 ≤ R.frames) (hL : 8 + (2 + 11) + 0 ≤ R.locals) (hl : ls.size = nL) (hc : (rest.map fun v => v.category).sum ≤ 8) (hdg : decode cc pc = .ok (.invokevirtual 37, 3)) (kk : ∀ H locs, CS D kA Z A s w1 H locs → W p l e R s m args below meth c H locs 0 0 Q (F0 m (pc + 3) ls (rest))) : W p l e R s m args below meth c H locs 0 0 Q (F0 m pc ls (.ref (Z (300 + 50 * l1)) :: .ref (Z 229) :: rest)) :=
  ccall_v (n := 1) X hS (k_X8_begin l D kA V Z N l1 h_l1 u H.size h) (gw_V gw_992 gw_993 gw_994 gw_14 gw_995) (by decide +kernel) (va_recv X.2.1 hS.1 (ci := 7) (q0 := 29) rfl (cw_lit rfl)) hF hL rfl hl hc rfl hdg kk
def B_X8_known_0 (N : Nat) (u : CSt) : Option (Nat × CSt) := bc (F_X9_head N u) fun r_2 u_1 => bc (F_X9_tail N u_1) fun r_4 u_3 => ok (cR u_3 3 < 2) inferInstance <| bc (F_X6_name N (cR u_3 3) (pI u_3 (cR u_3 3) 15) u_3) fun r_7 u_6 => ok (r_7 < 338) inferInstance <| bc (F_X6_localCalled N (cR u_3 3) r_7 r_2 r_4 u_6) fun r_10 u_9 => ok (r_10 < 338) inferInstance <| if (mI u_9 r_10 2) = (8 : Int32) then (ok (cR u_9 3 < 2) inferInstance <| bc (F_X6_ofText N (cR u_9 3) r_2 r_4 u_9) fun r_15 u_14 => ok (r_15 < 338) inferInstance <| some (r_15, u_14)) else (some (r_10, u_9))
set_option maxHeartbeats 4000000 in
theorem b_X8_known_0 {r : Nat} (X : CC p s m args c cX8_known 5 (Cond.code yX8_known cX8_known 5 (some (.object "SoftController$Name"))) RX8 D kA V A) (hE : CEr p l e R s m args below meth c cX8_known D kA Z A Q r w) (hF : 1 ≤ R.frames) (hL : 26 ≤ R.locals) {u : CSt}  (h : B_X8_known_0 N u = some (r, w))  (hS : CS D kA Z A s u H locs) (hl : lv_has ls 5 [(0, .ref (Z 229))]) : W p l e R s m args below meth c H locs 0 0 Q (F0 m 0 ls []) := by
  obtain ⟨⟨hx, hb, hml, hown, hts⟩, hK, hEV, hA⟩ := id X
  have hG : ∀ w ∈ GW, w.before args s = true := fun w h => hts w (List.mem_cons_of_mem _ h)
  unfold B_X8_known_0 at h
  refine lv_aload_n hx hb dX8_known_0 rfl (lv_at hl 0 rfl) ?_
  refine cg_X8_24 X hS dX8_known_1 ?_
  obtain ⟨r_2, u_1, h_u_1, h⟩ := bc_of h
  refine kc_X9_head_RX8 X  hS h_u_1 (Nat.le_trans (Nat.le_of_ble_eq_true rfl) hF) (Nat.le_trans (Nat.le_of_ble_eq_true rfl) hL) hl.1 (Nat.le_of_ble_eq_true rfl) dX8_known_4 (fun H locs hS => ?_)
  refine lv_lstore_n (lv' := [(1, .long r_2), (0, .ref (Z 229))]) hx hb dX8_known_7 rfl hl (by decide) rfl (fun ls hl => ?_)
  refine lv_aload_n hx hb dX8_known_8 rfl (lv_at hl 1 rfl) ?_
  refine cg_X8_24 X hS dX8_known_9 ?_
  obtain ⟨r_4, u_3, h_u_3, h⟩ := bc_of h
  refine kc_X9_tail_RX8 X  hS h_u_3 (Nat.le_trans (Nat.le_of_ble_eq_true rfl) hF) (Nat.le_trans (Nat.le_of_ble_eq_true rfl) hL) hl.1 (Nat.le_of_ble_eq_true rfl) dX8_known_12 (fun H locs hS => ?_)
  refine lv_istore_n (lv' := [(3, .int r_4), (1, .long r_2), (0, .ref (Z 229))]) hx hb dX8_known_15 rfl hl (by decide) rfl (fun ls hl => ?_)
  refine lv_aload_n hx hb dX8_known_16 rfl (lv_at hl 2 rfl) ?_
  refine cg_X8_28 X hS dX8_known_17 ?_
  obtain ⟨z_5, h⟩ := ok_of h
  refine lv_aload_n hx hb dX8_known_20 rfl (lv_at hl 2 rfl) ?_
  refine cg_X8_28 X hS dX8_known_21 ?_
  refine lv_aload_n hx hb dX8_known_24 rfl (lv_at hl 2 rfl) ?_
  refine cg_X8_28 X hS dX8_known_25 ?_
  refine cg_X8_46 X z_5 hS dX8_known_28 ?_
  obtain ⟨r_7, u_6, h_u_6, h⟩ := bc_of h
  refine kc_X6_name_RX8 X z_5 hS h_u_6 (Nat.le_trans (Nat.le_of_ble_eq_true rfl) hF) (Nat.le_trans (Nat.le_of_ble_eq_true rfl) hL) hl.1 (Nat.le_of_ble_eq_true rfl) dX8_known_31 (fun H locs hS => ?_)
  obtain ⟨z_8, h⟩ := ok_of h
  refine lv_lload_n hx hb dX8_known_34 rfl (lv_at hl 1 rfl) ?_
  refine lv_iload_n hx hb dX8_known_35 rfl (lv_at hl 0 rfl) ?_
  obtain ⟨r_10, u_9, h_u_9, h⟩ := bc_of h
  refine kc_X6_localCalled_RX8 X z_5 z_8 hS h_u_9 (Nat.le_trans (Nat.le_of_ble_eq_true rfl) hF) (Nat.le_trans (Nat.le_of_ble_eq_true rfl) hL) hl.1 (Nat.le_of_ble_eq_true rfl) dX8_known_36 (fun H locs hS => ?_)
  obtain ⟨z_11, h⟩ := ok_of h
  refine lv_astore (lv' := [(4, .ref (Z (1000 + r_10))), (3, .int r_4), (1, .long r_2), (0, .ref (Z 229))]) hx hb dX8_known_39 hl (by decide) rfl (fun ls hl => ?_)
  refine lv_aload hx hb dX8_known_41 (lv_at hl 0 rfl) ?_
  refine cg_X8_59 X z_11 hS dX8_known_43 ?_
  refine lv_bipush (v := 8) hx hb dX8_known_46 (by decide) ?_
  refine lv_icmp_eq (tgt := 56) hx hb dX8_known_48 (by decide) (fun c_12 => ?_) (fun c_12 => ?_)
  · have h := ip (c_12) h
    refine lv_aload_n hx hb dX8_known_56 rfl (lv_at hl 3 rfl) ?_
    refine cg_X8_28 X hS dX8_known_57 ?_
    obtain ⟨z_13, h⟩ := ok_of h
    refine lv_lload_n hx hb dX8_known_60 rfl (lv_at hl 2 rfl) ?_
    refine lv_iload_n hx hb dX8_known_61 rfl (lv_at hl 1 rfl) ?_
    obtain ⟨r_15, u_14, h_u_14, h⟩ := bc_of h
    refine kc_X6_ofText_RX8 X z_13 hS h_u_14 (Nat.le_trans (Nat.le_of_ble_eq_true rfl) hF) (Nat.le_trans (Nat.le_of_ble_eq_true rfl) hL) hl.1 (Nat.le_of_ble_eq_true rfl) dX8_known_62 (fun H locs hS => ?_)
    obtain ⟨z_16, h⟩ := ok_of h
    obtain ⟨rfl, rfl⟩ := so9 h
    exact hE _ _ _ _ hS dX8_known_65
  · have h := im (c_12) h
    refine lv_aload hx hb dX8_known_51 (lv_at hl 0 rfl) ?_
    refine lv_goto (tgt := 65) hx hb dX8_known_53 (by decide) ?_
    obtain ⟨rfl, rfl⟩ := so9 h
    exact hE _ _ _ _ hS dX8_known_65
def F_X8_known (N : Nat) (u : CSt) : Option (Nat × CSt) := B_X8_known_0 N u
set_option maxHeartbeats 4000000 in
theorem k_X8_known (l : Launch) (D : va_G) (kA : Nat → ClassId) (V Z : Nat → Nat) (N : Nat) (u : CSt) (sz : Nat) {r : Nat} {w : CSt} (h : F_X8_known N u = some (r, w)) : Met l yX8_known (Cond.code yX8_known cX8_known 5 (some (.object "SoftController$Name")) :: GW) { frames := 1, cells := 0, slots := 0, locals := 26 } (cPc D kA V Z [.ref (Z 229)] u sz) (cQr D kA Z u sz r w) 0 0 (va_A (CW kA Z u) sz) := by
  refine Met.ofW (cc := cX8_known) (maxL := 5) (ret := (some (.object "SoftController$Name"))) (by decide) rfl ?_
  intro p e s m args below meth c s₁ Bd hml hv
  obtain ⟨rfl, hsz, hP, hK, hD0, hE⟩ := hv
  have hts := atoms_spec (ws := Cond.code yX8_known cX8_known 5 (some (.object "SoftController$Name")) :: GW) Bd.pre
  have hl := lv_entry ([.ref (Z 229)]) (n := 5) (Nat.le_of_ble_eq_true rfl)
  rw [lg_entry_eq]
  generalize (lg_sl ([.ref (Z 229)]) ++ List.replicate (5 - (lg_sl ([.ref (Z 229)])).length) Slot.unset).toArray = ls at hl ⊢
  have hl : lv_has ls 5 [(0, .ref (Z 229))] := hl
  subst hsz
  have X : CC p s m ([.ref (Z 229)]).toArray c cX8_known 5 (Cond.code yX8_known cX8_known 5 (some (.object "SoftController$Name"))) RX8 D kA V (va_A (CW kA Z u) s.heap.size) := ⟨⟨Bd.exec, Bd.bytes, hml, findClass_of_methodNamed Bd.named, hts⟩, hK, hE, fun q h => Or.inr h⟩
  refine b_X8_known_0 X (cend_r X Bd.returns Bd.notSynchronized) (Nat.le_refl _) (Nat.le_refl _) h  ⟨hP, hD0.self, va_S.rf⟩ (lv_sub hl [0] rfl)
theorem kc_X8_known_RX8 {cc : ByteArray} {pc nL : Nat} {c0 : Cond} {rest : List Value} {u w1 : CSt} {r : Nat} (X : CC p s m args c cc nL c0 RX8 D kA V A)  (hS : CS D kA Z A s u H locs) (h : F_X8_known N u = some (r, w1)) (hF : 1 + 1 ≤ R.frames) (hL : 8 + (5 + 11) + 26 ≤ R.locals) (hl : ls.size = nL) (hc : (rest.map fun v => v.category).sum ≤ 8) (hdg : decode cc pc = .ok (.invokevirtual 68, 3)) (kk : ∀ H locs, CS D kA Z A s w1 H locs → W p l e R s m args below meth c H locs 0 0 Q (F0 m (pc + 3) ls (.ref (Z (1000 + r)) :: rest))) : W p l e R s m args below meth c H locs 0 0 Q (F0 m pc ls (.ref (Z 229) :: rest)) :=
  ccall_r (n := 0) X hS (k_X8_known l D kA V Z N   u H.size h) (gw_V gw_1174 gw_1175 gw_1176 gw_14 gw_1177) (by decide +kernel) (va_recv X.2.1 hS.1 (ci := 7) (q0 := 29) rfl (cw_lit rfl)) hF hL rfl hl hc rfl hdg kk
theorem kc_X8_known_RX3 {cc : ByteArray} {pc nL : Nat} {c0 : Cond} {rest : List Value} {u w1 : CSt} {r : Nat} (X : CC p s m args c cc nL c0 RX3 D kA V A)  (hS : CS D kA Z A s u H locs) (h : F_X8_known N u = some (r, w1)) (hF : 1 + 1 ≤ R.frames) (hL : 8 + (5 + 11) + 26 ≤ R.locals) (hl : ls.size = nL) (hc : (rest.map fun v => v.category).sum ≤ 8) (hdg : decode cc pc = .ok (.invokevirtual 206, 3)) (kk : ∀ H locs, CS D kA Z A s w1 H locs → W p l e R s m args below meth c H locs 0 0 Q (F0 m (pc + 3) ls (.ref (Z (1000 + r)) :: rest))) : W p l e R s m args below meth c H locs 0 0 Q (F0 m pc ls (.ref (Z 229) :: rest)) :=
  ccall_r (n := 0) X hS (k_X8_known l D kA V Z N   u H.size h) (gw_V gw_1293 gw_1175 gw_1176 gw_14 gw_1177) (by decide +kernel) (va_recv X.2.1 hS.1 (ci := 7) (q0 := 29) rfl (cw_lit rfl)) hF hL rfl hl hc rfl hdg kk
def B_X8_placeName_63 (N : Nat) (l2 : Nat) (u : CSt) : Option ((Sum Nat Nat) × CSt) := bc (F_X9_here N u) fun r_2 u_1 => bt (F_X9_refuse N 4 r_2 u_1) fun _ u_3 => some (.inr l2, u_3)
set_option maxHeartbeats 4000000 in
theorem b_X8_placeName_63 {y : (Sum Nat Nat)} (X : CC p s m args c cX8_placeName 3 (Cond.code yX8_placeName cX8_placeName 3 (some (.object "SoftController$Name"))) RX8 D kA V A) (hE : CErx p l e R s m args below meth c cX8_placeName D kA Z A Q y w) (hst : l.stackTraces = false) (hX : CX p l e R s m args below meth c D kA Z A Q y w) (hC : 1 ≤ R.cells ∧ 6 ≤ R.slots) (hF : 7 ≤ R.frames) (hL : 122 ≤ R.locals) {l2 : Nat} {u : CSt}  (h : B_X8_placeName_63 N l2 u = some (y, w)) (h_l2 : l2 < 338) (hS : CS D kA Z A s u H locs) (hl : lv_has ls 3 [(0, .ref (Z 229)), (2, .ref (Z (1000 + l2)))]) : W p l e R s m args below meth c H locs 0 0 Q (F0 m 63 ls []) := by
  obtain ⟨⟨hx, hb, hml, hown, hts⟩, hK, hEV, hA⟩ := id X
  have hG : ∀ w ∈ GW, w.before args s = true := fun w h => hts w (List.mem_cons_of_mem _ h)
  unfold B_X8_placeName_63 at h
  refine lv_aload_n hx hb dX8_placeName_63 rfl (lv_at hl 0 rfl) ?_
  refine cg_X8_24 X hS dX8_placeName_64 ?_
  refine lv_iconst (v := 4) hx hb dX8_placeName_67 (by decide) ?_
  refine lv_aload_n hx hb dX8_placeName_68 rfl (lv_at hl 0 rfl) ?_
  refine cg_X8_24 X hS dX8_placeName_69 ?_
  obtain ⟨r_2, u_1, h_u_1, h⟩ := bc_of h
  refine kc_X9_here_RX8 X  hS h_u_1 (Nat.le_trans (Nat.le_of_ble_eq_true rfl) hF) (Nat.le_trans (Nat.le_of_ble_eq_true rfl) hL) hl.1 (Nat.le_of_ble_eq_true rfl) dX8_placeName_72 (fun H locs hS => ?_)
  obtain ⟨y_4, u_3, h_u_3, h⟩ := bt_of h
  refine kc_X9_refuse_RX8 hst X  hS h_u_3 (Nat.le_trans (Nat.le_of_ble_eq_true rfl) hF) (Nat.le_trans (Nat.le_of_ble_eq_true rfl) hL) hC hl.1 (Nat.le_of_ble_eq_true rfl) dX8_placeName_75 (fun r_u_3 hr_u_3 H locs hS => ?_) (fun x9 hn H locs q9 ce hS a1 a2 a3 => by obtain ⟨e2, rfl⟩ := bt_no h hn; exact hX _ e2 _ _ _ _ _ _ _ hS a1 a2 a3)
  replace h := bt_ok h hr_u_3
  refine lv_aload_n hx hb dX8_placeName_78 rfl (lv_at hl 1 rfl) ?_
  obtain ⟨e9, rfl⟩ := so9 h
  exact hE _ e9.symm _ _ _ _ hS dX8_placeName_79
def B_X8_placeName_49 (N : Nat) (l1 : Int32) (l2 : Nat) (s0 : Int32) (s1 : Int32) (u : CSt) : Option ((Sum Nat Nat) × CSt) := if s0 = s1 then (if l1 = (0 : Int32) then (some (.inr l2, u)) else (bc (F_X4_isInput N l2 u) fun r_8 u_7 => if r_8 = (0 : Int32) then (some (.inr l2, u_7)) else (B_X8_placeName_63 N l2 u_7))) else (B_X8_placeName_63 N l2 u)
set_option maxHeartbeats 4000000 in
theorem b_X8_placeName_49 {y : (Sum Nat Nat)} (X : CC p s m args c cX8_placeName 3 (Cond.code yX8_placeName cX8_placeName 3 (some (.object "SoftController$Name"))) RX8 D kA V A) (hE : CErx p l e R s m args below meth c cX8_placeName D kA Z A Q y w) (hst : l.stackTraces = false) (hX : CX p l e R s m args below meth c D kA Z A Q y w) (hC : 1 ≤ R.cells ∧ 6 ≤ R.slots) (hF : 7 ≤ R.frames) (hL : 122 ≤ R.locals) {l1 : Int32} {l2 : Nat} {s0 : Int32} {s1 : Int32} {u : CSt}  (h : B_X8_placeName_49 N l1 l2 s0 s1 u = some (y, w)) (h_l2 : l2 < 338) (hS : CS D kA Z A s u H locs) (hl : lv_has ls 3 [(0, .ref (Z 229)), (1, .int l1), (2, .ref (Z (1000 + l2)))]) : W p l e R s m args below meth c H locs 0 0 Q (F0 m 49 ls [.int s1, .int s0]) := by
  obtain ⟨⟨hx, hb, hml, hown, hts⟩, hK, hEV, hA⟩ := id X
  have hG : ∀ w ∈ GW, w.before args s = true := fun w h => hts w (List.mem_cons_of_mem _ h)
  unfold B_X8_placeName_49 at h
  refine lv_icmp_ne (tgt := 63) hx hb dX8_placeName_49 (by decide) (fun c_5 => ?_) (fun c_5 => ?_)
  · have h := im (c_5) h
    exact b_X8_placeName_63 X hE hst hX hC hF hL  h h_l2 hS (lv_sub hl [0, 2] rfl)
  · have h := ip (c_5) h
    refine lv_iload_n hx hb dX8_placeName_52 rfl (lv_at hl 1 rfl) ?_
    refine lv_if_eq (tgt := 78) hx hb dX8_placeName_53 (by decide) (fun c_6 => ?_) (fun c_6 => ?_)
    · have h := ip (c_6) h
      refine lv_aload_n hx hb dX8_placeName_78 rfl (lv_at hl 2 rfl) ?_
      obtain ⟨e9, rfl⟩ := so9 h
      exact hE _ e9.symm _ _ _ _ hS dX8_placeName_79
    · have h := im (c_6) h
      refine lv_aload_n hx hb dX8_placeName_56 rfl (lv_at hl 2 rfl) ?_
      obtain ⟨r_8, u_7, h_u_7, h⟩ := bc_of h
      refine kc_X4_isInput_RX8 X h_l2 hS h_u_7 (Nat.le_trans (Nat.le_of_ble_eq_true rfl) hF) (Nat.le_trans (Nat.le_of_ble_eq_true rfl) hL) hl.1 (Nat.le_of_ble_eq_true rfl) dX8_placeName_57 (fun H locs hS => ?_)
      refine lv_if_eq (tgt := 78) hx hb dX8_placeName_60 (by decide) (fun c_9 => ?_) (fun c_9 => ?_)
      · have h := ip (c_9) h
        refine lv_aload_n hx hb dX8_placeName_78 rfl (lv_at hl 2 rfl) ?_
        obtain ⟨e9, rfl⟩ := so9 h
        exact hE _ e9.symm _ _ _ _ hS dX8_placeName_79
      · have h := im (c_9) h
        exact b_X8_placeName_63 X hE hst hX hC hF hL  h h_l2 hS (lv_sub hl [0, 2] rfl)
def B_X8_placeName_27 (N : Nat) (l1 : Int32) (l2 : Nat) (u : CSt) : Option ((Sum Nat Nat) × CSt) := bc (F_X9_typeAhead N 1 u) fun r_11 u_10 => if r_11 = (91 : Int32) then (B_X8_placeName_49 N l1 l2 (mI u l2 8) 1 u_10) else (B_X8_placeName_49 N l1 l2 (mI u l2 8) 0 u_10)
set_option maxHeartbeats 4000000 in
theorem b_X8_placeName_27 {y : (Sum Nat Nat)} (X : CC p s m args c cX8_placeName 3 (Cond.code yX8_placeName cX8_placeName 3 (some (.object "SoftController$Name"))) RX8 D kA V A) (hE : CErx p l e R s m args below meth c cX8_placeName D kA Z A Q y w) (hst : l.stackTraces = false) (hX : CX p l e R s m args below meth c D kA Z A Q y w) (hC : 1 ≤ R.cells ∧ 6 ≤ R.slots) (hF : 7 ≤ R.frames) (hL : 122 ≤ R.locals) {l1 : Int32} {l2 : Nat} {u : CSt}  (h : B_X8_placeName_27 N l1 l2 u = some (y, w)) (h_l2 : l2 < 338) (hS : CS D kA Z A s u H locs) (hl : lv_has ls 3 [(0, .ref (Z 229)), (1, .int l1), (2, .ref (Z (1000 + l2)))]) : W p l e R s m args below meth c H locs 0 0 Q (F0 m 27 ls []) := by
  obtain ⟨⟨hx, hb, hml, hown, hts⟩, hK, hEV, hA⟩ := id X
  have hG : ∀ w ∈ GW, w.before args s = true := fun w h => hts w (List.mem_cons_of_mem _ h)
  unfold B_X8_placeName_27 at h
  refine lv_aload_n hx hb dX8_placeName_27 rfl (lv_at hl 2 rfl) ?_
  refine cg_X8_83 X h_l2 hS dX8_placeName_28 ?_
  refine lv_aload_n hx hb dX8_placeName_31 rfl (lv_at hl 0 rfl) ?_
  refine cg_X8_24 X hS dX8_placeName_32 ?_
  refine lv_iconst (v := 1) hx hb dX8_placeName_35 (by decide) ?_
  obtain ⟨r_11, u_10, h_u_10, h⟩ := bc_of h
  refine kc_X9_typeAhead_RX8 X  hS h_u_10 (Nat.le_trans (Nat.le_of_ble_eq_true rfl) hF) (Nat.le_trans (Nat.le_of_ble_eq_true rfl) hL) hl.1 (Nat.le_of_ble_eq_true rfl) dX8_placeName_36 (fun H locs hS => ?_)
  refine lv_bipush (v := 91) hx hb dX8_placeName_39 (by decide) ?_
  refine lv_icmp_ne (tgt := 48) hx hb dX8_placeName_41 (by decide) (fun c_12 => ?_) (fun c_12 => ?_)
  · have h := im (c_12) h
    refine lv_iconst (v := 0) hx hb dX8_placeName_48 (by decide) ?_
    exact b_X8_placeName_49 X hE hst hX hC hF hL  h h_l2 hS (lv_sub hl [0, 1, 2] rfl)
  · have h := ip (c_12) h
    refine lv_iconst (v := 1) hx hb dX8_placeName_44 (by decide) ?_
    refine lv_goto (tgt := 49) hx hb dX8_placeName_45 (by decide) ?_
    exact b_X8_placeName_49 X hE hst hX hC hF hL  h h_l2 hS (lv_sub hl [0, 1, 2] rfl)
def B_X8_placeName_0 (N : Nat) (l1 : Int32) (u : CSt) : Option ((Sum Nat Nat) × CSt) := bc (F_X8_known N u) fun r_14 u_13 => ok (r_14 < 338) inferInstance <| bc (F_X4_hasNumbers N r_14 u_13) fun r_17 u_16 => if r_17 = (0 : Int32) then (bc (F_X9_here N u_16) fun r_20 u_19 => bt (F_X9_refuse N 3 r_20 u_19) fun _ u_21 => B_X8_placeName_27 N l1 r_14 u_21) else (B_X8_placeName_27 N l1 r_14 u_16)
set_option maxHeartbeats 4000000 in
theorem b_X8_placeName_0 {y : (Sum Nat Nat)} (X : CC p s m args c cX8_placeName 3 (Cond.code yX8_placeName cX8_placeName 3 (some (.object "SoftController$Name"))) RX8 D kA V A) (hE : CErx p l e R s m args below meth c cX8_placeName D kA Z A Q y w) (hst : l.stackTraces = false) (hX : CX p l e R s m args below meth c D kA Z A Q y w) (hC : 1 ≤ R.cells ∧ 6 ≤ R.slots) (hF : 7 ≤ R.frames) (hL : 122 ≤ R.locals) {l1 : Int32} {u : CSt}  (h : B_X8_placeName_0 N l1 u = some (y, w))  (hS : CS D kA Z A s u H locs) (hl : lv_has ls 3 [(0, .ref (Z 229)), (1, .int l1)]) : W p l e R s m args below meth c H locs 0 0 Q (F0 m 0 ls []) := by
  obtain ⟨⟨hx, hb, hml, hown, hts⟩, hK, hEV, hA⟩ := id X
  have hG : ∀ w ∈ GW, w.before args s = true := fun w h => hts w (List.mem_cons_of_mem _ h)
  unfold B_X8_placeName_0 at h
  refine lv_aload_n hx hb dX8_placeName_0 rfl (lv_at hl 0 rfl) ?_
  obtain ⟨r_14, u_13, h_u_13, h⟩ := bc_of h
  refine kc_X8_known_RX8 X  hS h_u_13 (Nat.le_trans (Nat.le_of_ble_eq_true rfl) hF) (Nat.le_trans (Nat.le_of_ble_eq_true rfl) hL) hl.1 (Nat.le_of_ble_eq_true rfl) dX8_placeName_1 (fun H locs hS => ?_)
  obtain ⟨z_15, h⟩ := ok_of h
  refine lv_astore_n (lv' := [(2, .ref (Z (1000 + r_14))), (0, .ref (Z 229)), (1, .int l1)]) hx hb dX8_placeName_4 rfl hl (by decide) rfl (fun ls hl => ?_)
  refine lv_aload_n hx hb dX8_placeName_5 rfl (lv_at hl 0 rfl) ?_
  obtain ⟨r_17, u_16, h_u_16, h⟩ := bc_of h
  refine kc_X4_hasNumbers_RX8 X z_15 hS h_u_16 (Nat.le_trans (Nat.le_of_ble_eq_true rfl) hF) (Nat.le_trans (Nat.le_of_ble_eq_true rfl) hL) hl.1 (Nat.le_of_ble_eq_true rfl) dX8_placeName_6 (fun H locs hS => ?_)
  refine lv_if_ne (tgt := 27) hx hb dX8_placeName_9 (by decide) (fun c_18 => ?_) (fun c_18 => ?_)
  · have h := im (c_18) h
    exact b_X8_placeName_27 X hE hst hX hC hF hL  h z_15 hS (lv_sub hl [1, 2, 0] rfl)
  · have h := ip (c_18) h
    refine lv_aload_n hx hb dX8_placeName_12 rfl (lv_at hl 1 rfl) ?_
    refine cg_X8_24 X hS dX8_placeName_13 ?_
    refine lv_iconst (v := 3) hx hb dX8_placeName_16 (by decide) ?_
    refine lv_aload_n hx hb dX8_placeName_17 rfl (lv_at hl 1 rfl) ?_
    refine cg_X8_24 X hS dX8_placeName_18 ?_
    obtain ⟨r_20, u_19, h_u_19, h⟩ := bc_of h
    refine kc_X9_here_RX8 X  hS h_u_19 (Nat.le_trans (Nat.le_of_ble_eq_true rfl) hF) (Nat.le_trans (Nat.le_of_ble_eq_true rfl) hL) hl.1 (Nat.le_of_ble_eq_true rfl) dX8_placeName_21 (fun H locs hS => ?_)
    obtain ⟨y_22, u_21, h_u_21, h⟩ := bt_of h
    refine kc_X9_refuse_RX8 hst X  hS h_u_21 (Nat.le_trans (Nat.le_of_ble_eq_true rfl) hF) (Nat.le_trans (Nat.le_of_ble_eq_true rfl) hL) hC hl.1 (Nat.le_of_ble_eq_true rfl) dX8_placeName_24 (fun r_u_21 hr_u_21 H locs hS => ?_) (fun x9 hn H locs q9 ce hS a1 a2 a3 => by obtain ⟨e2, rfl⟩ := bt_no h hn; exact hX _ e2 _ _ _ _ _ _ _ hS a1 a2 a3)
    replace h := bt_ok h hr_u_21
    exact b_X8_placeName_27 X hE hst hX hC hF hL  h z_15 hS (lv_sub hl [1, 2, 0] rfl)
def F_X8_placeName (N : Nat) (l1 : Int32) (u : CSt) : Option ((Sum Nat Nat) × CSt) := B_X8_placeName_0 N l1 u
set_option maxHeartbeats 4000000 in
theorem k_X8_placeName (l : Launch) (hst : l.stackTraces = false) (D : va_G) (kA : Nat → ClassId) (V Z : Nat → Nat) (N : Nat) (l1 : Int32) (u : CSt) (sz : Nat) {y : (Sum Nat Nat)} {w : CSt} (h : F_X8_placeName N l1 u = some (y, w)) : vx_Met l yX8_placeName (Cond.code yX8_placeName cX8_placeName 3 (some (.object "SoftController$Name")) :: GW) { frames := 7, cells := 1, slots := 6, locals := 122 } (cPc D kA V Z [.ref (Z 229), .int l1] u sz) (cQrx D kA Z u sz y w) (cXc D kA Z u sz y w) 1 6 (va_A (CW kA Z u) sz) := by
  refine vx_ofW (cc := cX8_placeName) (maxL := 3) (ret := (some (.object "SoftController$Name"))) (by decide) rfl ?_
  intro p e s m args below meth c s₁ Bd hml hxt hv
  obtain ⟨rfl, hsz, hP, hK, hD0, hE⟩ := hv
  have hts := atoms_spec (ws := Cond.code yX8_placeName cX8_placeName 3 (some (.object "SoftController$Name")) :: GW) Bd.pre
  have hl := lv_entry ([.ref (Z 229), .int l1]) (n := 3) (Nat.le_of_ble_eq_true rfl)
  rw [lg_entry_eq]
  generalize (lg_sl ([.ref (Z 229), .int l1]) ++ List.replicate (3 - (lg_sl ([.ref (Z 229), .int l1])).length) Slot.unset).toArray = ls at hl ⊢
  have hl : lv_has ls 3 [(0, .ref (Z 229)), (1, .int l1)] := hl
  subst hsz
  have X : CC p s m ([.ref (Z 229), .int l1]).toArray c cX8_placeName 3 (Cond.code yX8_placeName cX8_placeName 3 (some (.object "SoftController$Name"))) RX8 D kA V (va_A (CW kA Z u) s.heap.size) := ⟨⟨Bd.exec, Bd.bytes, hml, findClass_of_methodNamed Bd.named, hts⟩, hK, hE, fun q h => Or.inr h⟩
  refine b_X8_placeName_0 X (cend_rx X Bd.returns Bd.notSynchronized) hst (cend_X X hxt Bd.notSynchronized) ⟨Nat.le_refl _, Nat.le_refl _⟩ (Nat.le_refl _) (Nat.le_refl _) h  ⟨hP, hD0.self, va_S.rf⟩ (lv_sub hl [0, 1] rfl)
theorem kc_X8_placeName_RX8 {cc : ByteArray} {pc nL : Nat} {c0 : Cond} {rest : List Value} {l1 : Int32} {u w1 : CSt} {y1 : (Sum Nat Nat)} (hst : l.stackTraces = false) (X : CC p s m args c cc nL c0 RX8 D kA V A)  (hS : CS D kA Z A s u H locs) (h : F_X8_placeName N l1 u = some (y1, w1)) (hF : 7 + 1 ≤ R.frames) (hL : 8 + (3 + 11) + 122 ≤ R.locals) (hC : 1 ≤ R.cells ∧ 6 ≤ R.slots) (hl : ls.size = nL) (hc : (rest.map fun v => v.category).sum ≤ 8) (hdg : decode cc pc = .ok (.invokevirtual 208, 3)) (kk : ∀ r, y1 = .inr r → ∀ H locs, CS D kA Z A s w1 H locs → W p l e R s m args below meth c H locs 0 0 Q (F0 m (pc + 3) ls (.ref (Z (1000 + r)) :: rest))) (kx : ∀ x, y1 = .inl x → ∀ (H : Heap) (locs : List Loc) (q : Addr) (ce : Cell), CS D kA Z A s w1 H locs → H[q]? = some ce → ce.vm = .none → s.vm.findClass (exN x) = some ce.cls → vx_W p l e R s m args below meth c H locs 1 6 Q (F0 m pc ls rest) q) : W p l e R s m args below meth c H locs 0 0 Q (F0 m pc ls (.int l1 :: .ref (Z 229) :: rest)) :=
  ccall_rx (n := 1) X hS (k_X8_placeName l hst D kA V Z N l1  u H.size h) (gw_V gw_1216 gw_1217 gw_1218 gw_14 gw_1219) (by decide +kernel) (va_recv X.2.1 hS.1 (ci := 7) (q0 := 29) rfl (cw_lit rfl)) hF hL hC rfl hl hc rfl hdg kk kx
theorem kc_X8_placeName_RX3 {cc : ByteArray} {pc nL : Nat} {c0 : Cond} {rest : List Value} {l1 : Int32} {u w1 : CSt} {y1 : (Sum Nat Nat)} (hst : l.stackTraces = false) (X : CC p s m args c cc nL c0 RX3 D kA V A)  (hS : CS D kA Z A s u H locs) (h : F_X8_placeName N l1 u = some (y1, w1)) (hF : 7 + 1 ≤ R.frames) (hL : 8 + (3 + 11) + 122 ≤ R.locals) (hC : 1 ≤ R.cells ∧ 6 ≤ R.slots) (hl : ls.size = nL) (hc : (rest.map fun v => v.category).sum ≤ 8) (hdg : decode cc pc = .ok (.invokevirtual 298, 3)) (kk : ∀ r, y1 = .inr r → ∀ H locs, CS D kA Z A s w1 H locs → W p l e R s m args below meth c H locs 0 0 Q (F0 m (pc + 3) ls (.ref (Z (1000 + r)) :: rest))) (kx : ∀ x, y1 = .inl x → ∀ (H : Heap) (locs : List Loc) (q : Addr) (ce : Cell), CS D kA Z A s w1 H locs → H[q]? = some ce → ce.vm = .none → s.vm.findClass (exN x) = some ce.cls → vx_W p l e R s m args below meth c H locs 1 6 Q (F0 m pc ls rest) q) : W p l e R s m args below meth c H locs 0 0 Q (F0 m pc ls (.int l1 :: .ref (Z 229) :: rest)) :=
  ccall_rx (n := 1) X hS (k_X8_placeName l hst D kA V Z N l1  u H.size h) (gw_V gw_1338 gw_1217 gw_1218 gw_14 gw_1219) (by decide +kernel) (va_recv X.2.1 hS.1 (ci := 7) (q0 := 29) rfl (cw_lit rfl)) hF hL hC rfl hl hc rfl hdg kk kx
def B_X8_isTooWide_26 (N : Nat) (u : CSt) : Option (Int32 × CSt) := some (1, u)
set_option maxHeartbeats 4000000 in
theorem b_X8_isTooWide_26 {r : Int32} (X : CC p s m args c cX8_isTooWide 3 (Cond.code yX8_isTooWide cX8_isTooWide 3 (some .boolean)) RX8 D kA V A) (hE : CEz p l e R s m args below meth c cX8_isTooWide D kA Z A Q r w) (hF : 2 ≤ R.frames) (hL : 44 ≤ R.locals) {u : CSt}  (h : B_X8_isTooWide_26 N u = some (r, w))  (hS : CS D kA Z A s u H locs) (hl : lv_has ls 3 []) : W p l e R s m args below meth c H locs 0 0 Q (F0 m 26 ls []) := by
  obtain ⟨⟨hx, hb, hml, hown, hts⟩, hK, hEV, hA⟩ := id X
  have hG : ∀ w ∈ GW, w.before args s = true := fun w h => hts w (List.mem_cons_of_mem _ h)
  unfold B_X8_isTooWide_26 at h
  refine lv_iconst (v := 1) hx hb dX8_isTooWide_26 (by decide) ?_
  refine lv_goto (tgt := 31) hx hb dX8_isTooWide_27 (by decide) ?_
  obtain ⟨rfl, rfl⟩ := so9 h
  exact hE _ _ _ _ hS (Or.inr rfl) dX8_isTooWide_31
def B_X8_isTooWide_0 (N : Nat) (l1 : Int32) (l2 : Int32) (u : CSt) : Option (Int32 × CSt) := if (n_room l1 l2) = (0 : Int32) then (if (cI u 17) = (0 : Int32) then (B_X8_isTooWide_26 N u) else (if (n_fits l2 (cL u 0)) = (0 : Int32) then (B_X8_isTooWide_26 N u) else (some (0, u)))) else (some (0, u))
set_option maxHeartbeats 4000000 in
theorem b_X8_isTooWide_0 {r : Int32} (X : CC p s m args c cX8_isTooWide 3 (Cond.code yX8_isTooWide cX8_isTooWide 3 (some .boolean)) RX8 D kA V A) (hE : CEz p l e R s m args below meth c cX8_isTooWide D kA Z A Q r w) (hF : 2 ≤ R.frames) (hL : 44 ≤ R.locals) {l1 : Int32} {l2 : Int32} {u : CSt}  (h : B_X8_isTooWide_0 N l1 l2 u = some (r, w))  (hS : CS D kA Z A s u H locs) (hl : lv_has ls 3 [(0, .ref (Z 229)), (1, .int l1), (2, .int l2)]) : W p l e R s m args below meth c H locs 0 0 Q (F0 m 0 ls []) := by
  obtain ⟨⟨hx, hb, hml, hown, hts⟩, hK, hEV, hA⟩ := id X
  have hG : ∀ w ∈ GW, w.before args s = true := fun w h => hts w (List.mem_cons_of_mem _ h)
  unfold B_X8_isTooWide_0 at h
  refine lv_iload_n hx hb dX8_isTooWide_0 rfl (lv_at hl 1 rfl) ?_
  refine lv_iload_n hx hb dX8_isTooWide_1 rfl (lv_at hl 2 rfl) ?_
  refine vp_callSi (W.runS (As := [.int l1, .int l2]) (rest := []) X.1 (c_X5_hasRoom l l1 l2) (va_cwS 2 hts (gw_P gw_1200 gw_1201 gw_24 gwp_X5_hasRoom) rfl rfl rfl (by decide +kernel) ⟨Nat.le_trans (Nat.le_of_ble_eq_true rfl) hF, Nat.le_trans (Nat.le_of_ble_eq_true rfl) hL⟩) ⟨fun _ _ _ _ q => q, fun _ _ _ => ⟨rfl, trivial⟩⟩ rfl rfl hl.1 rfl (lv_room (Nat.le_of_ble_eq_true rfl)) dX8_isTooWide_2 ⟨Nat.zero_le _, Nat.zero_le _⟩) (fun r_1 q_2 => ?_)
  subst q_2
  refine lv_if_ne (tgt := 30) hx hb dX8_isTooWide_5 (by decide) (fun c_3 => ?_) (fun c_3 => ?_)
  · have h := im (c_3) h
    refine lv_iconst (v := 0) hx hb dX8_isTooWide_30 (by decide) ?_
    obtain ⟨rfl, rfl⟩ := so9 h
    exact hE _ _ _ _ hS (Or.inl rfl) dX8_isTooWide_31
  · have h := ip (c_3) h
    refine lv_aload_n hx hb dX8_isTooWide_8 rfl (lv_at hl 0 rfl) ?_
    refine cg_X8_100 X hS dX8_isTooWide_9 ?_
    refine lv_if_eq (tgt := 26) hx hb dX8_isTooWide_12 (by decide) (fun c_4 => ?_) (fun c_4 => ?_)
    · have h := ip (c_4) h
      exact b_X8_isTooWide_26 X hE  hF hL  h  hS (lv_sub hl [] rfl)
    · have h := im (c_4) h
      refine lv_iload_n hx hb dX8_isTooWide_15 rfl (lv_at hl 2 rfl) ?_
      refine lv_aload_n hx hb dX8_isTooWide_16 rfl (lv_at hl 0 rfl) ?_
      refine cg_X8_103 X hS dX8_isTooWide_17 ?_
      refine vp_callSi (W.runS (As := [.int l2, .long (cL u 0)]) (rest := []) X.1 (c_X5_fits l l2 (cL u 0)) (va_cwS 2 hts (gw_P gw_1203 gw_1074 gw_24 gwp_X5_fits) rfl rfl rfl (by decide +kernel) ⟨Nat.le_trans (Nat.le_of_ble_eq_true rfl) hF, Nat.le_trans (Nat.le_of_ble_eq_true rfl) hL⟩) ⟨fun _ _ _ _ q => q, fun _ _ _ => ⟨rfl, trivial⟩⟩ rfl rfl hl.1 rfl (lv_room (Nat.le_of_ble_eq_true rfl)) dX8_isTooWide_20 ⟨Nat.zero_le _, Nat.zero_le _⟩) (fun r_5 q_6 => ?_)
      subst q_6
      refine lv_if_ne (tgt := 30) hx hb dX8_isTooWide_23 (by decide) (fun c_7 => ?_) (fun c_7 => ?_)
      · have h := im (c_7) h
        refine lv_iconst (v := 0) hx hb dX8_isTooWide_30 (by decide) ?_
        obtain ⟨rfl, rfl⟩ := so9 h
        exact hE _ _ _ _ hS (Or.inl rfl) dX8_isTooWide_31
      · have h := ip (c_7) h
        exact b_X8_isTooWide_26 X hE  hF hL  h  hS (lv_sub hl [] rfl)
def F_X8_isTooWide (N : Nat) (l1 : Int32) (l2 : Int32) (u : CSt) : Option (Int32 × CSt) := B_X8_isTooWide_0 N l1 l2 u
set_option maxHeartbeats 4000000 in
theorem k_X8_isTooWide (l : Launch) (D : va_G) (kA : Nat → ClassId) (V Z : Nat → Nat) (N : Nat) (l1 : Int32) (l2 : Int32) (u : CSt) (sz : Nat) {r : Int32} {w : CSt} (h : F_X8_isTooWide N l1 l2 u = some (r, w)) : Met l yX8_isTooWide (Cond.code yX8_isTooWide cX8_isTooWide 3 (some .boolean) :: GW) { frames := 2, cells := 0, slots := 0, locals := 44 } (cPc D kA V Z [.ref (Z 229), .int l1, .int l2] u sz) (cQi D kA Z u sz r w) 0 0 (va_A (CW kA Z u) sz) := by
  refine Met.ofW (cc := cX8_isTooWide) (maxL := 3) (ret := (some .boolean)) (by decide) rfl ?_
  intro p e s m args below meth c s₁ Bd hml hv
  obtain ⟨rfl, hsz, hP, hK, hD0, hE⟩ := hv
  have hts := atoms_spec (ws := Cond.code yX8_isTooWide cX8_isTooWide 3 (some .boolean) :: GW) Bd.pre
  have hl := lv_entry ([.ref (Z 229), .int l1, .int l2]) (n := 3) (Nat.le_of_ble_eq_true rfl)
  rw [lg_entry_eq]
  generalize (lg_sl ([.ref (Z 229), .int l1, .int l2]) ++ List.replicate (3 - (lg_sl ([.ref (Z 229), .int l1, .int l2])).length) Slot.unset).toArray = ls at hl ⊢
  have hl : lv_has ls 3 [(0, .ref (Z 229)), (1, .int l1), (2, .int l2)] := hl
  subst hsz
  have X : CC p s m ([.ref (Z 229), .int l1, .int l2]).toArray c cX8_isTooWide 3 (Cond.code yX8_isTooWide cX8_isTooWide 3 (some .boolean)) RX8 D kA V (va_A (CW kA Z u) s.heap.size) := ⟨⟨Bd.exec, Bd.bytes, hml, findClass_of_methodNamed Bd.named, hts⟩, hK, hE, fun q h => Or.inr h⟩
  refine b_X8_isTooWide_0 X (cend_z X Bd.returns Bd.notSynchronized) (Nat.le_refl _) (Nat.le_refl _) h  ⟨hP, hD0.self, va_S.rf⟩ (lv_sub hl [0, 1, 2] rfl)
theorem kc_X8_isTooWide_RX8 {cc : ByteArray} {pc nL : Nat} {c0 : Cond} {rest : List Value} {l1 : Int32} {l2 : Int32} {u w1 : CSt} {r : Int32} (X : CC p s m args c cc nL c0 RX8 D kA V A)  (hS : CS D kA Z A s u H locs) (h : F_X8_isTooWide N l1 l2 u = some (r, w1)) (hF : 2 + 1 ≤ R.frames) (hL : 8 + (3 + 11) + 44 ≤ R.locals) (hl : ls.size = nL) (hc : (rest.map fun v => v.category).sum ≤ 8) (hdg : decode cc pc = .ok (.invokevirtual 256, 3)) (kk : ∀ H locs, CS D kA Z A s w1 H locs → W p l e R s m args below meth c H locs 0 0 Q (F0 m (pc + 3) ls (.int r :: rest))) : W p l e R s m args below meth c H locs 0 0 Q (F0 m pc ls (.int l2 :: .int l1 :: .ref (Z 229) :: rest)) :=
  ccall_i (n := 2) X hS (k_X8_isTooWide l D kA V Z N l1 l2  u H.size h) (gw_V gw_1196 gw_1197 gw_1198 gw_14 gw_1199) (by decide +kernel) (va_recv X.2.1 hS.1 (ci := 7) (q0 := 29) rfl (cw_lit rfl)) hF hL rfl hl hc rfl hdg kk
theorem kc_X8_isTooWide_RX3 {cc : ByteArray} {pc nL : Nat} {c0 : Cond} {rest : List Value} {l1 : Int32} {l2 : Int32} {u w1 : CSt} {r : Int32} (X : CC p s m args c cc nL c0 RX3 D kA V A)  (hS : CS D kA Z A s u H locs) (h : F_X8_isTooWide N l1 l2 u = some (r, w1)) (hF : 2 + 1 ≤ R.frames) (hL : 8 + (3 + 11) + 44 ≤ R.locals) (hl : ls.size = nL) (hc : (rest.map fun v => v.category).sum ≤ 8) (hdg : decode cc pc = .ok (.invokevirtual 322, 3)) (kk : ∀ H locs, CS D kA Z A s w1 H locs → W p l e R s m args below meth c H locs 0 0 Q (F0 m (pc + 3) ls (.int r :: rest))) : W p l e R s m args below meth c H locs 0 0 Q (F0 m pc ls (.int l2 :: .int l1 :: .ref (Z 229) :: rest)) :=
  ccall_i (n := 2) X hS (k_X8_isTooWide l D kA V Z N l1 l2  u H.size h) (gw_V gw_1300 gw_1197 gw_1198 gw_14 gw_1199) (by decide +kernel) (va_recv X.2.1 hS.1 (ci := 7) (q0 := 29) rfl (cw_lit rfl)) hF hL rfl hl hc rfl hdg kk
def B_X8_combine_25 (N : Nat) (l4 : Int32) (l5 : Int32) (s0 : Nat) (s1 : Int32) (s2 : Int32) (s3 : Int32) (u : CSt) : Option (Int32 × CSt) := bc (F_X6_step N s0 s1 s2 s3 l4 u) fun r_2 u_1 => if l5 = (0 : Int32) then (some (3, u_1)) else (some (4, u_1))
set_option maxHeartbeats 4000000 in
theorem b_X8_combine_25 {r : Int32} (X : CC p s m args c cX8_combine 6 (Cond.code yX8_combine cX8_combine 6 (some .int)) RX8 D kA V A) (hE : CEi p l e R s m args below meth c cX8_combine D kA Z A Q r w) (hF : 1 ≤ R.frames) (hL : 24 ≤ R.locals) {l4 : Int32} {l5 : Int32} {s0 : Nat} {s1 : Int32} {s2 : Int32} {s3 : Int32} {u : CSt}  (h : B_X8_combine_25 N l4 l5 s0 s1 s2 s3 u = some (r, w)) (h_s0 : s0 < 2) (hS : CS D kA Z A s u H locs) (hl : lv_has ls 6 [(4, .int l4), (5, .int l5)]) : W p l e R s m args below meth c H locs 0 0 Q (F0 m 25 ls [.int s3, .int s2, .int s1, .ref (Z (300 + 50 * s0))]) := by
  obtain ⟨⟨hx, hb, hml, hown, hts⟩, hK, hEV, hA⟩ := id X
  have hG : ∀ w ∈ GW, w.before args s = true := fun w h => hts w (List.mem_cons_of_mem _ h)
  unfold B_X8_combine_25 at h
  refine lv_iload hx hb dX8_combine_25 (lv_at hl 0 rfl) ?_
  obtain ⟨r_2, u_1, h_u_1, h⟩ := bc_of h
  refine kc_X6_step_RX8 X h_s0 hS h_u_1 (Nat.le_trans (Nat.le_of_ble_eq_true rfl) hF) (Nat.le_trans (Nat.le_of_ble_eq_true rfl) hL) hl.1 (Nat.le_of_ble_eq_true rfl) dX8_combine_27 (fun H locs hS => ?_)
  refine lv_pop hx hb dX8_combine_30 rfl ?_
  refine lv_iload hx hb dX8_combine_31 (lv_at hl 1 rfl) ?_
  refine lv_if_eq (tgt := 40) hx hb dX8_combine_33 (by decide) (fun c_3 => ?_) (fun c_3 => ?_)
  · have h := ip (c_3) h
    refine lv_iconst (v := 3) hx hb dX8_combine_40 (by decide) ?_
    obtain ⟨rfl, rfl⟩ := so9 h
    exact hE _ _ _ _ hS dX8_combine_41
  · have h := im (c_3) h
    refine lv_iconst (v := 4) hx hb dX8_combine_36 (by decide) ?_
    refine lv_goto (tgt := 41) hx hb dX8_combine_37 (by decide) ?_
    obtain ⟨rfl, rfl⟩ := so9 h
    exact hE _ _ _ _ hS dX8_combine_41
def B_X8_combine_0 (N : Nat) (l1 : Int32) (l2 : Int32) (l3 : Int32) (l4 : Int32) (u : CSt) : Option (Int32 × CSt) := ok (cR u 3 < 2) inferInstance <| if (n_wide l1 l2 l3) = (0 : Int32) then (B_X8_combine_25 N l4 (n_wide l1 l2 l3) (cR u 3) 22 l1 0 u) else (B_X8_combine_25 N l4 (n_wide l1 l2 l3) (cR u 3) 22 l1 1 u)
set_option maxHeartbeats 4000000 in
theorem b_X8_combine_0 {r : Int32} (X : CC p s m args c cX8_combine 6 (Cond.code yX8_combine cX8_combine 6 (some .int)) RX8 D kA V A) (hE : CEi p l e R s m args below meth c cX8_combine D kA Z A Q r w) (hF : 1 ≤ R.frames) (hL : 24 ≤ R.locals) {l1 : Int32} {l2 : Int32} {l3 : Int32} {l4 : Int32} {u : CSt}  (h : B_X8_combine_0 N l1 l2 l3 l4 u = some (r, w))  (hS : CS D kA Z A s u H locs) (hl : lv_has ls 6 [(0, .ref (Z 229)), (1, .int l1), (2, .int l2), (3, .int l3), (4, .int l4)]) : W p l e R s m args below meth c H locs 0 0 Q (F0 m 0 ls []) := by
  obtain ⟨⟨hx, hb, hml, hown, hts⟩, hK, hEV, hA⟩ := id X
  have hG : ∀ w ∈ GW, w.before args s = true := fun w h => hts w (List.mem_cons_of_mem _ h)
  unfold B_X8_combine_0 at h
  refine lv_iload_n hx hb dX8_combine_0 rfl (lv_at hl 1 rfl) ?_
  refine lv_iload_n hx hb dX8_combine_1 rfl (lv_at hl 2 rfl) ?_
  refine lv_iload_n hx hb dX8_combine_2 rfl (lv_at hl 3 rfl) ?_
  refine vp_callSi (W.runS (As := [.int l1, .int l2, .int l3]) (rest := []) X.1 (c_X5_isWide l l1 l2 l3) (va_cwS 3 hts (gw_P gw_1268 gw_1269 gw_24 gwp_X5_isWide) rfl rfl rfl (by decide +kernel) ⟨Nat.le_trans (Nat.le_of_ble_eq_true rfl) hF, Nat.le_trans (Nat.le_of_ble_eq_true rfl) hL⟩) ⟨fun _ _ _ _ q => q, fun _ _ _ => ⟨rfl, trivial⟩⟩ rfl rfl hl.1 rfl (lv_room (Nat.le_of_ble_eq_true rfl)) dX8_combine_3 ⟨Nat.zero_le _, Nat.zero_le _⟩) (fun r_4 q_5 => ?_)
  subst q_5
  refine lv_istore (lv' := [(5, .int (n_wide l1 l2 l3)), (0, .ref (Z 229)), (1, .int l1), (2, .int l2), (3, .int l3), (4, .int l4)]) hx hb dX8_combine_6 hl (by decide) rfl (fun ls hl => ?_)
  refine lv_aload_n hx hb dX8_combine_8 rfl (lv_at hl 1 rfl) ?_
  refine cg_X8_28 X hS dX8_combine_9 ?_
  obtain ⟨z_6, h⟩ := ok_of h
  refine lv_bipush (v := 22) hx hb dX8_combine_12 (by decide) ?_
  refine lv_iload_n hx hb dX8_combine_14 rfl (lv_at hl 2 rfl) ?_
  refine lv_iload hx hb dX8_combine_15 (lv_at hl 0 rfl) ?_
  refine lv_if_eq (tgt := 24) hx hb dX8_combine_17 (by decide) (fun c_7 => ?_) (fun c_7 => ?_)
  · have h := ip (c_7) h
    refine lv_iconst (v := 0) hx hb dX8_combine_24 (by decide) ?_
    exact b_X8_combine_25 X hE  hF hL  h z_6 hS (lv_sub hl [5, 0] rfl)
  · have h := im (c_7) h
    refine lv_iconst (v := 1) hx hb dX8_combine_20 (by decide) ?_
    refine lv_goto (tgt := 25) hx hb dX8_combine_21 (by decide) ?_
    exact b_X8_combine_25 X hE  hF hL  h z_6 hS (lv_sub hl [5, 0] rfl)
def F_X8_combine (N : Nat) (l1 : Int32) (l2 : Int32) (l3 : Int32) (l4 : Int32) (u : CSt) : Option (Int32 × CSt) := B_X8_combine_0 N l1 l2 l3 l4 u
set_option maxHeartbeats 4000000 in
theorem k_X8_combine (l : Launch) (D : va_G) (kA : Nat → ClassId) (V Z : Nat → Nat) (N : Nat) (l1 : Int32) (l2 : Int32) (l3 : Int32) (l4 : Int32) (u : CSt) (sz : Nat) {r : Int32} {w : CSt} (h : F_X8_combine N l1 l2 l3 l4 u = some (r, w)) : Met l yX8_combine (Cond.code yX8_combine cX8_combine 6 (some .int) :: GW) { frames := 1, cells := 0, slots := 0, locals := 24 } (cPc D kA V Z [.ref (Z 229), .int l1, .int l2, .int l3, .int l4] u sz) (cQi D kA Z u sz r w) 0 0 (va_A (CW kA Z u) sz) := by
  refine Met.ofW (cc := cX8_combine) (maxL := 6) (ret := (some .int)) (by decide) rfl ?_
  intro p e s m args below meth c s₁ Bd hml hv
  obtain ⟨rfl, hsz, hP, hK, hD0, hE⟩ := hv
  have hts := atoms_spec (ws := Cond.code yX8_combine cX8_combine 6 (some .int) :: GW) Bd.pre
  have hl := lv_entry ([.ref (Z 229), .int l1, .int l2, .int l3, .int l4]) (n := 6) (Nat.le_of_ble_eq_true rfl)
  rw [lg_entry_eq]
  generalize (lg_sl ([.ref (Z 229), .int l1, .int l2, .int l3, .int l4]) ++ List.replicate (6 - (lg_sl ([.ref (Z 229), .int l1, .int l2, .int l3, .int l4])).length) Slot.unset).toArray = ls at hl ⊢
  have hl : lv_has ls 6 [(0, .ref (Z 229)), (1, .int l1), (2, .int l2), (3, .int l3), (4, .int l4)] := hl
  subst hsz
  have X : CC p s m ([.ref (Z 229), .int l1, .int l2, .int l3, .int l4]).toArray c cX8_combine 6 (Cond.code yX8_combine cX8_combine 6 (some .int)) RX8 D kA V (va_A (CW kA Z u) s.heap.size) := ⟨⟨Bd.exec, Bd.bytes, hml, findClass_of_methodNamed Bd.named, hts⟩, hK, hE, fun q h => Or.inr h⟩
  refine b_X8_combine_0 X (cend_i X Bd.returns Bd.notSynchronized) (Nat.le_refl _) (Nat.le_refl _) h  ⟨hP, hD0.self, va_S.rf⟩ (lv_sub hl [0, 1, 2, 3, 4] rfl)
theorem kc_X8_combine_RX8 {cc : ByteArray} {pc nL : Nat} {c0 : Cond} {rest : List Value} {l1 : Int32} {l2 : Int32} {l3 : Int32} {l4 : Int32} {u w1 : CSt} {r : Int32} (X : CC p s m args c cc nL c0 RX8 D kA V A)  (hS : CS D kA Z A s u H locs) (h : F_X8_combine N l1 l2 l3 l4 u = some (r, w1)) (hF : 1 + 1 ≤ R.frames) (hL : 8 + (6 + 11) + 24 ≤ R.locals) (hl : ls.size = nL) (hc : (rest.map fun v => v.category).sum ≤ 8) (hdg : decode cc pc = .ok (.invokevirtual 158, 3)) (kk : ∀ H locs, CS D kA Z A s w1 H locs → W p l e R s m args below meth c H locs 0 0 Q (F0 m (pc + 3) ls (.int r :: rest))) : W p l e R s m args below meth c H locs 0 0 Q (F0 m pc ls (.int l4 :: .int l3 :: .int l2 :: .int l1 :: .ref (Z 229) :: rest)) :=
  ccall_i (n := 4) X hS (k_X8_combine l D kA V Z N l1 l2 l3 l4  u H.size h) (gw_V gw_1264 gw_1265 gw_1266 gw_14 gw_1267) (by decide +kernel) (va_recv X.2.1 hS.1 (ci := 7) (q0 := 29) rfl (cw_lit rfl)) hF hL rfl hl hc rfl hdg kk
theorem kc_X8_combine_RX3 {cc : ByteArray} {pc nL : Nat} {c0 : Cond} {rest : List Value} {l1 : Int32} {l2 : Int32} {l3 : Int32} {l4 : Int32} {u w1 : CSt} {r : Int32} (X : CC p s m args c cc nL c0 RX3 D kA V A)  (hS : CS D kA Z A s u H locs) (h : F_X8_combine N l1 l2 l3 l4 u = some (r, w1)) (hF : 1 + 1 ≤ R.frames) (hL : 8 + (6 + 11) + 24 ≤ R.locals) (hl : ls.size = nL) (hc : (rest.map fun v => v.category).sum ≤ 8) (hdg : decode cc pc = .ok (.invokevirtual 326, 3)) (kk : ∀ H locs, CS D kA Z A s w1 H locs → W p l e R s m args below meth c H locs 0 0 Q (F0 m (pc + 3) ls (.int r :: rest))) : W p l e R s m args below meth c H locs 0 0 Q (F0 m pc ls (.int l4 :: .int l3 :: .int l2 :: .int l1 :: .ref (Z 229) :: rest)) :=
  ccall_i (n := 4) X hS (k_X8_combine l D kA V Z N l1 l2 l3 l4  u H.size h) (gw_V gw_1307 gw_1265 gw_1266 gw_14 gw_1267) (by decide +kernel) (va_recv X.2.1 hS.1 (ci := 7) (q0 := 29) rfl (cw_lit rfl)) hF hL rfl hl hc rfl hdg kk
def B_X8_defer_121 (N : Nat) (u : CSt) : Option (Int32 × CSt) := bc (F_X9_next N u) fun _ u_1 => some (0, u_1)
set_option maxHeartbeats 4000000 in
theorem b_X8_defer_121 {r : Int32} (X : CC p s m args c cX8_defer 6 (Cond.code yX8_defer cX8_defer 6 none) RX8 D kA V A) (hE : CEv p l e R s m args below meth c cX8_defer D kA Z A Q w) (hF : 1 ≤ R.frames) (hL : 24 ≤ R.locals) {u : CSt}  (h : B_X8_defer_121 N u = some (r, w))  (hS : CS D kA Z A s u H locs) (hl : lv_has ls 6 [(0, .ref (Z 229))]) : W p l e R s m args below meth c H locs 0 0 Q (F0 m 121 ls []) := by
  obtain ⟨⟨hx, hb, hml, hown, hts⟩, hK, hEV, hA⟩ := id X
  have hG : ∀ w ∈ GW, w.before args s = true := fun w h => hts w (List.mem_cons_of_mem _ h)
  unfold B_X8_defer_121 at h
  refine lv_aload_n hx hb dX8_defer_121 rfl (lv_at hl 0 rfl) ?_
  refine cg_X8_24 X hS dX8_defer_122 ?_
  obtain ⟨r_u_1, u_1, h_u_1, h⟩ := bc_of h
  refine kc_X9_next_RX8 X  hS h_u_1 (Nat.le_trans (Nat.le_of_ble_eq_true rfl) hF) (Nat.le_trans (Nat.le_of_ble_eq_true rfl) hL) hl.1 (Nat.le_of_ble_eq_true rfl) dX8_defer_125 (fun H locs hS => ?_)
  obtain ⟨-, rfl⟩ := so9 h
  exact hE _ _ _ _ hS dX8_defer_128
def B_X8_defer_41 (N : Nat) (l1 : Int32) (l2 : Int32) (l3 : Int32) (s0 : Int32) (u : CSt) : Option (Int32 × CSt) := ok (cR u 3 < 2) inferInstance <| bc (F_X6_step N (cR u 3) (s0 + 64) (-1) 0 l3 u) fun r_4 u_3 => if (250 : Int32) ≤ (cI u_3 16) then (B_X8_defer_121 N u_3) else (wc 250 (cI u_3 16) (xA u_3 230 (cI u_3 16).toNatClampNeg l2) fun u_7 => wc 250 (cI u_7 16) (xA u_7 231 (cI u_7 16).toNatClampNeg l3) fun u_9 => wc 250 (cI u_9 16) (xA u_9 232 (cI u_9 16).toNatClampNeg l1) fun u_11 => wc 250 (cI u_11 16) (xA u_11 233 (cI u_11 16).toNatClampNeg r_4) fun u_13 => pc (xI u_13 16 ((cI u_13 16) + 1)) fun u_14 => B_X8_defer_121 N u_14)
set_option maxHeartbeats 4000000 in
theorem b_X8_defer_41 {r : Int32} (X : CC p s m args c cX8_defer 6 (Cond.code yX8_defer cX8_defer 6 none) RX8 D kA V A) (hE : CEv p l e R s m args below meth c cX8_defer D kA Z A Q w) (hF : 1 ≤ R.frames) (hL : 24 ≤ R.locals) {l1 : Int32} {l2 : Int32} {l3 : Int32} {s0 : Int32} {u : CSt}  (h : B_X8_defer_41 N l1 l2 l3 s0 u = some (r, w))  (hS : CS D kA Z A s u H locs) (hl : lv_has ls 6 [(0, .ref (Z 229)), (1, .int l1), (2, .int l2), (3, .int l3)]) : W p l e R s m args below meth c H locs 0 0 Q (F0 m 41 ls [.int s0]) := by
  obtain ⟨⟨hx, hb, hml, hown, hts⟩, hK, hEV, hA⟩ := id X
  have hG : ∀ w ∈ GW, w.before args s = true := fun w h => hts w (List.mem_cons_of_mem _ h)
  unfold B_X8_defer_41 at h
  refine lv_istore (lv' := [(4, .int s0), (0, .ref (Z 229)), (1, .int l1), (2, .int l2), (3, .int l3)]) hx hb dX8_defer_41 hl (by decide) rfl (fun ls hl => ?_)
  refine lv_aload_n hx hb dX8_defer_43 rfl (lv_at hl 1 rfl) ?_
  refine cg_X8_28 X hS dX8_defer_44 ?_
  obtain ⟨z_2, h⟩ := ok_of h
  refine lv_iload hx hb dX8_defer_47 (lv_at hl 0 rfl) ?_
  refine lv_bipush (v := 64) hx hb dX8_defer_49 (by decide) ?_
  refine lv_iadd hx hb dX8_defer_51 ?_
  refine lv_iconst (v := (-1)) hx hb dX8_defer_52 (by decide) ?_
  refine lv_iconst (v := 0) hx hb dX8_defer_53 (by decide) ?_
  refine lv_iload_n hx hb dX8_defer_54 rfl (lv_at hl 4 rfl) ?_
  obtain ⟨r_4, u_3, h_u_3, h⟩ := bc_of h
  refine kc_X6_step_RX8 X z_2 hS h_u_3 (Nat.le_trans (Nat.le_of_ble_eq_true rfl) hF) (Nat.le_trans (Nat.le_of_ble_eq_true rfl) hL) hl.1 (Nat.le_of_ble_eq_true rfl) dX8_defer_55 (fun H locs hS => ?_)
  refine lv_istore (lv' := [(5, .int r_4), (4, .int s0), (0, .ref (Z 229)), (1, .int l1), (2, .int l2), (3, .int l3)]) hx hb dX8_defer_58 hl (by decide) rfl (fun ls hl => ?_)
  refine lv_aload_n hx hb dX8_defer_60 rfl (lv_at hl 2 rfl) ?_
  refine cg_X8_32 X hS dX8_defer_61 ?_
  refine lv_sipush (v := 250) hx hb dX8_defer_64 (by decide) ?_
  refine lv_icmp_ge (tgt := 121) hx hb dX8_defer_67 (by decide) (fun c_5 => ?_) (fun c_5 => ?_)
  · have h := ip (c_5) h
    exact b_X8_defer_121 X hE  hF hL  h  hS (lv_sub hl [2] rfl)
  · have h := im (c_5) h
    refine lv_aload_n hx hb dX8_defer_70 rfl (lv_at hl 2 rfl) ?_
    refine cg_X8_9 X hS dX8_defer_71 ?_
    refine lv_aload_n hx hb dX8_defer_74 rfl (lv_at hl 2 rfl) ?_
    refine cg_X8_32 X hS dX8_defer_75 ?_
    refine lv_iload_n hx hb dX8_defer_78 rfl (lv_at hl 4 rfl) ?_
    obtain ⟨u_7, e_u_7, i_6, h⟩ := wc_of h
    refine cs_s230 X hS i_6 e_u_7 dX8_defer_79 (fun H locs hS => ?_)
    refine lv_aload_n hx hb dX8_defer_80 rfl (lv_at hl 2 rfl) ?_
    refine cg_X8_15 X hS dX8_defer_81 ?_
    refine lv_aload_n hx hb dX8_defer_84 rfl (lv_at hl 2 rfl) ?_
    refine cg_X8_32 X hS dX8_defer_85 ?_
    refine lv_iload_n hx hb dX8_defer_88 rfl (lv_at hl 5 rfl) ?_
    obtain ⟨u_9, e_u_9, i_8, h⟩ := wc_of h
    refine cs_s231 X hS i_8 e_u_9 dX8_defer_89 (fun H locs hS => ?_)
    refine lv_aload_n hx hb dX8_defer_90 rfl (lv_at hl 2 rfl) ?_
    refine cg_X8_18 X hS dX8_defer_91 ?_
    refine lv_aload_n hx hb dX8_defer_94 rfl (lv_at hl 2 rfl) ?_
    refine cg_X8_32 X hS dX8_defer_95 ?_
    refine lv_iload_n hx hb dX8_defer_98 rfl (lv_at hl 3 rfl) ?_
    obtain ⟨u_11, e_u_11, i_10, h⟩ := wc_of h
    refine cs_s232 X hS i_10 e_u_11 dX8_defer_99 (fun H locs hS => ?_)
    refine lv_aload_n hx hb dX8_defer_100 rfl (lv_at hl 2 rfl) ?_
    refine cg_X8_21 X hS dX8_defer_101 ?_
    refine lv_aload_n hx hb dX8_defer_104 rfl (lv_at hl 2 rfl) ?_
    refine cg_X8_32 X hS dX8_defer_105 ?_
    refine lv_iload hx hb dX8_defer_108 (lv_at hl 0 rfl) ?_
    obtain ⟨u_13, e_u_13, i_12, h⟩ := wc_of h
    refine cs_s233 X hS i_12 e_u_13 dX8_defer_110 (fun H locs hS => ?_)
    refine lv_aload_n hx hb dX8_defer_111 rfl (lv_at hl 2 rfl) ?_
    refine lv_dup hx hb dX8_defer_112 rfl ?_
    refine cg_X8_32 X hS dX8_defer_113 ?_
    refine lv_iconst (v := 1) hx hb dX8_defer_116 (by decide) ?_
    refine lv_iadd hx hb dX8_defer_117 ?_
    obtain ⟨u_14, e_u_14, h⟩ := pc_of h
    refine cp_X8_32 X hS e_u_14 dX8_defer_118 (fun H locs hS => ?_)
    exact b_X8_defer_121 X hE  hF hL  h  hS (lv_sub hl [2] rfl)
def B_X8_defer_0 (N : Nat) (l1 : Int32) (u : CSt) : Option (Int32 × CSt) := bc (F_X9_type N u) fun r_16 u_15 => bc (F_X9_here N u_15) fun r_18 u_17 => if r_16 = (9766 : Int32) then (B_X8_defer_41 N l1 r_16 r_18 32 u_17) else (if r_16 = (31868 : Int32) then (B_X8_defer_41 N l1 r_16 r_18 33 u_17) else (B_X8_defer_41 N l1 r_16 r_18 0 u_17))
set_option maxHeartbeats 4000000 in
theorem b_X8_defer_0 {r : Int32} (X : CC p s m args c cX8_defer 6 (Cond.code yX8_defer cX8_defer 6 none) RX8 D kA V A) (hE : CEv p l e R s m args below meth c cX8_defer D kA Z A Q w) (hF : 1 ≤ R.frames) (hL : 24 ≤ R.locals) {l1 : Int32} {u : CSt}  (h : B_X8_defer_0 N l1 u = some (r, w))  (hS : CS D kA Z A s u H locs) (hl : lv_has ls 6 [(0, .ref (Z 229)), (1, .int l1)]) : W p l e R s m args below meth c H locs 0 0 Q (F0 m 0 ls []) := by
  obtain ⟨⟨hx, hb, hml, hown, hts⟩, hK, hEV, hA⟩ := id X
  have hG : ∀ w ∈ GW, w.before args s = true := fun w h => hts w (List.mem_cons_of_mem _ h)
  unfold B_X8_defer_0 at h
  refine lv_aload_n hx hb dX8_defer_0 rfl (lv_at hl 0 rfl) ?_
  refine cg_X8_24 X hS dX8_defer_1 ?_
  obtain ⟨r_16, u_15, h_u_15, h⟩ := bc_of h
  refine kc_X9_type_RX8 X  hS h_u_15 (Nat.le_trans (Nat.le_of_ble_eq_true rfl) hF) (Nat.le_trans (Nat.le_of_ble_eq_true rfl) hL) hl.1 (Nat.le_of_ble_eq_true rfl) dX8_defer_4 (fun H locs hS => ?_)
  refine lv_istore_n (lv' := [(2, .int r_16), (0, .ref (Z 229)), (1, .int l1)]) hx hb dX8_defer_7 rfl hl (by decide) rfl (fun ls hl => ?_)
  refine lv_aload_n hx hb dX8_defer_8 rfl (lv_at hl 1 rfl) ?_
  refine cg_X8_24 X hS dX8_defer_9 ?_
  obtain ⟨r_18, u_17, h_u_17, h⟩ := bc_of h
  refine kc_X9_here_RX8 X  hS h_u_17 (Nat.le_trans (Nat.le_of_ble_eq_true rfl) hF) (Nat.le_trans (Nat.le_of_ble_eq_true rfl) hL) hl.1 (Nat.le_of_ble_eq_true rfl) dX8_defer_12 (fun H locs hS => ?_)
  refine lv_istore_n (lv' := [(3, .int r_18), (2, .int r_16), (0, .ref (Z 229)), (1, .int l1)]) hx hb dX8_defer_15 rfl hl (by decide) rfl (fun ls hl => ?_)
  refine lv_iload_n hx hb dX8_defer_16 rfl (lv_at hl 1 rfl) ?_
  refine lv_sipush (v := 9766) hx hb dX8_defer_17 (by decide) ?_
  refine lv_icmp_ne (tgt := 28) hx hb dX8_defer_20 (by decide) (fun c_19 => ?_) (fun c_19 => ?_)
  · have h := im (c_19) h
    refine lv_iload_n hx hb dX8_defer_28 rfl (lv_at hl 1 rfl) ?_
    refine lv_sipush (v := 31868) hx hb dX8_defer_29 (by decide) ?_
    refine lv_icmp_ne (tgt := 40) hx hb dX8_defer_32 (by decide) (fun c_20 => ?_) (fun c_20 => ?_)
    · have h := im (c_20) h
      refine lv_iconst (v := 0) hx hb dX8_defer_40 (by decide) ?_
      exact b_X8_defer_41 X hE  hF hL  h  hS (lv_sub hl [2, 3, 1, 0] rfl)
    · have h := ip (c_20) h
      refine lv_bipush (v := 33) hx hb dX8_defer_35 (by decide) ?_
      refine lv_goto (tgt := 41) hx hb dX8_defer_37 (by decide) ?_
      exact b_X8_defer_41 X hE  hF hL  h  hS (lv_sub hl [2, 3, 1, 0] rfl)
  · have h := ip (c_19) h
    refine lv_bipush (v := 32) hx hb dX8_defer_23 (by decide) ?_
    refine lv_goto (tgt := 41) hx hb dX8_defer_25 (by decide) ?_
    exact b_X8_defer_41 X hE  hF hL  h  hS (lv_sub hl [2, 3, 1, 0] rfl)
def F_X8_defer (N : Nat) (l1 : Int32) (u : CSt) : Option (Int32 × CSt) := B_X8_defer_0 N l1 u
set_option maxHeartbeats 4000000 in
theorem k_X8_defer (l : Launch) (D : va_G) (kA : Nat → ClassId) (V Z : Nat → Nat) (N : Nat) (l1 : Int32) (u : CSt) (sz : Nat) {r : Int32} {w : CSt} (h : F_X8_defer N l1 u = some (r, w)) : Met l yX8_defer (Cond.code yX8_defer cX8_defer 6 none :: GW) { frames := 1, cells := 0, slots := 0, locals := 24 } (cPc D kA V Z [.ref (Z 229), .int l1] u sz) (cQv D kA Z u sz w) 0 0 (va_A (CW kA Z u) sz) := by
  refine Met.ofW (cc := cX8_defer) (maxL := 6) (ret := none) (by decide) rfl ?_
  intro p e s m args below meth c s₁ Bd hml hv
  obtain ⟨rfl, hsz, hP, hK, hD0, hE⟩ := hv
  have hts := atoms_spec (ws := Cond.code yX8_defer cX8_defer 6 none :: GW) Bd.pre
  have hl := lv_entry ([.ref (Z 229), .int l1]) (n := 6) (Nat.le_of_ble_eq_true rfl)
  rw [lg_entry_eq]
  generalize (lg_sl ([.ref (Z 229), .int l1]) ++ List.replicate (6 - (lg_sl ([.ref (Z 229), .int l1])).length) Slot.unset).toArray = ls at hl ⊢
  have hl : lv_has ls 6 [(0, .ref (Z 229)), (1, .int l1)] := hl
  subst hsz
  have X : CC p s m ([.ref (Z 229), .int l1]).toArray c cX8_defer 6 (Cond.code yX8_defer cX8_defer 6 none) RX8 D kA V (va_A (CW kA Z u) s.heap.size) := ⟨⟨Bd.exec, Bd.bytes, hml, findClass_of_methodNamed Bd.named, hts⟩, hK, hE, fun q h => Or.inr h⟩
  refine b_X8_defer_0 X (cend_v X Bd.returns Bd.notSynchronized) (Nat.le_refl _) (Nat.le_refl _) h  ⟨hP, hD0.self, va_S.rf⟩ (lv_sub hl [0, 1] rfl)
theorem kc_X8_defer_RX8 {cc : ByteArray} {pc nL : Nat} {c0 : Cond} {rest : List Value} {l1 : Int32} {u w1 : CSt} {r : Int32} (X : CC p s m args c cc nL c0 RX8 D kA V A)  (hS : CS D kA Z A s u H locs) (h : F_X8_defer N l1 u = some (r, w1)) (hF : 1 + 1 ≤ R.frames) (hL : 8 + (6 + 11) + 24 ≤ R.locals) (hl : ls.size = nL) (hc : (rest.map fun v => v.category).sum ≤ 8) (hdg : decode cc pc = .ok (.invokevirtual 149, 3)) (kk : ∀ H locs, CS D kA Z A s w1 H locs → W p l e R s m args below meth c H locs 0 0 Q (F0 m (pc + 3) ls (rest))) : W p l e R s m args below meth c H locs 0 0 Q (F0 m pc ls (.int l1 :: .ref (Z 229) :: rest)) :=
  ccall_v (n := 1) X hS (k_X8_defer l D kA V Z N l1  u H.size h) (gw_V gw_1271 gw_1273 gs_5_1 gw_14 gw_1274) (by decide +kernel) (va_recv X.2.1 hS.1 (ci := 7) (q0 := 29) rfl (cw_lit rfl)) hF hL rfl hl hc rfl hdg kk
def B_X8_settle_171 (N : Nat) (R_3 : Int32 × Int32 × Int32 × CSt → Option (Int32 × CSt)) (l1 : Int32) (l2 : Int32) (l4 : Int32) (u : CSt) : Option (Int32 × CSt) := R_3 (l1, l2, l4, u)
set_option maxHeartbeats 4000000 in
theorem b_X8_settle_171 {r : Int32} (X : CC p s m args c cX8_settle 8 (Cond.code yX8_settle cX8_settle 8 (some .int)) RX8 D kA V A) (hE : CEi p l e R s m args below meth c cX8_settle D kA Z A Q r w) (hF : 2 ≤ R.frames) (hL : 49 ≤ R.locals) {R_3 : Int32 × Int32 × Int32 × CSt → Option (Int32 × CSt)} {l1 : Int32} {l2 : Int32} {l4 : Int32} {u : CSt} (hR_3 : ∀ (l1 : Int32) (l2 : Int32) (l4 : Int32) (u : CSt), R_3 (l1, l2, l4, u) = some (r, w) → ∀ (H : Heap) (locs : List Loc) (ls : Array Slot), CS D kA Z A s u H locs → lv_has ls 8 [(0, .ref (Z 229)), (1, .int l1), (2, .int l2), (4, .int l4)] → W p l e R s m args below meth c H locs 0 0 Q (F0 m 3 ls [])) (h : B_X8_settle_171 N R_3 l1 l2 l4 u = some (r, w))  (hS : CS D kA Z A s u H locs) (hl : lv_has ls 8 [(0, .ref (Z 229)), (1, .int l1), (2, .int l2), (4, .int l4)]) : W p l e R s m args below meth c H locs 0 0 Q (F0 m 171 ls []) := by
  obtain ⟨⟨hx, hb, hml, hown, hts⟩, hK, hEV, hA⟩ := id X
  have hG : ∀ w ∈ GW, w.before args s = true := fun w h => hts w (List.mem_cons_of_mem _ h)
  unfold B_X8_settle_171 at h
  refine lv_goto (tgt := 3) hx hb dX8_settle_171 (by decide) ?_
  exact hR_3 _ _ _ _  h _ _ _ hS (lv_sub hl [0, 1, 2, 3] rfl)
def B_X8_settle_84 (N : Nat) (R_3 : Int32 × Int32 × Int32 × CSt → Option (Int32 × CSt)) (l1 : Int32) (l2 : Int32) (l6 : Int32) (u : CSt) : Option (Int32 × CSt) := ok (cR u 3 < 2) inferInstance <| bc (F_X6_step N (cR u 3) 26 0 0 l6 u) fun r_3 u_2 => ok (cR u_2 3 < 2) inferInstance <| rd (cA u_2 233) 250 (cI u_2 16) fun v_6 => bc (F_X6_land N (cR u_2 3) v_6 u_2) fun _ u_7 => B_X8_settle_171 N R_3 l1 l2 3 u_7
set_option maxHeartbeats 4000000 in
theorem b_X8_settle_84 {r : Int32} (X : CC p s m args c cX8_settle 8 (Cond.code yX8_settle cX8_settle 8 (some .int)) RX8 D kA V A) (hE : CEi p l e R s m args below meth c cX8_settle D kA Z A Q r w) (hF : 2 ≤ R.frames) (hL : 49 ≤ R.locals) {R_3 : Int32 × Int32 × Int32 × CSt → Option (Int32 × CSt)} {l1 : Int32} {l2 : Int32} {l6 : Int32} {u : CSt} (hR_3 : ∀ (l1 : Int32) (l2 : Int32) (l4 : Int32) (u : CSt), R_3 (l1, l2, l4, u) = some (r, w) → ∀ (H : Heap) (locs : List Loc) (ls : Array Slot), CS D kA Z A s u H locs → lv_has ls 8 [(0, .ref (Z 229)), (1, .int l1), (2, .int l2), (4, .int l4)] → W p l e R s m args below meth c H locs 0 0 Q (F0 m 3 ls [])) (h : B_X8_settle_84 N R_3 l1 l2 l6 u = some (r, w))  (hS : CS D kA Z A s u H locs) (hl : lv_has ls 8 [(0, .ref (Z 229)), (1, .int l1), (2, .int l2), (6, .int l6)]) : W p l e R s m args below meth c H locs 0 0 Q (F0 m 84 ls []) := by
  obtain ⟨⟨hx, hb, hml, hown, hts⟩, hK, hEV, hA⟩ := id X
  have hG : ∀ w ∈ GW, w.before args s = true := fun w h => hts w (List.mem_cons_of_mem _ h)
  unfold B_X8_settle_84 at h
  refine lv_aload_n hx hb dX8_settle_84 rfl (lv_at hl 0 rfl) ?_
  refine cg_X8_28 X hS dX8_settle_85 ?_
  obtain ⟨z_1, h⟩ := ok_of h
  refine lv_bipush (v := 26) hx hb dX8_settle_88 (by decide) ?_
  refine lv_iconst (v := 0) hx hb dX8_settle_90 (by decide) ?_
  refine lv_iconst (v := 0) hx hb dX8_settle_91 (by decide) ?_
  refine lv_iload hx hb dX8_settle_92 (lv_at hl 3 rfl) ?_
  obtain ⟨r_3, u_2, h_u_2, h⟩ := bc_of h
  refine kc_X6_step_RX8 X z_1 hS h_u_2 (Nat.le_trans (Nat.le_of_ble_eq_true rfl) hF) (Nat.le_trans (Nat.le_of_ble_eq_true rfl) hL) hl.1 (Nat.le_of_ble_eq_true rfl) dX8_settle_94 (fun H locs hS => ?_)
  refine lv_pop hx hb dX8_settle_97 rfl ?_
  refine lv_aload_n hx hb dX8_settle_98 rfl (lv_at hl 0 rfl) ?_
  refine cg_X8_28 X hS dX8_settle_99 ?_
  obtain ⟨z_4, h⟩ := ok_of h
  refine lv_aload_n hx hb dX8_settle_102 rfl (lv_at hl 0 rfl) ?_
  refine cg_X8_21 X hS dX8_settle_103 ?_
  refine lv_aload_n hx hb dX8_settle_106 rfl (lv_at hl 0 rfl) ?_
  refine cg_X8_32 X hS dX8_settle_107 ?_
  obtain ⟨v_6, e_v_6, i_5, h⟩ := rd_of h
  refine ca_s233 X hS i_5 e_v_6 dX8_settle_110 ?_
  obtain ⟨r_u_7, u_7, h_u_7, h⟩ := bc_of h
  refine kc_X6_land_RX8 X z_4 hS h_u_7 (Nat.le_trans (Nat.le_of_ble_eq_true rfl) hF) (Nat.le_trans (Nat.le_of_ble_eq_true rfl) hL) hl.1 (Nat.le_of_ble_eq_true rfl) dX8_settle_111 (fun H locs hS => ?_)
  refine lv_iconst (v := 3) hx hb dX8_settle_114 (by decide) ?_
  refine lv_istore (lv' := [(4, .int 3), (0, .ref (Z 229)), (1, .int l1), (2, .int l2), (6, .int l6)]) hx hb dX8_settle_115 hl (by decide) rfl (fun ls hl => ?_)
  refine lv_goto (tgt := 171) hx hb dX8_settle_117 (by decide) ?_
  exact b_X8_settle_171 X hE  hF hL hR_3 h  hS (lv_sub hl [1, 2, 3, 0] rfl)
def B_X8_settle_3 (N : Nat) (R_3 : Int32 × Int32 × Int32 × CSt → Option (Int32 × CSt)) (l1 : Int32) (l2 : Int32) (l4 : Int32) (u : CSt) : Option (Int32 × CSt) := if (cI u 16) ≤ l1 then (some (l4, u)) else (rd (cA u 230) 250 ((cI u 16) - 1) fun v_10 => pb (F_X9_strength N v_10) fun r_11 => if r_11 < l2 then (some (l4, u)) else (pc (xI u 16 ((cI u 16) - 1)) fun u_15 => rd (cA u_15 230) 250 (cI u_15 16) fun v_17 => rd (cA u_15 231) 250 (cI u_15 16) fun v_19 => pb (F_X9_comparison N v_17) fun r_20 => if v_17 = (9766 : Int32) then (B_X8_settle_84 N R_3 l1 l2 v_19 u_15) else (if v_17 = (31868 : Int32) then (B_X8_settle_84 N R_3 l1 l2 v_19 u_15) else (if r_20 = ((-1) : Int32) then (pb (F_X9_operation N v_17) fun r_26 => rd (cA u_15 232) 250 (cI u_15 16) fun v_30 => bc (F_X8_combine N r_26 v_30 l4 v_19 u_15) fun r_32 u_31 => B_X8_settle_171 N R_3 l1 l2 r_32 u_31) else (ok (cR u_15 3 < 2) inferInstance <| bc (F_X6_step N (cR u_15 3) 23 r_20 0 v_19 u_15) fun r_35 u_34 => B_X8_settle_171 N R_3 l1 l2 3 u_34)))))
set_option maxHeartbeats 4000000 in
theorem b_X8_settle_3 {r : Int32} (X : CC p s m args c cX8_settle 8 (Cond.code yX8_settle cX8_settle 8 (some .int)) RX8 D kA V A) (hE : CEi p l e R s m args below meth c cX8_settle D kA Z A Q r w) (hF : 2 ≤ R.frames) (hL : 49 ≤ R.locals) {R_3 : Int32 × Int32 × Int32 × CSt → Option (Int32 × CSt)} {l1 : Int32} {l2 : Int32} {l4 : Int32} {u : CSt} (hR_3 : ∀ (l1 : Int32) (l2 : Int32) (l4 : Int32) (u : CSt), R_3 (l1, l2, l4, u) = some (r, w) → ∀ (H : Heap) (locs : List Loc) (ls : Array Slot), CS D kA Z A s u H locs → lv_has ls 8 [(0, .ref (Z 229)), (1, .int l1), (2, .int l2), (4, .int l4)] → W p l e R s m args below meth c H locs 0 0 Q (F0 m 3 ls [])) (h : B_X8_settle_3 N R_3 l1 l2 l4 u = some (r, w))  (hS : CS D kA Z A s u H locs) (hl : lv_has ls 8 [(0, .ref (Z 229)), (1, .int l1), (2, .int l2), (4, .int l4)]) : W p l e R s m args below meth c H locs 0 0 Q (F0 m 3 ls []) := by
  obtain ⟨⟨hx, hb, hml, hown, hts⟩, hK, hEV, hA⟩ := id X
  have hG : ∀ w ∈ GW, w.before args s = true := fun w h => hts w (List.mem_cons_of_mem _ h)
  unfold B_X8_settle_3 at h
  refine lv_aload_n hx hb dX8_settle_3 rfl (lv_at hl 0 rfl) ?_
  refine cg_X8_32 X hS dX8_settle_4 ?_
  refine lv_iload_n hx hb dX8_settle_7 rfl (lv_at hl 1 rfl) ?_
  refine lv_icmp_le (tgt := 174) hx hb dX8_settle_8 (by decide) (fun c_8 => ?_) (fun c_8 => ?_)
  · have h := ip (c_8) h
    refine lv_iload hx hb dX8_settle_174 (lv_at hl 3 rfl) ?_
    obtain ⟨rfl, rfl⟩ := so9 h
    exact hE _ _ _ _ hS dX8_settle_176
  · have h := im (c_8) h
    refine lv_aload_n hx hb dX8_settle_11 rfl (lv_at hl 0 rfl) ?_
    refine cg_X8_9 X hS dX8_settle_12 ?_
    refine lv_aload_n hx hb dX8_settle_15 rfl (lv_at hl 0 rfl) ?_
    refine cg_X8_32 X hS dX8_settle_16 ?_
    refine lv_iconst (v := 1) hx hb dX8_settle_19 (by decide) ?_
    refine lv_isub hx hb dX8_settle_20 ?_
    obtain ⟨v_10, e_v_10, i_9, h⟩ := rd_of h
    refine ca_s230 X hS i_9 e_v_10 dX8_settle_21 ?_
    obtain ⟨r_11, e_r_11, h⟩ := pb_of h
    refine vp_callSi (W.runS (As := [.int v_10]) (rest := []) X.1 (k_X9_strength l N v_10 e_r_11) (va_cwS 1 hts (gw_S gw_1251 gw_941 gw_2 gw_942) rfl rfl rfl (by decide +kernel) ⟨Nat.le_trans (Nat.le_of_ble_eq_true rfl) hF, Nat.le_trans (Nat.le_of_ble_eq_true rfl) hL⟩) ⟨fun _ _ _ _ q => q, fun _ _ _ => ⟨rfl, trivial⟩⟩ rfl rfl hl.1 rfl (lv_room (Nat.le_of_ble_eq_true rfl)) dX8_settle_22 ⟨Nat.zero_le _, Nat.zero_le _⟩) (fun r_12 q_13 => ?_)
    rw [q_13]
    refine lv_iload_n hx hb dX8_settle_25 rfl (lv_at hl 2 rfl) ?_
    refine lv_icmp_lt (tgt := 174) hx hb dX8_settle_26 (by decide) (fun c_14 => ?_) (fun c_14 => ?_)
    · have h := ip (c_14) h
      refine lv_iload hx hb dX8_settle_174 (lv_at hl 3 rfl) ?_
      obtain ⟨rfl, rfl⟩ := so9 h
      exact hE _ _ _ _ hS dX8_settle_176
    · have h := im (c_14) h
      refine lv_aload_n hx hb dX8_settle_29 rfl (lv_at hl 0 rfl) ?_
      refine lv_dup hx hb dX8_settle_30 rfl ?_
      refine cg_X8_32 X hS dX8_settle_31 ?_
      refine lv_iconst (v := 1) hx hb dX8_settle_34 (by decide) ?_
      refine lv_isub hx hb dX8_settle_35 ?_
      obtain ⟨u_15, e_u_15, h⟩ := pc_of h
      refine cp_X8_32 X hS e_u_15 dX8_settle_36 (fun H locs hS => ?_)
      refine lv_aload_n hx hb dX8_settle_39 rfl (lv_at hl 0 rfl) ?_
      refine cg_X8_9 X hS dX8_settle_40 ?_
      refine lv_aload_n hx hb dX8_settle_43 rfl (lv_at hl 0 rfl) ?_
      refine cg_X8_32 X hS dX8_settle_44 ?_
      obtain ⟨v_17, e_v_17, i_16, h⟩ := rd_of h
      refine ca_s230 X hS i_16 e_v_17 dX8_settle_47 ?_
      refine lv_istore (lv' := [(5, .int v_17), (0, .ref (Z 229)), (1, .int l1), (2, .int l2), (4, .int l4)]) hx hb dX8_settle_48 hl (by decide) rfl (fun ls hl => ?_)
      refine lv_aload_n hx hb dX8_settle_50 rfl (lv_at hl 1 rfl) ?_
      refine cg_X8_15 X hS dX8_settle_51 ?_
      refine lv_aload_n hx hb dX8_settle_54 rfl (lv_at hl 1 rfl) ?_
      refine cg_X8_32 X hS dX8_settle_55 ?_
      obtain ⟨v_19, e_v_19, i_18, h⟩ := rd_of h
      refine ca_s231 X hS i_18 e_v_19 dX8_settle_58 ?_
      refine lv_istore (lv' := [(6, .int v_19), (5, .int v_17), (0, .ref (Z 229)), (1, .int l1), (2, .int l2), (4, .int l4)]) hx hb dX8_settle_59 hl (by decide) rfl (fun ls hl => ?_)
      refine lv_iload hx hb dX8_settle_61 (lv_at hl 1 rfl) ?_
      obtain ⟨r_20, e_r_20, h⟩ := pb_of h
      refine vp_callSi (W.runS (As := [.int v_17]) (rest := []) X.1 (k_X9_comparison l N v_17 e_r_20) (va_cwS 1 hts (gw_S gw_1256 gw_1257 gw_2 gw_1258) rfl rfl rfl (by decide +kernel) ⟨Nat.le_trans (Nat.le_of_ble_eq_true rfl) hF, Nat.le_trans (Nat.le_of_ble_eq_true rfl) hL⟩) ⟨fun _ _ _ _ q => q, fun _ _ _ => ⟨rfl, trivial⟩⟩ rfl rfl hl.1 rfl (lv_room (Nat.le_of_ble_eq_true rfl)) dX8_settle_63 ⟨Nat.zero_le _, Nat.zero_le _⟩) (fun r_21 q_22 => ?_)
      rw [q_22]
      refine lv_istore (lv' := [(7, .int r_20), (6, .int v_19), (5, .int v_17), (0, .ref (Z 229)), (1, .int l1), (2, .int l2), (4, .int l4)]) hx hb dX8_settle_66 hl (by decide) rfl (fun ls hl => ?_)
      refine lv_iload hx hb dX8_settle_68 (lv_at hl 2 rfl) ?_
      refine lv_sipush (v := 9766) hx hb dX8_settle_70 (by decide) ?_
      refine lv_icmp_eq (tgt := 84) hx hb dX8_settle_73 (by decide) (fun c_23 => ?_) (fun c_23 => ?_)
      · have h := ip (c_23) h
        exact b_X8_settle_84 X hE  hF hL hR_3 h  hS (lv_sub hl [3, 4, 5, 1] rfl)
      · have h := im (c_23) h
        refine lv_iload hx hb dX8_settle_76 (lv_at hl 2 rfl) ?_
        refine lv_sipush (v := 31868) hx hb dX8_settle_78 (by decide) ?_
        refine lv_icmp_ne (tgt := 120) hx hb dX8_settle_81 (by decide) (fun c_24 => ?_) (fun c_24 => ?_)
        · have h := im (c_24) h
          refine lv_iload hx hb dX8_settle_120 (lv_at hl 0 rfl) ?_
          refine lv_iconst (v := (-1)) hx hb dX8_settle_122 (by decide) ?_
          refine lv_icmp_eq (tgt := 147) hx hb dX8_settle_123 (by decide) (fun c_25 => ?_) (fun c_25 => ?_)
          · have h := ip (c_25) h
            refine lv_aload_n hx hb dX8_settle_147 rfl (lv_at hl 3 rfl) ?_
            refine lv_iload hx hb dX8_settle_148 (lv_at hl 2 rfl) ?_
            obtain ⟨r_26, e_r_26, h⟩ := pb_of h
            refine vp_callSi (W.runS (As := [.int v_17]) (rest := [.ref (Z 229)]) X.1 (k_X9_operation l N v_17 e_r_26) (va_cwS 1 hts (gw_S gw_1263 gw_947 gw_2 gw_948) rfl rfl rfl (by decide +kernel) ⟨Nat.le_trans (Nat.le_of_ble_eq_true rfl) hF, Nat.le_trans (Nat.le_of_ble_eq_true rfl) hL⟩) ⟨fun _ _ _ _ q => q, fun _ _ _ => ⟨rfl, trivial⟩⟩ rfl rfl hl.1 rfl (lv_room (Nat.le_of_ble_eq_true rfl)) dX8_settle_150 ⟨Nat.zero_le _, Nat.zero_le _⟩) (fun r_27 q_28 => ?_)
            rw [q_28]
            refine lv_aload_n hx hb dX8_settle_153 rfl (lv_at hl 3 rfl) ?_
            refine cg_X8_18 X hS dX8_settle_154 ?_
            refine lv_aload_n hx hb dX8_settle_157 rfl (lv_at hl 3 rfl) ?_
            refine cg_X8_32 X hS dX8_settle_158 ?_
            obtain ⟨v_30, e_v_30, i_29, h⟩ := rd_of h
            refine ca_s232 X hS i_29 e_v_30 dX8_settle_161 ?_
            refine lv_iload hx hb dX8_settle_162 (lv_at hl 6 rfl) ?_
            refine lv_iload hx hb dX8_settle_164 (lv_at hl 1 rfl) ?_
            obtain ⟨r_32, u_31, h_u_31, h⟩ := bc_of h
            refine kc_X8_combine_RX8 X  hS h_u_31 (Nat.le_trans (Nat.le_of_ble_eq_true rfl) hF) (Nat.le_trans (Nat.le_of_ble_eq_true rfl) hL) hl.1 (Nat.le_of_ble_eq_true rfl) dX8_settle_166 (fun H locs hS => ?_)
            refine lv_istore (lv' := [(4, .int r_32), (7, .int r_20), (6, .int v_19), (5, .int v_17), (0, .ref (Z 229)), (1, .int l1), (2, .int l2)]) hx hb dX8_settle_169 hl (by decide) rfl (fun ls hl => ?_)
            exact b_X8_settle_171 X hE  hF hL hR_3 h  hS (lv_sub hl [4, 5, 6, 0] rfl)
          · have h := im (c_25) h
            refine lv_aload_n hx hb dX8_settle_126 rfl (lv_at hl 3 rfl) ?_
            refine cg_X8_28 X hS dX8_settle_127 ?_
            obtain ⟨z_33, h⟩ := ok_of h
            refine lv_bipush (v := 23) hx hb dX8_settle_130 (by decide) ?_
            refine lv_iload hx hb dX8_settle_132 (lv_at hl 0 rfl) ?_
            refine lv_iconst (v := 0) hx hb dX8_settle_134 (by decide) ?_
            refine lv_iload hx hb dX8_settle_135 (lv_at hl 1 rfl) ?_
            obtain ⟨r_35, u_34, h_u_34, h⟩ := bc_of h
            refine kc_X6_step_RX8 X z_33 hS h_u_34 (Nat.le_trans (Nat.le_of_ble_eq_true rfl) hF) (Nat.le_trans (Nat.le_of_ble_eq_true rfl) hL) hl.1 (Nat.le_of_ble_eq_true rfl) dX8_settle_137 (fun H locs hS => ?_)
            refine lv_pop hx hb dX8_settle_140 rfl ?_
            refine lv_iconst (v := 3) hx hb dX8_settle_141 (by decide) ?_
            refine lv_istore (lv' := [(4, .int 3), (7, .int r_20), (6, .int v_19), (5, .int v_17), (0, .ref (Z 229)), (1, .int l1), (2, .int l2)]) hx hb dX8_settle_142 hl (by decide) rfl (fun ls hl => ?_)
            refine lv_goto (tgt := 171) hx hb dX8_settle_144 (by decide) ?_
            exact b_X8_settle_171 X hE  hF hL hR_3 h  hS (lv_sub hl [4, 5, 6, 0] rfl)
        · have h := ip (c_24) h
          exact b_X8_settle_84 X hE  hF hL hR_3 h  hS (lv_sub hl [3, 4, 5, 1] rfl)
def LP_X8_settle_3 (N : Nat) : Nat → Int32 × Int32 × Int32 × CSt → Option (Int32 × CSt) := lp (fun R a => B_X8_settle_3 N R a.1 a.2.1 a.2.2.1 a.2.2.2)
theorem bl_X8_settle_3 {r : Int32} (X : CC p s m args c cX8_settle 8 (Cond.code yX8_settle cX8_settle 8 (some .int)) RX8 D kA V A) (hE : CEi p l e R s m args below meth c cX8_settle D kA Z A Q r w) (hF : 2 ≤ R.frames) (hL : 49 ≤ R.locals)  : ∀ (n : Nat) (l1 : Int32) (l2 : Int32) (l4 : Int32) (u : CSt), LP_X8_settle_3 N n (l1, l2, l4, u) = some (r, w) → ∀ (H : Heap) (locs : List Loc) (ls : Array Slot), CS D kA Z A s u H locs → lv_has ls 8 [(0, .ref (Z 229)), (1, .int l1), (2, .int l2), (4, .int l4)] → W p l e R s m args below meth c H locs 0 0 Q (F0 m 3 ls []) := by
  intro n
  induction n with
  | zero => intro l1 l2 l4 u h; exact nomatch h
  | succ n ih => intro l1 l2 l4 u h H locs ls hS hl; exact b_X8_settle_3 (N := N) (R_3 := LP_X8_settle_3 N n) X hE  hF hL  ih h  hS hl
def B_X8_settle_0 (N : Nat) (l1 : Int32) (l2 : Int32) (l3 : Int32) (u : CSt) : Option (Int32 × CSt) := LP_X8_settle_3 N N (l1, l2, l3, u)
set_option maxHeartbeats 4000000 in
theorem b_X8_settle_0 {r : Int32} (X : CC p s m args c cX8_settle 8 (Cond.code yX8_settle cX8_settle 8 (some .int)) RX8 D kA V A) (hE : CEi p l e R s m args below meth c cX8_settle D kA Z A Q r w) (hF : 2 ≤ R.frames) (hL : 49 ≤ R.locals) {l1 : Int32} {l2 : Int32} {l3 : Int32} {u : CSt}  (h : B_X8_settle_0 N l1 l2 l3 u = some (r, w))  (hS : CS D kA Z A s u H locs) (hl : lv_has ls 8 [(0, .ref (Z 229)), (1, .int l1), (2, .int l2), (3, .int l3)]) : W p l e R s m args below meth c H locs 0 0 Q (F0 m 0 ls []) := by
  obtain ⟨⟨hx, hb, hml, hown, hts⟩, hK, hEV, hA⟩ := id X
  have hG : ∀ w ∈ GW, w.before args s = true := fun w h => hts w (List.mem_cons_of_mem _ h)
  unfold B_X8_settle_0 at h
  refine lv_iload_n hx hb dX8_settle_0 rfl (lv_at hl 3 rfl) ?_
  refine lv_istore (lv' := [(4, .int l3), (0, .ref (Z 229)), (1, .int l1), (2, .int l2), (3, .int l3)]) hx hb dX8_settle_1 hl (by decide) rfl (fun ls hl => ?_)
  exact bl_X8_settle_3 X hE  hF hL  _ _ _ _ _  h _ _ _ hS (lv_sub hl [1, 2, 3, 0] rfl)
def F_X8_settle (N : Nat) (l1 : Int32) (l2 : Int32) (l3 : Int32) (u : CSt) : Option (Int32 × CSt) := B_X8_settle_0 N l1 l2 l3 u
set_option maxHeartbeats 4000000 in
theorem k_X8_settle (l : Launch) (D : va_G) (kA : Nat → ClassId) (V Z : Nat → Nat) (N : Nat) (l1 : Int32) (l2 : Int32) (l3 : Int32) (u : CSt) (sz : Nat) {r : Int32} {w : CSt} (h : F_X8_settle N l1 l2 l3 u = some (r, w)) : Met l yX8_settle (Cond.code yX8_settle cX8_settle 8 (some .int) :: GW) { frames := 2, cells := 0, slots := 0, locals := 49 } (cPc D kA V Z [.ref (Z 229), .int l1, .int l2, .int l3] u sz) (cQi D kA Z u sz r w) 0 0 (va_A (CW kA Z u) sz) := by
  refine Met.ofW (cc := cX8_settle) (maxL := 8) (ret := (some .int)) (by decide) rfl ?_
  intro p e s m args below meth c s₁ Bd hml hv
  obtain ⟨rfl, hsz, hP, hK, hD0, hE⟩ := hv
  have hts := atoms_spec (ws := Cond.code yX8_settle cX8_settle 8 (some .int) :: GW) Bd.pre
  have hl := lv_entry ([.ref (Z 229), .int l1, .int l2, .int l3]) (n := 8) (Nat.le_of_ble_eq_true rfl)
  rw [lg_entry_eq]
  generalize (lg_sl ([.ref (Z 229), .int l1, .int l2, .int l3]) ++ List.replicate (8 - (lg_sl ([.ref (Z 229), .int l1, .int l2, .int l3])).length) Slot.unset).toArray = ls at hl ⊢
  have hl : lv_has ls 8 [(0, .ref (Z 229)), (1, .int l1), (2, .int l2), (3, .int l3)] := hl
  subst hsz
  have X : CC p s m ([.ref (Z 229), .int l1, .int l2, .int l3]).toArray c cX8_settle 8 (Cond.code yX8_settle cX8_settle 8 (some .int)) RX8 D kA V (va_A (CW kA Z u) s.heap.size) := ⟨⟨Bd.exec, Bd.bytes, hml, findClass_of_methodNamed Bd.named, hts⟩, hK, hE, fun q h => Or.inr h⟩
  refine b_X8_settle_0 X (cend_i X Bd.returns Bd.notSynchronized) (Nat.le_refl _) (Nat.le_refl _) h  ⟨hP, hD0.self, va_S.rf⟩ (lv_sub hl [0, 1, 2, 3] rfl)
theorem kc_X8_settle_RX8 {cc : ByteArray} {pc nL : Nat} {c0 : Cond} {rest : List Value} {l1 : Int32} {l2 : Int32} {l3 : Int32} {u w1 : CSt} {r : Int32} (X : CC p s m args c cc nL c0 RX8 D kA V A)  (hS : CS D kA Z A s u H locs) (h : F_X8_settle N l1 l2 l3 u = some (r, w1)) (hF : 2 + 1 ≤ R.frames) (hL : 8 + (8 + 11) + 49 ≤ R.locals) (hl : ls.size = nL) (hc : (rest.map fun v => v.category).sum ≤ 8) (hdg : decode cc pc = .ok (.invokevirtual 145, 3)) (kk : ∀ H locs, CS D kA Z A s w1 H locs → W p l e R s m args below meth c H locs 0 0 Q (F0 m (pc + 3) ls (.int r :: rest))) : W p l e R s m args below meth c H locs 0 0 Q (F0 m pc ls (.int l3 :: .int l2 :: .int l1 :: .ref (Z 229) :: rest)) :=
  ccall_i (n := 3) X hS (k_X8_settle l D kA V Z N l1 l2 l3  u H.size h) (gw_V gw_1252 gw_1254 gs_5_0 gw_14 gw_1255) (by decide +kernel) (va_recv X.2.1 hS.1 (ci := 7) (q0 := 29) rfl (cw_lit rfl)) hF hL rfl hl hc rfl hdg kk
def B_X8_number_15 (N : Nat) (l1 : Int32) (s0 : Int32) (u : CSt) : Option ((Sum Nat Int32) × CSt) := bt (F_X9_takeNumber N u) fun r_2 u_1 => pc (xL u_1 0 r_2) fun u_4 => pc (xI u_4 17 1) fun u_5 => ok (cR u_5 3 < 2) inferInstance <| bc (F_X6_constant N (cR u_5 3) (cL u_5 0) 64 l1 u_5) fun _ u_7 => some (.inr s0, u_7)
set_option maxHeartbeats 4000000 in
theorem b_X8_number_15 {y : (Sum Nat Int32)} (X : CC p s m args c cX8_number 3 (Cond.code yX8_number cX8_number 3 (some .int)) RX8 D kA V A) (hE : CEix p l e R s m args below meth c cX8_number D kA Z A Q y w) (hst : l.stackTraces = false) (hX : CX p l e R s m args below meth c D kA Z A Q y w) (hC : 1 ≤ R.cells ∧ 6 ≤ R.slots) (hF : 8 ≤ R.frames) (hL : 144 ≤ R.locals) {l1 : Int32} {s0 : Int32} {u : CSt}  (h : B_X8_number_15 N l1 s0 u = some (y, w))  (hS : CS D kA Z A s u H locs) (hl : lv_has ls 3 [(0, .ref (Z 229)), (1, .int l1)]) : W p l e R s m args below meth c H locs 0 0 Q (F0 m 15 ls [.int s0]) := by
  obtain ⟨⟨hx, hb, hml, hown, hts⟩, hK, hEV, hA⟩ := id X
  have hG : ∀ w ∈ GW, w.before args s = true := fun w h => hts w (List.mem_cons_of_mem _ h)
  unfold B_X8_number_15 at h
  refine lv_istore_n (lv' := [(2, .int s0), (0, .ref (Z 229)), (1, .int l1)]) hx hb dX8_number_15 rfl hl (by decide) rfl (fun ls hl => ?_)
  refine lv_aload_n hx hb dX8_number_16 rfl (lv_at hl 1 rfl) ?_
  refine lv_aload_n hx hb dX8_number_17 rfl (lv_at hl 1 rfl) ?_
  refine cg_X8_24 X hS dX8_number_18 ?_
  obtain ⟨y_3, u_1, h_u_1, h⟩ := bt_of h
  refine kc_X9_takeNumber_RX8 hst X  hS h_u_1 (Nat.le_trans (Nat.le_of_ble_eq_true rfl) hF) (Nat.le_trans (Nat.le_of_ble_eq_true rfl) hL) hC hl.1 (Nat.le_of_ble_eq_true rfl) dX8_number_21 (fun r_2 hr_u_1 H locs hS => ?_) (fun x9 hn H locs q9 ce hS a1 a2 a3 => by obtain ⟨e2, rfl⟩ := bt_no h hn; exact hX _ e2 _ _ _ _ _ _ _ hS a1 a2 a3)
  replace h := bt_ok h hr_u_1
  obtain ⟨u_4, e_u_4, h⟩ := pc_of h
  refine cp_X8_103 X hS e_u_4 dX8_number_24 (fun H locs hS => ?_)
  refine lv_aload_n hx hb dX8_number_27 rfl (lv_at hl 1 rfl) ?_
  refine lv_iconst (v := 1) hx hb dX8_number_28 (by decide) ?_
  obtain ⟨u_5, e_u_5, h⟩ := pc_of h
  refine cp_X8_100 X hS e_u_5 (Or.inr rfl) dX8_number_29 (fun H locs hS => ?_)
  refine lv_aload_n hx hb dX8_number_32 rfl (lv_at hl 1 rfl) ?_
  refine cg_X8_28 X hS dX8_number_33 ?_
  obtain ⟨z_6, h⟩ := ok_of h
  refine lv_aload_n hx hb dX8_number_36 rfl (lv_at hl 1 rfl) ?_
  refine cg_X8_103 X hS dX8_number_37 ?_
  refine lv_bipush (v := 64) hx hb dX8_number_40 (by decide) ?_
  refine lv_iload_n hx hb dX8_number_42 rfl (lv_at hl 2 rfl) ?_
  obtain ⟨r_u_7, u_7, h_u_7, h⟩ := bc_of h
  refine kc_X6_constant_RX8 X z_6 hS h_u_7 (Nat.le_trans (Nat.le_of_ble_eq_true rfl) hF) (Nat.le_trans (Nat.le_of_ble_eq_true rfl) hL) hl.1 (Nat.le_of_ble_eq_true rfl) dX8_number_43 (fun H locs hS => ?_)
  refine lv_iload_n hx hb dX8_number_46 rfl (lv_at hl 0 rfl) ?_
  obtain ⟨e9, rfl⟩ := so9 h
  exact hE _ e9.symm _ _ _ _ hS dX8_number_47
def B_X8_number_0 (N : Nat) (l1 : Int32) (u : CSt) : Option ((Sum Nat Int32) × CSt) := bc (F_X9_isWide N u) fun r_9 u_8 => if r_9 = (0 : Int32) then (B_X8_number_15 N l1 3 u_8) else (B_X8_number_15 N l1 4 u_8)
set_option maxHeartbeats 4000000 in
theorem b_X8_number_0 {y : (Sum Nat Int32)} (X : CC p s m args c cX8_number 3 (Cond.code yX8_number cX8_number 3 (some .int)) RX8 D kA V A) (hE : CEix p l e R s m args below meth c cX8_number D kA Z A Q y w) (hst : l.stackTraces = false) (hX : CX p l e R s m args below meth c D kA Z A Q y w) (hC : 1 ≤ R.cells ∧ 6 ≤ R.slots) (hF : 8 ≤ R.frames) (hL : 144 ≤ R.locals) {l1 : Int32} {u : CSt}  (h : B_X8_number_0 N l1 u = some (y, w))  (hS : CS D kA Z A s u H locs) (hl : lv_has ls 3 [(0, .ref (Z 229)), (1, .int l1)]) : W p l e R s m args below meth c H locs 0 0 Q (F0 m 0 ls []) := by
  obtain ⟨⟨hx, hb, hml, hown, hts⟩, hK, hEV, hA⟩ := id X
  have hG : ∀ w ∈ GW, w.before args s = true := fun w h => hts w (List.mem_cons_of_mem _ h)
  unfold B_X8_number_0 at h
  refine lv_aload_n hx hb dX8_number_0 rfl (lv_at hl 0 rfl) ?_
  refine cg_X8_24 X hS dX8_number_1 ?_
  obtain ⟨r_9, u_8, h_u_8, h⟩ := bc_of h
  refine kc_X9_isWide_RX8 X  hS h_u_8 (Nat.le_trans (Nat.le_of_ble_eq_true rfl) hF) (Nat.le_trans (Nat.le_of_ble_eq_true rfl) hL) hl.1 (Nat.le_of_ble_eq_true rfl) dX8_number_4 (fun H locs hS => ?_)
  refine lv_if_eq (tgt := 14) hx hb dX8_number_7 (by decide) (fun c_10 => ?_) (fun c_10 => ?_)
  · have h := ip (c_10) h
    refine lv_iconst (v := 3) hx hb dX8_number_14 (by decide) ?_
    exact b_X8_number_15 X hE hst hX hC hF hL  h  hS (lv_sub hl [0, 1] rfl)
  · have h := im (c_10) h
    refine lv_iconst (v := 4) hx hb dX8_number_10 (by decide) ?_
    refine lv_goto (tgt := 15) hx hb dX8_number_11 (by decide) ?_
    exact b_X8_number_15 X hE hst hX hC hF hL  h  hS (lv_sub hl [0, 1] rfl)
def F_X8_number (N : Nat) (l1 : Int32) (u : CSt) : Option ((Sum Nat Int32) × CSt) := B_X8_number_0 N l1 u
set_option maxHeartbeats 4000000 in
theorem k_X8_number (l : Launch) (hst : l.stackTraces = false) (D : va_G) (kA : Nat → ClassId) (V Z : Nat → Nat) (N : Nat) (l1 : Int32) (u : CSt) (sz : Nat) {y : (Sum Nat Int32)} {w : CSt} (h : F_X8_number N l1 u = some (y, w)) : vx_Met l yX8_number (Cond.code yX8_number cX8_number 3 (some .int) :: GW) { frames := 8, cells := 1, slots := 6, locals := 144 } (cPc D kA V Z [.ref (Z 229), .int l1] u sz) (cQix D kA Z u sz y w) (cXc D kA Z u sz y w) 1 6 (va_A (CW kA Z u) sz) := by
  refine vx_ofW (cc := cX8_number) (maxL := 3) (ret := (some .int)) (by decide) rfl ?_
  intro p e s m args below meth c s₁ Bd hml hxt hv
  obtain ⟨rfl, hsz, hP, hK, hD0, hE⟩ := hv
  have hts := atoms_spec (ws := Cond.code yX8_number cX8_number 3 (some .int) :: GW) Bd.pre
  have hl := lv_entry ([.ref (Z 229), .int l1]) (n := 3) (Nat.le_of_ble_eq_true rfl)
  rw [lg_entry_eq]
  generalize (lg_sl ([.ref (Z 229), .int l1]) ++ List.replicate (3 - (lg_sl ([.ref (Z 229), .int l1])).length) Slot.unset).toArray = ls at hl ⊢
  have hl : lv_has ls 3 [(0, .ref (Z 229)), (1, .int l1)] := hl
  subst hsz
  have X : CC p s m ([.ref (Z 229), .int l1]).toArray c cX8_number 3 (Cond.code yX8_number cX8_number 3 (some .int)) RX8 D kA V (va_A (CW kA Z u) s.heap.size) := ⟨⟨Bd.exec, Bd.bytes, hml, findClass_of_methodNamed Bd.named, hts⟩, hK, hE, fun q h => Or.inr h⟩
  refine b_X8_number_0 X (cend_ix X Bd.returns Bd.notSynchronized) hst (cend_X X hxt Bd.notSynchronized) ⟨Nat.le_refl _, Nat.le_refl _⟩ (Nat.le_refl _) (Nat.le_refl _) h  ⟨hP, hD0.self, va_S.rf⟩ (lv_sub hl [0, 1] rfl)
theorem kc_X8_number_RX8 {cc : ByteArray} {pc nL : Nat} {c0 : Cond} {rest : List Value} {l1 : Int32} {u w1 : CSt} {y1 : (Sum Nat Int32)} (hst : l.stackTraces = false) (X : CC p s m args c cc nL c0 RX8 D kA V A)  (hS : CS D kA Z A s u H locs) (h : F_X8_number N l1 u = some (y1, w1)) (hF : 8 + 1 ≤ R.frames) (hL : 8 + (3 + 11) + 144 ≤ R.locals) (hC : 1 ≤ R.cells ∧ 6 ≤ R.slots) (hl : ls.size = nL) (hc : (rest.map fun v => v.category).sum ≤ 8) (hdg : decode cc pc = .ok (.invokevirtual 171, 3)) (kk : ∀ r, y1 = .inr r → ∀ H locs, CS D kA Z A s w1 H locs → W p l e R s m args below meth c H locs 0 0 Q (F0 m (pc + 3) ls (.int r :: rest))) (kx : ∀ x, y1 = .inl x → ∀ (H : Heap) (locs : List Loc) (q : Addr) (ce : Cell), CS D kA Z A s w1 H locs → H[q]? = some ce → ce.vm = .none → s.vm.findClass (exN x) = some ce.cls → vx_W p l e R s m args below meth c H locs 1 6 Q (F0 m pc ls rest) q) : W p l e R s m args below meth c H locs 0 0 Q (F0 m pc ls (.int l1 :: .ref (Z 229) :: rest)) :=
  ccall_ix (n := 1) X hS (k_X8_number l hst D kA V Z N l1  u H.size h) (gw_V gw_1155 gw_1157 gs_4_9 gw_14 gw_1158) (by decide +kernel) (va_recv X.2.1 hS.1 (ci := 7) (q0 := 29) rfl (cw_lit rfl)) hF hL hC rfl hl hc rfl hdg kk kx
def B_X8_bit_0 (N : Nat) (l1 : Int32) (u : CSt) : Option ((Sum Nat Int32) × CSt) := bc (F_X9_next N u) fun _ u_1 => rd (fun j => bt_0.getD j 0) 5 l1 fun v_2 => bt (F_X9_takeBounded N 0 ((v_2 - 1).toInt64) u_1) fun r_5 u_4 => some (.inr r_5.toInt32, u_4)
set_option maxHeartbeats 4000000 in
theorem b_X8_bit_0 {y : (Sum Nat Int32)} (X : CC p s m args c cX8_bit 2 (Cond.code yX8_bit cX8_bit 2 (some .int)) RX8 D kA V A) (hE : CEix p l e R s m args below meth c cX8_bit D kA Z A Q y w) (hst : l.stackTraces = false) (hX : CX p l e R s m args below meth c D kA Z A Q y w) (hC : 1 ≤ R.cells ∧ 6 ≤ R.slots) (hF : 8 ≤ R.frames) (hL : 148 ≤ R.locals) {l1 : Int32} {u : CSt}  (h : B_X8_bit_0 N l1 u = some (y, w))  (hS : CS D kA Z A s u H locs) (hl : lv_has ls 2 [(0, .ref (Z 229)), (1, .int l1)]) : W p l e R s m args below meth c H locs 0 0 Q (F0 m 0 ls []) := by
  obtain ⟨⟨hx, hb, hml, hown, hts⟩, hK, hEV, hA⟩ := id X
  have hG : ∀ w ∈ GW, w.before args s = true := fun w h => hts w (List.mem_cons_of_mem _ h)
  unfold B_X8_bit_0 at h
  refine lv_aload_n hx hb dX8_bit_0 rfl (lv_at hl 0 rfl) ?_
  refine cg_X8_24 X hS dX8_bit_1 ?_
  obtain ⟨r_u_1, u_1, h_u_1, h⟩ := bc_of h
  refine kc_X9_next_RX8 X  hS h_u_1 (Nat.le_trans (Nat.le_of_ble_eq_true rfl) hF) (Nat.le_trans (Nat.le_of_ble_eq_true rfl) hL) hl.1 (Nat.le_of_ble_eq_true rfl) dX8_bit_4 (fun H locs hS => ?_)
  refine lv_aload_n hx hb dX8_bit_7 rfl (lv_at hl 0 rfl) ?_
  refine cg_X8_24 X hS dX8_bit_8 ?_
  refine lv_lconst (v := 0) hx hb dX8_bit_11 (by decide) ?_
  refine va_getsN hx hb hEV.2.2.2.2.2.2.2.2.2.2.2.2.2.2.2.2.2.2.1.1 hS.2.2 hown (va_Nw.use rfl (hEV.1 _ nw_1249)) (fun _ h9 => h9) dX8_bit_12 ?_
  refine lv_iload_n hx hb dX8_bit_15 rfl (lv_at hl 1 rfl) ?_
  obtain ⟨v_2, e_v_2, i_3, h⟩ := rd_of h
  refine va_ti hx hb hEV.2.2.2.2.2.2.2.2.2.2.2.2.2.2.2.2.2.2.1.2 hS.2.2 i_3 rfl dX8_bit_16 ?_
  rw [e_v_2]
  refine lv_iconst (v := 1) hx hb dX8_bit_17 (by decide) ?_
  refine lv_isub hx hb dX8_bit_18 ?_
  refine lv_i2l (v := (v_2 - 1).toInt64) hx hb dX8_bit_19 rfl ?_
  obtain ⟨y_6, u_4, h_u_4, h⟩ := bt_of h
  refine kc_X9_takeBounded_RX8 hst X  hS h_u_4 (Nat.le_trans (Nat.le_of_ble_eq_true rfl) hF) (Nat.le_trans (Nat.le_of_ble_eq_true rfl) hL) hC hl.1 (Nat.le_of_ble_eq_true rfl) dX8_bit_20 (fun r_5 hr_u_4 H locs hS => ?_) (fun x9 hn H locs q9 ce hS a1 a2 a3 => by obtain ⟨e2, rfl⟩ := bt_no h hn; exact hX _ e2 _ _ _ _ _ _ _ hS a1 a2 a3)
  replace h := bt_ok h hr_u_4
  refine lv_l2i (v := r_5.toInt32) hx hb dX8_bit_23 rfl ?_
  obtain ⟨e9, rfl⟩ := so9 h
  exact hE _ e9.symm _ _ _ _ hS dX8_bit_24
def F_X8_bit (N : Nat) (l1 : Int32) (u : CSt) : Option ((Sum Nat Int32) × CSt) := B_X8_bit_0 N l1 u
set_option maxHeartbeats 4000000 in
theorem k_X8_bit (l : Launch) (hst : l.stackTraces = false) (D : va_G) (kA : Nat → ClassId) (V Z : Nat → Nat) (N : Nat) (l1 : Int32) (u : CSt) (sz : Nat) {y : (Sum Nat Int32)} {w : CSt} (h : F_X8_bit N l1 u = some (y, w)) : vx_Met l yX8_bit (Cond.code yX8_bit cX8_bit 2 (some .int) :: GW) { frames := 8, cells := 1, slots := 6, locals := 148 } (cPc D kA V Z [.ref (Z 229), .int l1] u sz) (cQix D kA Z u sz y w) (cXc D kA Z u sz y w) 1 6 (va_A (CW kA Z u) sz) := by
  refine vx_ofW (cc := cX8_bit) (maxL := 2) (ret := (some .int)) (by decide) rfl ?_
  intro p e s m args below meth c s₁ Bd hml hxt hv
  obtain ⟨rfl, hsz, hP, hK, hD0, hE⟩ := hv
  have hts := atoms_spec (ws := Cond.code yX8_bit cX8_bit 2 (some .int) :: GW) Bd.pre
  have hl := lv_entry ([.ref (Z 229), .int l1]) (n := 2) (Nat.le_of_ble_eq_true rfl)
  rw [lg_entry_eq]
  generalize (lg_sl ([.ref (Z 229), .int l1]) ++ List.replicate (2 - (lg_sl ([.ref (Z 229), .int l1])).length) Slot.unset).toArray = ls at hl ⊢
  have hl : lv_has ls 2 [(0, .ref (Z 229)), (1, .int l1)] := hl
  subst hsz
  have X : CC p s m ([.ref (Z 229), .int l1]).toArray c cX8_bit 2 (Cond.code yX8_bit cX8_bit 2 (some .int)) RX8 D kA V (va_A (CW kA Z u) s.heap.size) := ⟨⟨Bd.exec, Bd.bytes, hml, findClass_of_methodNamed Bd.named, hts⟩, hK, hE, fun q h => Or.inr h⟩
  refine b_X8_bit_0 X (cend_ix X Bd.returns Bd.notSynchronized) hst (cend_X X hxt Bd.notSynchronized) ⟨Nat.le_refl _, Nat.le_refl _⟩ (Nat.le_refl _) (Nat.le_refl _) h  ⟨hP, hD0.self, va_S.rf⟩ (lv_sub hl [0, 1] rfl)
theorem kc_X8_bit_RX8 {cc : ByteArray} {pc nL : Nat} {c0 : Cond} {rest : List Value} {l1 : Int32} {u w1 : CSt} {y1 : (Sum Nat Int32)} (hst : l.stackTraces = false) (X : CC p s m args c cc nL c0 RX8 D kA V A)  (hS : CS D kA Z A s u H locs) (h : F_X8_bit N l1 u = some (y1, w1)) (hF : 8 + 1 ≤ R.frames) (hL : 8 + (2 + 11) + 148 ≤ R.locals) (hC : 1 ≤ R.cells ∧ 6 ≤ R.slots) (hl : ls.size = nL) (hc : (rest.map fun v => v.category).sum ≤ 8) (hdg : decode cc pc = .ok (.invokevirtual 223, 3)) (kk : ∀ r, y1 = .inr r → ∀ H locs, CS D kA Z A s w1 H locs → W p l e R s m args below meth c H locs 0 0 Q (F0 m (pc + 3) ls (.int r :: rest))) (kx : ∀ x, y1 = .inl x → ∀ (H : Heap) (locs : List Loc) (q : Addr) (ce : Cell), CS D kA Z A s w1 H locs → H[q]? = some ce → ce.vm = .none → s.vm.findClass (exN x) = some ce.cls → vx_W p l e R s m args below meth c H locs 1 6 Q (F0 m pc ls rest) q) : W p l e R s m args below meth c H locs 0 0 Q (F0 m pc ls (.int l1 :: .ref (Z 229) :: rest)) :=
  ccall_ix (n := 1) X hS (k_X8_bit l hst D kA V Z N l1  u H.size h) (gw_V gw_1245 gw_1246 gw_1247 gw_14 gw_1248) (by decide +kernel) (va_recv X.2.1 hS.1 (ci := 7) (q0 := 29) rfl (cw_lit rfl)) hF hL hC rfl hl hc rfl hdg kk kx
theorem kc_X8_bit_RX3 {cc : ByteArray} {pc nL : Nat} {c0 : Cond} {rest : List Value} {l1 : Int32} {u w1 : CSt} {y1 : (Sum Nat Int32)} (hst : l.stackTraces = false) (X : CC p s m args c cc nL c0 RX3 D kA V A)  (hS : CS D kA Z A s u H locs) (h : F_X8_bit N l1 u = some (y1, w1)) (hF : 8 + 1 ≤ R.frames) (hL : 8 + (2 + 11) + 148 ≤ R.locals) (hC : 1 ≤ R.cells ∧ 6 ≤ R.slots) (hl : ls.size = nL) (hc : (rest.map fun v => v.category).sum ≤ 8) (hdg : decode cc pc = .ok (.invokevirtual 304, 3)) (kk : ∀ r, y1 = .inr r → ∀ H locs, CS D kA Z A s w1 H locs → W p l e R s m args below meth c H locs 0 0 Q (F0 m (pc + 3) ls (.int r :: rest))) (kx : ∀ x, y1 = .inl x → ∀ (H : Heap) (locs : List Loc) (q : Addr) (ce : Cell), CS D kA Z A s w1 H locs → H[q]? = some ce → ce.vm = .none → s.vm.findClass (exN x) = some ce.cls → vx_W p l e R s m args below meth c H locs 1 6 Q (F0 m pc ls rest) q) : W p l e R s m args below meth c H locs 0 0 Q (F0 m pc ls (.int l1 :: .ref (Z 229) :: rest)) :=
  ccall_ix (n := 1) X hS (k_X8_bit l hst D kA V Z N l1  u H.size h) (gw_V gw_1340 gw_1246 gw_1247 gw_14 gw_1248) (by decide +kernel) (va_recv X.2.1 hS.1 (ci := 7) (q0 := 29) rfl (cw_lit rfl)) hF hL hC rfl hl hc rfl hdg kk kx
def B_X8_get_36 (N : Nat) (l1 : Nat) (l2 : Int32) (l3 : Int32) (l4 : Int32) (u : CSt) : Option (Int32 × CSt) := ok (cR u 3 < 2) inferInstance <| bc (F_X6_step N (cR u 3) (l4 + l2) (mI u l1 9) (mI u l1 5) l3 u) fun r_3 u_2 => some (0, u_2)
set_option maxHeartbeats 4000000 in
theorem b_X8_get_36 {r : Int32} (X : CC p s m args c cX8_get 5 (Cond.code yX8_get cX8_get 5 none) RX8 D kA V A) (hE : CEv p l e R s m args below meth c cX8_get D kA Z A Q w) (hF : 1 ≤ R.frames) (hL : 24 ≤ R.locals) {l1 : Nat} {l2 : Int32} {l3 : Int32} {l4 : Int32} {u : CSt}  (h : B_X8_get_36 N l1 l2 l3 l4 u = some (r, w)) (h_l1 : l1 < 338) (hS : CS D kA Z A s u H locs) (hl : lv_has ls 5 [(0, .ref (Z 229)), (1, .ref (Z (1000 + l1))), (2, .int l2), (3, .int l3), (4, .int l4)]) : W p l e R s m args below meth c H locs 0 0 Q (F0 m 36 ls []) := by
  obtain ⟨⟨hx, hb, hml, hown, hts⟩, hK, hEV, hA⟩ := id X
  have hG : ∀ w ∈ GW, w.before args s = true := fun w h => hts w (List.mem_cons_of_mem _ h)
  unfold B_X8_get_36 at h
  refine lv_aload_n hx hb dX8_get_36 rfl (lv_at hl 0 rfl) ?_
  refine cg_X8_28 X hS dX8_get_37 ?_
  obtain ⟨z_1, h⟩ := ok_of h
  refine lv_iload hx hb dX8_get_40 (lv_at hl 4 rfl) ?_
  refine lv_iload_n hx hb dX8_get_42 rfl (lv_at hl 2 rfl) ?_
  refine lv_iadd hx hb dX8_get_43 ?_
  refine lv_aload_n hx hb dX8_get_44 rfl (lv_at hl 1 rfl) ?_
  refine cg_X8_229 X h_l1 hS dX8_get_45 ?_
  refine lv_aload_n hx hb dX8_get_48 rfl (lv_at hl 1 rfl) ?_
  refine cg_X8_220 X h_l1 hS dX8_get_49 ?_
  refine lv_iload_n hx hb dX8_get_52 rfl (lv_at hl 3 rfl) ?_
  obtain ⟨r_3, u_2, h_u_2, h⟩ := bc_of h
  refine kc_X6_step_RX8 X z_1 hS h_u_2 (Nat.le_trans (Nat.le_of_ble_eq_true rfl) hF) (Nat.le_trans (Nat.le_of_ble_eq_true rfl) hL) hl.1 (Nat.le_of_ble_eq_true rfl) dX8_get_53 (fun H locs hS => ?_)
  refine lv_pop hx hb dX8_get_56 rfl ?_
  obtain ⟨-, rfl⟩ := so9 h
  exact hE _ _ _ _ hS dX8_get_57
def B_X8_get_34 (N : Nat) (l1 : Nat) (l2 : Int32) (l3 : Int32) (s0 : Int32) (u : CSt) : Option (Int32 × CSt) := B_X8_get_36 N l1 l2 l3 s0 u
set_option maxHeartbeats 4000000 in
theorem b_X8_get_34 {r : Int32} (X : CC p s m args c cX8_get 5 (Cond.code yX8_get cX8_get 5 none) RX8 D kA V A) (hE : CEv p l e R s m args below meth c cX8_get D kA Z A Q w) (hF : 1 ≤ R.frames) (hL : 24 ≤ R.locals) {l1 : Nat} {l2 : Int32} {l3 : Int32} {s0 : Int32} {u : CSt}  (h : B_X8_get_34 N l1 l2 l3 s0 u = some (r, w)) (h_l1 : l1 < 338) (hS : CS D kA Z A s u H locs) (hl : lv_has ls 5 [(0, .ref (Z 229)), (1, .ref (Z (1000 + l1))), (2, .int l2), (3, .int l3)]) : W p l e R s m args below meth c H locs 0 0 Q (F0 m 34 ls [.int s0]) := by
  obtain ⟨⟨hx, hb, hml, hown, hts⟩, hK, hEV, hA⟩ := id X
  have hG : ∀ w ∈ GW, w.before args s = true := fun w h => hts w (List.mem_cons_of_mem _ h)
  unfold B_X8_get_34 at h
  refine lv_istore (lv' := [(4, .int s0), (0, .ref (Z 229)), (1, .ref (Z (1000 + l1))), (2, .int l2), (3, .int l3)]) hx hb dX8_get_34 hl (by decide) rfl (fun ls hl => ?_)
  exact b_X8_get_36 X hE  hF hL  h h_l1 hS (lv_sub hl [1, 2, 3, 4, 0] rfl)
def B_X8_get_12 (N : Nat) (l1 : Nat) (l2 : Int32) (l3 : Int32) (s0 : Int32) (u : CSt) : Option (Int32 × CSt) := bc (F_X4_isPlaced N l1 u) fun r_5 u_4 => if r_5 = (0 : Int32) then (B_X8_get_36 N l1 l2 l3 s0 u_4) else (bc (F_X4_isInput N l1 u_4) fun r_8 u_7 => if r_8 = (0 : Int32) then (B_X8_get_34 N l1 l2 l3 6 u_7) else (B_X8_get_34 N l1 l2 l3 5 u_7))
set_option maxHeartbeats 4000000 in
theorem b_X8_get_12 {r : Int32} (X : CC p s m args c cX8_get 5 (Cond.code yX8_get cX8_get 5 none) RX8 D kA V A) (hE : CEv p l e R s m args below meth c cX8_get D kA Z A Q w) (hF : 1 ≤ R.frames) (hL : 24 ≤ R.locals) {l1 : Nat} {l2 : Int32} {l3 : Int32} {s0 : Int32} {u : CSt}  (h : B_X8_get_12 N l1 l2 l3 s0 u = some (r, w)) (h_l1 : l1 < 338) (hS : CS D kA Z A s u H locs) (hl : lv_has ls 5 [(0, .ref (Z 229)), (1, .ref (Z (1000 + l1))), (2, .int l2), (3, .int l3)]) : W p l e R s m args below meth c H locs 0 0 Q (F0 m 12 ls [.int s0]) := by
  obtain ⟨⟨hx, hb, hml, hown, hts⟩, hK, hEV, hA⟩ := id X
  have hG : ∀ w ∈ GW, w.before args s = true := fun w h => hts w (List.mem_cons_of_mem _ h)
  unfold B_X8_get_12 at h
  refine lv_istore (lv' := [(4, .int s0), (0, .ref (Z 229)), (1, .ref (Z (1000 + l1))), (2, .int l2), (3, .int l3)]) hx hb dX8_get_12 hl (by decide) rfl (fun ls hl => ?_)
  refine lv_aload_n hx hb dX8_get_14 rfl (lv_at hl 2 rfl) ?_
  obtain ⟨r_5, u_4, h_u_4, h⟩ := bc_of h
  refine kc_X4_isPlaced_RX8 X h_l1 hS h_u_4 (Nat.le_trans (Nat.le_of_ble_eq_true rfl) hF) (Nat.le_trans (Nat.le_of_ble_eq_true rfl) hL) hl.1 (Nat.le_of_ble_eq_true rfl) dX8_get_15 (fun H locs hS => ?_)
  refine lv_if_eq (tgt := 36) hx hb dX8_get_18 (by decide) (fun c_6 => ?_) (fun c_6 => ?_)
  · have h := ip (c_6) h
    exact b_X8_get_36 X hE  hF hL  h h_l1 hS (lv_sub hl [1, 2, 3, 4, 0] rfl)
  · have h := im (c_6) h
    refine lv_aload_n hx hb dX8_get_21 rfl (lv_at hl 2 rfl) ?_
    obtain ⟨r_8, u_7, h_u_7, h⟩ := bc_of h
    refine kc_X4_isInput_RX8 X h_l1 hS h_u_7 (Nat.le_trans (Nat.le_of_ble_eq_true rfl) hF) (Nat.le_trans (Nat.le_of_ble_eq_true rfl) hL) hl.1 (Nat.le_of_ble_eq_true rfl) dX8_get_22 (fun H locs hS => ?_)
    refine lv_if_eq (tgt := 32) hx hb dX8_get_25 (by decide) (fun c_9 => ?_) (fun c_9 => ?_)
    · have h := ip (c_9) h
      refine lv_bipush (v := 6) hx hb dX8_get_32 (by decide) ?_
      exact b_X8_get_34 X hE  hF hL  h h_l1 hS (lv_sub hl [1, 2, 3, 4] rfl)
    · have h := im (c_9) h
      refine lv_iconst (v := 5) hx hb dX8_get_28 (by decide) ?_
      refine lv_goto (tgt := 34) hx hb dX8_get_29 (by decide) ?_
      exact b_X8_get_34 X hE  hF hL  h h_l1 hS (lv_sub hl [1, 2, 3, 4] rfl)
def B_X8_get_0 (N : Nat) (l1 : Nat) (l2 : Int32) (l3 : Int32) (u : CSt) : Option (Int32 × CSt) := bc (F_X4_isLocal N l1 u) fun r_11 u_10 => if r_11 = (0 : Int32) then (B_X8_get_12 N l1 l2 l3 3 u_10) else (B_X8_get_12 N l1 l2 l3 4 u_10)
set_option maxHeartbeats 4000000 in
theorem b_X8_get_0 {r : Int32} (X : CC p s m args c cX8_get 5 (Cond.code yX8_get cX8_get 5 none) RX8 D kA V A) (hE : CEv p l e R s m args below meth c cX8_get D kA Z A Q w) (hF : 1 ≤ R.frames) (hL : 24 ≤ R.locals) {l1 : Nat} {l2 : Int32} {l3 : Int32} {u : CSt}  (h : B_X8_get_0 N l1 l2 l3 u = some (r, w)) (h_l1 : l1 < 338) (hS : CS D kA Z A s u H locs) (hl : lv_has ls 5 [(0, .ref (Z 229)), (1, .ref (Z (1000 + l1))), (2, .int l2), (3, .int l3)]) : W p l e R s m args below meth c H locs 0 0 Q (F0 m 0 ls []) := by
  obtain ⟨⟨hx, hb, hml, hown, hts⟩, hK, hEV, hA⟩ := id X
  have hG : ∀ w ∈ GW, w.before args s = true := fun w h => hts w (List.mem_cons_of_mem _ h)
  unfold B_X8_get_0 at h
  refine lv_aload_n hx hb dX8_get_0 rfl (lv_at hl 1 rfl) ?_
  obtain ⟨r_11, u_10, h_u_10, h⟩ := bc_of h
  refine kc_X4_isLocal_RX8 X h_l1 hS h_u_10 (Nat.le_trans (Nat.le_of_ble_eq_true rfl) hF) (Nat.le_trans (Nat.le_of_ble_eq_true rfl) hL) hl.1 (Nat.le_of_ble_eq_true rfl) dX8_get_1 (fun H locs hS => ?_)
  refine lv_if_eq (tgt := 11) hx hb dX8_get_4 (by decide) (fun c_12 => ?_) (fun c_12 => ?_)
  · have h := ip (c_12) h
    refine lv_iconst (v := 3) hx hb dX8_get_11 (by decide) ?_
    exact b_X8_get_12 X hE  hF hL  h h_l1 hS (lv_sub hl [0, 1, 2, 3] rfl)
  · have h := im (c_12) h
    refine lv_iconst (v := 4) hx hb dX8_get_7 (by decide) ?_
    refine lv_goto (tgt := 12) hx hb dX8_get_8 (by decide) ?_
    exact b_X8_get_12 X hE  hF hL  h h_l1 hS (lv_sub hl [0, 1, 2, 3] rfl)
def F_X8_get (N : Nat) (l1 : Nat) (l2 : Int32) (l3 : Int32) (u : CSt) : Option (Int32 × CSt) := B_X8_get_0 N l1 l2 l3 u
set_option maxHeartbeats 4000000 in
theorem k_X8_get (l : Launch) (D : va_G) (kA : Nat → ClassId) (V Z : Nat → Nat) (N : Nat) (l1 : Nat) (l2 : Int32) (l3 : Int32) (h_l1 : l1 < 338) (u : CSt) (sz : Nat) {r : Int32} {w : CSt} (h : F_X8_get N l1 l2 l3 u = some (r, w)) : Met l yX8_get (Cond.code yX8_get cX8_get 5 none :: GW) { frames := 1, cells := 0, slots := 0, locals := 24 } (cPc D kA V Z [.ref (Z 229), .ref (Z (1000 + l1)), .int l2, .int l3] u sz) (cQv D kA Z u sz w) 0 0 (va_A (CW kA Z u) sz) := by
  refine Met.ofW (cc := cX8_get) (maxL := 5) (ret := none) (by decide) rfl ?_
  intro p e s m args below meth c s₁ Bd hml hv
  obtain ⟨rfl, hsz, hP, hK, hD0, hE⟩ := hv
  have hts := atoms_spec (ws := Cond.code yX8_get cX8_get 5 none :: GW) Bd.pre
  have hl := lv_entry ([.ref (Z 229), .ref (Z (1000 + l1)), .int l2, .int l3]) (n := 5) (Nat.le_of_ble_eq_true rfl)
  rw [lg_entry_eq]
  generalize (lg_sl ([.ref (Z 229), .ref (Z (1000 + l1)), .int l2, .int l3]) ++ List.replicate (5 - (lg_sl ([.ref (Z 229), .ref (Z (1000 + l1)), .int l2, .int l3])).length) Slot.unset).toArray = ls at hl ⊢
  have hl : lv_has ls 5 [(0, .ref (Z 229)), (1, .ref (Z (1000 + l1))), (2, .int l2), (3, .int l3)] := hl
  subst hsz
  have X : CC p s m ([.ref (Z 229), .ref (Z (1000 + l1)), .int l2, .int l3]).toArray c cX8_get 5 (Cond.code yX8_get cX8_get 5 none) RX8 D kA V (va_A (CW kA Z u) s.heap.size) := ⟨⟨Bd.exec, Bd.bytes, hml, findClass_of_methodNamed Bd.named, hts⟩, hK, hE, fun q h => Or.inr h⟩
  refine b_X8_get_0 X (cend_v X Bd.returns Bd.notSynchronized) (Nat.le_refl _) (Nat.le_refl _) h h_l1 ⟨hP, hD0.self, va_S.rf⟩ (lv_sub hl [0, 1, 2, 3] rfl)
theorem kc_X8_get_RX8 {cc : ByteArray} {pc nL : Nat} {c0 : Cond} {rest : List Value} {l1 : Nat} {l2 : Int32} {l3 : Int32} {u w1 : CSt} {r : Int32} (X : CC p s m args c cc nL c0 RX8 D kA V A) (h_l1 : l1 < 338) (hS : CS D kA Z A s u H locs) (h : F_X8_get N l1 l2 l3 u = some (r, w1)) (hF : 1 + 1 ≤ R.frames) (hL : 8 + (5 + 11) + 24 ≤ R.locals) (hl : ls.size = nL) (hc : (rest.map fun v => v.category).sum ≤ 8) (hdg : decode cc pc = .ok (.invokevirtual 216, 3)) (kk : ∀ H locs, CS D kA Z A s w1 H locs → W p l e R s m args below meth c H locs 0 0 Q (F0 m (pc + 3) ls (rest))) : W p l e R s m args below meth c H locs 0 0 Q (F0 m pc ls (.int l3 :: .int l2 :: .ref (Z (1000 + l1)) :: .ref (Z 229) :: rest)) :=
  ccall_v (n := 3) X hS (k_X8_get l D kA V Z N l1 l2 l3 h_l1 u H.size h) (gw_V gw_1237 gw_1238 gw_1239 gw_14 gw_1240) (by decide +kernel) (va_recv X.2.1 hS.1 (ci := 7) (q0 := 29) rfl (cw_lit rfl)) hF hL rfl hl hc rfl hdg kk
theorem kc_X8_get_RX3 {cc : ByteArray} {pc nL : Nat} {c0 : Cond} {rest : List Value} {l1 : Nat} {l2 : Int32} {l3 : Int32} {u w1 : CSt} {r : Int32} (X : CC p s m args c cc nL c0 RX3 D kA V A) (h_l1 : l1 < 338) (hS : CS D kA Z A s u H locs) (h : F_X8_get N l1 l2 l3 u = some (r, w1)) (hF : 1 + 1 ≤ R.frames) (hL : 8 + (5 + 11) + 24 ≤ R.locals) (hl : ls.size = nL) (hc : (rest.map fun v => v.category).sum ≤ 8) (hdg : decode cc pc = .ok (.invokevirtual 319, 3)) (kk : ∀ H locs, CS D kA Z A s w1 H locs → W p l e R s m args below meth c H locs 0 0 Q (F0 m (pc + 3) ls (rest))) : W p l e R s m args below meth c H locs 0 0 Q (F0 m pc ls (.int l3 :: .int l2 :: .ref (Z (1000 + l1)) :: .ref (Z 229) :: rest)) :=
  ccall_v (n := 3) X hS (k_X8_get l D kA V Z N l1 l2 l3 h_l1 u H.size h) (gw_V gw_1305 gw_1238 gw_1239 gw_14 gw_1240) (by decide +kernel) (va_recv X.2.1 hS.1 (ci := 7) (q0 := 29) rfl (cw_lit rfl)) hF hL rfl hl hc rfl hdg kk
def B_X8_set_26 (N : Nat) (l1 : Nat) (l2 : Int32) (s0 : Int32) (u : CSt) : Option (Int32 × CSt) := ok (cR u 3 < 2) inferInstance <| bc (F_X6_step N (cR u 3) s0 (mI u l1 9) (mI u l1 5) l2 u) fun r_3 u_2 => some (0, u_2)
set_option maxHeartbeats 4000000 in
theorem b_X8_set_26 {r : Int32} (X : CC p s m args c cX8_set 4 (Cond.code yX8_set cX8_set 4 none) RX8 D kA V A) (hE : CEv p l e R s m args below meth c cX8_set D kA Z A Q w) (hF : 1 ≤ R.frames) (hL : 24 ≤ R.locals) {l1 : Nat} {l2 : Int32} {s0 : Int32} {u : CSt}  (h : B_X8_set_26 N l1 l2 s0 u = some (r, w)) (h_l1 : l1 < 338) (hS : CS D kA Z A s u H locs) (hl : lv_has ls 4 [(0, .ref (Z 229)), (1, .ref (Z (1000 + l1))), (2, .int l2)]) : W p l e R s m args below meth c H locs 0 0 Q (F0 m 26 ls [.int s0]) := by
  obtain ⟨⟨hx, hb, hml, hown, hts⟩, hK, hEV, hA⟩ := id X
  have hG : ∀ w ∈ GW, w.before args s = true := fun w h => hts w (List.mem_cons_of_mem _ h)
  unfold B_X8_set_26 at h
  refine lv_istore_n (lv' := [(3, .int s0), (0, .ref (Z 229)), (1, .ref (Z (1000 + l1))), (2, .int l2)]) hx hb dX8_set_26 rfl hl (by decide) rfl (fun ls hl => ?_)
  refine lv_aload_n hx hb dX8_set_27 rfl (lv_at hl 1 rfl) ?_
  refine cg_X8_28 X hS dX8_set_28 ?_
  obtain ⟨z_1, h⟩ := ok_of h
  refine lv_iload_n hx hb dX8_set_31 rfl (lv_at hl 0 rfl) ?_
  refine lv_aload_n hx hb dX8_set_32 rfl (lv_at hl 2 rfl) ?_
  refine cg_X8_229 X h_l1 hS dX8_set_33 ?_
  refine lv_aload_n hx hb dX8_set_36 rfl (lv_at hl 2 rfl) ?_
  refine cg_X8_220 X h_l1 hS dX8_set_37 ?_
  refine lv_iload_n hx hb dX8_set_40 rfl (lv_at hl 3 rfl) ?_
  obtain ⟨r_3, u_2, h_u_2, h⟩ := bc_of h
  refine kc_X6_step_RX8 X z_1 hS h_u_2 (Nat.le_trans (Nat.le_of_ble_eq_true rfl) hF) (Nat.le_trans (Nat.le_of_ble_eq_true rfl) hL) hl.1 (Nat.le_of_ble_eq_true rfl) dX8_set_41 (fun H locs hS => ?_)
  refine lv_pop hx hb dX8_set_44 rfl ?_
  obtain ⟨-, rfl⟩ := so9 h
  exact hE _ _ _ _ hS dX8_set_45
def B_X8_set_0 (N : Nat) (l1 : Nat) (l2 : Int32) (u : CSt) : Option (Int32 × CSt) := bc (F_X4_isLocal N l1 u) fun r_5 u_4 => if r_5 = (0 : Int32) then (bc (F_X4_isPlaced N l1 u_4) fun r_8 u_7 => if r_8 = (0 : Int32) then (B_X8_set_26 N l1 l2 7 u_7) else (B_X8_set_26 N l1 l2 9 u_7)) else (B_X8_set_26 N l1 l2 8 u_4)
set_option maxHeartbeats 4000000 in
theorem b_X8_set_0 {r : Int32} (X : CC p s m args c cX8_set 4 (Cond.code yX8_set cX8_set 4 none) RX8 D kA V A) (hE : CEv p l e R s m args below meth c cX8_set D kA Z A Q w) (hF : 1 ≤ R.frames) (hL : 24 ≤ R.locals) {l1 : Nat} {l2 : Int32} {u : CSt}  (h : B_X8_set_0 N l1 l2 u = some (r, w)) (h_l1 : l1 < 338) (hS : CS D kA Z A s u H locs) (hl : lv_has ls 4 [(0, .ref (Z 229)), (1, .ref (Z (1000 + l1))), (2, .int l2)]) : W p l e R s m args below meth c H locs 0 0 Q (F0 m 0 ls []) := by
  obtain ⟨⟨hx, hb, hml, hown, hts⟩, hK, hEV, hA⟩ := id X
  have hG : ∀ w ∈ GW, w.before args s = true := fun w h => hts w (List.mem_cons_of_mem _ h)
  unfold B_X8_set_0 at h
  refine lv_aload_n hx hb dX8_set_0 rfl (lv_at hl 1 rfl) ?_
  obtain ⟨r_5, u_4, h_u_4, h⟩ := bc_of h
  refine kc_X4_isLocal_RX8 X h_l1 hS h_u_4 (Nat.le_trans (Nat.le_of_ble_eq_true rfl) hF) (Nat.le_trans (Nat.le_of_ble_eq_true rfl) hL) hl.1 (Nat.le_of_ble_eq_true rfl) dX8_set_1 (fun H locs hS => ?_)
  refine lv_if_eq (tgt := 12) hx hb dX8_set_4 (by decide) (fun c_6 => ?_) (fun c_6 => ?_)
  · have h := ip (c_6) h
    refine lv_aload_n hx hb dX8_set_12 rfl (lv_at hl 1 rfl) ?_
    obtain ⟨r_8, u_7, h_u_7, h⟩ := bc_of h
    refine kc_X4_isPlaced_RX8 X h_l1 hS h_u_7 (Nat.le_trans (Nat.le_of_ble_eq_true rfl) hF) (Nat.le_trans (Nat.le_of_ble_eq_true rfl) hL) hl.1 (Nat.le_of_ble_eq_true rfl) dX8_set_13 (fun H locs hS => ?_)
    refine lv_if_eq (tgt := 24) hx hb dX8_set_16 (by decide) (fun c_9 => ?_) (fun c_9 => ?_)
    · have h := ip (c_9) h
      refine lv_bipush (v := 7) hx hb dX8_set_24 (by decide) ?_
      exact b_X8_set_26 X hE  hF hL  h h_l1 hS (lv_sub hl [0, 1, 2] rfl)
    · have h := im (c_9) h
      refine lv_bipush (v := 9) hx hb dX8_set_19 (by decide) ?_
      refine lv_goto (tgt := 26) hx hb dX8_set_21 (by decide) ?_
      exact b_X8_set_26 X hE  hF hL  h h_l1 hS (lv_sub hl [0, 1, 2] rfl)
  · have h := im (c_6) h
    refine lv_bipush (v := 8) hx hb dX8_set_7 (by decide) ?_
    refine lv_goto (tgt := 26) hx hb dX8_set_9 (by decide) ?_
    exact b_X8_set_26 X hE  hF hL  h h_l1 hS (lv_sub hl [0, 1, 2] rfl)
def F_X8_set (N : Nat) (l1 : Nat) (l2 : Int32) (u : CSt) : Option (Int32 × CSt) := B_X8_set_0 N l1 l2 u
set_option maxHeartbeats 4000000 in
theorem k_X8_set (l : Launch) (D : va_G) (kA : Nat → ClassId) (V Z : Nat → Nat) (N : Nat) (l1 : Nat) (l2 : Int32) (h_l1 : l1 < 338) (u : CSt) (sz : Nat) {r : Int32} {w : CSt} (h : F_X8_set N l1 l2 u = some (r, w)) : Met l yX8_set (Cond.code yX8_set cX8_set 4 none :: GW) { frames := 1, cells := 0, slots := 0, locals := 24 } (cPc D kA V Z [.ref (Z 229), .ref (Z (1000 + l1)), .int l2] u sz) (cQv D kA Z u sz w) 0 0 (va_A (CW kA Z u) sz) := by
  refine Met.ofW (cc := cX8_set) (maxL := 4) (ret := none) (by decide) rfl ?_
  intro p e s m args below meth c s₁ Bd hml hv
  obtain ⟨rfl, hsz, hP, hK, hD0, hE⟩ := hv
  have hts := atoms_spec (ws := Cond.code yX8_set cX8_set 4 none :: GW) Bd.pre
  have hl := lv_entry ([.ref (Z 229), .ref (Z (1000 + l1)), .int l2]) (n := 4) (Nat.le_of_ble_eq_true rfl)
  rw [lg_entry_eq]
  generalize (lg_sl ([.ref (Z 229), .ref (Z (1000 + l1)), .int l2]) ++ List.replicate (4 - (lg_sl ([.ref (Z 229), .ref (Z (1000 + l1)), .int l2])).length) Slot.unset).toArray = ls at hl ⊢
  have hl : lv_has ls 4 [(0, .ref (Z 229)), (1, .ref (Z (1000 + l1))), (2, .int l2)] := hl
  subst hsz
  have X : CC p s m ([.ref (Z 229), .ref (Z (1000 + l1)), .int l2]).toArray c cX8_set 4 (Cond.code yX8_set cX8_set 4 none) RX8 D kA V (va_A (CW kA Z u) s.heap.size) := ⟨⟨Bd.exec, Bd.bytes, hml, findClass_of_methodNamed Bd.named, hts⟩, hK, hE, fun q h => Or.inr h⟩
  refine b_X8_set_0 X (cend_v X Bd.returns Bd.notSynchronized) (Nat.le_refl _) (Nat.le_refl _) h h_l1 ⟨hP, hD0.self, va_S.rf⟩ (lv_sub hl [0, 1, 2] rfl)
theorem kc_X8_set_RX3 {cc : ByteArray} {pc nL : Nat} {c0 : Cond} {rest : List Value} {l1 : Nat} {l2 : Int32} {u w1 : CSt} {r : Int32} (X : CC p s m args c cc nL c0 RX3 D kA V A) (h_l1 : l1 < 338) (hS : CS D kA Z A s u H locs) (h : F_X8_set N l1 l2 u = some (r, w1)) (hF : 1 + 1 ≤ R.frames) (hL : 8 + (4 + 11) + 24 ≤ R.locals) (hl : ls.size = nL) (hc : (rest.map fun v => v.category).sum ≤ 8) (hdg : decode cc pc = .ok (.invokevirtual 332, 3)) (kk : ∀ H locs, CS D kA Z A s w1 H locs → W p l e R s m args below meth c H locs 0 0 Q (F0 m (pc + 3) ls (rest))) : W p l e R s m args below meth c H locs 0 0 Q (F0 m pc ls (.int l2 :: .ref (Z (1000 + l1)) :: .ref (Z 229) :: rest)) :=
  ccall_v (n := 2) X hS (k_X8_set l D kA V Z N l1 l2 h_l1 u H.size h) (gw_V gw_1301 gw_1302 gw_1303 gw_14 gw_1304) (by decide +kernel) (va_recv X.2.1 hS.1 (ci := 7) (q0 := 29) rfl (cw_lit rfl)) hF hL rfl hl hc rfl hdg kk
end C38tleaf
