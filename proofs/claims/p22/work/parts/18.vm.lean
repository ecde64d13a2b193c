abbrev cX12_read : ByteArray := prog_14_method_79_code
def yX12_read : MethodName := ⟨RX12, "read", "(II)J"⟩
theorem dX12_read_0 : decode cX12_read 0 = .ok (.iload_n 1, 1) := by decide +kernel
theorem dX12_read_1 : decode cX12_read 1 = .ok (.sipush 5000, 3) := by decide +kernel
theorem dX12_read_4 : decode cX12_read 4 = .ok (.if_icmp .ge 10, 3) := by decide +kernel
theorem dX12_read_7 : decode cX12_read 7 = .ok (.aload_n 0, 1) := by decide +kernel
theorem dX12_read_8 : decode cX12_read 8 = .ok (.getfield 536, 3) := by decide +kernel
theorem dX12_read_11 : decode cX12_read 11 = .ok (.iload_n 1, 1) := by decide +kernel
theorem dX12_read_12 : decode cX12_read 12 = .ok (.laload, 1) := by decide +kernel
theorem dX12_read_13 : decode cX12_read 13 = .ok (.lreturn, 1) := by decide +kernel
theorem dX12_read_14 : decode cX12_read 14 = .ok (.iload_n 1, 1) := by decide +kernel
theorem dX12_read_15 : decode cX12_read 15 = .ok (.sipush 6000, 3) := by decide +kernel
theorem dX12_read_18 : decode cX12_read 18 = .ok (.if_icmp .lt 11, 3) := by decide +kernel
theorem dX12_read_21 : decode cX12_read 21 = .ok (.iload_n 1, 1) := by decide +kernel
theorem dX12_read_22 : decode cX12_read 22 = .ok (.sipush 6000, 3) := by decide +kernel
theorem dX12_read_25 : decode cX12_read 25 = .ok (.isub, 1) := by decide +kernel
theorem dX12_read_26 : decode cX12_read 26 = .ok (.goto 11, 3) := by decide +kernel
theorem dX12_read_29 : decode cX12_read 29 = .ok (.bipush 64, 2) := by decide +kernel
theorem dX12_read_31 : decode cX12_read 31 = .ok (.iload_n 1, 1) := by decide +kernel
theorem dX12_read_32 : decode cX12_read 32 = .ok (.iadd, 1) := by decide +kernel
theorem dX12_read_33 : decode cX12_read 33 = .ok (.sipush 5000, 3) := by decide +kernel
theorem dX12_read_36 : decode cX12_read 36 = .ok (.isub, 1) := by decide +kernel
theorem dX12_read_37 : decode cX12_read 37 = .ok (.istore_n 3, 1) := by decide +kernel
theorem dX12_read_38 : decode cX12_read 38 = .ok (.lconst 0, 1) := by decide +kernel
theorem dX12_read_39 : decode cX12_read 39 = .ok (.lstore 4, 2) := by decide +kernel
theorem dX12_read_41 : decode cX12_read 41 = .ok (.iconst 0, 1) := by decide +kernel
theorem dX12_read_42 : decode cX12_read 42 = .ok (.istore 6, 2) := by decide +kernel
theorem dX12_read_44 : decode cX12_read 44 = .ok (.iload 6, 2) := by decide +kernel
theorem dX12_read_46 : decode cX12_read 46 = .ok (.iload_n 2, 1) := by decide +kernel
theorem dX12_read_47 : decode cX12_read 47 = .ok (.invokestatic 337, 3) := by decide +kernel
theorem dX12_read_50 : decode cX12_read 50 = .ok (.bipush 8, 2) := by decide +kernel
theorem dX12_read_52 : decode cX12_read 52 = .ok (.idiv, 1) := by decide +kernel
theorem dX12_read_53 : decode cX12_read 53 = .ok (.if_icmp .ge 27, 3) := by decide +kernel
theorem dX12_read_56 : decode cX12_read 56 = .ok (.lload 4, 2) := by decide +kernel
theorem dX12_read_58 : decode cX12_read 58 = .ok (.bipush 8, 2) := by decide +kernel
theorem dX12_read_60 : decode cX12_read 60 = .ok (.lshl, 1) := by decide +kernel
theorem dX12_read_61 : decode cX12_read 61 = .ok (.aload_n 0, 1) := by decide +kernel
theorem dX12_read_62 : decode cX12_read 62 = .ok (.getfield 539, 3) := by decide +kernel
theorem dX12_read_65 : decode cX12_read 65 = .ok (.iload_n 3, 1) := by decide +kernel
theorem dX12_read_66 : decode cX12_read 66 = .ok (.iload 6, 2) := by decide +kernel
theorem dX12_read_68 : decode cX12_read 68 = .ok (.iadd, 1) := by decide +kernel
theorem dX12_read_69 : decode cX12_read 69 = .ok (.iaload, 1) := by decide +kernel
theorem dX12_read_70 : decode cX12_read 70 = .ok (.i2l, 1) := by decide +kernel
theorem dX12_read_71 : decode cX12_read 71 = .ok (.lor, 1) := by decide +kernel
theorem dX12_read_72 : decode cX12_read 72 = .ok (.lstore 4, 2) := by decide +kernel
theorem dX12_read_74 : decode cX12_read 74 = .ok (.iinc 6 1, 3) := by decide +kernel
theorem dX12_read_77 : decode cX12_read 77 = .ok (.goto (-33), 3) := by decide +kernel
theorem dX12_read_80 : decode cX12_read 80 = .ok (.iload_n 2, 1) := by decide +kernel
theorem dX12_read_81 : decode cX12_read 81 = .ok (.lload 4, 2) := by decide +kernel
theorem dX12_read_83 : decode cX12_read 83 = .ok (.invokestatic 170, 3) := by decide +kernel
theorem dX12_read_86 : decode cX12_read 86 = .ok (.lreturn, 1) := by decide +kernel
abbrev cX12_write : ByteArray := prog_14_method_80_code
def yX12_write : MethodName := ⟨RX12, "write", "(IIJ)V"⟩
theorem dX12_write_0 : decode cX12_write 0 = .ok (.iload_n 1, 1) := by decide +kernel
theorem dX12_write_1 : decode cX12_write 1 = .ok (.sipush 5000, 3) := by decide +kernel
theorem dX12_write_4 : decode cX12_write 4 = .ok (.if_icmp .ge 15, 3) := by decide +kernel
theorem dX12_write_7 : decode cX12_write 7 = .ok (.aload_n 0, 1) := by decide +kernel
theorem dX12_write_8 : decode cX12_write 8 = .ok (.getfield 536, 3) := by decide +kernel
theorem dX12_write_11 : decode cX12_write 11 = .ok (.iload_n 1, 1) := by decide +kernel
theorem dX12_write_12 : decode cX12_write 12 = .ok (.iload_n 2, 1) := by decide +kernel
theorem dX12_write_13 : decode cX12_write 13 = .ok (.lload_n 3, 1) := by decide +kernel
theorem dX12_write_14 : decode cX12_write 14 = .ok (.invokestatic 170, 3) := by decide +kernel
theorem dX12_write_17 : decode cX12_write 17 = .ok (.lastore, 1) := by decide +kernel
theorem dX12_write_18 : decode cX12_write 18 = .ok (.return_, 1) := by decide +kernel
theorem dX12_write_19 : decode cX12_write 19 = .ok (.iload_n 2, 1) := by decide +kernel
theorem dX12_write_20 : decode cX12_write 20 = .ok (.invokestatic 337, 3) := by decide +kernel
theorem dX12_write_23 : decode cX12_write 23 = .ok (.bipush 8, 2) := by decide +kernel
theorem dX12_write_25 : decode cX12_write 25 = .ok (.idiv, 1) := by decide +kernel
theorem dX12_write_26 : decode cX12_write 26 = .ok (.istore 5, 2) := by decide +kernel
theorem dX12_write_28 : decode cX12_write 28 = .ok (.iconst 0, 1) := by decide +kernel
theorem dX12_write_29 : decode cX12_write 29 = .ok (.istore 6, 2) := by decide +kernel
theorem dX12_write_31 : decode cX12_write 31 = .ok (.iload 6, 2) := by decide +kernel
theorem dX12_write_33 : decode cX12_write 33 = .ok (.iload 5, 2) := by decide +kernel
theorem dX12_write_35 : decode cX12_write 35 = .ok (.if_icmp .ge 42, 3) := by decide +kernel
theorem dX12_write_38 : decode cX12_write 38 = .ok (.aload_n 0, 1) := by decide +kernel
theorem dX12_write_39 : decode cX12_write 39 = .ok (.getfield 539, 3) := by decide +kernel
theorem dX12_write_42 : decode cX12_write 42 = .ok (.bipush 64, 2) := by decide +kernel
theorem dX12_write_44 : decode cX12_write 44 = .ok (.iload_n 1, 1) := by decide +kernel
theorem dX12_write_45 : decode cX12_write 45 = .ok (.iadd, 1) := by decide +kernel
theorem dX12_write_46 : decode cX12_write 46 = .ok (.sipush 5000, 3) := by decide +kernel
theorem dX12_write_49 : decode cX12_write 49 = .ok (.isub, 1) := by decide +kernel
theorem dX12_write_50 : decode cX12_write 50 = .ok (.iload 6, 2) := by decide +kernel
theorem dX12_write_52 : decode cX12_write 52 = .ok (.iadd, 1) := by decide +kernel
theorem dX12_write_53 : decode cX12_write 53 = .ok (.lload_n 3, 1) := by decide +kernel
theorem dX12_write_54 : decode cX12_write 54 = .ok (.bipush 8, 2) := by decide +kernel
theorem dX12_write_56 : decode cX12_write 56 = .ok (.iload 5, 2) := by decide +kernel
theorem dX12_write_58 : decode cX12_write 58 = .ok (.iconst 1, 1) := by decide +kernel
theorem dX12_write_59 : decode cX12_write 59 = .ok (.isub, 1) := by decide +kernel
theorem dX12_write_60 : decode cX12_write 60 = .ok (.iload 6, 2) := by decide +kernel
theorem dX12_write_62 : decode cX12_write 62 = .ok (.isub, 1) := by decide +kernel
theorem dX12_write_63 : decode cX12_write 63 = .ok (.imul, 1) := by decide +kernel
theorem dX12_write_64 : decode cX12_write 64 = .ok (.lshr, 1) := by decide +kernel
theorem dX12_write_65 : decode cX12_write 65 = .ok (.ldc2_w 154, 3) := by decide +kernel
theorem dX12_write_68 : decode cX12_write 68 = .ok (.land, 1) := by decide +kernel
theorem dX12_write_69 : decode cX12_write 69 = .ok (.l2i, 1) := by decide +kernel
theorem dX12_write_70 : decode cX12_write 70 = .ok (.iastore, 1) := by decide +kernel
theorem dX12_write_71 : decode cX12_write 71 = .ok (.iinc 6 1, 3) := by decide +kernel
theorem dX12_write_74 : decode cX12_write 74 = .ok (.goto (-43), 3) := by decide +kernel
theorem dX12_write_77 : decode cX12_write 77 = .ok (.return_, 1) := by decide +kernel
abbrev cX12_stops : ByteArray := prog_14_method_84_code
def yX12_stops : MethodName := ⟨RX12, "stops", "(II)V"⟩
theorem dX12_stops_0 : decode cX12_stops 0 = .ok (.aload_n 0, 1) := by decide +kernel
theorem dX12_stops_1 : decode cX12_stops 1 = .ok (.iload_n 1, 1) := by decide +kernel
theorem dX12_stops_2 : decode cX12_stops 2 = .ok (.putfield 551, 3) := by decide +kernel
theorem dX12_stops_5 : decode cX12_stops 5 = .ok (.aload_n 0, 1) := by decide +kernel
theorem dX12_stops_6 : decode cX12_stops 6 = .ok (.iload_n 2, 1) := by decide +kernel
theorem dX12_stops_7 : decode cX12_stops 7 = .ok (.putfield 554, 3) := by decide +kernel
theorem dX12_stops_10 : decode cX12_stops 10 = .ok (.return_, 1) := by decide +kernel
abbrev cX12_mayCall : ByteArray := prog_14_method_85_code
def yX12_mayCall : MethodName := ⟨RX12, "mayCall", "(I)Z"⟩
theorem dX12_mayCall_0 : decode cX12_mayCall 0 = .ok (.aload_n 0, 1) := by decide +kernel
theorem dX12_mayCall_1 : decode cX12_mayCall 1 = .ok (.getfield 557, 3) := by decide +kernel
theorem dX12_mayCall_4 : decode cX12_mayCall 4 = .ok (.bipush 8, 2) := by decide +kernel
theorem dX12_mayCall_6 : decode cX12_mayCall 6 = .ok (.if_icmp .ne 11, 3) := by decide +kernel
theorem dX12_mayCall_9 : decode cX12_mayCall 9 = .ok (.aload_n 0, 1) := by decide +kernel
theorem dX12_mayCall_10 : decode cX12_mayCall 10 = .ok (.iconst 4, 1) := by decide +kernel
theorem dX12_mayCall_11 : decode cX12_mayCall 11 = .ok (.iload_n 1, 1) := by decide +kernel
theorem dX12_mayCall_12 : decode cX12_mayCall 12 = .ok (.invokevirtual 560, 3) := by decide +kernel
theorem dX12_mayCall_15 : decode cX12_mayCall 15 = .ok (.iconst 0, 1) := by decide +kernel
theorem dX12_mayCall_16 : decode cX12_mayCall 16 = .ok (.ireturn, 1) := by decide +kernel
theorem dX12_mayCall_17 : decode cX12_mayCall 17 = .ok (.aload_n 0, 1) := by decide +kernel
theorem dX12_mayCall_18 : decode cX12_mayCall 18 = .ok (.getfield 563, 3) := by decide +kernel
theorem dX12_mayCall_21 : decode cX12_mayCall 21 = .ok (.aload_n 0, 1) := by decide +kernel
theorem dX12_mayCall_22 : decode cX12_mayCall 22 = .ok (.getfield 557, 3) := by decide +kernel
theorem dX12_mayCall_25 : decode cX12_mayCall 25 = .ok (.aload_n 0, 1) := by decide +kernel
theorem dX12_mayCall_26 : decode cX12_mayCall 26 = .ok (.getfield 566, 3) := by decide +kernel
theorem dX12_mayCall_29 : decode cX12_mayCall 29 = .ok (.iastore, 1) := by decide +kernel
theorem dX12_mayCall_30 : decode cX12_mayCall 30 = .ok (.aload_n 0, 1) := by decide +kernel
theorem dX12_mayCall_31 : decode cX12_mayCall 31 = .ok (.getfield 569, 3) := by decide +kernel
theorem dX12_mayCall_34 : decode cX12_mayCall 34 = .ok (.aload_n 0, 1) := by decide +kernel
theorem dX12_mayCall_35 : decode cX12_mayCall 35 = .ok (.getfield 557, 3) := by decide +kernel
theorem dX12_mayCall_38 : decode cX12_mayCall 38 = .ok (.aload_n 0, 1) := by decide +kernel
theorem dX12_mayCall_39 : decode cX12_mayCall 39 = .ok (.getfield 572, 3) := by decide +kernel
theorem dX12_mayCall_42 : decode cX12_mayCall 42 = .ok (.iastore, 1) := by decide +kernel
theorem dX12_mayCall_43 : decode cX12_mayCall 43 = .ok (.aload_n 0, 1) := by decide +kernel
theorem dX12_mayCall_44 : decode cX12_mayCall 44 = .ok (.getfield 575, 3) := by decide +kernel
theorem dX12_mayCall_47 : decode cX12_mayCall 47 = .ok (.aload_n 0, 1) := by decide +kernel
theorem dX12_mayCall_48 : decode cX12_mayCall 48 = .ok (.getfield 557, 3) := by decide +kernel
theorem dX12_mayCall_51 : decode cX12_mayCall 51 = .ok (.aload_n 0, 1) := by decide +kernel
theorem dX12_mayCall_52 : decode cX12_mayCall 52 = .ok (.getfield 578, 3) := by decide +kernel
theorem dX12_mayCall_55 : decode cX12_mayCall 55 = .ok (.iastore, 1) := by decide +kernel
theorem dX12_mayCall_56 : decode cX12_mayCall 56 = .ok (.iconst 1, 1) := by decide +kernel
theorem dX12_mayCall_57 : decode cX12_mayCall 57 = .ok (.ireturn, 1) := by decide +kernel
abbrev cX12_enter : ByteArray := prog_14_method_86_code
def yX12_enter : MethodName := ⟨RX12, "enter", "(I)V"⟩
theorem dX12_enter_0 : decode cX12_enter 0 = .ok (.aload_n 0, 1) := by decide +kernel
theorem dX12_enter_1 : decode cX12_enter 1 = .ok (.getfield 233, 3) := by decide +kernel
theorem dX12_enter_4 : decode cX12_enter 4 = .ok (.iload_n 1, 1) := by decide +kernel
theorem dX12_enter_5 : decode cX12_enter 5 = .ok (.iaload, 1) := by decide +kernel
theorem dX12_enter_6 : decode cX12_enter 6 = .ok (.istore_n 2, 1) := by decide +kernel
theorem dX12_enter_7 : decode cX12_enter 7 = .ok (.sipush 2100, 3) := by decide +kernel
theorem dX12_enter_10 : decode cX12_enter 10 = .ok (.bipush 100, 2) := by decide +kernel
theorem dX12_enter_12 : decode cX12_enter 12 = .ok (.aload_n 0, 1) := by decide +kernel
theorem dX12_enter_13 : decode cX12_enter 13 = .ok (.getfield 557, 3) := by decide +kernel
theorem dX12_enter_16 : decode cX12_enter 16 = .ok (.imul, 1) := by decide +kernel
theorem dX12_enter_17 : decode cX12_enter 17 = .ok (.iadd, 1) := by decide +kernel
theorem dX12_enter_18 : decode cX12_enter 18 = .ok (.istore_n 3, 1) := by decide +kernel
theorem dX12_enter_19 : decode cX12_enter 19 = .ok (.sipush 160, 3) := by decide +kernel
theorem dX12_enter_22 : decode cX12_enter 22 = .ok (.aload_n 0, 1) := by decide +kernel
theorem dX12_enter_23 : decode cX12_enter 23 = .ok (.getfield 581, 3) := by decide +kernel
theorem dX12_enter_26 : decode cX12_enter 26 = .ok (.imul, 1) := by decide +kernel
theorem dX12_enter_27 : decode cX12_enter 27 = .ok (.aload_n 0, 1) := by decide +kernel
theorem dX12_enter_28 : decode cX12_enter 28 = .ok (.getfield 358, 3) := by decide +kernel
theorem dX12_enter_31 : decode cX12_enter 31 = .ok (.iload_n 1, 1) := by decide +kernel
theorem dX12_enter_32 : decode cX12_enter 32 = .ok (.iaload, 1) := by decide +kernel
theorem dX12_enter_33 : decode cX12_enter 33 = .ok (.iadd, 1) := by decide +kernel
theorem dX12_enter_34 : decode cX12_enter 34 = .ok (.istore 4, 2) := by decide +kernel
theorem dX12_enter_36 : decode cX12_enter 36 = .ok (.iconst 0, 1) := by decide +kernel
theorem dX12_enter_37 : decode cX12_enter 37 = .ok (.istore 5, 2) := by decide +kernel
theorem dX12_enter_39 : decode cX12_enter 39 = .ok (.iload 5, 2) := by decide +kernel
theorem dX12_enter_41 : decode cX12_enter 41 = .ok (.aload_n 0, 1) := by decide +kernel
theorem dX12_enter_42 : decode cX12_enter 42 = .ok (.getfield 257, 3) := by decide +kernel
theorem dX12_enter_45 : decode cX12_enter 45 = .ok (.iload_n 1, 1) := by decide +kernel
theorem dX12_enter_46 : decode cX12_enter 46 = .ok (.iaload, 1) := by decide +kernel
theorem dX12_enter_47 : decode cX12_enter 47 = .ok (.if_icmp .ge 86, 3) := by decide +kernel
theorem dX12_enter_50 : decode cX12_enter 50 = .ok (.iconst 0, 1) := by decide +kernel
theorem dX12_enter_51 : decode cX12_enter 51 = .ok (.istore 6, 2) := by decide +kernel
theorem dX12_enter_53 : decode cX12_enter 53 = .ok (.iload 6, 2) := by decide +kernel
theorem dX12_enter_55 : decode cX12_enter 55 = .ok (.aload_n 0, 1) := by decide +kernel
theorem dX12_enter_56 : decode cX12_enter 56 = .ok (.getfield 245, 3) := by decide +kernel
theorem dX12_enter_59 : decode cX12_enter 59 = .ok (.iload 4, 2) := by decide +kernel
theorem dX12_enter_61 : decode cX12_enter 61 = .ok (.iload 5, 2) := by decide +kernel
theorem dX12_enter_63 : decode cX12_enter 63 = .ok (.iadd, 1) := by decide +kernel
theorem dX12_enter_64 : decode cX12_enter 64 = .ok (.iaload, 1) := by decide +kernel
theorem dX12_enter_65 : decode cX12_enter 65 = .ok (.if_icmp .ge 62, 3) := by decide +kernel
theorem dX12_enter_68 : decode cX12_enter 68 = .ok (.aload_n 0, 1) := by decide +kernel
theorem dX12_enter_69 : decode cX12_enter 69 = .ok (.getfield 536, 3) := by decide +kernel
theorem dX12_enter_72 : decode cX12_enter 72 = .ok (.iload_n 3, 1) := by decide +kernel
theorem dX12_enter_73 : decode cX12_enter 73 = .ok (.aload_n 0, 1) := by decide +kernel
theorem dX12_enter_74 : decode cX12_enter 74 = .ok (.getfield 251, 3) := by decide +kernel
theorem dX12_enter_77 : decode cX12_enter 77 = .ok (.iload 4, 2) := by decide +kernel
theorem dX12_enter_79 : decode cX12_enter 79 = .ok (.iload 5, 2) := by decide +kernel
theorem dX12_enter_81 : decode cX12_enter 81 = .ok (.iadd, 1) := by decide +kernel
theorem dX12_enter_82 : decode cX12_enter 82 = .ok (.iaload, 1) := by decide +kernel
theorem dX12_enter_83 : decode cX12_enter 83 = .ok (.iadd, 1) := by decide +kernel
theorem dX12_enter_84 : decode cX12_enter 84 = .ok (.iload 6, 2) := by decide +kernel
theorem dX12_enter_86 : decode cX12_enter 86 = .ok (.iadd, 1) := by decide +kernel
theorem dX12_enter_87 : decode cX12_enter 87 = .ok (.iload 5, 2) := by decide +kernel
theorem dX12_enter_89 : decode cX12_enter 89 = .ok (.iload_n 2, 1) := by decide +kernel
theorem dX12_enter_90 : decode cX12_enter 90 = .ok (.if_icmp .ge 20, 3) := by decide +kernel
theorem dX12_enter_93 : decode cX12_enter 93 = .ok (.aload_n 0, 1) := by decide +kernel
theorem dX12_enter_94 : decode cX12_enter 94 = .ok (.getfield 584, 3) := by decide +kernel
theorem dX12_enter_97 : decode cX12_enter 97 = .ok (.aload_n 0, 1) := by decide +kernel
theorem dX12_enter_98 : decode cX12_enter 98 = .ok (.getfield 587, 3) := by decide +kernel
theorem dX12_enter_101 : decode cX12_enter 101 = .ok (.iload_n 2, 1) := by decide +kernel
theorem dX12_enter_102 : decode cX12_enter 102 = .ok (.isub, 1) := by decide +kernel
theorem dX12_enter_103 : decode cX12_enter 103 = .ok (.iload 5, 2) := by decide +kernel
theorem dX12_enter_105 : decode cX12_enter 105 = .ok (.iadd, 1) := by decide +kernel
theorem dX12_enter_106 : decode cX12_enter 106 = .ok (.laload, 1) := by decide +kernel
theorem dX12_enter_107 : decode cX12_enter 107 = .ok (.goto 13, 3) := by decide +kernel
theorem dX12_enter_110 : decode cX12_enter 110 = .ok (.aload_n 0, 1) := by decide +kernel
theorem dX12_enter_111 : decode cX12_enter 111 = .ok (.getfield 254, 3) := by decide +kernel
theorem dX12_enter_114 : decode cX12_enter 114 = .ok (.iload 4, 2) := by decide +kernel
theorem dX12_enter_116 : decode cX12_enter 116 = .ok (.iload 5, 2) := by decide +kernel
theorem dX12_enter_118 : decode cX12_enter 118 = .ok (.iadd, 1) := by decide +kernel
theorem dX12_enter_119 : decode cX12_enter 119 = .ok (.laload, 1) := by decide +kernel
theorem dX12_enter_120 : decode cX12_enter 120 = .ok (.lastore, 1) := by decide +kernel
theorem dX12_enter_121 : decode cX12_enter 121 = .ok (.iinc 6 1, 3) := by decide +kernel
theorem dX12_enter_124 : decode cX12_enter 124 = .ok (.goto (-71), 3) := by decide +kernel
theorem dX12_enter_127 : decode cX12_enter 127 = .ok (.iinc 5 1, 3) := by decide +kernel
theorem dX12_enter_130 : decode cX12_enter 130 = .ok (.goto (-91), 3) := by decide +kernel
theorem dX12_enter_133 : decode cX12_enter 133 = .ok (.aload_n 0, 1) := by decide +kernel
theorem dX12_enter_134 : decode cX12_enter 134 = .ok (.dup, 1) := by decide +kernel
theorem dX12_enter_135 : decode cX12_enter 135 = .ok (.getfield 587, 3) := by decide +kernel
theorem dX12_enter_138 : decode cX12_enter 138 = .ok (.iload_n 2, 1) := by decide +kernel
theorem dX12_enter_139 : decode cX12_enter 139 = .ok (.isub, 1) := by decide +kernel
theorem dX12_enter_140 : decode cX12_enter 140 = .ok (.putfield 587, 3) := by decide +kernel
theorem dX12_enter_143 : decode cX12_enter 143 = .ok (.aload_n 0, 1) := by decide +kernel
theorem dX12_enter_144 : decode cX12_enter 144 = .ok (.getfield 590, 3) := by decide +kernel
theorem dX12_enter_147 : decode cX12_enter 147 = .ok (.aload_n 0, 1) := by decide +kernel
theorem dX12_enter_148 : decode cX12_enter 148 = .ok (.getfield 557, 3) := by decide +kernel
theorem dX12_enter_151 : decode cX12_enter 151 = .ok (.aload_n 0, 1) := by decide +kernel
theorem dX12_enter_152 : decode cX12_enter 152 = .ok (.getfield 587, 3) := by decide +kernel
theorem dX12_enter_155 : decode cX12_enter 155 = .ok (.iastore, 1) := by decide +kernel
theorem dX12_enter_156 : decode cX12_enter 156 = .ok (.aload_n 0, 1) := by decide +kernel
theorem dX12_enter_157 : decode cX12_enter 157 = .ok (.dup, 1) := by decide +kernel
theorem dX12_enter_158 : decode cX12_enter 158 = .ok (.getfield 557, 3) := by decide +kernel
theorem dX12_enter_161 : decode cX12_enter 161 = .ok (.iconst 1, 1) := by decide +kernel
theorem dX12_enter_162 : decode cX12_enter 162 = .ok (.iadd, 1) := by decide +kernel
theorem dX12_enter_163 : decode cX12_enter 163 = .ok (.putfield 557, 3) := by decide +kernel
theorem dX12_enter_166 : decode cX12_enter 166 = .ok (.aload_n 0, 1) := by decide +kernel
theorem dX12_enter_167 : decode cX12_enter 167 = .ok (.iload_n 3, 1) := by decide +kernel
theorem dX12_enter_168 : decode cX12_enter 168 = .ok (.putfield 572, 3) := by decide +kernel
theorem dX12_enter_171 : decode cX12_enter 171 = .ok (.aload_n 0, 1) := by decide +kernel
theorem dX12_enter_172 : decode cX12_enter 172 = .ok (.aload_n 0, 1) := by decide +kernel
theorem dX12_enter_173 : decode cX12_enter 173 = .ok (.getfield 364, 3) := by decide +kernel
theorem dX12_enter_176 : decode cX12_enter 176 = .ok (.iload_n 1, 1) := by decide +kernel
theorem dX12_enter_177 : decode cX12_enter 177 = .ok (.iaload, 1) := by decide +kernel
theorem dX12_enter_178 : decode cX12_enter 178 = .ok (.putfield 566, 3) := by decide +kernel
theorem dX12_enter_181 : decode cX12_enter 181 = .ok (.return_, 1) := by decide +kernel
abbrev cX12_leave : ByteArray := prog_14_method_87_code
def yX12_leave : MethodName := ⟨RX12, "leave", "()V"⟩
theorem dX12_leave_0 : decode cX12_leave 0 = .ok (.aload_n 0, 1) := by decide +kernel
theorem dX12_leave_1 : decode cX12_leave 1 = .ok (.dup, 1) := by decide +kernel
theorem dX12_leave_2 : decode cX12_leave 2 = .ok (.getfield 557, 3) := by decide +kernel
theorem dX12_leave_5 : decode cX12_leave 5 = .ok (.iconst 1, 1) := by decide +kernel
theorem dX12_leave_6 : decode cX12_leave 6 = .ok (.isub, 1) := by decide +kernel
theorem dX12_leave_7 : decode cX12_leave 7 = .ok (.putfield 557, 3) := by decide +kernel
theorem dX12_leave_10 : decode cX12_leave 10 = .ok (.aload_n 0, 1) := by decide +kernel
theorem dX12_leave_11 : decode cX12_leave 11 = .ok (.aload_n 0, 1) := by decide +kernel
theorem dX12_leave_12 : decode cX12_leave 12 = .ok (.getfield 590, 3) := by decide +kernel
theorem dX12_leave_15 : decode cX12_leave 15 = .ok (.aload_n 0, 1) := by decide +kernel
theorem dX12_leave_16 : decode cX12_leave 16 = .ok (.getfield 557, 3) := by decide +kernel
theorem dX12_leave_19 : decode cX12_leave 19 = .ok (.iaload, 1) := by decide +kernel
theorem dX12_leave_20 : decode cX12_leave 20 = .ok (.putfield 587, 3) := by decide +kernel
theorem dX12_leave_23 : decode cX12_leave 23 = .ok (.aload_n 0, 1) := by decide +kernel
theorem dX12_leave_24 : decode cX12_leave 24 = .ok (.aload_n 0, 1) := by decide +kernel
theorem dX12_leave_25 : decode cX12_leave 25 = .ok (.getfield 563, 3) := by decide +kernel
theorem dX12_leave_28 : decode cX12_leave 28 = .ok (.aload_n 0, 1) := by decide +kernel
theorem dX12_leave_29 : decode cX12_leave 29 = .ok (.getfield 557, 3) := by decide +kernel
theorem dX12_leave_32 : decode cX12_leave 32 = .ok (.iaload, 1) := by decide +kernel
theorem dX12_leave_33 : decode cX12_leave 33 = .ok (.putfield 566, 3) := by decide +kernel
theorem dX12_leave_36 : decode cX12_leave 36 = .ok (.aload_n 0, 1) := by decide +kernel
theorem dX12_leave_37 : decode cX12_leave 37 = .ok (.aload_n 0, 1) := by decide +kernel
theorem dX12_leave_38 : decode cX12_leave 38 = .ok (.getfield 569, 3) := by decide +kernel
theorem dX12_leave_41 : decode cX12_leave 41 = .ok (.aload_n 0, 1) := by decide +kernel
theorem dX12_leave_42 : decode cX12_leave 42 = .ok (.getfield 557, 3) := by decide +kernel
theorem dX12_leave_45 : decode cX12_leave 45 = .ok (.iaload, 1) := by decide +kernel
theorem dX12_leave_46 : decode cX12_leave 46 = .ok (.putfield 572, 3) := by decide +kernel
theorem dX12_leave_49 : decode cX12_leave 49 = .ok (.aload_n 0, 1) := by decide +kernel
theorem dX12_leave_50 : decode cX12_leave 50 = .ok (.aload_n 0, 1) := by decide +kernel
theorem dX12_leave_51 : decode cX12_leave 51 = .ok (.getfield 575, 3) := by decide +kernel
theorem dX12_leave_54 : decode cX12_leave 54 = .ok (.aload_n 0, 1) := by decide +kernel
theorem dX12_leave_55 : decode cX12_leave 55 = .ok (.getfield 557, 3) := by decide +kernel
theorem dX12_leave_58 : decode cX12_leave 58 = .ok (.iaload, 1) := by decide +kernel
theorem dX12_leave_59 : decode cX12_leave 59 = .ok (.putfield 578, 3) := by decide +kernel
theorem dX12_leave_62 : decode cX12_leave 62 = .ok (.return_, 1) := by decide +kernel
abbrev cX12_run : ByteArray := prog_14_method_88_code
def yX12_run : MethodName := ⟨RX12, "run", "(I)V"⟩
theorem dX12_run_0 : decode cX12_run 0 = .ok (.aload_n 0, 1) := by decide +kernel
theorem dX12_run_1 : decode cX12_run 1 = .ok (.iload_n 1, 1) := by decide +kernel
theorem dX12_run_2 : decode cX12_run 2 = .ok (.putfield 566, 3) := by decide +kernel
theorem dX12_run_5 : decode cX12_run 5 = .ok (.aload_n 0, 1) := by decide +kernel
theorem dX12_run_6 : decode cX12_run 6 = .ok (.iconst 0, 1) := by decide +kernel
theorem dX12_run_7 : decode cX12_run 7 = .ok (.putfield 587, 3) := by decide +kernel
theorem dX12_run_10 : decode cX12_run 10 = .ok (.aload_n 0, 1) := by decide +kernel
theorem dX12_run_11 : decode cX12_run 11 = .ok (.iconst 0, 1) := by decide +kernel
theorem dX12_run_12 : decode cX12_run 12 = .ok (.putfield 557, 3) := by decide +kernel
theorem dX12_run_15 : decode cX12_run 15 = .ok (.aload_n 0, 1) := by decide +kernel
theorem dX12_run_16 : decode cX12_run 16 = .ok (.sipush 2100, 3) := by decide +kernel
theorem dX12_run_19 : decode cX12_run 19 = .ok (.putfield 572, 3) := by decide +kernel
theorem dX12_run_22 : decode cX12_run 22 = .ok (.aload_n 0, 1) := by decide +kernel
theorem dX12_run_23 : decode cX12_run 23 = .ok (.iconst 0, 1) := by decide +kernel
theorem dX12_run_24 : decode cX12_run 24 = .ok (.putfield 578, 3) := by decide +kernel
theorem dX12_run_27 : decode cX12_run 27 = .ok (.aload_n 0, 1) := by decide +kernel
theorem dX12_run_28 : decode cX12_run 28 = .ok (.iconst 0, 1) := by decide +kernel
theorem dX12_run_29 : decode cX12_run 29 = .ok (.putfield 593, 3) := by decide +kernel
theorem dX12_run_32 : decode cX12_run 32 = .ok (.aload_n 0, 1) := by decide +kernel
theorem dX12_run_33 : decode cX12_run 33 = .ok (.iconst 0, 1) := by decide +kernel
theorem dX12_run_34 : decode cX12_run 34 = .ok (.putfield 551, 3) := by decide +kernel
theorem dX12_run_37 : decode cX12_run 37 = .ok (.iconst 1, 1) := by decide +kernel
theorem dX12_run_38 : decode cX12_run 38 = .ok (.istore_n 2, 1) := by decide +kernel
theorem dX12_run_39 : decode cX12_run 39 = .ok (.iload_n 2, 1) := by decide +kernel
theorem dX12_run_40 : decode cX12_run 40 = .ok (.ifCond .eq 1482, 3) := by decide +kernel
theorem dX12_run_43 : decode cX12_run 43 = .ok (.aload_n 0, 1) := by decide +kernel
theorem dX12_run_44 : decode cX12_run 44 = .ok (.getfield 551, 3) := by decide +kernel
theorem dX12_run_47 : decode cX12_run 47 = .ok (.ifCond .ne 1475, 3) := by decide +kernel
theorem dX12_run_50 : decode cX12_run 50 = .ok (.aload_n 0, 1) := by decide +kernel
theorem dX12_run_51 : decode cX12_run 51 = .ok (.getfield 566, 3) := by decide +kernel
theorem dX12_run_54 : decode cX12_run 54 = .ok (.istore_n 3, 1) := by decide +kernel
theorem dX12_run_55 : decode cX12_run 55 = .ok (.aload_n 0, 1) := by decide +kernel
theorem dX12_run_56 : decode cX12_run 56 = .ok (.dup, 1) := by decide +kernel
theorem dX12_run_57 : decode cX12_run 57 = .ok (.getfield 566, 3) := by decide +kernel
theorem dX12_run_60 : decode cX12_run 60 = .ok (.iconst 1, 1) := by decide +kernel
theorem dX12_run_61 : decode cX12_run 61 = .ok (.iadd, 1) := by decide +kernel
theorem dX12_run_62 : decode cX12_run 62 = .ok (.putfield 566, 3) := by decide +kernel
theorem dX12_run_65 : decode cX12_run 65 = .ok (.aload_n 0, 1) := by decide +kernel
theorem dX12_run_66 : decode cX12_run 66 = .ok (.getfield 138, 3) := by decide +kernel
theorem dX12_run_69 : decode cX12_run 69 = .ok (.iload_n 3, 1) := by decide +kernel
theorem dX12_run_70 : decode cX12_run 70 = .ok (.iaload, 1) := by decide +kernel
theorem dX12_run_71 : decode cX12_run 71 = .ok (.istore 4, 2) := by decide +kernel
theorem dX12_run_73 : decode cX12_run 73 = .ok (.aload_n 0, 1) := by decide +kernel
theorem dX12_run_74 : decode cX12_run 74 = .ok (.getfield 141, 3) := by decide +kernel
theorem dX12_run_77 : decode cX12_run 77 = .ok (.iload_n 3, 1) := by decide +kernel
theorem dX12_run_78 : decode cX12_run 78 = .ok (.iaload, 1) := by decide +kernel
theorem dX12_run_79 : decode cX12_run 79 = .ok (.istore 5, 2) := by decide +kernel
theorem dX12_run_81 : decode cX12_run 81 = .ok (.aload_n 0, 1) := by decide +kernel
theorem dX12_run_82 : decode cX12_run 82 = .ok (.getfield 135, 3) := by decide +kernel
theorem dX12_run_85 : decode cX12_run 85 = .ok (.iload_n 3, 1) := by decide +kernel
theorem dX12_run_86 : decode cX12_run 86 = .ok (.iaload, 1) := by decide +kernel
theorem dX12_run_87 : decode cX12_run 87 = .ok (.tableswitch 1392 1 38 #[165, 199, 224, 1392, 1392, 1392, 1392, 1392, 1392, 248, 270, 297, 1392, 324, 362, 406, 438, 478, 518, 604, 634, 739, 779, 808, 843, 873, 906, 939, 948, 983, 1096, 1114, 1176, 1195, 1238, 1275, 1336, 1349], 165) := by decide +kernel
theorem dX12_run_252 : decode cX12_run 252 = .ok (.aload_n 0, 1) := by decide +kernel
theorem dX12_run_253 : decode cX12_run 253 = .ok (.getfield 593, 3) := by decide +kernel
theorem dX12_run_256 : decode cX12_run 256 = .ok (.aload_n 0, 1) := by decide +kernel
theorem dX12_run_257 : decode cX12_run 257 = .ok (.getfield 596, 3) := by decide +kernel
theorem dX12_run_260 : decode cX12_run 260 = .ok (.if_icmp .ne 13, 3) := by decide +kernel
theorem dX12_run_263 : decode cX12_run 263 = .ok (.aload_n 0, 1) := by decide +kernel
theorem dX12_run_264 : decode cX12_run 264 = .ok (.iconst 3, 1) := by decide +kernel
theorem dX12_run_265 : decode cX12_run 265 = .ok (.iload 5, 2) := by decide +kernel
theorem dX12_run_267 : decode cX12_run 267 = .ok (.invokevirtual 560, 3) := by decide +kernel
theorem dX12_run_270 : decode cX12_run 270 = .ok (.goto 1249, 3) := by decide +kernel
theorem dX12_run_273 : decode cX12_run 273 = .ok (.aload_n 0, 1) := by decide +kernel
theorem dX12_run_274 : decode cX12_run 274 = .ok (.dup, 1) := by decide +kernel
theorem dX12_run_275 : decode cX12_run 275 = .ok (.getfield 593, 3) := by decide +kernel
theorem dX12_run_278 : decode cX12_run 278 = .ok (.iconst 1, 1) := by decide +kernel
theorem dX12_run_279 : decode cX12_run 279 = .ok (.iadd, 1) := by decide +kernel
theorem dX12_run_280 : decode cX12_run 280 = .ok (.putfield 593, 3) := by decide +kernel
theorem dX12_run_283 : decode cX12_run 283 = .ok (.goto 1236, 3) := by decide +kernel
theorem dX12_run_286 : decode cX12_run 286 = .ok (.aload_n 0, 1) := by decide +kernel
theorem dX12_run_287 : decode cX12_run 287 = .ok (.getfield 584, 3) := by decide +kernel
theorem dX12_run_290 : decode cX12_run 290 = .ok (.aload_n 0, 1) := by decide +kernel
theorem dX12_run_291 : decode cX12_run 291 = .ok (.dup, 1) := by decide +kernel
theorem dX12_run_292 : decode cX12_run 292 = .ok (.getfield 587, 3) := by decide +kernel
theorem dX12_run_295 : decode cX12_run 295 = .ok (.dup_x1, 1) := by decide +kernel
theorem dX12_run_296 : decode cX12_run 296 = .ok (.iconst 1, 1) := by decide +kernel
theorem dX12_run_297 : decode cX12_run 297 = .ok (.iadd, 1) := by decide +kernel
theorem dX12_run_298 : decode cX12_run 298 = .ok (.putfield 587, 3) := by decide +kernel
theorem dX12_run_301 : decode cX12_run 301 = .ok (.aload_n 0, 1) := by decide +kernel
theorem dX12_run_302 : decode cX12_run 302 = .ok (.getfield 148, 3) := by decide +kernel
theorem dX12_run_305 : decode cX12_run 305 = .ok (.iload_n 3, 1) := by decide +kernel
theorem dX12_run_306 : decode cX12_run 306 = .ok (.laload, 1) := by decide +kernel
theorem dX12_run_307 : decode cX12_run 307 = .ok (.lastore, 1) := by decide +kernel
theorem dX12_run_308 : decode cX12_run 308 = .ok (.goto 1211, 3) := by decide +kernel
theorem dX12_run_311 : decode cX12_run 311 = .ok (.aload_n 0, 1) := by decide +kernel
theorem dX12_run_312 : decode cX12_run 312 = .ok (.getfield 584, 3) := by decide +kernel
theorem dX12_run_315 : decode cX12_run 315 = .ok (.aload_n 0, 1) := by decide +kernel
theorem dX12_run_316 : decode cX12_run 316 = .ok (.dup, 1) := by decide +kernel
theorem dX12_run_317 : decode cX12_run 317 = .ok (.getfield 587, 3) := by decide +kernel
theorem dX12_run_320 : decode cX12_run 320 = .ok (.dup_x1, 1) := by decide +kernel
theorem dX12_run_321 : decode cX12_run 321 = .ok (.iconst 1, 1) := by decide +kernel
theorem dX12_run_322 : decode cX12_run 322 = .ok (.iadd, 1) := by decide +kernel
theorem dX12_run_323 : decode cX12_run 323 = .ok (.putfield 587, 3) := by decide +kernel
theorem dX12_run_326 : decode cX12_run 326 = .ok (.aload_n 0, 1) := by decide +kernel
theorem dX12_run_327 : decode cX12_run 327 = .ok (.getfield 599, 3) := by decide +kernel
theorem dX12_run_330 : decode cX12_run 330 = .ok (.i2l, 1) := by decide +kernel
theorem dX12_run_331 : decode cX12_run 331 = .ok (.lastore, 1) := by decide +kernel
theorem dX12_run_332 : decode cX12_run 332 = .ok (.goto 1187, 3) := by decide +kernel
theorem dX12_run_335 : decode cX12_run 335 = .ok (.aload_n 0, 1) := by decide +kernel
theorem dX12_run_336 : decode cX12_run 336 = .ok (.getfield 584, 3) := by decide +kernel
theorem dX12_run_339 : decode cX12_run 339 = .ok (.aload_n 0, 1) := by decide +kernel
theorem dX12_run_340 : decode cX12_run 340 = .ok (.dup, 1) := by decide +kernel
theorem dX12_run_341 : decode cX12_run 341 = .ok (.getfield 587, 3) := by decide +kernel
theorem dX12_run_344 : decode cX12_run 344 = .ok (.dup_x1, 1) := by decide +kernel
theorem dX12_run_345 : decode cX12_run 345 = .ok (.iconst 1, 1) := by decide +kernel
theorem dX12_run_346 : decode cX12_run 346 = .ok (.iadd, 1) := by decide +kernel
theorem dX12_run_347 : decode cX12_run 347 = .ok (.putfield 587, 3) := by decide +kernel
theorem dX12_run_350 : decode cX12_run 350 = .ok (.iload 4, 2) := by decide +kernel
theorem dX12_run_352 : decode cX12_run 352 = .ok (.i2l, 1) := by decide +kernel
theorem dX12_run_353 : decode cX12_run 353 = .ok (.lastore, 1) := by decide +kernel
theorem dX12_run_354 : decode cX12_run 354 = .ok (.goto 1165, 3) := by decide +kernel
theorem dX12_run_357 : decode cX12_run 357 = .ok (.aload_n 0, 1) := by decide +kernel
theorem dX12_run_358 : decode cX12_run 358 = .ok (.getfield 584, 3) := by decide +kernel
theorem dX12_run_361 : decode cX12_run 361 = .ok (.aload_n 0, 1) := by decide +kernel
theorem dX12_run_362 : decode cX12_run 362 = .ok (.dup, 1) := by decide +kernel
theorem dX12_run_363 : decode cX12_run 363 = .ok (.getfield 587, 3) := by decide +kernel
theorem dX12_run_366 : decode cX12_run 366 = .ok (.dup_x1, 1) := by decide +kernel
theorem dX12_run_367 : decode cX12_run 367 = .ok (.iconst 1, 1) := by decide +kernel
theorem dX12_run_368 : decode cX12_run 368 = .ok (.iadd, 1) := by decide +kernel
theorem dX12_run_369 : decode cX12_run 369 = .ok (.putfield 587, 3) := by decide +kernel
theorem dX12_run_372 : decode cX12_run 372 = .ok (.aload_n 0, 1) := by decide +kernel
theorem dX12_run_373 : decode cX12_run 373 = .ok (.getfield 578, 3) := by decide +kernel
theorem dX12_run_376 : decode cX12_run 376 = .ok (.iload 4, 2) := by decide +kernel
theorem dX12_run_378 : decode cX12_run 378 = .ok (.iadd, 1) := by decide +kernel
theorem dX12_run_379 : decode cX12_run 379 = .ok (.i2l, 1) := by decide +kernel
theorem dX12_run_380 : decode cX12_run 380 = .ok (.lastore, 1) := by decide +kernel
theorem dX12_run_381 : decode cX12_run 381 = .ok (.goto 1138, 3) := by decide +kernel
theorem dX12_run_384 : decode cX12_run 384 = .ok (.aload_n 0, 1) := by decide +kernel
theorem dX12_run_385 : decode cX12_run 385 = .ok (.getfield 584, 3) := by decide +kernel
theorem dX12_run_388 : decode cX12_run 388 = .ok (.aload_n 0, 1) := by decide +kernel
theorem dX12_run_389 : decode cX12_run 389 = .ok (.dup, 1) := by decide +kernel
theorem dX12_run_390 : decode cX12_run 390 = .ok (.getfield 587, 3) := by decide +kernel
theorem dX12_run_393 : decode cX12_run 393 = .ok (.dup_x1, 1) := by decide +kernel
theorem dX12_run_394 : decode cX12_run 394 = .ok (.iconst 1, 1) := by decide +kernel
theorem dX12_run_395 : decode cX12_run 395 = .ok (.iadd, 1) := by decide +kernel
theorem dX12_run_396 : decode cX12_run 396 = .ok (.putfield 587, 3) := by decide +kernel
theorem dX12_run_399 : decode cX12_run 399 = .ok (.aload_n 0, 1) := by decide +kernel
theorem dX12_run_400 : decode cX12_run 400 = .ok (.getfield 572, 3) := by decide +kernel
theorem dX12_run_403 : decode cX12_run 403 = .ok (.iload 4, 2) := by decide +kernel
theorem dX12_run_405 : decode cX12_run 405 = .ok (.iadd, 1) := by decide +kernel
theorem dX12_run_406 : decode cX12_run 406 = .ok (.i2l, 1) := by decide +kernel
theorem dX12_run_407 : decode cX12_run 407 = .ok (.lastore, 1) := by decide +kernel
theorem dX12_run_408 : decode cX12_run 408 = .ok (.goto 1111, 3) := by decide +kernel
theorem dX12_run_411 : decode cX12_run 411 = .ok (.aload_n 0, 1) := by decide +kernel
theorem dX12_run_412 : decode cX12_run 412 = .ok (.getfield 584, 3) := by decide +kernel
theorem dX12_run_415 : decode cX12_run 415 = .ok (.aload_n 0, 1) := by decide +kernel
theorem dX12_run_416 : decode cX12_run 416 = .ok (.getfield 587, 3) := by decide +kernel
theorem dX12_run_419 : decode cX12_run 419 = .ok (.iconst 2, 1) := by decide +kernel
theorem dX12_run_420 : decode cX12_run 420 = .ok (.isub, 1) := by decide +kernel
theorem dX12_run_421 : decode cX12_run 421 = .ok (.dup2, 1) := by decide +kernel
theorem dX12_run_422 : decode cX12_run 422 = .ok (.laload, 1) := by decide +kernel
theorem dX12_run_423 : decode cX12_run 423 = .ok (.aload_n 0, 1) := by decide +kernel
theorem dX12_run_424 : decode cX12_run 424 = .ok (.getfield 584, 3) := by decide +kernel
theorem dX12_run_427 : decode cX12_run 427 = .ok (.aload_n 0, 1) := by decide +kernel
theorem dX12_run_428 : decode cX12_run 428 = .ok (.getfield 587, 3) := by decide +kernel
theorem dX12_run_431 : decode cX12_run 431 = .ok (.iconst 1, 1) := by decide +kernel
theorem dX12_run_432 : decode cX12_run 432 = .ok (.isub, 1) := by decide +kernel
theorem dX12_run_433 : decode cX12_run 433 = .ok (.laload, 1) := by decide +kernel
theorem dX12_run_434 : decode cX12_run 434 = .ok (.ladd, 1) := by decide +kernel
theorem dX12_run_435 : decode cX12_run 435 = .ok (.lastore, 1) := by decide +kernel
theorem dX12_run_436 : decode cX12_run 436 = .ok (.aload_n 0, 1) := by decide +kernel
theorem dX12_run_437 : decode cX12_run 437 = .ok (.dup, 1) := by decide +kernel
theorem dX12_run_438 : decode cX12_run 438 = .ok (.getfield 587, 3) := by decide +kernel
theorem dX12_run_441 : decode cX12_run 441 = .ok (.iconst 1, 1) := by decide +kernel
theorem dX12_run_442 : decode cX12_run 442 = .ok (.isub, 1) := by decide +kernel
theorem dX12_run_443 : decode cX12_run 443 = .ok (.putfield 587, 3) := by decide +kernel
theorem dX12_run_446 : decode cX12_run 446 = .ok (.goto 1073, 3) := by decide +kernel
theorem dX12_run_449 : decode cX12_run 449 = .ok (.aload_n 0, 1) := by decide +kernel
theorem dX12_run_450 : decode cX12_run 450 = .ok (.getfield 584, 3) := by decide +kernel
theorem dX12_run_453 : decode cX12_run 453 = .ok (.aload_n 0, 1) := by decide +kernel
theorem dX12_run_454 : decode cX12_run 454 = .ok (.getfield 587, 3) := by decide +kernel
theorem dX12_run_457 : decode cX12_run 457 = .ok (.iconst 1, 1) := by decide +kernel
theorem dX12_run_458 : decode cX12_run 458 = .ok (.isub, 1) := by decide +kernel
theorem dX12_run_459 : decode cX12_run 459 = .ok (.laload, 1) := by decide +kernel
theorem dX12_run_460 : decode cX12_run 460 = .ok (.lconst 0, 1) := by decide +kernel
theorem dX12_run_461 : decode cX12_run 461 = .ok (.lcmp, 1) := by decide +kernel
theorem dX12_run_462 : decode cX12_run 462 = .ok (.ifCond .lt 21, 3) := by decide +kernel
theorem dX12_run_465 : decode cX12_run 465 = .ok (.aload_n 0, 1) := by decide +kernel
theorem dX12_run_466 : decode cX12_run 466 = .ok (.getfield 584, 3) := by decide +kernel
theorem dX12_run_469 : decode cX12_run 469 = .ok (.aload_n 0, 1) := by decide +kernel
theorem dX12_run_470 : decode cX12_run 470 = .ok (.getfield 587, 3) := by decide +kernel
theorem dX12_run_473 : decode cX12_run 473 = .ok (.iconst 1, 1) := by decide +kernel
theorem dX12_run_474 : decode cX12_run 474 = .ok (.isub, 1) := by decide +kernel
theorem dX12_run_475 : decode cX12_run 475 = .ok (.laload, 1) := by decide +kernel
theorem dX12_run_476 : decode cX12_run 476 = .ok (.iload 4, 2) := by decide +kernel
theorem dX12_run_478 : decode cX12_run 478 = .ok (.i2l, 1) := by decide +kernel
theorem dX12_run_479 : decode cX12_run 479 = .ok (.lcmp, 1) := by decide +kernel
theorem dX12_run_480 : decode cX12_run 480 = .ok (.ifCond .lt 1039, 3) := by decide +kernel
theorem dX12_run_483 : decode cX12_run 483 = .ok (.aload_n 0, 1) := by decide +kernel
theorem dX12_run_484 : decode cX12_run 484 = .ok (.iconst 2, 1) := by decide +kernel
theorem dX12_run_485 : decode cX12_run 485 = .ok (.iload 5, 2) := by decide +kernel
theorem dX12_run_487 : decode cX12_run 487 = .ok (.invokevirtual 560, 3) := by decide +kernel
theorem dX12_run_490 : decode cX12_run 490 = .ok (.goto 1029, 3) := by decide +kernel
theorem dX12_run_493 : decode cX12_run 493 = .ok (.aload_n 0, 1) := by decide +kernel
theorem dX12_run_494 : decode cX12_run 494 = .ok (.getfield 584, 3) := by decide +kernel
theorem dX12_run_497 : decode cX12_run 497 = .ok (.aload_n 0, 1) := by decide +kernel
theorem dX12_run_498 : decode cX12_run 498 = .ok (.getfield 587, 3) := by decide +kernel
theorem dX12_run_501 : decode cX12_run 501 = .ok (.iconst 1, 1) := by decide +kernel
theorem dX12_run_502 : decode cX12_run 502 = .ok (.isub, 1) := by decide +kernel
theorem dX12_run_503 : decode cX12_run 503 = .ok (.aload_n 0, 1) := by decide +kernel
theorem dX12_run_504 : decode cX12_run 504 = .ok (.aload_n 0, 1) := by decide +kernel
theorem dX12_run_505 : decode cX12_run 505 = .ok (.getfield 584, 3) := by decide +kernel
theorem dX12_run_508 : decode cX12_run 508 = .ok (.aload_n 0, 1) := by decide +kernel
theorem dX12_run_509 : decode cX12_run 509 = .ok (.getfield 587, 3) := by decide +kernel
theorem dX12_run_512 : decode cX12_run 512 = .ok (.iconst 1, 1) := by decide +kernel
theorem dX12_run_513 : decode cX12_run 513 = .ok (.isub, 1) := by decide +kernel
theorem dX12_run_514 : decode cX12_run 514 = .ok (.laload, 1) := by decide +kernel
theorem dX12_run_515 : decode cX12_run 515 = .ok (.l2i, 1) := by decide +kernel
theorem dX12_run_516 : decode cX12_run 516 = .ok (.iload 4, 2) := by decide +kernel
theorem dX12_run_518 : decode cX12_run 518 = .ok (.invokevirtual 602, 3) := by decide +kernel
theorem dX12_run_521 : decode cX12_run 521 = .ok (.lastore, 1) := by decide +kernel
theorem dX12_run_522 : decode cX12_run 522 = .ok (.goto 997, 3) := by decide +kernel
theorem dX12_run_525 : decode cX12_run 525 = .ok (.aload_n 0, 1) := by decide +kernel
theorem dX12_run_526 : decode cX12_run 526 = .ok (.getfield 584, 3) := by decide +kernel
theorem dX12_run_529 : decode cX12_run 529 = .ok (.aload_n 0, 1) := by decide +kernel
theorem dX12_run_530 : decode cX12_run 530 = .ok (.getfield 587, 3) := by decide +kernel
theorem dX12_run_533 : decode cX12_run 533 = .ok (.aload_n 0, 1) := by decide +kernel
theorem dX12_run_534 : decode cX12_run 534 = .ok (.aload_n 0, 1) := by decide +kernel
theorem dX12_run_535 : decode cX12_run 535 = .ok (.getfield 584, 3) := by decide +kernel
theorem dX12_run_538 : decode cX12_run 538 = .ok (.aload_n 0, 1) := by decide +kernel
theorem dX12_run_539 : decode cX12_run 539 = .ok (.getfield 587, 3) := by decide +kernel
theorem dX12_run_542 : decode cX12_run 542 = .ok (.iconst 1, 1) := by decide +kernel
theorem dX12_run_543 : decode cX12_run 543 = .ok (.isub, 1) := by decide +kernel
theorem dX12_run_544 : decode cX12_run 544 = .ok (.laload, 1) := by decide +kernel
theorem dX12_run_545 : decode cX12_run 545 = .ok (.l2i, 1) := by decide +kernel
theorem dX12_run_546 : decode cX12_run 546 = .ok (.iload 4, 2) := by decide +kernel
theorem dX12_run_548 : decode cX12_run 548 = .ok (.invokevirtual 602, 3) := by decide +kernel
theorem dX12_run_551 : decode cX12_run 551 = .ok (.lastore, 1) := by decide +kernel
theorem dX12_run_552 : decode cX12_run 552 = .ok (.aload_n 0, 1) := by decide +kernel
theorem dX12_run_553 : decode cX12_run 553 = .ok (.dup, 1) := by decide +kernel
theorem dX12_run_554 : decode cX12_run 554 = .ok (.getfield 587, 3) := by decide +kernel
theorem dX12_run_557 : decode cX12_run 557 = .ok (.iconst 1, 1) := by decide +kernel
theorem dX12_run_558 : decode cX12_run 558 = .ok (.iadd, 1) := by decide +kernel
theorem dX12_run_559 : decode cX12_run 559 = .ok (.putfield 587, 3) := by decide +kernel
theorem dX12_run_562 : decode cX12_run 562 = .ok (.goto 957, 3) := by decide +kernel
theorem dX12_run_565 : decode cX12_run 565 = .ok (.aload_n 0, 1) := by decide +kernel
theorem dX12_run_566 : decode cX12_run 566 = .ok (.dup, 1) := by decide +kernel
theorem dX12_run_567 : decode cX12_run 567 = .ok (.getfield 587, 3) := by decide +kernel
theorem dX12_run_570 : decode cX12_run 570 = .ok (.iconst 2, 1) := by decide +kernel
theorem dX12_run_571 : decode cX12_run 571 = .ok (.isub, 1) := by decide +kernel
theorem dX12_run_572 : decode cX12_run 572 = .ok (.putfield 587, 3) := by decide +kernel
theorem dX12_run_575 : decode cX12_run 575 = .ok (.aload_n 0, 1) := by decide +kernel
theorem dX12_run_576 : decode cX12_run 576 = .ok (.aload_n 0, 1) := by decide +kernel
theorem dX12_run_577 : decode cX12_run 577 = .ok (.getfield 584, 3) := by decide +kernel
theorem dX12_run_580 : decode cX12_run 580 = .ok (.aload_n 0, 1) := by decide +kernel
theorem dX12_run_581 : decode cX12_run 581 = .ok (.getfield 587, 3) := by decide +kernel
theorem dX12_run_584 : decode cX12_run 584 = .ok (.laload, 1) := by decide +kernel
theorem dX12_run_585 : decode cX12_run 585 = .ok (.l2i, 1) := by decide +kernel
theorem dX12_run_586 : decode cX12_run 586 = .ok (.iload 4, 2) := by decide +kernel
theorem dX12_run_588 : decode cX12_run 588 = .ok (.aload_n 0, 1) := by decide +kernel
theorem dX12_run_589 : decode cX12_run 589 = .ok (.getfield 584, 3) := by decide +kernel
theorem dX12_run_592 : decode cX12_run 592 = .ok (.aload_n 0, 1) := by decide +kernel
theorem dX12_run_593 : decode cX12_run 593 = .ok (.getfield 587, 3) := by decide +kernel
theorem dX12_run_596 : decode cX12_run 596 = .ok (.iconst 1, 1) := by decide +kernel
theorem dX12_run_597 : decode cX12_run 597 = .ok (.iadd, 1) := by decide +kernel
theorem dX12_run_598 : decode cX12_run 598 = .ok (.laload, 1) := by decide +kernel
theorem dX12_run_599 : decode cX12_run 599 = .ok (.invokevirtual 606, 3) := by decide +kernel
theorem dX12_run_602 : decode cX12_run 602 = .ok (.goto 917, 3) := by decide +kernel
theorem dX12_run_605 : decode cX12_run 605 = .ok (.aload_n 0, 1) := by decide +kernel
theorem dX12_run_606 : decode cX12_run 606 = .ok (.dup, 1) := by decide +kernel
theorem dX12_run_607 : decode cX12_run 607 = .ok (.getfield 587, 3) := by decide +kernel
theorem dX12_run_610 : decode cX12_run 610 = .ok (.iconst 2, 1) := by decide +kernel
theorem dX12_run_611 : decode cX12_run 611 = .ok (.isub, 1) := by decide +kernel
theorem dX12_run_612 : decode cX12_run 612 = .ok (.putfield 587, 3) := by decide +kernel
theorem dX12_run_615 : decode cX12_run 615 = .ok (.aload_n 0, 1) := by decide +kernel
theorem dX12_run_616 : decode cX12_run 616 = .ok (.aload_n 0, 1) := by decide +kernel
theorem dX12_run_617 : decode cX12_run 617 = .ok (.getfield 584, 3) := by decide +kernel
theorem dX12_run_620 : decode cX12_run 620 = .ok (.aload_n 0, 1) := by decide +kernel
theorem dX12_run_621 : decode cX12_run 621 = .ok (.getfield 587, 3) := by decide +kernel
theorem dX12_run_624 : decode cX12_run 624 = .ok (.laload, 1) := by decide +kernel
theorem dX12_run_625 : decode cX12_run 625 = .ok (.l2i, 1) := by decide +kernel
theorem dX12_run_626 : decode cX12_run 626 = .ok (.iload 5, 2) := by decide +kernel
theorem dX12_run_628 : decode cX12_run 628 = .ok (.invokevirtual 602, 3) := by decide +kernel
theorem dX12_run_631 : decode cX12_run 631 = .ok (.lstore 6, 2) := by decide +kernel
theorem dX12_run_633 : decode cX12_run 633 = .ok (.aload_n 0, 1) := by decide +kernel
theorem dX12_run_634 : decode cX12_run 634 = .ok (.aload_n 0, 1) := by decide +kernel
theorem dX12_run_635 : decode cX12_run 635 = .ok (.getfield 584, 3) := by decide +kernel
theorem dX12_run_638 : decode cX12_run 638 = .ok (.aload_n 0, 1) := by decide +kernel
theorem dX12_run_639 : decode cX12_run 639 = .ok (.getfield 587, 3) := by decide +kernel
theorem dX12_run_642 : decode cX12_run 642 = .ok (.laload, 1) := by decide +kernel
theorem dX12_run_643 : decode cX12_run 643 = .ok (.l2i, 1) := by decide +kernel
theorem dX12_run_644 : decode cX12_run 644 = .ok (.iload 5, 2) := by decide +kernel
theorem dX12_run_646 : decode cX12_run 646 = .ok (.aload_n 0, 1) := by decide +kernel
theorem dX12_run_647 : decode cX12_run 647 = .ok (.getfield 584, 3) := by decide +kernel
theorem dX12_run_650 : decode cX12_run 650 = .ok (.aload_n 0, 1) := by decide +kernel
theorem dX12_run_651 : decode cX12_run 651 = .ok (.getfield 587, 3) := by decide +kernel
theorem dX12_run_654 : decode cX12_run 654 = .ok (.iconst 1, 1) := by decide +kernel
theorem dX12_run_655 : decode cX12_run 655 = .ok (.iadd, 1) := by decide +kernel
theorem dX12_run_656 : decode cX12_run 656 = .ok (.laload, 1) := by decide +kernel
theorem dX12_run_657 : decode cX12_run 657 = .ok (.lconst 1, 1) := by decide +kernel
theorem dX12_run_658 : decode cX12_run 658 = .ok (.land, 1) := by decide +kernel
theorem dX12_run_659 : decode cX12_run 659 = .ok (.lconst 1, 1) := by decide +kernel
theorem dX12_run_660 : decode cX12_run 660 = .ok (.lcmp, 1) := by decide +kernel
theorem dX12_run_661 : decode cX12_run 661 = .ok (.ifCond .ne 13, 3) := by decide +kernel
theorem dX12_run_664 : decode cX12_run 664 = .ok (.lload 6, 2) := by decide +kernel
theorem dX12_run_666 : decode cX12_run 666 = .ok (.lconst 1, 1) := by decide +kernel
theorem dX12_run_667 : decode cX12_run 667 = .ok (.iload 4, 2) := by decide +kernel
theorem dX12_run_669 : decode cX12_run 669 = .ok (.lshl, 1) := by decide +kernel
theorem dX12_run_670 : decode cX12_run 670 = .ok (.lor, 1) := by decide +kernel
theorem dX12_run_671 : decode cX12_run 671 = .ok (.goto 14, 3) := by decide +kernel
theorem dX12_run_674 : decode cX12_run 674 = .ok (.lload 6, 2) := by decide +kernel
theorem dX12_run_676 : decode cX12_run 676 = .ok (.lconst 1, 1) := by decide +kernel
theorem dX12_run_677 : decode cX12_run 677 = .ok (.iload 4, 2) := by decide +kernel
theorem dX12_run_679 : decode cX12_run 679 = .ok (.lshl, 1) := by decide +kernel
theorem dX12_run_680 : decode cX12_run 680 = .ok (.ldc2_w 541, 3) := by decide +kernel
theorem dX12_run_683 : decode cX12_run 683 = .ok (.lxor, 1) := by decide +kernel
theorem dX12_run_684 : decode cX12_run 684 = .ok (.land, 1) := by decide +kernel
theorem dX12_run_685 : decode cX12_run 685 = .ok (.invokevirtual 606, 3) := by decide +kernel
theorem dX12_run_688 : decode cX12_run 688 = .ok (.goto 831, 3) := by decide +kernel
theorem dX12_run_691 : decode cX12_run 691 = .ok (.aload_n 0, 1) := by decide +kernel
theorem dX12_run_692 : decode cX12_run 692 = .ok (.getfield 584, 3) := by decide +kernel
theorem dX12_run_695 : decode cX12_run 695 = .ok (.aload_n 0, 1) := by decide +kernel
theorem dX12_run_696 : decode cX12_run 696 = .ok (.getfield 587, 3) := by decide +kernel
theorem dX12_run_699 : decode cX12_run 699 = .ok (.iconst 1, 1) := by decide +kernel
theorem dX12_run_700 : decode cX12_run 700 = .ok (.isub, 1) := by decide +kernel
theorem dX12_run_701 : decode cX12_run 701 = .ok (.aload_n 0, 1) := by decide +kernel
theorem dX12_run_702 : decode cX12_run 702 = .ok (.getfield 584, 3) := by decide +kernel
theorem dX12_run_705 : decode cX12_run 705 = .ok (.aload_n 0, 1) := by decide +kernel
theorem dX12_run_706 : decode cX12_run 706 = .ok (.getfield 587, 3) := by decide +kernel
theorem dX12_run_709 : decode cX12_run 709 = .ok (.iconst 1, 1) := by decide +kernel
theorem dX12_run_710 : decode cX12_run 710 = .ok (.isub, 1) := by decide +kernel
theorem dX12_run_711 : decode cX12_run 711 = .ok (.laload, 1) := by decide +kernel
theorem dX12_run_712 : decode cX12_run 712 = .ok (.iload 4, 2) := by decide +kernel
theorem dX12_run_714 : decode cX12_run 714 = .ok (.lshr, 1) := by decide +kernel
theorem dX12_run_715 : decode cX12_run 715 = .ok (.lconst 1, 1) := by decide +kernel
theorem dX12_run_716 : decode cX12_run 716 = .ok (.land, 1) := by decide +kernel
theorem dX12_run_717 : decode cX12_run 717 = .ok (.lastore, 1) := by decide +kernel
theorem dX12_run_718 : decode cX12_run 718 = .ok (.goto 801, 3) := by decide +kernel
theorem dX12_run_721 : decode cX12_run 721 = .ok (.aload_n 0, 1) := by decide +kernel
theorem dX12_run_722 : decode cX12_run 722 = .ok (.dup, 1) := by decide +kernel
theorem dX12_run_723 : decode cX12_run 723 = .ok (.getfield 587, 3) := by decide +kernel
theorem dX12_run_726 : decode cX12_run 726 = .ok (.iconst 1, 1) := by decide +kernel
theorem dX12_run_727 : decode cX12_run 727 = .ok (.isub, 1) := by decide +kernel
theorem dX12_run_728 : decode cX12_run 728 = .ok (.putfield 587, 3) := by decide +kernel
theorem dX12_run_731 : decode cX12_run 731 = .ok (.iload 4, 2) := by decide +kernel
theorem dX12_run_733 : decode cX12_run 733 = .ok (.sipush 243, 3) := by decide +kernel
theorem dX12_run_736 : decode cX12_run 736 = .ok (.if_icmp .eq 11, 3) := by decide +kernel
theorem dX12_run_739 : decode cX12_run 739 = .ok (.iload 4, 2) := by decide +kernel
theorem dX12_run_741 : decode cX12_run 741 = .ok (.sipush 244, 3) := by decide +kernel
theorem dX12_run_744 : decode cX12_run 744 = .ok (.if_icmp .ne 27, 3) := by decide +kernel
theorem dX12_run_747 : decode cX12_run 747 = .ok (.aload_n 0, 1) := by decide +kernel
theorem dX12_run_748 : decode cX12_run 748 = .ok (.getfield 584, 3) := by decide +kernel
theorem dX12_run_751 : decode cX12_run 751 = .ok (.aload_n 0, 1) := by decide +kernel
theorem dX12_run_752 : decode cX12_run 752 = .ok (.getfield 587, 3) := by decide +kernel
theorem dX12_run_755 : decode cX12_run 755 = .ok (.laload, 1) := by decide +kernel
theorem dX12_run_756 : decode cX12_run 756 = .ok (.lconst 0, 1) := by decide +kernel
theorem dX12_run_757 : decode cX12_run 757 = .ok (.lcmp, 1) := by decide +kernel
theorem dX12_run_758 : decode cX12_run 758 = .ok (.ifCond .ne 13, 3) := by decide +kernel
theorem dX12_run_761 : decode cX12_run 761 = .ok (.aload_n 0, 1) := by decide +kernel
theorem dX12_run_762 : decode cX12_run 762 = .ok (.iconst 1, 1) := by decide +kernel
theorem dX12_run_763 : decode cX12_run 763 = .ok (.iload 5, 2) := by decide +kernel
theorem dX12_run_765 : decode cX12_run 765 = .ok (.invokevirtual 560, 3) := by decide +kernel
theorem dX12_run_768 : decode cX12_run 768 = .ok (.goto 751, 3) := by decide +kernel
theorem dX12_run_771 : decode cX12_run 771 = .ok (.aload_n 0, 1) := by decide +kernel
theorem dX12_run_772 : decode cX12_run 772 = .ok (.getfield 584, 3) := by decide +kernel
theorem dX12_run_775 : decode cX12_run 775 = .ok (.aload_n 0, 1) := by decide +kernel
theorem dX12_run_776 : decode cX12_run 776 = .ok (.getfield 587, 3) := by decide +kernel
theorem dX12_run_779 : decode cX12_run 779 = .ok (.iconst 1, 1) := by decide +kernel
theorem dX12_run_780 : decode cX12_run 780 = .ok (.isub, 1) := by decide +kernel
theorem dX12_run_781 : decode cX12_run 781 = .ok (.iload 4, 2) := by decide +kernel
theorem dX12_run_783 : decode cX12_run 783 = .ok (.aload_n 0, 1) := by decide +kernel
theorem dX12_run_784 : decode cX12_run 784 = .ok (.getfield 148, 3) := by decide +kernel
theorem dX12_run_787 : decode cX12_run 787 = .ok (.iload_n 3, 1) := by decide +kernel
theorem dX12_run_788 : decode cX12_run 788 = .ok (.laload, 1) := by decide +kernel
theorem dX12_run_789 : decode cX12_run 789 = .ok (.lconst 1, 1) := by decide +kernel
theorem dX12_run_790 : decode cX12_run 790 = .ok (.lcmp, 1) := by decide +kernel
theorem dX12_run_791 : decode cX12_run 791 = .ok (.ifCond .ne 7, 3) := by decide +kernel
theorem dX12_run_794 : decode cX12_run 794 = .ok (.iconst 1, 1) := by decide +kernel
theorem dX12_run_795 : decode cX12_run 795 = .ok (.goto 4, 3) := by decide +kernel
theorem dX12_run_798 : decode cX12_run 798 = .ok (.iconst 0, 1) := by decide +kernel
theorem dX12_run_799 : decode cX12_run 799 = .ok (.aload_n 0, 1) := by decide +kernel
theorem dX12_run_800 : decode cX12_run 800 = .ok (.getfield 584, 3) := by decide +kernel
theorem dX12_run_803 : decode cX12_run 803 = .ok (.aload_n 0, 1) := by decide +kernel
theorem dX12_run_804 : decode cX12_run 804 = .ok (.getfield 587, 3) := by decide +kernel
theorem dX12_run_807 : decode cX12_run 807 = .ok (.iconst 1, 1) := by decide +kernel
theorem dX12_run_808 : decode cX12_run 808 = .ok (.isub, 1) := by decide +kernel
theorem dX12_run_809 : decode cX12_run 809 = .ok (.laload, 1) := by decide +kernel
theorem dX12_run_810 : decode cX12_run 810 = .ok (.aload_n 0, 1) := by decide +kernel
theorem dX12_run_811 : decode cX12_run 811 = .ok (.getfield 584, 3) := by decide +kernel
theorem dX12_run_814 : decode cX12_run 814 = .ok (.aload_n 0, 1) := by decide +kernel
theorem dX12_run_815 : decode cX12_run 815 = .ok (.getfield 587, 3) := by decide +kernel
theorem dX12_run_818 : decode cX12_run 818 = .ok (.laload, 1) := by decide +kernel
theorem dX12_run_819 : decode cX12_run 819 = .ok (.invokestatic 610, 3) := by decide +kernel
theorem dX12_run_822 : decode cX12_run 822 = .ok (.lastore, 1) := by decide +kernel
theorem dX12_run_823 : decode cX12_run 823 = .ok (.goto 696, 3) := by decide +kernel
theorem dX12_run_826 : decode cX12_run 826 = .ok (.aload_n 0, 1) := by decide +kernel
theorem dX12_run_827 : decode cX12_run 827 = .ok (.getfield 584, 3) := by decide +kernel
theorem dX12_run_830 : decode cX12_run 830 = .ok (.aload_n 0, 1) := by decide +kernel
theorem dX12_run_831 : decode cX12_run 831 = .ok (.getfield 587, 3) := by decide +kernel
theorem dX12_run_834 : decode cX12_run 834 = .ok (.iconst 1, 1) := by decide +kernel
theorem dX12_run_835 : decode cX12_run 835 = .ok (.isub, 1) := by decide +kernel
theorem dX12_run_836 : decode cX12_run 836 = .ok (.iload 4, 2) := by decide +kernel
theorem dX12_run_838 : decode cX12_run 838 = .ok (.iconst 1, 1) := by decide +kernel
theorem dX12_run_839 : decode cX12_run 839 = .ok (.if_icmp .ne 7, 3) := by decide +kernel
theorem dX12_run_842 : decode cX12_run 842 = .ok (.iconst 1, 1) := by decide +kernel
theorem dX12_run_843 : decode cX12_run 843 = .ok (.goto 4, 3) := by decide +kernel
theorem dX12_run_846 : decode cX12_run 846 = .ok (.iconst 0, 1) := by decide +kernel
theorem dX12_run_847 : decode cX12_run 847 = .ok (.aload_n 0, 1) := by decide +kernel
theorem dX12_run_848 : decode cX12_run 848 = .ok (.getfield 584, 3) := by decide +kernel
theorem dX12_run_851 : decode cX12_run 851 = .ok (.aload_n 0, 1) := by decide +kernel
theorem dX12_run_852 : decode cX12_run 852 = .ok (.getfield 587, 3) := by decide +kernel
theorem dX12_run_855 : decode cX12_run 855 = .ok (.iconst 1, 1) := by decide +kernel
theorem dX12_run_856 : decode cX12_run 856 = .ok (.isub, 1) := by decide +kernel
theorem dX12_run_857 : decode cX12_run 857 = .ok (.laload, 1) := by decide +kernel
theorem dX12_run_858 : decode cX12_run 858 = .ok (.lneg, 1) := by decide +kernel
theorem dX12_run_859 : decode cX12_run 859 = .ok (.invokestatic 225, 3) := by decide +kernel
theorem dX12_run_862 : decode cX12_run 862 = .ok (.lastore, 1) := by decide +kernel
theorem dX12_run_863 : decode cX12_run 863 = .ok (.goto 656, 3) := by decide +kernel
theorem dX12_run_866 : decode cX12_run 866 = .ok (.aload_n 0, 1) := by decide +kernel
theorem dX12_run_867 : decode cX12_run 867 = .ok (.getfield 584, 3) := by decide +kernel
theorem dX12_run_870 : decode cX12_run 870 = .ok (.aload_n 0, 1) := by decide +kernel
theorem dX12_run_871 : decode cX12_run 871 = .ok (.getfield 587, 3) := by decide +kernel
theorem dX12_run_874 : decode cX12_run 874 = .ok (.iconst 1, 1) := by decide +kernel
theorem dX12_run_875 : decode cX12_run 875 = .ok (.isub, 1) := by decide +kernel
theorem dX12_run_876 : decode cX12_run 876 = .ok (.aload_n 0, 1) := by decide +kernel
theorem dX12_run_877 : decode cX12_run 877 = .ok (.getfield 584, 3) := by decide +kernel
theorem dX12_run_880 : decode cX12_run 880 = .ok (.aload_n 0, 1) := by decide +kernel
theorem dX12_run_881 : decode cX12_run 881 = .ok (.getfield 587, 3) := by decide +kernel
theorem dX12_run_884 : decode cX12_run 884 = .ok (.iconst 1, 1) := by decide +kernel
theorem dX12_run_885 : decode cX12_run 885 = .ok (.isub, 1) := by decide +kernel
theorem dX12_run_886 : decode cX12_run 886 = .ok (.laload, 1) := by decide +kernel
theorem dX12_run_887 : decode cX12_run 887 = .ok (.ldc2_w 541, 3) := by decide +kernel
theorem dX12_run_890 : decode cX12_run 890 = .ok (.lxor, 1) := by decide +kernel
theorem dX12_run_891 : decode cX12_run 891 = .ok (.lastore, 1) := by decide +kernel
theorem dX12_run_892 : decode cX12_run 892 = .ok (.goto 627, 3) := by decide +kernel
theorem dX12_run_895 : decode cX12_run 895 = .ok (.aload_n 0, 1) := by decide +kernel
theorem dX12_run_896 : decode cX12_run 896 = .ok (.getfield 584, 3) := by decide +kernel
theorem dX12_run_899 : decode cX12_run 899 = .ok (.aload_n 0, 1) := by decide +kernel
theorem dX12_run_900 : decode cX12_run 900 = .ok (.getfield 587, 3) := by decide +kernel
theorem dX12_run_903 : decode cX12_run 903 = .ok (.iconst 1, 1) := by decide +kernel
theorem dX12_run_904 : decode cX12_run 904 = .ok (.isub, 1) := by decide +kernel
theorem dX12_run_905 : decode cX12_run 905 = .ok (.aload_n 0, 1) := by decide +kernel
theorem dX12_run_906 : decode cX12_run 906 = .ok (.getfield 584, 3) := by decide +kernel
theorem dX12_run_909 : decode cX12_run 909 = .ok (.aload_n 0, 1) := by decide +kernel
theorem dX12_run_910 : decode cX12_run 910 = .ok (.getfield 587, 3) := by decide +kernel
theorem dX12_run_913 : decode cX12_run 913 = .ok (.iconst 1, 1) := by decide +kernel
theorem dX12_run_914 : decode cX12_run 914 = .ok (.isub, 1) := by decide +kernel
theorem dX12_run_915 : decode cX12_run 915 = .ok (.laload, 1) := by decide +kernel
theorem dX12_run_916 : decode cX12_run 916 = .ok (.lconst 0, 1) := by decide +kernel
theorem dX12_run_917 : decode cX12_run 917 = .ok (.lcmp, 1) := by decide +kernel
theorem dX12_run_918 : decode cX12_run 918 = .ok (.ifCond .ne 7, 3) := by decide +kernel
theorem dX12_run_921 : decode cX12_run 921 = .ok (.lconst 1, 1) := by decide +kernel
theorem dX12_run_922 : decode cX12_run 922 = .ok (.goto 4, 3) := by decide +kernel
theorem dX12_run_925 : decode cX12_run 925 = .ok (.lconst 0, 1) := by decide +kernel
theorem dX12_run_926 : decode cX12_run 926 = .ok (.lastore, 1) := by decide +kernel
theorem dX12_run_927 : decode cX12_run 927 = .ok (.goto 592, 3) := by decide +kernel
theorem dX12_run_930 : decode cX12_run 930 = .ok (.aload_n 0, 1) := by decide +kernel
theorem dX12_run_931 : decode cX12_run 931 = .ok (.getfield 584, 3) := by decide +kernel
theorem dX12_run_934 : decode cX12_run 934 = .ok (.aload_n 0, 1) := by decide +kernel
theorem dX12_run_935 : decode cX12_run 935 = .ok (.getfield 587, 3) := by decide +kernel
theorem dX12_run_938 : decode cX12_run 938 = .ok (.iconst 1, 1) := by decide +kernel
theorem dX12_run_939 : decode cX12_run 939 = .ok (.isub, 1) := by decide +kernel
theorem dX12_run_940 : decode cX12_run 940 = .ok (.iload 4, 2) := by decide +kernel
theorem dX12_run_942 : decode cX12_run 942 = .ok (.aload_n 0, 1) := by decide +kernel
theorem dX12_run_943 : decode cX12_run 943 = .ok (.getfield 584, 3) := by decide +kernel
theorem dX12_run_946 : decode cX12_run 946 = .ok (.aload_n 0, 1) := by decide +kernel
theorem dX12_run_947 : decode cX12_run 947 = .ok (.getfield 587, 3) := by decide +kernel
theorem dX12_run_950 : decode cX12_run 950 = .ok (.iconst 1, 1) := by decide +kernel
theorem dX12_run_951 : decode cX12_run 951 = .ok (.isub, 1) := by decide +kernel
theorem dX12_run_952 : decode cX12_run 952 = .ok (.laload, 1) := by decide +kernel
theorem dX12_run_953 : decode cX12_run 953 = .ok (.invokestatic 170, 3) := by decide +kernel
theorem dX12_run_956 : decode cX12_run 956 = .ok (.lastore, 1) := by decide +kernel
theorem dX12_run_957 : decode cX12_run 957 = .ok (.goto 562, 3) := by decide +kernel
theorem dX12_run_960 : decode cX12_run 960 = .ok (.aload_n 0, 1) := by decide +kernel
theorem dX12_run_961 : decode cX12_run 961 = .ok (.dup, 1) := by decide +kernel
theorem dX12_run_962 : decode cX12_run 962 = .ok (.getfield 587, 3) := by decide +kernel
theorem dX12_run_965 : decode cX12_run 965 = .ok (.iconst 1, 1) := by decide +kernel
theorem dX12_run_966 : decode cX12_run 966 = .ok (.isub, 1) := by decide +kernel
theorem dX12_run_967 : decode cX12_run 967 = .ok (.putfield 587, 3) := by decide +kernel
theorem dX12_run_970 : decode cX12_run 970 = .ok (.aload_n 0, 1) := by decide +kernel
theorem dX12_run_971 : decode cX12_run 971 = .ok (.getfield 584, 3) := by decide +kernel
theorem dX12_run_974 : decode cX12_run 974 = .ok (.aload_n 0, 1) := by decide +kernel
theorem dX12_run_975 : decode cX12_run 975 = .ok (.getfield 587, 3) := by decide +kernel
theorem dX12_run_978 : decode cX12_run 978 = .ok (.laload, 1) := by decide +kernel
theorem dX12_run_979 : decode cX12_run 979 = .ok (.lconst 0, 1) := by decide +kernel
theorem dX12_run_980 : decode cX12_run 980 = .ok (.lcmp, 1) := by decide +kernel
theorem dX12_run_981 : decode cX12_run 981 = .ok (.ifCond .ne 538, 3) := by decide +kernel
theorem dX12_run_984 : decode cX12_run 984 = .ok (.aload_n 0, 1) := by decide +kernel
theorem dX12_run_985 : decode cX12_run 985 = .ok (.iload 4, 2) := by decide +kernel
theorem dX12_run_987 : decode cX12_run 987 = .ok (.putfield 566, 3) := by decide +kernel
theorem dX12_run_990 : decode cX12_run 990 = .ok (.goto 529, 3) := by decide +kernel
theorem dX12_run_993 : decode cX12_run 993 = .ok (.aload_n 0, 1) := by decide +kernel
theorem dX12_run_994 : decode cX12_run 994 = .ok (.dup, 1) := by decide +kernel
theorem dX12_run_995 : decode cX12_run 995 = .ok (.getfield 587, 3) := by decide +kernel
theorem dX12_run_998 : decode cX12_run 998 = .ok (.iconst 1, 1) := by decide +kernel
theorem dX12_run_999 : decode cX12_run 999 = .ok (.isub, 1) := by decide +kernel
theorem dX12_run_1000 : decode cX12_run 1000 = .ok (.putfield 587, 3) := by decide +kernel
theorem dX12_run_1003 : decode cX12_run 1003 = .ok (.aload_n 0, 1) := by decide +kernel
theorem dX12_run_1004 : decode cX12_run 1004 = .ok (.getfield 584, 3) := by decide +kernel
theorem dX12_run_1007 : decode cX12_run 1007 = .ok (.aload_n 0, 1) := by decide +kernel
theorem dX12_run_1008 : decode cX12_run 1008 = .ok (.getfield 587, 3) := by decide +kernel
theorem dX12_run_1011 : decode cX12_run 1011 = .ok (.laload, 1) := by decide +kernel
theorem dX12_run_1012 : decode cX12_run 1012 = .ok (.lconst 0, 1) := by decide +kernel
theorem dX12_run_1013 : decode cX12_run 1013 = .ok (.lcmp, 1) := by decide +kernel
theorem dX12_run_1014 : decode cX12_run 1014 = .ok (.ifCond .eq 505, 3) := by decide +kernel
theorem dX12_run_1017 : decode cX12_run 1017 = .ok (.aload_n 0, 1) := by decide +kernel
theorem dX12_run_1018 : decode cX12_run 1018 = .ok (.iload 4, 2) := by decide +kernel
theorem dX12_run_1020 : decode cX12_run 1020 = .ok (.putfield 566, 3) := by decide +kernel
theorem dX12_run_1023 : decode cX12_run 1023 = .ok (.goto 496, 3) := by decide +kernel
theorem dX12_run_1026 : decode cX12_run 1026 = .ok (.aload_n 0, 1) := by decide +kernel
theorem dX12_run_1027 : decode cX12_run 1027 = .ok (.iload 4, 2) := by decide +kernel
theorem dX12_run_1029 : decode cX12_run 1029 = .ok (.putfield 566, 3) := by decide +kernel
theorem dX12_run_1032 : decode cX12_run 1032 = .ok (.goto 487, 3) := by decide +kernel
theorem dX12_run_1035 : decode cX12_run 1035 = .ok (.aload_n 0, 1) := by decide +kernel
theorem dX12_run_1036 : decode cX12_run 1036 = .ok (.getfield 584, 3) := by decide +kernel
theorem dX12_run_1039 : decode cX12_run 1039 = .ok (.aload_n 0, 1) := by decide +kernel
theorem dX12_run_1040 : decode cX12_run 1040 = .ok (.getfield 587, 3) := by decide +kernel
theorem dX12_run_1043 : decode cX12_run 1043 = .ok (.iconst 1, 1) := by decide +kernel
theorem dX12_run_1044 : decode cX12_run 1044 = .ok (.isub, 1) := by decide +kernel
theorem dX12_run_1045 : decode cX12_run 1045 = .ok (.aload_n 0, 1) := by decide +kernel
theorem dX12_run_1046 : decode cX12_run 1046 = .ok (.getfield 584, 3) := by decide +kernel
theorem dX12_run_1049 : decode cX12_run 1049 = .ok (.aload_n 0, 1) := by decide +kernel
theorem dX12_run_1050 : decode cX12_run 1050 = .ok (.getfield 587, 3) := by decide +kernel
theorem dX12_run_1053 : decode cX12_run 1053 = .ok (.iconst 1, 1) := by decide +kernel
theorem dX12_run_1054 : decode cX12_run 1054 = .ok (.isub, 1) := by decide +kernel
theorem dX12_run_1055 : decode cX12_run 1055 = .ok (.laload, 1) := by decide +kernel
theorem dX12_run_1056 : decode cX12_run 1056 = .ok (.lconst 0, 1) := by decide +kernel
theorem dX12_run_1057 : decode cX12_run 1057 = .ok (.lcmp, 1) := by decide +kernel
theorem dX12_run_1058 : decode cX12_run 1058 = .ok (.ifCond .ne 7, 3) := by decide +kernel
theorem dX12_run_1061 : decode cX12_run 1061 = .ok (.lconst 0, 1) := by decide +kernel
theorem dX12_run_1062 : decode cX12_run 1062 = .ok (.goto 4, 3) := by decide +kernel
theorem dX12_run_1065 : decode cX12_run 1065 = .ok (.lconst 1, 1) := by decide +kernel
theorem dX12_run_1066 : decode cX12_run 1066 = .ok (.lastore, 1) := by decide +kernel
theorem dX12_run_1067 : decode cX12_run 1067 = .ok (.goto 452, 3) := by decide +kernel
theorem dX12_run_1070 : decode cX12_run 1070 = .ok (.iload 4, 2) := by decide +kernel
theorem dX12_run_1072 : decode cX12_run 1072 = .ok (.ifCond .le 69, 3) := by decide +kernel
theorem dX12_run_1075 : decode cX12_run 1075 = .ok (.iload 4, 2) := by decide +kernel
theorem dX12_run_1077 : decode cX12_run 1077 = .ok (.iconst 5, 1) := by decide +kernel
theorem dX12_run_1078 : decode cX12_run 1078 = .ok (.if_icmp .ge 63, 3) := by decide +kernel
theorem dX12_run_1081 : decode cX12_run 1081 = .ok (.aload_n 0, 1) := by decide +kernel
theorem dX12_run_1082 : decode cX12_run 1082 = .ok (.dup, 1) := by decide +kernel
theorem dX12_run_1083 : decode cX12_run 1083 = .ok (.getfield 587, 3) := by decide +kernel
theorem dX12_run_1086 : decode cX12_run 1086 = .ok (.iconst 1, 1) := by decide +kernel
theorem dX12_run_1087 : decode cX12_run 1087 = .ok (.isub, 1) := by decide +kernel
theorem dX12_run_1088 : decode cX12_run 1088 = .ok (.putfield 587, 3) := by decide +kernel
theorem dX12_run_1091 : decode cX12_run 1091 = .ok (.aload_n 0, 1) := by decide +kernel
theorem dX12_run_1092 : decode cX12_run 1092 = .ok (.getfield 584, 3) := by decide +kernel
theorem dX12_run_1095 : decode cX12_run 1095 = .ok (.aload_n 0, 1) := by decide +kernel
theorem dX12_run_1096 : decode cX12_run 1096 = .ok (.getfield 587, 3) := by decide +kernel
theorem dX12_run_1099 : decode cX12_run 1099 = .ok (.iconst 1, 1) := by decide +kernel
theorem dX12_run_1100 : decode cX12_run 1100 = .ok (.isub, 1) := by decide +kernel
theorem dX12_run_1101 : decode cX12_run 1101 = .ok (.iload 4, 2) := by decide +kernel
theorem dX12_run_1103 : decode cX12_run 1103 = .ok (.iload 5, 2) := by decide +kernel
theorem dX12_run_1105 : decode cX12_run 1105 = .ok (.iconst 1, 1) := by decide +kernel
theorem dX12_run_1106 : decode cX12_run 1106 = .ok (.if_icmp .ne 7, 3) := by decide +kernel
theorem dX12_run_1109 : decode cX12_run 1109 = .ok (.iconst 1, 1) := by decide +kernel
theorem dX12_run_1110 : decode cX12_run 1110 = .ok (.goto 4, 3) := by decide +kernel
theorem dX12_run_1113 : decode cX12_run 1113 = .ok (.iconst 0, 1) := by decide +kernel
theorem dX12_run_1114 : decode cX12_run 1114 = .ok (.aload_n 0, 1) := by decide +kernel
theorem dX12_run_1115 : decode cX12_run 1115 = .ok (.getfield 584, 3) := by decide +kernel
theorem dX12_run_1118 : decode cX12_run 1118 = .ok (.aload_n 0, 1) := by decide +kernel
theorem dX12_run_1119 : decode cX12_run 1119 = .ok (.getfield 587, 3) := by decide +kernel
theorem dX12_run_1122 : decode cX12_run 1122 = .ok (.iconst 1, 1) := by decide +kernel
theorem dX12_run_1123 : decode cX12_run 1123 = .ok (.isub, 1) := by decide +kernel
theorem dX12_run_1124 : decode cX12_run 1124 = .ok (.laload, 1) := by decide +kernel
theorem dX12_run_1125 : decode cX12_run 1125 = .ok (.aload_n 0, 1) := by decide +kernel
theorem dX12_run_1126 : decode cX12_run 1126 = .ok (.getfield 584, 3) := by decide +kernel
theorem dX12_run_1129 : decode cX12_run 1129 = .ok (.aload_n 0, 1) := by decide +kernel
theorem dX12_run_1130 : decode cX12_run 1130 = .ok (.getfield 587, 3) := by decide +kernel
theorem dX12_run_1133 : decode cX12_run 1133 = .ok (.laload, 1) := by decide +kernel
theorem dX12_run_1134 : decode cX12_run 1134 = .ok (.invokestatic 614, 3) := by decide +kernel
theorem dX12_run_1137 : decode cX12_run 1137 = .ok (.lastore, 1) := by decide +kernel
theorem dX12_run_1138 : decode cX12_run 1138 = .ok (.goto 381, 3) := by decide +kernel
theorem dX12_run_1141 : decode cX12_run 1141 = .ok (.aload_n 0, 1) := by decide +kernel
theorem dX12_run_1142 : decode cX12_run 1142 = .ok (.getfield 584, 3) := by decide +kernel
theorem dX12_run_1145 : decode cX12_run 1145 = .ok (.aload_n 0, 1) := by decide +kernel
theorem dX12_run_1146 : decode cX12_run 1146 = .ok (.getfield 587, 3) := by decide +kernel
theorem dX12_run_1149 : decode cX12_run 1149 = .ok (.iconst 1, 1) := by decide +kernel
theorem dX12_run_1150 : decode cX12_run 1150 = .ok (.isub, 1) := by decide +kernel
theorem dX12_run_1151 : decode cX12_run 1151 = .ok (.iload 4, 2) := by decide +kernel
theorem dX12_run_1153 : decode cX12_run 1153 = .ok (.iload 5, 2) := by decide +kernel
theorem dX12_run_1155 : decode cX12_run 1155 = .ok (.iconst 1, 1) := by decide +kernel
theorem dX12_run_1156 : decode cX12_run 1156 = .ok (.if_icmp .ne 7, 3) := by decide +kernel
theorem dX12_run_1159 : decode cX12_run 1159 = .ok (.iconst 1, 1) := by decide +kernel
theorem dX12_run_1160 : decode cX12_run 1160 = .ok (.goto 4, 3) := by decide +kernel
theorem dX12_run_1163 : decode cX12_run 1163 = .ok (.iconst 0, 1) := by decide +kernel
theorem dX12_run_1164 : decode cX12_run 1164 = .ok (.aload_n 0, 1) := by decide +kernel
theorem dX12_run_1165 : decode cX12_run 1165 = .ok (.getfield 584, 3) := by decide +kernel
theorem dX12_run_1168 : decode cX12_run 1168 = .ok (.aload_n 0, 1) := by decide +kernel
theorem dX12_run_1169 : decode cX12_run 1169 = .ok (.getfield 587, 3) := by decide +kernel
theorem dX12_run_1172 : decode cX12_run 1172 = .ok (.iconst 1, 1) := by decide +kernel
theorem dX12_run_1173 : decode cX12_run 1173 = .ok (.isub, 1) := by decide +kernel
theorem dX12_run_1174 : decode cX12_run 1174 = .ok (.laload, 1) := by decide +kernel
theorem dX12_run_1175 : decode cX12_run 1175 = .ok (.lconst 0, 1) := by decide +kernel
theorem dX12_run_1176 : decode cX12_run 1176 = .ok (.invokestatic 614, 3) := by decide +kernel
theorem dX12_run_1179 : decode cX12_run 1179 = .ok (.lastore, 1) := by decide +kernel
theorem dX12_run_1180 : decode cX12_run 1180 = .ok (.goto 339, 3) := by decide +kernel
theorem dX12_run_1183 : decode cX12_run 1183 = .ok (.aload_n 0, 1) := by decide +kernel
theorem dX12_run_1184 : decode cX12_run 1184 = .ok (.iload 5, 2) := by decide +kernel
theorem dX12_run_1186 : decode cX12_run 1186 = .ok (.invokevirtual 617, 3) := by decide +kernel
theorem dX12_run_1189 : decode cX12_run 1189 = .ok (.ifCond .eq 330, 3) := by decide +kernel
theorem dX12_run_1192 : decode cX12_run 1192 = .ok (.aload_n 0, 1) := by decide +kernel
theorem dX12_run_1193 : decode cX12_run 1193 = .ok (.iload 4, 2) := by decide +kernel
theorem dX12_run_1195 : decode cX12_run 1195 = .ok (.invokevirtual 620, 3) := by decide +kernel
theorem dX12_run_1198 : decode cX12_run 1198 = .ok (.goto 321, 3) := by decide +kernel
theorem dX12_run_1201 : decode cX12_run 1201 = .ok (.aload_n 0, 1) := by decide +kernel
theorem dX12_run_1202 : decode cX12_run 1202 = .ok (.iload 5, 2) := by decide +kernel
theorem dX12_run_1204 : decode cX12_run 1204 = .ok (.invokevirtual 617, 3) := by decide +kernel
theorem dX12_run_1207 : decode cX12_run 1207 = .ok (.ifCond .eq 312, 3) := by decide +kernel
theorem dX12_run_1210 : decode cX12_run 1210 = .ok (.aload_n 0, 1) := by decide +kernel
theorem dX12_run_1211 : decode cX12_run 1211 = .ok (.getfield 590, 3) := by decide +kernel
theorem dX12_run_1214 : decode cX12_run 1214 = .ok (.aload_n 0, 1) := by decide +kernel
theorem dX12_run_1215 : decode cX12_run 1215 = .ok (.getfield 557, 3) := by decide +kernel
theorem dX12_run_1218 : decode cX12_run 1218 = .ok (.aload_n 0, 1) := by decide +kernel
theorem dX12_run_1219 : decode cX12_run 1219 = .ok (.getfield 587, 3) := by decide +kernel
theorem dX12_run_1222 : decode cX12_run 1222 = .ok (.iastore, 1) := by decide +kernel
theorem dX12_run_1223 : decode cX12_run 1223 = .ok (.aload_n 0, 1) := by decide +kernel
theorem dX12_run_1224 : decode cX12_run 1224 = .ok (.dup, 1) := by decide +kernel
theorem dX12_run_1225 : decode cX12_run 1225 = .ok (.getfield 557, 3) := by decide +kernel
theorem dX12_run_1228 : decode cX12_run 1228 = .ok (.iconst 1, 1) := by decide +kernel
theorem dX12_run_1229 : decode cX12_run 1229 = .ok (.iadd, 1) := by decide +kernel
theorem dX12_run_1230 : decode cX12_run 1230 = .ok (.putfield 557, 3) := by decide +kernel
theorem dX12_run_1233 : decode cX12_run 1233 = .ok (.aload_n 0, 1) := by decide +kernel
theorem dX12_run_1234 : decode cX12_run 1234 = .ok (.aload_n 0, 1) := by decide +kernel
theorem dX12_run_1235 : decode cX12_run 1235 = .ok (.getfield 390, 3) := by decide +kernel
theorem dX12_run_1238 : decode cX12_run 1238 = .ok (.iload 4, 2) := by decide +kernel
theorem dX12_run_1240 : decode cX12_run 1240 = .ok (.iaload, 1) := by decide +kernel
theorem dX12_run_1241 : decode cX12_run 1241 = .ok (.putfield 578, 3) := by decide +kernel
theorem dX12_run_1244 : decode cX12_run 1244 = .ok (.aload_n 0, 1) := by decide +kernel
theorem dX12_run_1245 : decode cX12_run 1245 = .ok (.aload_n 0, 1) := by decide +kernel
theorem dX12_run_1246 : decode cX12_run 1246 = .ok (.getfield 364, 3) := by decide +kernel
theorem dX12_run_1249 : decode cX12_run 1249 = .ok (.aload_n 0, 1) := by decide +kernel
theorem dX12_run_1250 : decode cX12_run 1250 = .ok (.getfield 387, 3) := by decide +kernel
theorem dX12_run_1253 : decode cX12_run 1253 = .ok (.iload 4, 2) := by decide +kernel
theorem dX12_run_1255 : decode cX12_run 1255 = .ok (.iaload, 1) := by decide +kernel
theorem dX12_run_1256 : decode cX12_run 1256 = .ok (.iaload, 1) := by decide +kernel
theorem dX12_run_1257 : decode cX12_run 1257 = .ok (.putfield 566, 3) := by decide +kernel
theorem dX12_run_1260 : decode cX12_run 1260 = .ok (.goto 259, 3) := by decide +kernel
theorem dX12_run_1263 : decode cX12_run 1263 = .ok (.aload_n 0, 1) := by decide +kernel
theorem dX12_run_1264 : decode cX12_run 1264 = .ok (.getfield 557, 3) := by decide +kernel
theorem dX12_run_1267 : decode cX12_run 1267 = .ok (.ifCond .ne 8, 3) := by decide +kernel
theorem dX12_run_1270 : decode cX12_run 1270 = .ok (.iconst 0, 1) := by decide +kernel
theorem dX12_run_1271 : decode cX12_run 1271 = .ok (.istore_n 2, 1) := by decide +kernel
theorem dX12_run_1272 : decode cX12_run 1272 = .ok (.goto 247, 3) := by decide +kernel
theorem dX12_run_1275 : decode cX12_run 1275 = .ok (.aload_n 0, 1) := by decide +kernel
theorem dX12_run_1276 : decode cX12_run 1276 = .ok (.invokevirtual 623, 3) := by decide +kernel
theorem dX12_run_1279 : decode cX12_run 1279 = .ok (.goto 240, 3) := by decide +kernel
theorem dX12_run_1282 : decode cX12_run 1282 = .ok (.iload 4, 2) := by decide +kernel
theorem dX12_run_1284 : decode cX12_run 1284 = .ok (.aload_n 0, 1) := by decide +kernel
theorem dX12_run_1285 : decode cX12_run 1285 = .ok (.getfield 584, 3) := by decide +kernel
theorem dX12_run_1288 : decode cX12_run 1288 = .ok (.aload_n 0, 1) := by decide +kernel
theorem dX12_run_1289 : decode cX12_run 1289 = .ok (.getfield 587, 3) := by decide +kernel
theorem dX12_run_1292 : decode cX12_run 1292 = .ok (.iconst 1, 1) := by decide +kernel
theorem dX12_run_1293 : decode cX12_run 1293 = .ok (.isub, 1) := by decide +kernel
theorem dX12_run_1294 : decode cX12_run 1294 = .ok (.laload, 1) := by decide +kernel
theorem dX12_run_1295 : decode cX12_run 1295 = .ok (.invokestatic 170, 3) := by decide +kernel
theorem dX12_run_1298 : decode cX12_run 1298 = .ok (.lstore 8, 2) := by decide +kernel
theorem dX12_run_1300 : decode cX12_run 1300 = .ok (.aload_n 0, 1) := by decide +kernel
theorem dX12_run_1301 : decode cX12_run 1301 = .ok (.invokevirtual 623, 3) := by decide +kernel
theorem dX12_run_1304 : decode cX12_run 1304 = .ok (.aload_n 0, 1) := by decide +kernel
theorem dX12_run_1305 : decode cX12_run 1305 = .ok (.getfield 584, 3) := by decide +kernel
theorem dX12_run_1308 : decode cX12_run 1308 = .ok (.aload_n 0, 1) := by decide +kernel
theorem dX12_run_1309 : decode cX12_run 1309 = .ok (.dup, 1) := by decide +kernel
theorem dX12_run_1310 : decode cX12_run 1310 = .ok (.getfield 587, 3) := by decide +kernel
theorem dX12_run_1313 : decode cX12_run 1313 = .ok (.dup_x1, 1) := by decide +kernel
theorem dX12_run_1314 : decode cX12_run 1314 = .ok (.iconst 1, 1) := by decide +kernel
theorem dX12_run_1315 : decode cX12_run 1315 = .ok (.iadd, 1) := by decide +kernel
theorem dX12_run_1316 : decode cX12_run 1316 = .ok (.putfield 587, 3) := by decide +kernel
theorem dX12_run_1319 : decode cX12_run 1319 = .ok (.lload 8, 2) := by decide +kernel
theorem dX12_run_1321 : decode cX12_run 1321 = .ok (.lastore, 1) := by decide +kernel
theorem dX12_run_1322 : decode cX12_run 1322 = .ok (.goto 197, 3) := by decide +kernel
theorem dX12_run_1325 : decode cX12_run 1325 = .ok (.aload_n 0, 1) := by decide +kernel
theorem dX12_run_1326 : decode cX12_run 1326 = .ok (.dup, 1) := by decide +kernel
theorem dX12_run_1327 : decode cX12_run 1327 = .ok (.getfield 587, 3) := by decide +kernel
theorem dX12_run_1330 : decode cX12_run 1330 = .ok (.iconst 1, 1) := by decide +kernel
theorem dX12_run_1331 : decode cX12_run 1331 = .ok (.isub, 1) := by decide +kernel
theorem dX12_run_1332 : decode cX12_run 1332 = .ok (.putfield 587, 3) := by decide +kernel
theorem dX12_run_1335 : decode cX12_run 1335 = .ok (.aload_n 0, 1) := by decide +kernel
theorem dX12_run_1336 : decode cX12_run 1336 = .ok (.iconst 3, 1) := by decide +kernel
theorem dX12_run_1337 : decode cX12_run 1337 = .ok (.aload_n 0, 1) := by decide +kernel
theorem dX12_run_1338 : decode cX12_run 1338 = .ok (.getfield 584, 3) := by decide +kernel
theorem dX12_run_1341 : decode cX12_run 1341 = .ok (.aload_n 0, 1) := by decide +kernel
theorem dX12_run_1342 : decode cX12_run 1342 = .ok (.getfield 587, 3) := by decide +kernel
theorem dX12_run_1345 : decode cX12_run 1345 = .ok (.laload, 1) := by decide +kernel
theorem dX12_run_1346 : decode cX12_run 1346 = .ok (.invokestatic 170, 3) := by decide +kernel
theorem dX12_run_1349 : decode cX12_run 1349 = .ok (.putfield 626, 3) := by decide +kernel
theorem dX12_run_1352 : decode cX12_run 1352 = .ok (.aload_n 0, 1) := by decide +kernel
theorem dX12_run_1353 : decode cX12_run 1353 = .ok (.iconst 5, 1) := by decide +kernel
theorem dX12_run_1354 : decode cX12_run 1354 = .ok (.iload 4, 2) := by decide +kernel
theorem dX12_run_1356 : decode cX12_run 1356 = .ok (.invokevirtual 560, 3) := by decide +kernel
theorem dX12_run_1359 : decode cX12_run 1359 = .ok (.goto 160, 3) := by decide +kernel
theorem dX12_run_1362 : decode cX12_run 1362 = .ok (.aload_n 0, 1) := by decide +kernel
theorem dX12_run_1363 : decode cX12_run 1363 = .ok (.getfield 584, 3) := by decide +kernel
theorem dX12_run_1366 : decode cX12_run 1366 = .ok (.aload_n 0, 1) := by decide +kernel
theorem dX12_run_1367 : decode cX12_run 1367 = .ok (.getfield 587, 3) := by decide +kernel
theorem dX12_run_1370 : decode cX12_run 1370 = .ok (.iconst 1, 1) := by decide +kernel
theorem dX12_run_1371 : decode cX12_run 1371 = .ok (.isub, 1) := by decide +kernel
theorem dX12_run_1372 : decode cX12_run 1372 = .ok (.laload, 1) := by decide +kernel
theorem dX12_run_1373 : decode cX12_run 1373 = .ok (.aload_n 0, 1) := by decide +kernel
theorem dX12_run_1374 : decode cX12_run 1374 = .ok (.getfield 148, 3) := by decide +kernel
theorem dX12_run_1377 : decode cX12_run 1377 = .ok (.iload_n 3, 1) := by decide +kernel
theorem dX12_run_1378 : decode cX12_run 1378 = .ok (.laload, 1) := by decide +kernel
theorem dX12_run_1379 : decode cX12_run 1379 = .ok (.lcmp, 1) := by decide +kernel
theorem dX12_run_1380 : decode cX12_run 1380 = .ok (.ifCond .lt 139, 3) := by decide +kernel
theorem dX12_run_1383 : decode cX12_run 1383 = .ok (.aload_n 0, 1) := by decide +kernel
theorem dX12_run_1384 : decode cX12_run 1384 = .ok (.getfield 584, 3) := by decide +kernel
theorem dX12_run_1387 : decode cX12_run 1387 = .ok (.aload_n 0, 1) := by decide +kernel
theorem dX12_run_1388 : decode cX12_run 1388 = .ok (.getfield 587, 3) := by decide +kernel
theorem dX12_run_1391 : decode cX12_run 1391 = .ok (.iconst 1, 1) := by decide +kernel
theorem dX12_run_1392 : decode cX12_run 1392 = .ok (.isub, 1) := by decide +kernel
theorem dX12_run_1393 : decode cX12_run 1393 = .ok (.laload, 1) := by decide +kernel
theorem dX12_run_1394 : decode cX12_run 1394 = .ok (.aload_n 0, 1) := by decide +kernel
theorem dX12_run_1395 : decode cX12_run 1395 = .ok (.getfield 533, 3) := by decide +kernel
theorem dX12_run_1398 : decode cX12_run 1398 = .ok (.iload_n 3, 1) := by decide +kernel
theorem dX12_run_1399 : decode cX12_run 1399 = .ok (.laload, 1) := by decide +kernel
theorem dX12_run_1400 : decode cX12_run 1400 = .ok (.lcmp, 1) := by decide +kernel
theorem dX12_run_1401 : decode cX12_run 1401 = .ok (.ifCond .gt 118, 3) := by decide +kernel
theorem dX12_run_1404 : decode cX12_run 1404 = .ok (.aload_n 0, 1) := by decide +kernel
theorem dX12_run_1405 : decode cX12_run 1405 = .ok (.dup, 1) := by decide +kernel
theorem dX12_run_1406 : decode cX12_run 1406 = .ok (.getfield 587, 3) := by decide +kernel
theorem dX12_run_1409 : decode cX12_run 1409 = .ok (.iconst 1, 1) := by decide +kernel
theorem dX12_run_1410 : decode cX12_run 1410 = .ok (.isub, 1) := by decide +kernel
theorem dX12_run_1411 : decode cX12_run 1411 = .ok (.putfield 587, 3) := by decide +kernel
theorem dX12_run_1414 : decode cX12_run 1414 = .ok (.aload_n 0, 1) := by decide +kernel
theorem dX12_run_1415 : decode cX12_run 1415 = .ok (.iload 4, 2) := by decide +kernel
theorem dX12_run_1417 : decode cX12_run 1417 = .ok (.putfield 566, 3) := by decide +kernel
theorem dX12_run_1420 : decode cX12_run 1420 = .ok (.goto 99, 3) := by decide +kernel
theorem dX12_run_1423 : decode cX12_run 1423 = .ok (.aload_n 0, 1) := by decide +kernel
theorem dX12_run_1424 : decode cX12_run 1424 = .ok (.dup, 1) := by decide +kernel
theorem dX12_run_1425 : decode cX12_run 1425 = .ok (.getfield 587, 3) := by decide +kernel
theorem dX12_run_1428 : decode cX12_run 1428 = .ok (.iconst 1, 1) := by decide +kernel
theorem dX12_run_1429 : decode cX12_run 1429 = .ok (.isub, 1) := by decide +kernel
theorem dX12_run_1430 : decode cX12_run 1430 = .ok (.putfield 587, 3) := by decide +kernel
theorem dX12_run_1433 : decode cX12_run 1433 = .ok (.goto 86, 3) := by decide +kernel
theorem dX12_run_1436 : decode cX12_run 1436 = .ok (.aload_n 0, 1) := by decide +kernel
theorem dX12_run_1437 : decode cX12_run 1437 = .ok (.dup, 1) := by decide +kernel
theorem dX12_run_1438 : decode cX12_run 1438 = .ok (.getfield 587, 3) := by decide +kernel
theorem dX12_run_1441 : decode cX12_run 1441 = .ok (.iconst 1, 1) := by decide +kernel
theorem dX12_run_1442 : decode cX12_run 1442 = .ok (.isub, 1) := by decide +kernel
theorem dX12_run_1443 : decode cX12_run 1443 = .ok (.putfield 587, 3) := by decide +kernel
theorem dX12_run_1446 : decode cX12_run 1446 = .ok (.aload_n 0, 1) := by decide +kernel
theorem dX12_run_1447 : decode cX12_run 1447 = .ok (.getfield 584, 3) := by decide +kernel
theorem dX12_run_1450 : decode cX12_run 1450 = .ok (.aload_n 0, 1) := by decide +kernel
theorem dX12_run_1451 : decode cX12_run 1451 = .ok (.getfield 587, 3) := by decide +kernel
theorem dX12_run_1454 : decode cX12_run 1454 = .ok (.laload, 1) := by decide +kernel
theorem dX12_run_1455 : decode cX12_run 1455 = .ok (.aload_n 0, 1) := by decide +kernel
theorem dX12_run_1456 : decode cX12_run 1456 = .ok (.getfield 584, 3) := by decide +kernel
theorem dX12_run_1459 : decode cX12_run 1459 = .ok (.aload_n 0, 1) := by decide +kernel
theorem dX12_run_1460 : decode cX12_run 1460 = .ok (.getfield 587, 3) := by decide +kernel
theorem dX12_run_1463 : decode cX12_run 1463 = .ok (.iconst 1, 1) := by decide +kernel
theorem dX12_run_1464 : decode cX12_run 1464 = .ok (.isub, 1) := by decide +kernel
theorem dX12_run_1465 : decode cX12_run 1465 = .ok (.laload, 1) := by decide +kernel
theorem dX12_run_1466 : decode cX12_run 1466 = .ok (.lcmp, 1) := by decide +kernel
theorem dX12_run_1467 : decode cX12_run 1467 = .ok (.ifCond .le 52, 3) := by decide +kernel
theorem dX12_run_1470 : decode cX12_run 1470 = .ok (.aload_n 0, 1) := by decide +kernel
theorem dX12_run_1471 : decode cX12_run 1471 = .ok (.iload 4, 2) := by decide +kernel
theorem dX12_run_1473 : decode cX12_run 1473 = .ok (.putfield 566, 3) := by decide +kernel
theorem dX12_run_1476 : decode cX12_run 1476 = .ok (.goto 43, 3) := by decide +kernel
theorem dX12_run_1479 : decode cX12_run 1479 = .ok (.aload_n 0, 1) := by decide +kernel
theorem dX12_run_1480 : decode cX12_run 1480 = .ok (.dup, 1) := by decide +kernel
theorem dX12_run_1481 : decode cX12_run 1481 = .ok (.getfield 587, 3) := by decide +kernel
theorem dX12_run_1484 : decode cX12_run 1484 = .ok (.iconst 1, 1) := by decide +kernel
theorem dX12_run_1485 : decode cX12_run 1485 = .ok (.isub, 1) := by decide +kernel
theorem dX12_run_1486 : decode cX12_run 1486 = .ok (.putfield 587, 3) := by decide +kernel
theorem dX12_run_1489 : decode cX12_run 1489 = .ok (.aload_n 0, 1) := by decide +kernel
theorem dX12_run_1490 : decode cX12_run 1490 = .ok (.getfield 584, 3) := by decide +kernel
theorem dX12_run_1493 : decode cX12_run 1493 = .ok (.aload_n 0, 1) := by decide +kernel
theorem dX12_run_1494 : decode cX12_run 1494 = .ok (.getfield 587, 3) := by decide +kernel
theorem dX12_run_1497 : decode cX12_run 1497 = .ok (.laload, 1) := by decide +kernel
theorem dX12_run_1498 : decode cX12_run 1498 = .ok (.aload_n 0, 1) := by decide +kernel
theorem dX12_run_1499 : decode cX12_run 1499 = .ok (.getfield 584, 3) := by decide +kernel
theorem dX12_run_1502 : decode cX12_run 1502 = .ok (.aload_n 0, 1) := by decide +kernel
theorem dX12_run_1503 : decode cX12_run 1503 = .ok (.getfield 587, 3) := by decide +kernel
theorem dX12_run_1506 : decode cX12_run 1506 = .ok (.iconst 1, 1) := by decide +kernel
theorem dX12_run_1507 : decode cX12_run 1507 = .ok (.isub, 1) := by decide +kernel
theorem dX12_run_1508 : decode cX12_run 1508 = .ok (.laload, 1) := by decide +kernel
theorem dX12_run_1509 : decode cX12_run 1509 = .ok (.lcmp, 1) := by decide +kernel
theorem dX12_run_1510 : decode cX12_run 1510 = .ok (.ifCond .ne 9, 3) := by decide +kernel
theorem dX12_run_1513 : decode cX12_run 1513 = .ok (.aload_n 0, 1) := by decide +kernel
theorem dX12_run_1514 : decode cX12_run 1514 = .ok (.iload 4, 2) := by decide +kernel
theorem dX12_run_1516 : decode cX12_run 1516 = .ok (.putfield 566, 3) := by decide +kernel
theorem dX12_run_1519 : decode cX12_run 1519 = .ok (.goto (-1480), 3) := by decide +kernel
theorem dX12_run_1522 : decode cX12_run 1522 = .ok (.return_, 1) := by decide +kernel
abbrev cX12_runTask : ByteArray := prog_14_method_89_code
def yX12_runTask : MethodName := ⟨RX12, "runTask", "(I)V"⟩
theorem dX12_runTask_0 : decode cX12_runTask 0 = .ok (.aload_n 0, 1) := by decide +kernel
theorem dX12_runTask_1 : decode cX12_runTask 1 = .ok (.getfield 629, 3) := by decide +kernel
theorem dX12_runTask_4 : decode cX12_runTask 4 = .ok (.iload_n 1, 1) := by decide +kernel
theorem dX12_runTask_5 : decode cX12_runTask 5 = .ok (.dup2, 1) := by decide +kernel
theorem dX12_runTask_6 : decode cX12_runTask 6 = .ok (.iaload, 1) := by decide +kernel
theorem dX12_runTask_7 : decode cX12_runTask 7 = .ok (.iconst 1, 1) := by decide +kernel
theorem dX12_runTask_8 : decode cX12_runTask 8 = .ok (.iadd, 1) := by decide +kernel
theorem dX12_runTask_9 : decode cX12_runTask 9 = .ok (.iastore, 1) := by decide +kernel
theorem dX12_runTask_10 : decode cX12_runTask 10 = .ok (.aload_n 0, 1) := by decide +kernel
theorem dX12_runTask_11 : decode cX12_runTask 11 = .ok (.aload_n 0, 1) := by decide +kernel
theorem dX12_runTask_12 : decode cX12_runTask 12 = .ok (.getfield 408, 3) := by decide +kernel
theorem dX12_runTask_15 : decode cX12_runTask 15 = .ok (.bipush 8, 2) := by decide +kernel
theorem dX12_runTask_17 : decode cX12_runTask 17 = .ok (.aload_n 0, 1) := by decide +kernel
theorem dX12_runTask_18 : decode cX12_runTask 18 = .ok (.getfield 581, 3) := by decide +kernel
theorem dX12_runTask_21 : decode cX12_runTask 21 = .ok (.imul, 1) := by decide +kernel
theorem dX12_runTask_22 : decode cX12_runTask 22 = .ok (.iload_n 1, 1) := by decide +kernel
theorem dX12_runTask_23 : decode cX12_runTask 23 = .ok (.iadd, 1) := by decide +kernel
theorem dX12_runTask_24 : decode cX12_runTask 24 = .ok (.iaload, 1) := by decide +kernel
theorem dX12_runTask_25 : decode cX12_runTask 25 = .ok (.invokevirtual 632, 3) := by decide +kernel
theorem dX12_runTask_28 : decode cX12_runTask 28 = .ok (.aload_n 0, 1) := by decide +kernel
theorem dX12_runTask_29 : decode cX12_runTask 29 = .ok (.getfield 635, 3) := by decide +kernel
theorem dX12_runTask_32 : decode cX12_runTask 32 = .ok (.iload_n 1, 1) := by decide +kernel
theorem dX12_runTask_33 : decode cX12_runTask 33 = .ok (.aload_n 0, 1) := by decide +kernel
theorem dX12_runTask_34 : decode cX12_runTask 34 = .ok (.getfield 593, 3) := by decide +kernel
theorem dX12_runTask_37 : decode cX12_runTask 37 = .ok (.iastore, 1) := by decide +kernel
theorem dX12_runTask_38 : decode cX12_runTask 38 = .ok (.aload_n 0, 1) := by decide +kernel
theorem dX12_runTask_39 : decode cX12_runTask 39 = .ok (.getfield 551, 3) := by decide +kernel
theorem dX12_runTask_42 : decode cX12_runTask 42 = .ok (.ifCond .ne 4, 3) := by decide +kernel
theorem dX12_runTask_45 : decode cX12_runTask 45 = .ok (.return_, 1) := by decide +kernel
theorem dX12_runTask_46 : decode cX12_runTask 46 = .ok (.aload_n 0, 1) := by decide +kernel
theorem dX12_runTask_47 : decode cX12_runTask 47 = .ok (.getfield 638, 3) := by decide +kernel
theorem dX12_runTask_50 : decode cX12_runTask 50 = .ok (.iload_n 1, 1) := by decide +kernel
theorem dX12_runTask_51 : decode cX12_runTask 51 = .ok (.iconst 1, 1) := by decide +kernel
theorem dX12_runTask_52 : decode cX12_runTask 52 = .ok (.bastore, 1) := by decide +kernel
theorem dX12_runTask_53 : decode cX12_runTask 53 = .ok (.aload_n 0, 1) := by decide +kernel
theorem dX12_runTask_54 : decode cX12_runTask 54 = .ok (.getfield 641, 3) := by decide +kernel
theorem dX12_runTask_57 : decode cX12_runTask 57 = .ok (.iload_n 1, 1) := by decide +kernel
theorem dX12_runTask_58 : decode cX12_runTask 58 = .ok (.aload_n 0, 1) := by decide +kernel
theorem dX12_runTask_59 : decode cX12_runTask 59 = .ok (.getfield 551, 3) := by decide +kernel
theorem dX12_runTask_62 : decode cX12_runTask 62 = .ok (.iastore, 1) := by decide +kernel
theorem dX12_runTask_63 : decode cX12_runTask 63 = .ok (.aload_n 0, 1) := by decide +kernel
theorem dX12_runTask_64 : decode cX12_runTask 64 = .ok (.getfield 644, 3) := by decide +kernel
theorem dX12_runTask_67 : decode cX12_runTask 67 = .ok (.iload_n 1, 1) := by decide +kernel
theorem dX12_runTask_68 : decode cX12_runTask 68 = .ok (.aload_n 0, 1) := by decide +kernel
theorem dX12_runTask_69 : decode cX12_runTask 69 = .ok (.getfield 554, 3) := by decide +kernel
theorem dX12_runTask_72 : decode cX12_runTask 72 = .ok (.iastore, 1) := by decide +kernel
theorem dX12_runTask_73 : decode cX12_runTask 73 = .ok (.aload_n 0, 1) := by decide +kernel
theorem dX12_runTask_74 : decode cX12_runTask 74 = .ok (.getfield 647, 3) := by decide +kernel
theorem dX12_runTask_77 : decode cX12_runTask 77 = .ok (.iload_n 1, 1) := by decide +kernel
theorem dX12_runTask_78 : decode cX12_runTask 78 = .ok (.aload_n 0, 1) := by decide +kernel
theorem dX12_runTask_79 : decode cX12_runTask 79 = .ok (.getfield 599, 3) := by decide +kernel
theorem dX12_runTask_82 : decode cX12_runTask 82 = .ok (.iastore, 1) := by decide +kernel
theorem dX12_runTask_83 : decode cX12_runTask 83 = .ok (.aload_n 0, 1) := by decide +kernel
theorem dX12_runTask_84 : decode cX12_runTask 84 = .ok (.getfield 650, 3) := by decide +kernel
theorem dX12_runTask_87 : decode cX12_runTask 87 = .ok (.iload_n 1, 1) := by decide +kernel
theorem dX12_runTask_88 : decode cX12_runTask 88 = .ok (.aload_n 0, 1) := by decide +kernel
theorem dX12_runTask_89 : decode cX12_runTask 89 = .ok (.getfield 551, 3) := by decide +kernel
theorem dX12_runTask_92 : decode cX12_runTask 92 = .ok (.iconst 5, 1) := by decide +kernel
theorem dX12_runTask_93 : decode cX12_runTask 93 = .ok (.if_icmp .ne 11, 3) := by decide +kernel
theorem dX12_runTask_96 : decode cX12_runTask 96 = .ok (.aload_n 0, 1) := by decide +kernel
theorem dX12_runTask_97 : decode cX12_runTask 97 = .ok (.getfield 626, 3) := by decide +kernel
theorem dX12_runTask_100 : decode cX12_runTask 100 = .ok (.l2i, 1) := by decide +kernel
theorem dX12_runTask_101 : decode cX12_runTask 101 = .ok (.goto 4, 3) := by decide +kernel
theorem dX12_runTask_104 : decode cX12_runTask 104 = .ok (.iconst 0, 1) := by decide +kernel
theorem dX12_runTask_105 : decode cX12_runTask 105 = .ok (.iastore, 1) := by decide +kernel
theorem dX12_runTask_106 : decode cX12_runTask 106 = .ok (.return_, 1) := by decide +kernel
abbrev cX12_forces : ByteArray := prog_14_method_90_code
def yX12_forces : MethodName := ⟨RX12, "forces", "(I)V"⟩
theorem dX12_forces_0 : decode cX12_forces 0 = .ok (.iload_n 1, 1) := by decide +kernel
theorem dX12_forces_1 : decode cX12_forces 1 = .ok (.istore_n 2, 1) := by decide +kernel
theorem dX12_forces_2 : decode cX12_forces 2 = .ok (.iload_n 2, 1) := by decide +kernel
theorem dX12_forces_3 : decode cX12_forces 3 = .ok (.iload_n 1, 1) := by decide +kernel
theorem dX12_forces_4 : decode cX12_forces 4 = .ok (.bipush 64, 2) := by decide +kernel
theorem dX12_forces_6 : decode cX12_forces 6 = .ok (.iadd, 1) := by decide +kernel
theorem dX12_forces_7 : decode cX12_forces 7 = .ok (.if_icmp .ge 37, 3) := by decide +kernel
theorem dX12_forces_10 : decode cX12_forces 10 = .ok (.aload_n 0, 1) := by decide +kernel
theorem dX12_forces_11 : decode cX12_forces 11 = .ok (.getfield 539, 3) := by decide +kernel
theorem dX12_forces_14 : decode cX12_forces 14 = .ok (.iload_n 2, 1) := by decide +kernel
theorem dX12_forces_15 : decode cX12_forces 15 = .ok (.aload_n 0, 1) := by decide +kernel
theorem dX12_forces_16 : decode cX12_forces 16 = .ok (.getfield 539, 3) := by decide +kernel
theorem dX12_forces_19 : decode cX12_forces 19 = .ok (.iload_n 2, 1) := by decide +kernel
theorem dX12_forces_20 : decode cX12_forces 20 = .ok (.iaload, 1) := by decide +kernel
theorem dX12_forces_21 : decode cX12_forces 21 = .ok (.aload_n 0, 1) := by decide +kernel
theorem dX12_forces_22 : decode cX12_forces 22 = .ok (.getfield 653, 3) := by decide +kernel
theorem dX12_forces_25 : decode cX12_forces 25 = .ok (.iload_n 2, 1) := by decide +kernel
theorem dX12_forces_26 : decode cX12_forces 26 = .ok (.iaload, 1) := by decide +kernel
theorem dX12_forces_27 : decode cX12_forces 27 = .ok (.iconst (-1), 1) := by decide +kernel
theorem dX12_forces_28 : decode cX12_forces 28 = .ok (.ixor, 1) := by decide +kernel
theorem dX12_forces_29 : decode cX12_forces 29 = .ok (.iand, 1) := by decide +kernel
theorem dX12_forces_30 : decode cX12_forces 30 = .ok (.aload_n 0, 1) := by decide +kernel
theorem dX12_forces_31 : decode cX12_forces 31 = .ok (.getfield 656, 3) := by decide +kernel
theorem dX12_forces_34 : decode cX12_forces 34 = .ok (.iload_n 2, 1) := by decide +kernel
theorem dX12_forces_35 : decode cX12_forces 35 = .ok (.iaload, 1) := by decide +kernel
theorem dX12_forces_36 : decode cX12_forces 36 = .ok (.ior, 1) := by decide +kernel
theorem dX12_forces_37 : decode cX12_forces 37 = .ok (.iastore, 1) := by decide +kernel
theorem dX12_forces_38 : decode cX12_forces 38 = .ok (.iinc 2 1, 3) := by decide +kernel
theorem dX12_forces_41 : decode cX12_forces 41 = .ok (.goto (-39), 3) := by decide +kernel
theorem dX12_forces_44 : decode cX12_forces 44 = .ok (.return_, 1) := by decide +kernel
abbrev cX12_numberOf : ByteArray := prog_14_method_92_code
def yX12_numberOf : MethodName := ⟨RX12, "numberOf", "(II)J"⟩
theorem dX12_numberOf_0 : decode cX12_numberOf 0 = .ok (.sipush 160, 3) := by decide +kernel
theorem dX12_numberOf_3 : decode cX12_numberOf 3 = .ok (.aload_n 0, 1) := by decide +kernel
theorem dX12_numberOf_4 : decode cX12_numberOf 4 = .ok (.getfield 581, 3) := by decide +kernel
theorem dX12_numberOf_7 : decode cX12_numberOf 7 = .ok (.imul, 1) := by decide +kernel
theorem dX12_numberOf_8 : decode cX12_numberOf 8 = .ok (.iload_n 1, 1) := by decide +kernel
theorem dX12_numberOf_9 : decode cX12_numberOf 9 = .ok (.iadd, 1) := by decide +kernel
theorem dX12_numberOf_10 : decode cX12_numberOf 10 = .ok (.istore_n 3, 1) := by decide +kernel
theorem dX12_numberOf_11 : decode cX12_numberOf 11 = .ok (.aload_n 0, 1) := by decide +kernel
theorem dX12_numberOf_12 : decode cX12_numberOf 12 = .ok (.getfield 272, 3) := by decide +kernel
theorem dX12_numberOf_15 : decode cX12_numberOf 15 = .ok (.iload_n 3, 1) := by decide +kernel
theorem dX12_numberOf_16 : decode cX12_numberOf 16 = .ok (.iaload, 1) := by decide +kernel
theorem dX12_numberOf_17 : decode cX12_numberOf 17 = .ok (.iconst 2, 1) := by decide +kernel
theorem dX12_numberOf_18 : decode cX12_numberOf 18 = .ok (.if_icmp .ge 19, 3) := by decide +kernel
theorem dX12_numberOf_21 : decode cX12_numberOf 21 = .ok (.aload_n 0, 1) := by decide +kernel
theorem dX12_numberOf_22 : decode cX12_numberOf 22 = .ok (.getfield 536, 3) := by decide +kernel
theorem dX12_numberOf_25 : decode cX12_numberOf 25 = .ok (.aload_n 0, 1) := by decide +kernel
theorem dX12_numberOf_26 : decode cX12_numberOf 26 = .ok (.getfield 293, 3) := by decide +kernel
theorem dX12_numberOf_29 : decode cX12_numberOf 29 = .ok (.iload_n 3, 1) := by decide +kernel
theorem dX12_numberOf_30 : decode cX12_numberOf 30 = .ok (.iaload, 1) := by decide +kernel
theorem dX12_numberOf_31 : decode cX12_numberOf 31 = .ok (.iload_n 2, 1) := by decide +kernel
theorem dX12_numberOf_32 : decode cX12_numberOf 32 = .ok (.iadd, 1) := by decide +kernel
theorem dX12_numberOf_33 : decode cX12_numberOf 33 = .ok (.laload, 1) := by decide +kernel
theorem dX12_numberOf_34 : decode cX12_numberOf 34 = .ok (.goto 19, 3) := by decide +kernel
theorem dX12_numberOf_37 : decode cX12_numberOf 37 = .ok (.aload_n 0, 1) := by decide +kernel
theorem dX12_numberOf_38 : decode cX12_numberOf 38 = .ok (.aload_n 0, 1) := by decide +kernel
theorem dX12_numberOf_39 : decode cX12_numberOf 39 = .ok (.getfield 293, 3) := by decide +kernel
theorem dX12_numberOf_42 : decode cX12_numberOf 42 = .ok (.iload_n 3, 1) := by decide +kernel
theorem dX12_numberOf_43 : decode cX12_numberOf 43 = .ok (.iaload, 1) := by decide +kernel
theorem dX12_numberOf_44 : decode cX12_numberOf 44 = .ok (.aload_n 0, 1) := by decide +kernel
theorem dX12_numberOf_45 : decode cX12_numberOf 45 = .ok (.getfield 269, 3) := by decide +kernel
theorem dX12_numberOf_48 : decode cX12_numberOf 48 = .ok (.iload_n 3, 1) := by decide +kernel
theorem dX12_numberOf_49 : decode cX12_numberOf 49 = .ok (.iaload, 1) := by decide +kernel
theorem dX12_numberOf_50 : decode cX12_numberOf 50 = .ok (.invokevirtual 602, 3) := by decide +kernel
theorem dX12_numberOf_53 : decode cX12_numberOf 53 = .ok (.lreturn, 1) := by decide +kernel
abbrev cX12_ticks : ByteArray := prog_14_method_91_code
def yX12_ticks : MethodName := ⟨RX12, "ticks", "()I"⟩
theorem dX12_ticks_0 : decode cX12_ticks 0 = .ok (.iconst 0, 1) := by decide +kernel
theorem dX12_ticks_1 : decode cX12_ticks 1 = .ok (.istore_n 1, 1) := by decide +kernel
theorem dX12_ticks_2 : decode cX12_ticks 2 = .ok (.iconst 0, 1) := by decide +kernel
theorem dX12_ticks_3 : decode cX12_ticks 3 = .ok (.istore_n 2, 1) := by decide +kernel
theorem dX12_ticks_4 : decode cX12_ticks 4 = .ok (.iload_n 2, 1) := by decide +kernel
theorem dX12_ticks_5 : decode cX12_ticks 5 = .ok (.bipush 64, 2) := by decide +kernel
theorem dX12_ticks_7 : decode cX12_ticks 7 = .ok (.if_icmp .ge 21, 3) := by decide +kernel
theorem dX12_ticks_10 : decode cX12_ticks 10 = .ok (.aload_n 0, 1) := by decide +kernel
theorem dX12_ticks_11 : decode cX12_ticks 11 = .ok (.getfield 539, 3) := by decide +kernel
theorem dX12_ticks_14 : decode cX12_ticks 14 = .ok (.iload_n 2, 1) := by decide +kernel
theorem dX12_ticks_15 : decode cX12_ticks 15 = .ok (.aload_n 0, 1) := by decide +kernel
theorem dX12_ticks_16 : decode cX12_ticks 16 = .ok (.getfield 659, 3) := by decide +kernel
theorem dX12_ticks_19 : decode cX12_ticks 19 = .ok (.iload_n 2, 1) := by decide +kernel
theorem dX12_ticks_20 : decode cX12_ticks 20 = .ok (.iaload, 1) := by decide +kernel
theorem dX12_ticks_21 : decode cX12_ticks 21 = .ok (.iastore, 1) := by decide +kernel
theorem dX12_ticks_22 : decode cX12_ticks 22 = .ok (.iinc 2 1, 3) := by decide +kernel
theorem dX12_ticks_25 : decode cX12_ticks 25 = .ok (.goto (-21), 3) := by decide +kernel
theorem dX12_ticks_28 : decode cX12_ticks 28 = .ok (.aload_n 0, 1) := by decide +kernel
theorem dX12_ticks_29 : decode cX12_ticks 29 = .ok (.iconst 0, 1) := by decide +kernel
theorem dX12_ticks_30 : decode cX12_ticks 30 = .ok (.invokevirtual 662, 3) := by decide +kernel
theorem dX12_ticks_33 : decode cX12_ticks 33 = .ok (.iconst 0, 1) := by decide +kernel
theorem dX12_ticks_34 : decode cX12_ticks 34 = .ok (.istore_n 2, 1) := by decide +kernel
theorem dX12_ticks_35 : decode cX12_ticks 35 = .ok (.iload_n 2, 1) := by decide +kernel
theorem dX12_ticks_36 : decode cX12_ticks 36 = .ok (.aload_n 0, 1) := by decide +kernel
theorem dX12_ticks_37 : decode cX12_ticks 37 = .ok (.getfield 399, 3) := by decide +kernel
theorem dX12_ticks_40 : decode cX12_ticks 40 = .ok (.aload_n 0, 1) := by decide +kernel
theorem dX12_ticks_41 : decode cX12_ticks 41 = .ok (.getfield 581, 3) := by decide +kernel
theorem dX12_ticks_44 : decode cX12_ticks 44 = .ok (.iaload, 1) := by decide +kernel
theorem dX12_ticks_45 : decode cX12_ticks 45 = .ok (.if_icmp .ge 65, 3) := by decide +kernel
theorem dX12_ticks_48 : decode cX12_ticks 48 = .ok (.aload_n 0, 1) := by decide +kernel
theorem dX12_ticks_49 : decode cX12_ticks 49 = .ok (.getfield 638, 3) := by decide +kernel
theorem dX12_ticks_52 : decode cX12_ticks 52 = .ok (.iload_n 2, 1) := by decide +kernel
theorem dX12_ticks_53 : decode cX12_ticks 53 = .ok (.baload, 1) := by decide +kernel
theorem dX12_ticks_54 : decode cX12_ticks 54 = .ok (.ifCond .ne 50, 3) := by decide +kernel
theorem dX12_ticks_57 : decode cX12_ticks 57 = .ok (.aload_n 0, 1) := by decide +kernel
theorem dX12_ticks_58 : decode cX12_ticks 58 = .ok (.getfield 599, 3) := by decide +kernel
theorem dX12_ticks_61 : decode cX12_ticks 61 = .ok (.aload_n 0, 1) := by decide +kernel
theorem dX12_ticks_62 : decode cX12_ticks 62 = .ok (.getfield 402, 3) := by decide +kernel
theorem dX12_ticks_65 : decode cX12_ticks 65 = .ok (.bipush 8, 2) := by decide +kernel
theorem dX12_ticks_67 : decode cX12_ticks 67 = .ok (.aload_n 0, 1) := by decide +kernel
theorem dX12_ticks_68 : decode cX12_ticks 68 = .ok (.getfield 581, 3) := by decide +kernel
theorem dX12_ticks_71 : decode cX12_ticks 71 = .ok (.imul, 1) := by decide +kernel
theorem dX12_ticks_72 : decode cX12_ticks 72 = .ok (.iload_n 2, 1) := by decide +kernel
theorem dX12_ticks_73 : decode cX12_ticks 73 = .ok (.iadd, 1) := by decide +kernel
theorem dX12_ticks_74 : decode cX12_ticks 74 = .ok (.iaload, 1) := by decide +kernel
theorem dX12_ticks_75 : decode cX12_ticks 75 = .ok (.irem, 1) := by decide +kernel
theorem dX12_ticks_76 : decode cX12_ticks 76 = .ok (.aload_n 0, 1) := by decide +kernel
theorem dX12_ticks_77 : decode cX12_ticks 77 = .ok (.getfield 405, 3) := by decide +kernel
theorem dX12_ticks_80 : decode cX12_ticks 80 = .ok (.bipush 8, 2) := by decide +kernel
theorem dX12_ticks_82 : decode cX12_ticks 82 = .ok (.aload_n 0, 1) := by decide +kernel
theorem dX12_ticks_83 : decode cX12_ticks 83 = .ok (.getfield 581, 3) := by decide +kernel
theorem dX12_ticks_86 : decode cX12_ticks 86 = .ok (.imul, 1) := by decide +kernel
theorem dX12_ticks_87 : decode cX12_ticks 87 = .ok (.iload_n 2, 1) := by decide +kernel
theorem dX12_ticks_88 : decode cX12_ticks 88 = .ok (.iadd, 1) := by decide +kernel
theorem dX12_ticks_89 : decode cX12_ticks 89 = .ok (.iaload, 1) := by decide +kernel
theorem dX12_ticks_90 : decode cX12_ticks 90 = .ok (.if_icmp .eq 6, 3) := by decide +kernel
theorem dX12_ticks_93 : decode cX12_ticks 93 = .ok (.goto 11, 3) := by decide +kernel
theorem dX12_ticks_96 : decode cX12_ticks 96 = .ok (.iinc 1 1, 3) := by decide +kernel
theorem dX12_ticks_99 : decode cX12_ticks 99 = .ok (.aload_n 0, 1) := by decide +kernel
theorem dX12_ticks_100 : decode cX12_ticks 100 = .ok (.iload_n 2, 1) := by decide +kernel
theorem dX12_ticks_101 : decode cX12_ticks 101 = .ok (.invokevirtual 665, 3) := by decide +kernel
theorem dX12_ticks_104 : decode cX12_ticks 104 = .ok (.iinc 2 1, 3) := by decide +kernel
theorem dX12_ticks_107 : decode cX12_ticks 107 = .ok (.goto (-72), 3) := by decide +kernel
theorem dX12_ticks_110 : decode cX12_ticks 110 = .ok (.aload_n 0, 1) := by decide +kernel
theorem dX12_ticks_111 : decode cX12_ticks 111 = .ok (.bipush 64, 2) := by decide +kernel
theorem dX12_ticks_113 : decode cX12_ticks 113 = .ok (.invokevirtual 662, 3) := by decide +kernel
theorem dX12_ticks_116 : decode cX12_ticks 116 = .ok (.bipush 64, 2) := by decide +kernel
theorem dX12_ticks_118 : decode cX12_ticks 118 = .ok (.istore_n 2, 1) := by decide +kernel
theorem dX12_ticks_119 : decode cX12_ticks 119 = .ok (.iload_n 2, 1) := by decide +kernel
theorem dX12_ticks_120 : decode cX12_ticks 120 = .ok (.sipush 128, 3) := by decide +kernel
theorem dX12_ticks_123 : decode cX12_ticks 123 = .ok (.if_icmp .ge 21, 3) := by decide +kernel
theorem dX12_ticks_126 : decode cX12_ticks 126 = .ok (.aload_n 0, 1) := by decide +kernel
theorem dX12_ticks_127 : decode cX12_ticks 127 = .ok (.getfield 659, 3) := by decide +kernel
theorem dX12_ticks_130 : decode cX12_ticks 130 = .ok (.iload_n 2, 1) := by decide +kernel
theorem dX12_ticks_131 : decode cX12_ticks 131 = .ok (.aload_n 0, 1) := by decide +kernel
theorem dX12_ticks_132 : decode cX12_ticks 132 = .ok (.getfield 539, 3) := by decide +kernel
theorem dX12_ticks_135 : decode cX12_ticks 135 = .ok (.iload_n 2, 1) := by decide +kernel
theorem dX12_ticks_136 : decode cX12_ticks 136 = .ok (.iaload, 1) := by decide +kernel
theorem dX12_ticks_137 : decode cX12_ticks 137 = .ok (.iastore, 1) := by decide +kernel
theorem dX12_ticks_138 : decode cX12_ticks 138 = .ok (.iinc 2 1, 3) := by decide +kernel
theorem dX12_ticks_141 : decode cX12_ticks 141 = .ok (.goto (-22), 3) := by decide +kernel
theorem dX12_ticks_144 : decode cX12_ticks 144 = .ok (.iconst 0, 1) := by decide +kernel
theorem dX12_ticks_145 : decode cX12_ticks 145 = .ok (.istore_n 2, 1) := by decide +kernel
theorem dX12_ticks_146 : decode cX12_ticks 146 = .ok (.iload_n 2, 1) := by decide +kernel
theorem dX12_ticks_147 : decode cX12_ticks 147 = .ok (.aload_n 0, 1) := by decide +kernel
theorem dX12_ticks_148 : decode cX12_ticks 148 = .ok (.getfield 668, 3) := by decide +kernel
theorem dX12_ticks_151 : decode cX12_ticks 151 = .ok (.if_icmp .ge 186, 3) := by decide +kernel
theorem dX12_ticks_154 : decode cX12_ticks 154 = .ok (.aload_n 0, 1) := by decide +kernel
theorem dX12_ticks_155 : decode cX12_ticks 155 = .ok (.aload_n 0, 1) := by decide +kernel
theorem dX12_ticks_156 : decode cX12_ticks 156 = .ok (.getfield 671, 3) := by decide +kernel
theorem dX12_ticks_159 : decode cX12_ticks 159 = .ok (.iload_n 2, 1) := by decide +kernel
theorem dX12_ticks_160 : decode cX12_ticks 160 = .ok (.iaload, 1) := by decide +kernel
theorem dX12_ticks_161 : decode cX12_ticks 161 = .ok (.aload_n 0, 1) := by decide +kernel
theorem dX12_ticks_162 : decode cX12_ticks 162 = .ok (.getfield 674, 3) := by decide +kernel
theorem dX12_ticks_165 : decode cX12_ticks 165 = .ok (.iload_n 2, 1) := by decide +kernel
theorem dX12_ticks_166 : decode cX12_ticks 166 = .ok (.iaload, 1) := by decide +kernel
theorem dX12_ticks_167 : decode cX12_ticks 167 = .ok (.invokevirtual 677, 3) := by decide +kernel
theorem dX12_ticks_170 : decode cX12_ticks 170 = .ok (.lstore_n 3, 1) := by decide +kernel
theorem dX12_ticks_171 : decode cX12_ticks 171 = .ok (.lload_n 3, 1) := by decide +kernel
theorem dX12_ticks_172 : decode cX12_ticks 172 = .ok (.aload_n 0, 1) := by decide +kernel
theorem dX12_ticks_173 : decode cX12_ticks 173 = .ok (.getfield 680, 3) := by decide +kernel
theorem dX12_ticks_176 : decode cX12_ticks 176 = .ok (.iload_n 2, 1) := by decide +kernel
theorem dX12_ticks_177 : decode cX12_ticks 177 = .ok (.laload, 1) := by decide +kernel
theorem dX12_ticks_178 : decode cX12_ticks 178 = .ok (.lcmp, 1) := by decide +kernel
theorem dX12_ticks_179 : decode cX12_ticks 179 = .ok (.ifCond .ne 6, 3) := by decide +kernel
theorem dX12_ticks_182 : decode cX12_ticks 182 = .ok (.goto 149, 3) := by decide +kernel
theorem dX12_ticks_185 : decode cX12_ticks 185 = .ok (.aload_n 0, 1) := by decide +kernel
theorem dX12_ticks_186 : decode cX12_ticks 186 = .ok (.getfield 680, 3) := by decide +kernel
theorem dX12_ticks_189 : decode cX12_ticks 189 = .ok (.iload_n 2, 1) := by decide +kernel
theorem dX12_ticks_190 : decode cX12_ticks 190 = .ok (.lload_n 3, 1) := by decide +kernel
theorem dX12_ticks_191 : decode cX12_ticks 191 = .ok (.lastore, 1) := by decide +kernel
theorem dX12_ticks_192 : decode cX12_ticks 192 = .ok (.bipush 99, 2) := by decide +kernel
theorem dX12_ticks_194 : decode cX12_ticks 194 = .ok (.istore 5, 2) := by decide +kernel
theorem dX12_ticks_196 : decode cX12_ticks 196 = .ok (.iload 5, 2) := by decide +kernel
theorem dX12_ticks_198 : decode cX12_ticks 198 = .ok (.ifCond .le 73, 3) := by decide +kernel
theorem dX12_ticks_201 : decode cX12_ticks 201 = .ok (.aload_n 0, 1) := by decide +kernel
theorem dX12_ticks_202 : decode cX12_ticks 202 = .ok (.getfield 683, 3) := by decide +kernel
theorem dX12_ticks_205 : decode cX12_ticks 205 = .ok (.iload 5, 2) := by decide +kernel
theorem dX12_ticks_207 : decode cX12_ticks 207 = .ok (.aload_n 0, 1) := by decide +kernel
theorem dX12_ticks_208 : decode cX12_ticks 208 = .ok (.getfield 683, 3) := by decide +kernel
theorem dX12_ticks_211 : decode cX12_ticks 211 = .ok (.iload 5, 2) := by decide +kernel
theorem dX12_ticks_213 : decode cX12_ticks 213 = .ok (.iconst 1, 1) := by decide +kernel
theorem dX12_ticks_214 : decode cX12_ticks 214 = .ok (.isub, 1) := by decide +kernel
theorem dX12_ticks_215 : decode cX12_ticks 215 = .ok (.iaload, 1) := by decide +kernel
theorem dX12_ticks_216 : decode cX12_ticks 216 = .ok (.iastore, 1) := by decide +kernel
theorem dX12_ticks_217 : decode cX12_ticks 217 = .ok (.aload_n 0, 1) := by decide +kernel
theorem dX12_ticks_218 : decode cX12_ticks 218 = .ok (.getfield 686, 3) := by decide +kernel
theorem dX12_ticks_221 : decode cX12_ticks 221 = .ok (.iload 5, 2) := by decide +kernel
theorem dX12_ticks_223 : decode cX12_ticks 223 = .ok (.aload_n 0, 1) := by decide +kernel
theorem dX12_ticks_224 : decode cX12_ticks 224 = .ok (.getfield 686, 3) := by decide +kernel
theorem dX12_ticks_227 : decode cX12_ticks 227 = .ok (.iload 5, 2) := by decide +kernel
theorem dX12_ticks_229 : decode cX12_ticks 229 = .ok (.iconst 1, 1) := by decide +kernel
theorem dX12_ticks_230 : decode cX12_ticks 230 = .ok (.isub, 1) := by decide +kernel
theorem dX12_ticks_231 : decode cX12_ticks 231 = .ok (.iaload, 1) := by decide +kernel
theorem dX12_ticks_232 : decode cX12_ticks 232 = .ok (.iastore, 1) := by decide +kernel
theorem dX12_ticks_233 : decode cX12_ticks 233 = .ok (.aload_n 0, 1) := by decide +kernel
theorem dX12_ticks_234 : decode cX12_ticks 234 = .ok (.getfield 689, 3) := by decide +kernel
theorem dX12_ticks_237 : decode cX12_ticks 237 = .ok (.iload 5, 2) := by decide +kernel
theorem dX12_ticks_239 : decode cX12_ticks 239 = .ok (.aload_n 0, 1) := by decide +kernel
theorem dX12_ticks_240 : decode cX12_ticks 240 = .ok (.getfield 689, 3) := by decide +kernel
theorem dX12_ticks_243 : decode cX12_ticks 243 = .ok (.iload 5, 2) := by decide +kernel
theorem dX12_ticks_245 : decode cX12_ticks 245 = .ok (.iconst 1, 1) := by decide +kernel
theorem dX12_ticks_246 : decode cX12_ticks 246 = .ok (.isub, 1) := by decide +kernel
theorem dX12_ticks_247 : decode cX12_ticks 247 = .ok (.iaload, 1) := by decide +kernel
theorem dX12_ticks_248 : decode cX12_ticks 248 = .ok (.iastore, 1) := by decide +kernel
theorem dX12_ticks_249 : decode cX12_ticks 249 = .ok (.aload_n 0, 1) := by decide +kernel
theorem dX12_ticks_250 : decode cX12_ticks 250 = .ok (.getfield 692, 3) := by decide +kernel
theorem dX12_ticks_253 : decode cX12_ticks 253 = .ok (.iload 5, 2) := by decide +kernel
theorem dX12_ticks_255 : decode cX12_ticks 255 = .ok (.aload_n 0, 1) := by decide +kernel
theorem dX12_ticks_256 : decode cX12_ticks 256 = .ok (.getfield 692, 3) := by decide +kernel
theorem dX12_ticks_259 : decode cX12_ticks 259 = .ok (.iload 5, 2) := by decide +kernel
theorem dX12_ticks_261 : decode cX12_ticks 261 = .ok (.iconst 1, 1) := by decide +kernel
theorem dX12_ticks_262 : decode cX12_ticks 262 = .ok (.isub, 1) := by decide +kernel
theorem dX12_ticks_263 : decode cX12_ticks 263 = .ok (.laload, 1) := by decide +kernel
theorem dX12_ticks_264 : decode cX12_ticks 264 = .ok (.lastore, 1) := by decide +kernel
theorem dX12_ticks_265 : decode cX12_ticks 265 = .ok (.iinc 5 (-1), 3) := by decide +kernel
theorem dX12_ticks_268 : decode cX12_ticks 268 = .ok (.goto (-72), 3) := by decide +kernel
theorem dX12_ticks_271 : decode cX12_ticks 271 = .ok (.aload_n 0, 1) := by decide +kernel
theorem dX12_ticks_272 : decode cX12_ticks 272 = .ok (.getfield 683, 3) := by decide +kernel
theorem dX12_ticks_275 : decode cX12_ticks 275 = .ok (.iconst 0, 1) := by decide +kernel
theorem dX12_ticks_276 : decode cX12_ticks 276 = .ok (.aload_n 0, 1) := by decide +kernel
theorem dX12_ticks_277 : decode cX12_ticks 277 = .ok (.getfield 599, 3) := by decide +kernel
theorem dX12_ticks_280 : decode cX12_ticks 280 = .ok (.iastore, 1) := by decide +kernel
theorem dX12_ticks_281 : decode cX12_ticks 281 = .ok (.aload_n 0, 1) := by decide +kernel
theorem dX12_ticks_282 : decode cX12_ticks 282 = .ok (.getfield 686, 3) := by decide +kernel
theorem dX12_ticks_285 : decode cX12_ticks 285 = .ok (.iconst 0, 1) := by decide +kernel
theorem dX12_ticks_286 : decode cX12_ticks 286 = .ok (.aload_n 0, 1) := by decide +kernel
theorem dX12_ticks_287 : decode cX12_ticks 287 = .ok (.getfield 671, 3) := by decide +kernel
theorem dX12_ticks_290 : decode cX12_ticks 290 = .ok (.iload_n 2, 1) := by decide +kernel
theorem dX12_ticks_291 : decode cX12_ticks 291 = .ok (.iaload, 1) := by decide +kernel
theorem dX12_ticks_292 : decode cX12_ticks 292 = .ok (.iastore, 1) := by decide +kernel
theorem dX12_ticks_293 : decode cX12_ticks 293 = .ok (.aload_n 0, 1) := by decide +kernel
theorem dX12_ticks_294 : decode cX12_ticks 294 = .ok (.getfield 689, 3) := by decide +kernel
theorem dX12_ticks_297 : decode cX12_ticks 297 = .ok (.iconst 0, 1) := by decide +kernel
theorem dX12_ticks_298 : decode cX12_ticks 298 = .ok (.aload_n 0, 1) := by decide +kernel
theorem dX12_ticks_299 : decode cX12_ticks 299 = .ok (.getfield 674, 3) := by decide +kernel
theorem dX12_ticks_302 : decode cX12_ticks 302 = .ok (.iload_n 2, 1) := by decide +kernel
theorem dX12_ticks_303 : decode cX12_ticks 303 = .ok (.iaload, 1) := by decide +kernel
theorem dX12_ticks_304 : decode cX12_ticks 304 = .ok (.iastore, 1) := by decide +kernel
theorem dX12_ticks_305 : decode cX12_ticks 305 = .ok (.aload_n 0, 1) := by decide +kernel
theorem dX12_ticks_306 : decode cX12_ticks 306 = .ok (.getfield 692, 3) := by decide +kernel
theorem dX12_ticks_309 : decode cX12_ticks 309 = .ok (.iconst 0, 1) := by decide +kernel
theorem dX12_ticks_310 : decode cX12_ticks 310 = .ok (.lload_n 3, 1) := by decide +kernel
theorem dX12_ticks_311 : decode cX12_ticks 311 = .ok (.lastore, 1) := by decide +kernel
theorem dX12_ticks_312 : decode cX12_ticks 312 = .ok (.aload_n 0, 1) := by decide +kernel
theorem dX12_ticks_313 : decode cX12_ticks 313 = .ok (.getfield 695, 3) := by decide +kernel
theorem dX12_ticks_316 : decode cX12_ticks 316 = .ok (.bipush 100, 2) := by decide +kernel
theorem dX12_ticks_318 : decode cX12_ticks 318 = .ok (.if_icmp .ge 13, 3) := by decide +kernel
theorem dX12_ticks_321 : decode cX12_ticks 321 = .ok (.aload_n 0, 1) := by decide +kernel
theorem dX12_ticks_322 : decode cX12_ticks 322 = .ok (.dup, 1) := by decide +kernel
theorem dX12_ticks_323 : decode cX12_ticks 323 = .ok (.getfield 695, 3) := by decide +kernel
theorem dX12_ticks_326 : decode cX12_ticks 326 = .ok (.iconst 1, 1) := by decide +kernel
theorem dX12_ticks_327 : decode cX12_ticks 327 = .ok (.iadd, 1) := by decide +kernel
theorem dX12_ticks_328 : decode cX12_ticks 328 = .ok (.putfield 695, 3) := by decide +kernel
theorem dX12_ticks_331 : decode cX12_ticks 331 = .ok (.iinc 2 1, 3) := by decide +kernel
theorem dX12_ticks_334 : decode cX12_ticks 334 = .ok (.goto (-188), 3) := by decide +kernel
theorem dX12_ticks_337 : decode cX12_ticks 337 = .ok (.aload_n 0, 1) := by decide +kernel
theorem dX12_ticks_338 : decode cX12_ticks 338 = .ok (.dup, 1) := by decide +kernel
theorem dX12_ticks_339 : decode cX12_ticks 339 = .ok (.getfield 599, 3) := by decide +kernel
theorem dX12_ticks_342 : decode cX12_ticks 342 = .ok (.iconst 1, 1) := by decide +kernel
theorem dX12_ticks_343 : decode cX12_ticks 343 = .ok (.iadd, 1) := by decide +kernel
theorem dX12_ticks_344 : decode cX12_ticks 344 = .ok (.putfield 599, 3) := by decide +kernel
theorem dX12_ticks_347 : decode cX12_ticks 347 = .ok (.iload_n 1, 1) := by decide +kernel
theorem dX12_ticks_348 : decode cX12_ticks 348 = .ok (.ireturn, 1) := by decide +kernel
theorem gs_12_0 : Cond.selects "SoftControllerModel" ⟨"SoftControllerModel", "ticks", "()I"⟩ ⟨"SoftControllerModel", "ticks", "()I"⟩ ∈ GW := gw_s (List.mem_map.mpr ⟨_, pin_12 _ (List.mem_of_getElem? (i := 0) rfl), rfl⟩) rfl
theorem gs_12_1 : Cond.selects "SoftControllerModel" ⟨"SoftControllerModel", "forces", "(I)V"⟩ ⟨"SoftControllerModel", "forces", "(I)V"⟩ ∈ GW := gw_s (List.mem_map.mpr ⟨_, pin_12 _ (List.mem_of_getElem? (i := 1) rfl), rfl⟩) rfl
theorem gs_12_10 : Cond.selects "SoftControllerModel" ⟨"SoftControllerModel", "numberOf", "(II)J"⟩ ⟨"SoftControllerModel", "numberOf", "(II)J"⟩ ∈ GW := gw_s (List.mem_map.mpr ⟨_, pin_12 _ (List.mem_of_getElem? (i := 10) rfl), rfl⟩) rfl
theorem gs_12_2 : Cond.selects "SoftControllerModel" ⟨"SoftControllerModel", "runTask", "(I)V"⟩ ⟨"SoftControllerModel", "runTask", "(I)V"⟩ ∈ GW := gw_s (List.mem_map.mpr ⟨_, pin_12 _ (List.mem_of_getElem? (i := 2) rfl), rfl⟩) rfl
theorem gs_12_3 : Cond.selects "SoftControllerModel" ⟨"SoftControllerModel", "run", "(I)V"⟩ ⟨"SoftControllerModel", "run", "(I)V"⟩ ∈ GW := gw_s (List.mem_map.mpr ⟨_, pin_12 _ (List.mem_of_getElem? (i := 3) rfl), rfl⟩) rfl
theorem gs_12_4 : Cond.selects "SoftControllerModel" ⟨"SoftControllerModel", "stops", "(II)V"⟩ ⟨"SoftControllerModel", "stops", "(II)V"⟩ ∈ GW := gw_s (List.mem_map.mpr ⟨_, pin_12 _ (List.mem_of_getElem? (i := 4) rfl), rfl⟩) rfl
theorem gs_12_5 : Cond.selects "SoftControllerModel" ⟨"SoftControllerModel", "read", "(II)J"⟩ ⟨"SoftControllerModel", "read", "(II)J"⟩ ∈ GW := gw_s (List.mem_map.mpr ⟨_, pin_12 _ (List.mem_of_getElem? (i := 5) rfl), rfl⟩) rfl
theorem gs_12_6 : Cond.selects "SoftControllerModel" ⟨"SoftControllerModel", "write", "(IIJ)V"⟩ ⟨"SoftControllerModel", "write", "(IIJ)V"⟩ ∈ GW := gw_s (List.mem_map.mpr ⟨_, pin_12 _ (List.mem_of_getElem? (i := 6) rfl), rfl⟩) rfl
theorem gs_12_7 : Cond.selects "SoftControllerModel" ⟨"SoftControllerModel", "mayCall", "(I)Z"⟩ ⟨"SoftControllerModel", "mayCall", "(I)Z"⟩ ∈ GW := gw_s (List.mem_map.mpr ⟨_, pin_12 _ (List.mem_of_getElem? (i := 7) rfl), rfl⟩) rfl
theorem gs_12_8 : Cond.selects "SoftControllerModel" ⟨"SoftControllerModel", "enter", "(I)V"⟩ ⟨"SoftControllerModel", "enter", "(I)V"⟩ ∈ GW := gw_s (List.mem_map.mpr ⟨_, pin_12 _ (List.mem_of_getElem? (i := 8) rfl), rfl⟩) rfl
theorem gs_12_9 : Cond.selects "SoftControllerModel" ⟨"SoftControllerModel", "leave", "()V"⟩ ⟨"SoftControllerModel", "leave", "()V"⟩ ∈ GW := gw_s (List.mem_map.mpr ⟨_, pin_12 _ (List.mem_of_getElem? (i := 9) rfl), rfl⟩) rfl
theorem gw_2399 : (Jvm.Cond.methodLink "SoftControllerModel" (170 : Nat) ({ cls := "SoftControllerModel", name := "cutTo", desc := "(IJ)J" } : Jvm.MethodName)) ∈ GW := gw_t (tin_10 _ (List.mem_of_getElem? (i := 239) rfl)) rfl
theorem gw_2400 : (Jvm.Cond.static ({ cls := "SoftControllerModel", name := "cutTo", desc := "(IJ)J" } : Jvm.MethodName)) ∈ GW := gw_t (tin_11 _ (List.mem_of_getElem? (i := 0) rfl)) rfl
theorem gw_2402 : (Jvm.Cond.constantLong "SoftControllerModel" (154 : Nat) (255 : Int64)) ∈ GW := gw_t (tin_11 _ (List.mem_of_getElem? (i := 2) rfl)) rfl
theorem gw_2608 : (Jvm.Cond.methodLink "SoftControllerModel" (736 : Nat) ({ cls := "SoftControllerModel", name := "ticks", desc := "()I" } : Jvm.MethodName)) ∈ GW := gw_t (tin_11 _ (List.mem_of_getElem? (i := 208) rfl)) rfl
theorem gw_2610 : (Jvm.Cond.instanceMethod ({ cls := "SoftControllerModel", name := "ticks", desc := "()I" } : Jvm.MethodName)) ∈ GW := gw_t (tin_11 _ (List.mem_of_getElem? (i := 210) rfl)) rfl
theorem gw_2611 : (Jvm.Cond.code ({ cls := "SoftControllerModel", name := "ticks", desc := "()I" } : Jvm.MethodName) prog_14_method_91_code (6 : Nat) (Option.some Jvm.ClassFile.FieldType.int)) ∈ GW := gw_t (tin_11 _ (List.mem_of_getElem? (i := 211) rfl)) rfl
theorem gw_2612 : (Jvm.Cond.methodLink "SoftControllerModel" (662 : Nat) ({ cls := "SoftControllerModel", name := "forces", desc := "(I)V" } : Jvm.MethodName)) ∈ GW := gw_t (tin_11 _ (List.mem_of_getElem? (i := 212) rfl)) rfl
theorem gw_2614 : (Jvm.Cond.instanceMethod ({ cls := "SoftControllerModel", name := "forces", desc := "(I)V" } : Jvm.MethodName)) ∈ GW := gw_t (tin_11 _ (List.mem_of_getElem? (i := 214) rfl)) rfl
theorem gw_2615 : (Jvm.Cond.code ({ cls := "SoftControllerModel", name := "forces", desc := "(I)V" } : Jvm.MethodName) prog_14_method_90_code (3 : Nat) (Option.none : Option Jvm.ClassFile.FieldType)) ∈ GW := gw_t (tin_11 _ (List.mem_of_getElem? (i := 215) rfl)) rfl
theorem gw_2616 : (Jvm.Cond.methodLink "SoftControllerModel" (665 : Nat) ({ cls := "SoftControllerModel", name := "runTask", desc := "(I)V" } : Jvm.MethodName)) ∈ GW := gw_t (tin_11 _ (List.mem_of_getElem? (i := 216) rfl)) rfl
theorem gw_2618 : (Jvm.Cond.instanceMethod ({ cls := "SoftControllerModel", name := "runTask", desc := "(I)V" } : Jvm.MethodName)) ∈ GW := gw_t (tin_11 _ (List.mem_of_getElem? (i := 218) rfl)) rfl
theorem gw_2619 : (Jvm.Cond.code ({ cls := "SoftControllerModel", name := "runTask", desc := "(I)V" } : Jvm.MethodName) prog_14_method_89_code (2 : Nat) (Option.none : Option Jvm.ClassFile.FieldType)) ∈ GW := gw_t (tin_11 _ (List.mem_of_getElem? (i := 219) rfl)) rfl
theorem gw_2620 : (Jvm.Cond.methodLink "SoftControllerModel" (632 : Nat) ({ cls := "SoftControllerModel", name := "run", desc := "(I)V" } : Jvm.MethodName)) ∈ GW := gw_t (tin_11 _ (List.mem_of_getElem? (i := 220) rfl)) rfl
theorem gw_2622 : (Jvm.Cond.instanceMethod ({ cls := "SoftControllerModel", name := "run", desc := "(I)V" } : Jvm.MethodName)) ∈ GW := gw_t (tin_11 _ (List.mem_of_getElem? (i := 222) rfl)) rfl
theorem gw_2623 : (Jvm.Cond.code ({ cls := "SoftControllerModel", name := "run", desc := "(I)V" } : Jvm.MethodName) prog_14_method_88_code (10 : Nat) (Option.none : Option Jvm.ClassFile.FieldType)) ∈ GW := gw_t (tin_11 _ (List.mem_of_getElem? (i := 223) rfl)) rfl
theorem gw_2624 : (Jvm.Cond.methodLink "SoftControllerModel" (560 : Nat) ({ cls := "SoftControllerModel", name := "stops", desc := "(II)V" } : Jvm.MethodName)) ∈ GW := gw_t (tin_11 _ (List.mem_of_getElem? (i := 224) rfl)) rfl
theorem gw_2626 : (Jvm.Cond.instanceMethod ({ cls := "SoftControllerModel", name := "stops", desc := "(II)V" } : Jvm.MethodName)) ∈ GW := gw_t (tin_11 _ (List.mem_of_getElem? (i := 226) rfl)) rfl
theorem gw_2627 : (Jvm.Cond.code ({ cls := "SoftControllerModel", name := "stops", desc := "(II)V" } : Jvm.MethodName) prog_14_method_84_code (3 : Nat) (Option.none : Option Jvm.ClassFile.FieldType)) ∈ GW := gw_t (tin_11 _ (List.mem_of_getElem? (i := 227) rfl)) rfl
theorem gw_2628 : (Jvm.Cond.methodLink "SoftControllerModel" (602 : Nat) ({ cls := "SoftControllerModel", name := "read", desc := "(II)J" } : Jvm.MethodName)) ∈ GW := gw_t (tin_11 _ (List.mem_of_getElem? (i := 228) rfl)) rfl
theorem gw_2630 : (Jvm.Cond.instanceMethod ({ cls := "SoftControllerModel", name := "read", desc := "(II)J" } : Jvm.MethodName)) ∈ GW := gw_t (tin_11 _ (List.mem_of_getElem? (i := 230) rfl)) rfl
theorem gw_2631 : (Jvm.Cond.code ({ cls := "SoftControllerModel", name := "read", desc := "(II)J" } : Jvm.MethodName) prog_14_method_79_code (7 : Nat) (Option.some Jvm.ClassFile.FieldType.long)) ∈ GW := gw_t (tin_11 _ (List.mem_of_getElem? (i := 231) rfl)) rfl
theorem gw_2632 : (Jvm.Cond.methodLink "SoftControllerModel" (606 : Nat) ({ cls := "SoftControllerModel", name := "write", desc := "(IIJ)V" } : Jvm.MethodName)) ∈ GW := gw_t (tin_11 _ (List.mem_of_getElem? (i := 232) rfl)) rfl
theorem gw_2634 : (Jvm.Cond.instanceMethod ({ cls := "SoftControllerModel", name := "write", desc := "(IIJ)V" } : Jvm.MethodName)) ∈ GW := gw_t (tin_11 _ (List.mem_of_getElem? (i := 234) rfl)) rfl
theorem gw_2635 : (Jvm.Cond.code ({ cls := "SoftControllerModel", name := "write", desc := "(IIJ)V" } : Jvm.MethodName) prog_14_method_80_code (7 : Nat) (Option.none : Option Jvm.ClassFile.FieldType)) ∈ GW := gw_t (tin_11 _ (List.mem_of_getElem? (i := 235) rfl)) rfl
theorem gw_2636 : (Jvm.Cond.constantLong "SoftControllerModel" (541 : Nat) (-1 : Int64)) ∈ GW := gw_t (tin_11 _ (List.mem_of_getElem? (i := 236) rfl)) rfl
theorem gw_2637 : (Jvm.Cond.methodLink "SoftControllerModel" (610 : Nat) ({ cls := "SoftControllerModel", name := "reckoned", desc := "(IZJJ)J" } : Jvm.MethodName)) ∈ GW := gw_t (tin_11 _ (List.mem_of_getElem? (i := 237) rfl)) rfl
theorem gw_2638 : (Jvm.Cond.static ({ cls := "SoftControllerModel", name := "reckoned", desc := "(IZJJ)J" } : Jvm.MethodName)) ∈ GW := gw_t (tin_11 _ (List.mem_of_getElem? (i := 238) rfl)) rfl
theorem gw_2645 : (Jvm.Cond.methodLink "SoftControllerModel" (614 : Nat) ({ cls := "SoftControllerModel", name := "special", desc := "(IZJJ)J" } : Jvm.MethodName)) ∈ GW := gw_t (tin_12 _ (List.mem_of_getElem? (i := 5) rfl)) rfl
theorem gw_2646 : (Jvm.Cond.static ({ cls := "SoftControllerModel", name := "special", desc := "(IZJJ)J" } : Jvm.MethodName)) ∈ GW := gw_t (tin_12 _ (List.mem_of_getElem? (i := 6) rfl)) rfl
theorem gw_2648 : (Jvm.Cond.methodLink "SoftControllerModel" (617 : Nat) ({ cls := "SoftControllerModel", name := "mayCall", desc := "(I)Z" } : Jvm.MethodName)) ∈ GW := gw_t (tin_12 _ (List.mem_of_getElem? (i := 8) rfl)) rfl
theorem gw_2650 : (Jvm.Cond.instanceMethod ({ cls := "SoftControllerModel", name := "mayCall", desc := "(I)Z" } : Jvm.MethodName)) ∈ GW := gw_t (tin_12 _ (List.mem_of_getElem? (i := 10) rfl)) rfl
theorem gw_2651 : (Jvm.Cond.code ({ cls := "SoftControllerModel", name := "mayCall", desc := "(I)Z" } : Jvm.MethodName) prog_14_method_85_code (2 : Nat) (Option.some Jvm.ClassFile.FieldType.boolean)) ∈ GW := gw_t (tin_12 _ (List.mem_of_getElem? (i := 11) rfl)) rfl
theorem gw_2652 : (Jvm.Cond.methodLink "SoftControllerModel" (620 : Nat) ({ cls := "SoftControllerModel", name := "enter", desc := "(I)V" } : Jvm.MethodName)) ∈ GW := gw_t (tin_12 _ (List.mem_of_getElem? (i := 12) rfl)) rfl
theorem gw_2654 : (Jvm.Cond.instanceMethod ({ cls := "SoftControllerModel", name := "enter", desc := "(I)V" } : Jvm.MethodName)) ∈ GW := gw_t (tin_12 _ (List.mem_of_getElem? (i := 14) rfl)) rfl
theorem gw_2655 : (Jvm.Cond.code ({ cls := "SoftControllerModel", name := "enter", desc := "(I)V" } : Jvm.MethodName) prog_14_method_86_code (7 : Nat) (Option.none : Option Jvm.ClassFile.FieldType)) ∈ GW := gw_t (tin_12 _ (List.mem_of_getElem? (i := 15) rfl)) rfl
theorem gw_2656 : (Jvm.Cond.methodLink "SoftControllerModel" (623 : Nat) ({ cls := "SoftControllerModel", name := "leave", desc := "()V" } : Jvm.MethodName)) ∈ GW := gw_t (tin_12 _ (List.mem_of_getElem? (i := 16) rfl)) rfl
theorem gw_2658 : (Jvm.Cond.instanceMethod ({ cls := "SoftControllerModel", name := "leave", desc := "()V" } : Jvm.MethodName)) ∈ GW := gw_t (tin_12 _ (List.mem_of_getElem? (i := 18) rfl)) rfl
theorem gw_2659 : (Jvm.Cond.code ({ cls := "SoftControllerModel", name := "leave", desc := "()V" } : Jvm.MethodName) prog_14_method_87_code (1 : Nat) (Option.none : Option Jvm.ClassFile.FieldType)) ∈ GW := gw_t (tin_12 _ (List.mem_of_getElem? (i := 19) rfl)) rfl
theorem gw_2660 : (Jvm.Cond.methodLink "SoftControllerModel" (677 : Nat) ({ cls := "SoftControllerModel", name := "numberOf", desc := "(II)J" } : Jvm.MethodName)) ∈ GW := gw_t (tin_12 _ (List.mem_of_getElem? (i := 20) rfl)) rfl
theorem gw_2662 : (Jvm.Cond.instanceMethod ({ cls := "SoftControllerModel", name := "numberOf", desc := "(II)J" } : Jvm.MethodName)) ∈ GW := gw_t (tin_12 _ (List.mem_of_getElem? (i := 22) rfl)) rfl
theorem gw_2663 : (Jvm.Cond.code ({ cls := "SoftControllerModel", name := "numberOf", desc := "(II)J" } : Jvm.MethodName) prog_14_method_92_code (4 : Nat) (Option.some Jvm.ClassFile.FieldType.long)) ∈ GW := gw_t (tin_12 _ (List.mem_of_getElem? (i := 23) rfl)) rfl
theorem gwp_X12_cutTo : ∀ w ∈ wsX12_cutTo, w ∈ GW := gwl [2401, 2402, 2403, 2404, 2405, 2406, 2407, 2408, 2310, 2409] (by decide +kernel) (by decide +kernel)
theorem gwp_X12_reckoned : ∀ w ∈ wsX12_reckoned, w ∈ GW := gwl [2639, 2640, 2641, 2636, 2396, 2397, 16, 2398, 2399, 2400, 2401, 2402, 2403, 2404, 2405, 2406, 2407, 2408, 2310, 2409, 2642, 2643, 2644] (by decide +kernel) (by decide +kernel)
theorem gwp_X12_special : ∀ w ∈ wsX12_special, w ∈ GW := gwl [2647, 2396, 2397, 16, 2398, 2399, 2400, 2401, 2402, 2403, 2404, 2405, 2406, 2407, 2408, 2310, 2409] (by decide +kernel) (by decide +kernel)
section VmRows
variable {p : Program} {l : Launch} {e : Env} {R : Room} {s : State} {m : MethodId} {args : Array Value} {below : List Frame} {meth : Method} {c : Code} {H : Heap} {locs : List Loc} {Q : State → Prop}
variable {ls : Array Slot} {D : va_G} {kA : Nat → ClassId} {V Z : Nat → Nat} {A : Nat → Prop} {N d : Nat} {w : RSt}
def B_read_44 (N : Nat) (R_44 : Int32 × Int32 × Int64 × Int32 × RSt → Option (Int64 × RSt)) (l2 : Int32) (l3 : Int32) (l4 : Int64) (l6 : Int32) (u : RSt) : Option (Int64 × RSt) := if ((r_bits l2) / 8) ≤ l6 then (some (r_cut l2 l4, u)) else (rd (u.2.2.1 85) 128 (l3 + l6) fun v_6 => R_44 (l2, l3, ((l4 <<< ((8 : Int32).toInt64 &&& 63)) ||| v_6.toInt64), (l6 + 1), u))
set_option maxHeartbeats 4000000 in
theorem b_read_44 {r : Int64} (X : RC p s m args c cX12_read 7 (Cond.code yX12_read cX12_read 7 (some .long)) D kA V A) (hE : REl p l e R s m args below meth c cX12_read D kA Z A Q r w) (hF : 1 ≤ R.frames) (hL : 22 ≤ R.locals) {R_44 : Int32 × Int32 × Int64 × Int32 × RSt → Option (Int64 × RSt)} {l2 : Int32} {l3 : Int32} {l4 : Int64} {l6 : Int32} (hR_44 : ∀ (l2 : Int32) (l3 : Int32) (l4 : Int64) (l6 : Int32) (u : RSt), R_44 (l2, l3, l4, l6, u) = some (r, w) → ∀ (H : Heap) (locs : List Loc) (ls : Array Slot), RS D kA Z A s u H locs → lv_has ls 7 [(0, .ref (Z 200)), (2, .int l2), (3, .int l3), (4, .long l4), (6, .int l6)] → W p l e R s m args below meth c H locs 0 0 Q (F0 m 44 ls [])) {u : RSt} (h : B_read_44 N R_44 l2 l3 l4 l6 u = some (r, w)) (hS : RS D kA Z A s u H locs) (hl : lv_has ls 7 [(0, .ref (Z 200)), (2, .int l2), (3, .int l3), (4, .long l4), (6, .int l6)]) : W p l e R s m args below meth c H locs 0 0 Q (F0 m 44 ls []) := by
  obtain ⟨⟨hx, hb, hml, hown, hts⟩, hK, hEV, hA⟩ := id X
  have hG : ∀ w ∈ GW, w.before args s = true := fun w h => hts w (List.mem_cons_of_mem _ h)
  unfold B_read_44 at h
  refine lv_iload hx hb dX12_read_44 (lv_at hl 4 rfl) ?_
  refine lv_iload_n hx hb dX12_read_46 rfl (lv_at hl 1 rfl) ?_
  refine vp_callSi (W.runS (As := [.int l2]) (rest := [.int l6]) X.1 (c_X12_bitsOf l l2) (va_cwS 1 hts (gw_P gw_2425 gw_2426 gw_16 gwp_X12_bitsOf) rfl rfl rfl (by decide +kernel) ⟨Nat.le_trans (Nat.le_of_ble_eq_true rfl) hF, Nat.le_trans (Nat.le_of_ble_eq_true rfl) hL⟩) ⟨fun _ _ _ _ q => q, fun _ _ _ => ⟨rfl, trivial⟩⟩ rfl rfl hl.1 rfl (lv_room (Nat.le_of_ble_eq_true rfl)) dX12_read_47 ⟨Nat.zero_le _, Nat.zero_le _⟩) (fun r_1 q_2 => ?_)
  subst q_2
  refine lv_bipush (v := 8) hx hb dX12_read_50 (by decide) ?_
  refine lv_idiv hx hb dX12_read_52 (by decide) ?_
  refine lv_icmp_ge (tgt := 80) hx hb dX12_read_53 (by decide) (fun c_3 => ?_) (fun c_3 => ?_)
  · have h := ip (c_3) h
    refine lv_iload_n hx hb dX12_read_80 rfl (lv_at hl 1 rfl) ?_
    refine lv_lload hx hb dX12_read_81 (lv_at hl 3 rfl) ?_
    refine vp_callSl (W.runS (As := [.int l2, .long l4]) (rest := []) X.1 (c_X12_cutTo l l2 l4) (va_cwS 2 hts (gw_P gw_2399 gw_2400 gw_16 gwp_X12_cutTo) rfl rfl rfl (by decide +kernel) ⟨Nat.le_trans (Nat.le_of_ble_eq_true rfl) hF, Nat.le_trans (Nat.le_of_ble_eq_true rfl) hL⟩) ⟨fun _ _ _ _ q => q, fun _ _ _ => ⟨rfl, trivial⟩⟩ rfl rfl hl.1 rfl (lv_room (Nat.le_of_ble_eq_true rfl)) dX12_read_83 ⟨Nat.zero_le _, Nat.zero_le _⟩) (fun r_4 q_5 => ?_)
    subst q_5
    obtain ⟨rfl, rfl⟩ := so h
    exact hE _ _ _ _ hS dX12_read_86
  · have h := im (c_3) h
    refine lv_lload hx hb dX12_read_56 (lv_at hl 3 rfl) ?_
    refine lv_bipush (v := 8) hx hb dX12_read_58 (by decide) ?_
    refine lv_lshl (v := l4 <<< ((8 : Int32).toInt64 &&& 63)) hx hb dX12_read_60 rfl ?_
    refine lv_aload_n hx hb dX12_read_61 rfl (lv_at hl 0 rfl) ?_
    refine rg_85 X hS dX12_read_62 ?_
    refine lv_iload_n hx hb dX12_read_65 rfl (lv_at hl 2 rfl) ?_
    refine lv_iload hx hb dX12_read_66 (lv_at hl 4 rfl) ?_
    refine lv_iadd hx hb dX12_read_68 ?_
    obtain ⟨v_6, e_v_6, i_7, h⟩ := rd_of h
    refine ra_85 X hS i_7 e_v_6 dX12_read_69 ?_
    refine lv_i2l (v := v_6.toInt64) hx hb dX12_read_70 rfl ?_
    refine lv_lor hx hb dX12_read_71 ?_
    refine lv_lstore (lv' := [(4, .long ((l4 <<< ((8 : Int32).toInt64 &&& 63)) ||| v_6.toInt64)), (0, .ref (Z 200)), (2, .int l2), (3, .int l3), (6, .int l6)]) hx hb dX12_read_72 hl (by decide) rfl (fun ls hl => ?_)
    refine lv_iinc (v := l6 + 1) (lv' := [(6, .int (l6 + 1)), (4, .long ((l4 <<< ((8 : Int32).toInt64 &&& 63)) ||| v_6.toInt64)), (0, .ref (Z 200)), (2, .int l2), (3, .int l3)]) hx hb dX12_read_74 hl (k := 4) rfl rfl (by decide) rfl (fun ls hl => ?_)
    refine lv_goto (tgt := 44) hx hb dX12_read_77 (by decide) ?_
    exact hR_44 _ _ _ _ _ h _ _ _ hS (lv_sub hl [2, 3, 4, 1, 0] rfl)
def LP_read_44 (N : Nat) : Nat → Int32 × Int32 × Int64 × Int32 × RSt → Option (Int64 × RSt) := lp (fun R a => B_read_44 N R a.1 a.2.1 a.2.2.1 a.2.2.2.1 a.2.2.2.2)
theorem bl_read_44 {r : Int64} (X : RC p s m args c cX12_read 7 (Cond.code yX12_read cX12_read 7 (some .long)) D kA V A) (hE : REl p l e R s m args below meth c cX12_read D kA Z A Q r w) (hF : 1 ≤ R.frames) (hL : 22 ≤ R.locals)  : ∀ (n : Nat) (l2 : Int32) (l3 : Int32) (l4 : Int64) (l6 : Int32) (u : RSt), LP_read_44 N n (l2, l3, l4, l6, u) = some (r, w) → ∀ (H : Heap) (locs : List Loc) (ls : Array Slot), RS D kA Z A s u H locs → lv_has ls 7 [(0, .ref (Z 200)), (2, .int l2), (3, .int l3), (4, .long l4), (6, .int l6)] → W p l e R s m args below meth c H locs 0 0 Q (F0 m 44 ls []) := by
  intro n
  induction n with
  | zero => intro l2 l3 l4 l6 u h; exact nomatch h
  | succ n ih => intro l2 l3 l4 l6 u h H locs ls hS hl; exact b_read_44 (N := N) (R_44 := LP_read_44 N n) X hE hF hL  ih h hS hl
def B_read_37 (N : Nat) (l2 : Int32) (s0 : Int32) (u : RSt) : Option (Int64 × RSt) := LP_read_44 N N (l2, s0, 0, 0, u)
set_option maxHeartbeats 4000000 in
theorem b_read_37 {r : Int64} (X : RC p s m args c cX12_read 7 (Cond.code yX12_read cX12_read 7 (some .long)) D kA V A) (hE : REl p l e R s m args below meth c cX12_read D kA Z A Q r w) (hF : 1 ≤ R.frames) (hL : 22 ≤ R.locals) {l2 : Int32} {s0 : Int32}  {u : RSt} (h : B_read_37 N l2 s0 u = some (r, w)) (hS : RS D kA Z A s u H locs) (hl : lv_has ls 7 [(0, .ref (Z 200)), (2, .int l2)]) : W p l e R s m args below meth c H locs 0 0 Q (F0 m 37 ls [.int s0]) := by
  obtain ⟨⟨hx, hb, hml, hown, hts⟩, hK, hEV, hA⟩ := id X
  have hG : ∀ w ∈ GW, w.before args s = true := fun w h => hts w (List.mem_cons_of_mem _ h)
  unfold B_read_37 at h
  refine lv_istore_n (lv' := [(3, .int s0), (0, .ref (Z 200)), (2, .int l2)]) hx hb dX12_read_37 rfl hl (by decide) rfl (fun ls hl => ?_)
  refine lv_lconst (v := 0) hx hb dX12_read_38 (by decide) ?_
  refine lv_lstore (lv' := [(4, .long 0), (3, .int s0), (0, .ref (Z 200)), (2, .int l2)]) hx hb dX12_read_39 hl (by decide) rfl (fun ls hl => ?_)
  refine lv_iconst (v := 0) hx hb dX12_read_41 (by decide) ?_
  refine lv_istore (lv' := [(6, .int 0), (4, .long 0), (3, .int s0), (0, .ref (Z 200)), (2, .int l2)]) hx hb dX12_read_42 hl (by decide) rfl (fun ls hl => ?_)
  exact bl_read_44 X hE hF hL  _ _ _ _ _ _ h _ _ _ hS (lv_sub hl [3, 4, 2, 1, 0] rfl)
def B_read_0 (N : Nat) (l1 : Int32) (l2 : Int32) (u : RSt) : Option (Int64 × RSt) := if (5000 : Int32) ≤ l1 then (if l1 < (6000 : Int32) then (B_read_37 N l2 ((64 + l1) - 5000) u) else (B_read_37 N l2 (l1 - 6000) u)) else (rd (u.2.2.2 82) 3000 l1 fun v_10 => some (v_10, u))
set_option maxHeartbeats 4000000 in
theorem b_read_0 {r : Int64} (X : RC p s m args c cX12_read 7 (Cond.code yX12_read cX12_read 7 (some .long)) D kA V A) (hE : REl p l e R s m args below meth c cX12_read D kA Z A Q r w) (hF : 1 ≤ R.frames) (hL : 22 ≤ R.locals) {l1 : Int32} {l2 : Int32}  {u : RSt} (h : B_read_0 N l1 l2 u = some (r, w)) (hS : RS D kA Z A s u H locs) (hl : lv_has ls 7 [(0, .ref (Z 200)), (1, .int l1), (2, .int l2)]) : W p l e R s m args below meth c H locs 0 0 Q (F0 m 0 ls []) := by
  obtain ⟨⟨hx, hb, hml, hown, hts⟩, hK, hEV, hA⟩ := id X
  have hG : ∀ w ∈ GW, w.before args s = true := fun w h => hts w (List.mem_cons_of_mem _ h)
  unfold B_read_0 at h
  refine lv_iload_n hx hb dX12_read_0 rfl (lv_at hl 1 rfl) ?_
  refine lv_sipush (v := 5000) hx hb dX12_read_1 (by decide) ?_
  refine lv_icmp_ge (tgt := 14) hx hb dX12_read_4 (by decide) (fun c_8 => ?_) (fun c_8 => ?_)
  · have h := ip (c_8) h
    refine lv_iload_n hx hb dX12_read_14 rfl (lv_at hl 1 rfl) ?_
    refine lv_sipush (v := 6000) hx hb dX12_read_15 (by decide) ?_
    refine lv_icmp_lt (tgt := 29) hx hb dX12_read_18 (by decide) (fun c_9 => ?_) (fun c_9 => ?_)
    · have h := ip (c_9) h
      refine lv_bipush (v := 64) hx hb dX12_read_29 (by decide) ?_
      refine lv_iload_n hx hb dX12_read_31 rfl (lv_at hl 1 rfl) ?_
      refine lv_iadd hx hb dX12_read_32 ?_
      refine lv_sipush (v := 5000) hx hb dX12_read_33 (by decide) ?_
      refine lv_isub hx hb dX12_read_36 ?_
      exact b_read_37 X hE hF hL  h hS (lv_sub hl [0, 2] rfl)
    · have h := im (c_9) h
      refine lv_iload_n hx hb dX12_read_21 rfl (lv_at hl 1 rfl) ?_
      refine lv_sipush (v := 6000) hx hb dX12_read_22 (by decide) ?_
      refine lv_isub hx hb dX12_read_25 ?_
      refine lv_goto (tgt := 37) hx hb dX12_read_26 (by decide) ?_
      exact b_read_37 X hE hF hL  h hS (lv_sub hl [0, 2] rfl)
  · have h := im (c_8) h
    refine lv_aload_n hx hb dX12_read_7 rfl (lv_at hl 0 rfl) ?_
    refine rg_82 X hS dX12_read_8 ?_
    refine lv_iload_n hx hb dX12_read_11 rfl (lv_at hl 1 rfl) ?_
    obtain ⟨v_10, e_v_10, i_11, h⟩ := rd_of h
    refine ra_82 X hS i_11 e_v_10 dX12_read_12 ?_
    obtain ⟨rfl, rfl⟩ := so h
    exact hE _ _ _ _ hS dX12_read_13
def F_read (N : Nat) (l1 : Int32) (l2 : Int32) (u : RSt) : Option (Int64 × RSt) := B_read_0 N l1 l2 u
set_option maxHeartbeats 4000000 in
theorem k_read (l : Launch) (D : va_G) (kA : Nat → ClassId) (V Z : Nat → Nat) (N : Nat) (l1 : Int32) (l2 : Int32) (u : RSt) (sz : Nat) {r : Int64} {w : RSt} (h : F_read N l1 l2 u = some (r, w)) : Met l yX12_read (Cond.code yX12_read cX12_read 7 (some .long) :: GW) { frames := 1, cells := 0, slots := 0, locals := 22 } (rPc D kA V Z [.int l1, .int l2] u sz) (rQl D kA Z u sz r w) 0 0 (va_A (RW kA Z u) sz) := by
  refine Met.ofW (cc := cX12_read) (maxL := 7) (ret := (some .long)) (by decide) rfl ?_
  intro p e s m args below meth c s₁ Bd hml hv
  obtain ⟨rfl, hsz, hP, hK, hD0, hE⟩ := hv
  have hts := atoms_spec (ws := Cond.code yX12_read cX12_read 7 (some .long) :: GW) Bd.pre
  have hl := lv_entry (.ref (Z 200) :: [.int l1, .int l2]) (n := 7) (Nat.le_of_ble_eq_true rfl)
  rw [lg_entry_eq]
  generalize (lg_sl (.ref (Z 200) :: [.int l1, .int l2]) ++ List.replicate (7 - (lg_sl (.ref (Z 200) :: [.int l1, .int l2])).length) Slot.unset).toArray = ls at hl ⊢
  have hl : lv_has ls 7 [(0, .ref (Z 200)), (1, .int l1), (2, .int l2)] := hl
  subst hsz
  have X : RC p s m (.ref (Z 200) :: [.int l1, .int l2]).toArray c cX12_read 7 (Cond.code yX12_read cX12_read 7 (some .long)) D kA V (va_A (RW kA Z u) s.heap.size) := ⟨⟨Bd.exec, Bd.bytes, hml, findClass_of_methodNamed Bd.named, hts⟩, hK, hE, fun q h => Or.inr h⟩
  exact b_read_0 X (rend_l (cy := cX12_read) X Bd.returns Bd.notSynchronized) (Nat.le_refl _) (Nat.le_refl _) h ⟨hP, hD0.self, va_S.rf⟩ (lv_sub hl [0, 1, 2] rfl)
theorem kc_read {r : Int64} {cc : ByteArray} {pc nL : Nat} {c0 : Cond} {rest : List Value} {l1 : Int32} {l2 : Int32} {u : RSt} (X : RC p s m args c cc nL c0 D kA V A) (hS : RS D kA Z A s u H locs) (h : F_read N l1 l2 u = some (r, w)) (hF : 1 + 1 ≤ R.frames) (hL : 8 + (7 + 11) + 22 ≤ R.locals) (hl : ls.size = nL) (hc : (rest.map fun v => v.category).sum ≤ 8) (hdg : decode cc pc = .ok (.invokevirtual 602, 3)) (kk : ∀ H locs, RS D kA Z A s w H locs → W p l e R s m args below meth c H locs 0 0 Q (F0 m (pc + 3) ls (.long r :: rest))) : W p l e R s m args below meth c H locs 0 0 Q (F0 m pc ls (.int l2 :: .int l1 :: .ref (Z 200) :: rest)) :=
  rcall_l (n := 2) X hS (k_read l D kA V Z N l1 l2 u H.size h) (gw_V gw_2628 gw_2630 gs_12_5 gw_16 gw_2631) (by decide +kernel) hF hL rfl hl hc rfl hdg kk
def B_write_31 (N : Nat) (R_31 : Int32 × Int64 × Int32 × Int32 × RSt → Option (Int32 × RSt)) (l1 : Int32) (l3 : Int64) (l5 : Int32) (l6 : Int32) (u : RSt) : Option (Int32 × RSt) := if l5 ≤ l6 then (some (0, u)) else (wr 128 (((64 + l1) - 5000) + l6) (sA u 85 (((64 + l1) - 5000) + l6).toNatClampNeg (((l3 >>> ((8 * ((l5 - 1) - l6)).toInt64 &&& 63)) &&& 255).toInt32)) fun u_2 => R_31 (l1, l3, l5, (l6 + 1), u_2))
set_option maxHeartbeats 4000000 in
theorem b_write_31 {r : Int32} (X : RC p s m args c cX12_write 7 (Cond.code yX12_write cX12_write 7 none) D kA V A) (hE : REv p l e R s m args below meth c cX12_write D kA Z A Q w) (hF : 1 ≤ R.frames) (hL : 22 ≤ R.locals) {R_31 : Int32 × Int64 × Int32 × Int32 × RSt → Option (Int32 × RSt)} {l1 : Int32} {l3 : Int64} {l5 : Int32} {l6 : Int32} (hR_31 : ∀ (l1 : Int32) (l3 : Int64) (l5 : Int32) (l6 : Int32) (u : RSt), R_31 (l1, l3, l5, l6, u) = some (r, w) → ∀ (H : Heap) (locs : List Loc) (ls : Array Slot), RS D kA Z A s u H locs → lv_has ls 7 [(0, .ref (Z 200)), (1, .int l1), (3, .long l3), (5, .int l5), (6, .int l6)] → W p l e R s m args below meth c H locs 0 0 Q (F0 m 31 ls [])) {u : RSt} (h : B_write_31 N R_31 l1 l3 l5 l6 u = some (r, w)) (hS : RS D kA Z A s u H locs) (hl : lv_has ls 7 [(0, .ref (Z 200)), (1, .int l1), (3, .long l3), (5, .int l5), (6, .int l6)]) : W p l e R s m args below meth c H locs 0 0 Q (F0 m 31 ls []) := by
  obtain ⟨⟨hx, hb, hml, hown, hts⟩, hK, hEV, hA⟩ := id X
  have hG : ∀ w ∈ GW, w.before args s = true := fun w h => hts w (List.mem_cons_of_mem _ h)
  unfold B_write_31 at h
  refine lv_iload hx hb dX12_write_31 (lv_at hl 4 rfl) ?_
  refine lv_iload hx hb dX12_write_33 (lv_at hl 3 rfl) ?_
  refine lv_icmp_ge (tgt := 77) hx hb dX12_write_35 (by decide) (fun c_1 => ?_) (fun c_1 => ?_)
  · have h := ip (c_1) h
    obtain ⟨-, rfl⟩ := so h
    exact hE _ _ _ _ hS dX12_write_77
  · have h := im (c_1) h
    refine lv_aload_n hx hb dX12_write_38 rfl (lv_at hl 0 rfl) ?_
    refine rg_85 X hS dX12_write_39 ?_
    refine lv_bipush (v := 64) hx hb dX12_write_42 (by decide) ?_
    refine lv_iload_n hx hb dX12_write_44 rfl (lv_at hl 1 rfl) ?_
    refine lv_iadd hx hb dX12_write_45 ?_
    refine lv_sipush (v := 5000) hx hb dX12_write_46 (by decide) ?_
    refine lv_isub hx hb dX12_write_49 ?_
    refine lv_iload hx hb dX12_write_50 (lv_at hl 4 rfl) ?_
    refine lv_iadd hx hb dX12_write_52 ?_
    refine lv_lload_n hx hb dX12_write_53 rfl (lv_at hl 2 rfl) ?_
    refine lv_bipush (v := 8) hx hb dX12_write_54 (by decide) ?_
    refine lv_iload hx hb dX12_write_56 (lv_at hl 3 rfl) ?_
    refine lv_iconst (v := 1) hx hb dX12_write_58 (by decide) ?_
    refine lv_isub hx hb dX12_write_59 ?_
    refine lv_iload hx hb dX12_write_60 (lv_at hl 4 rfl) ?_
    refine lv_isub hx hb dX12_write_62 ?_
    refine lv_imul hx hb dX12_write_63 ?_
    refine lv_lshr (v := l3 >>> ((8 * ((l5 - 1) - l6)).toInt64 &&& 63)) hx hb dX12_write_64 rfl ?_
    refine lv_ldc2 (v := 255) hx hb hown (hG _ gw_2402) dX12_write_65 ?_
    refine lv_land hx hb dX12_write_68 ?_
    refine lv_l2i (v := ((l3 >>> ((8 * ((l5 - 1) - l6)).toInt64 &&& 63)) &&& 255).toInt32) hx hb dX12_write_69 rfl ?_
    obtain ⟨u_2, e_u_2, i_3, h⟩ := wr_of h
    refine rs_85 X hS i_3 e_u_2 dX12_write_70 (fun H locs hS => ?_)
    refine lv_iinc (v := l6 + 1) (lv' := [(6, .int (l6 + 1)), (0, .ref (Z 200)), (1, .int l1), (3, .long l3), (5, .int l5)]) hx hb dX12_write_71 hl (k := 4) rfl rfl (by decide) rfl (fun ls hl => ?_)
    refine lv_goto (tgt := 31) hx hb dX12_write_74 (by decide) ?_
    exact hR_31 _ _ _ _ _ h _ _ _ hS (lv_sub hl [1, 2, 3, 4, 0] rfl)
def LP_write_31 (N : Nat) : Nat → Int32 × Int64 × Int32 × Int32 × RSt → Option (Int32 × RSt) := lp (fun R a => B_write_31 N R a.1 a.2.1 a.2.2.1 a.2.2.2.1 a.2.2.2.2)
theorem bl_write_31 {r : Int32} (X : RC p s m args c cX12_write 7 (Cond.code yX12_write cX12_write 7 none) D kA V A) (hE : REv p l e R s m args below meth c cX12_write D kA Z A Q w) (hF : 1 ≤ R.frames) (hL : 22 ≤ R.locals)  : ∀ (n : Nat) (l1 : Int32) (l3 : Int64) (l5 : Int32) (l6 : Int32) (u : RSt), LP_write_31 N n (l1, l3, l5, l6, u) = some (r, w) → ∀ (H : Heap) (locs : List Loc) (ls : Array Slot), RS D kA Z A s u H locs → lv_has ls 7 [(0, .ref (Z 200)), (1, .int l1), (3, .long l3), (5, .int l5), (6, .int l6)] → W p l e R s m args below meth c H locs 0 0 Q (F0 m 31 ls []) := by
  intro n
  induction n with
  | zero => intro l1 l3 l5 l6 u h; exact nomatch h
  | succ n ih => intro l1 l3 l5 l6 u h H locs ls hS hl; exact b_write_31 (N := N) (R_31 := LP_write_31 N n) X hE hF hL  ih h hS hl
def B_write_0 (N : Nat) (l1 : Int32) (l2 : Int32) (l3 : Int64) (u : RSt) : Option (Int32 × RSt) := if (5000 : Int32) ≤ l1 then (LP_write_31 N N (l1, l3, ((r_bits l2) / 8), 0, u)) else (wr 3000 l1 (sB u 82 l1.toNatClampNeg (r_cut l2 l3)) fun u_9 => some (0, u_9))
set_option maxHeartbeats 4000000 in
theorem b_write_0 {r : Int32} (X : RC p s m args c cX12_write 7 (Cond.code yX12_write cX12_write 7 none) D kA V A) (hE : REv p l e R s m args below meth c cX12_write D kA Z A Q w) (hF : 1 ≤ R.frames) (hL : 22 ≤ R.locals) {l1 : Int32} {l2 : Int32} {l3 : Int64}  {u : RSt} (h : B_write_0 N l1 l2 l3 u = some (r, w)) (hS : RS D kA Z A s u H locs) (hl : lv_has ls 7 [(0, .ref (Z 200)), (1, .int l1), (2, .int l2), (3, .long l3)]) : W p l e R s m args below meth c H locs 0 0 Q (F0 m 0 ls []) := by
  obtain ⟨⟨hx, hb, hml, hown, hts⟩, hK, hEV, hA⟩ := id X
  have hG : ∀ w ∈ GW, w.before args s = true := fun w h => hts w (List.mem_cons_of_mem _ h)
  unfold B_write_0 at h
  refine lv_iload_n hx hb dX12_write_0 rfl (lv_at hl 1 rfl) ?_
  refine lv_sipush (v := 5000) hx hb dX12_write_1 (by decide) ?_
  refine lv_icmp_ge (tgt := 19) hx hb dX12_write_4 (by decide) (fun c_4 => ?_) (fun c_4 => ?_)
  · have h := ip (c_4) h
    refine lv_iload_n hx hb dX12_write_19 rfl (lv_at hl 2 rfl) ?_
    refine vp_callSi (W.runS (As := [.int l2]) (rest := []) X.1 (c_X12_bitsOf l l2) (va_cwS 1 hts (gw_P gw_2425 gw_2426 gw_16 gwp_X12_bitsOf) rfl rfl rfl (by decide +kernel) ⟨Nat.le_trans (Nat.le_of_ble_eq_true rfl) hF, Nat.le_trans (Nat.le_of_ble_eq_true rfl) hL⟩) ⟨fun _ _ _ _ q => q, fun _ _ _ => ⟨rfl, trivial⟩⟩ rfl rfl hl.1 rfl (lv_room (Nat.le_of_ble_eq_true rfl)) dX12_write_20 ⟨Nat.zero_le _, Nat.zero_le _⟩) (fun r_5 q_6 => ?_)
    subst q_6
    refine lv_bipush (v := 8) hx hb dX12_write_23 (by decide) ?_
    refine lv_idiv hx hb dX12_write_25 (by decide) ?_
    refine lv_istore (lv' := [(5, .int ((r_bits l2) / 8)), (0, .ref (Z 200)), (1, .int l1), (2, .int l2), (3, .long l3)]) hx hb dX12_write_26 hl (by decide) rfl (fun ls hl => ?_)
    refine lv_iconst (v := 0) hx hb dX12_write_28 (by decide) ?_
    refine lv_istore (lv' := [(6, .int 0), (5, .int ((r_bits l2) / 8)), (0, .ref (Z 200)), (1, .int l1), (2, .int l2), (3, .long l3)]) hx hb dX12_write_29 hl (by decide) rfl (fun ls hl => ?_)
    exact bl_write_31 X hE hF hL  _ _ _ _ _ _ h _ _ _ hS (lv_sub hl [2, 3, 5, 1, 0] rfl)
  · have h := im (c_4) h
    refine lv_aload_n hx hb dX12_write_7 rfl (lv_at hl 0 rfl) ?_
    refine rg_82 X hS dX12_write_8 ?_
    refine lv_iload_n hx hb dX12_write_11 rfl (lv_at hl 1 rfl) ?_
    refine lv_iload_n hx hb dX12_write_12 rfl (lv_at hl 2 rfl) ?_
    refine lv_lload_n hx hb dX12_write_13 rfl (lv_at hl 3 rfl) ?_
    refine vp_callSl (W.runS (As := [.int l2, .long l3]) (rest := [.int l1, .ref (Z 82)]) X.1 (c_X12_cutTo l l2 l3) (va_cwS 2 hts (gw_P gw_2399 gw_2400 gw_16 gwp_X12_cutTo) rfl rfl rfl (by decide +kernel) ⟨Nat.le_trans (Nat.le_of_ble_eq_true rfl) hF, Nat.le_trans (Nat.le_of_ble_eq_true rfl) hL⟩) ⟨fun _ _ _ _ q => q, fun _ _ _ => ⟨rfl, trivial⟩⟩ rfl rfl hl.1 rfl (lv_room (Nat.le_of_ble_eq_true rfl)) dX12_write_14 ⟨Nat.zero_le _, Nat.zero_le _⟩) (fun r_7 q_8 => ?_)
    subst q_8
    obtain ⟨u_9, e_u_9, i_10, h⟩ := wr_of h
    refine rs_82 X hS i_10 e_u_9 dX12_write_17 (fun H locs hS => ?_)
    obtain ⟨-, rfl⟩ := so h
    exact hE _ _ _ _ hS dX12_write_18
def F_write (N : Nat) (l1 : Int32) (l2 : Int32) (l3 : Int64) (u : RSt) : Option (Int32 × RSt) := B_write_0 N l1 l2 l3 u
set_option maxHeartbeats 4000000 in
theorem k_write (l : Launch) (D : va_G) (kA : Nat → ClassId) (V Z : Nat → Nat) (N : Nat) (l1 : Int32) (l2 : Int32) (l3 : Int64) (u : RSt) (sz : Nat) {r : Int32} {w : RSt} (h : F_write N l1 l2 l3 u = some (r, w)) : Met l yX12_write (Cond.code yX12_write cX12_write 7 none :: GW) { frames := 1, cells := 0, slots := 0, locals := 22 } (rPc D kA V Z [.int l1, .int l2, .long l3] u sz) (rQv D kA Z u sz w) 0 0 (va_A (RW kA Z u) sz) := by
  refine Met.ofW (cc := cX12_write) (maxL := 7) (ret := none) (by decide) rfl ?_
  intro p e s m args below meth c s₁ Bd hml hv
  obtain ⟨rfl, hsz, hP, hK, hD0, hE⟩ := hv
  have hts := atoms_spec (ws := Cond.code yX12_write cX12_write 7 none :: GW) Bd.pre
  have hl := lv_entry (.ref (Z 200) :: [.int l1, .int l2, .long l3]) (n := 7) (Nat.le_of_ble_eq_true rfl)
  rw [lg_entry_eq]
  generalize (lg_sl (.ref (Z 200) :: [.int l1, .int l2, .long l3]) ++ List.replicate (7 - (lg_sl (.ref (Z 200) :: [.int l1, .int l2, .long l3])).length) Slot.unset).toArray = ls at hl ⊢
  have hl : lv_has ls 7 [(0, .ref (Z 200)), (1, .int l1), (2, .int l2), (3, .long l3)] := hl
  subst hsz
  have X : RC p s m (.ref (Z 200) :: [.int l1, .int l2, .long l3]).toArray c cX12_write 7 (Cond.code yX12_write cX12_write 7 none) D kA V (va_A (RW kA Z u) s.heap.size) := ⟨⟨Bd.exec, Bd.bytes, hml, findClass_of_methodNamed Bd.named, hts⟩, hK, hE, fun q h => Or.inr h⟩
  exact b_write_0 X (rend_v (cy := cX12_write) X Bd.returns Bd.notSynchronized) (Nat.le_refl _) (Nat.le_refl _) h ⟨hP, hD0.self, va_S.rf⟩ (lv_sub hl [0, 1, 2, 3] rfl)
theorem kc_write {r : Int32} {cc : ByteArray} {pc nL : Nat} {c0 : Cond} {rest : List Value} {l1 : Int32} {l2 : Int32} {l3 : Int64} {u : RSt} (X : RC p s m args c cc nL c0 D kA V A) (hS : RS D kA Z A s u H locs) (h : F_write N l1 l2 l3 u = some (r, w)) (hF : 1 + 1 ≤ R.frames) (hL : 8 + (7 + 11) + 22 ≤ R.locals) (hl : ls.size = nL) (hc : (rest.map fun v => v.category).sum ≤ 8) (hdg : decode cc pc = .ok (.invokevirtual 606, 3)) (kk : ∀ H locs, RS D kA Z A s w H locs → W p l e R s m args below meth c H locs 0 0 Q (F0 m (pc + 3) ls (rest))) : W p l e R s m args below meth c H locs 0 0 Q (F0 m pc ls (.long l3 :: .int l2 :: .int l1 :: .ref (Z 200) :: rest)) :=
  rcall_v (n := 3) X hS (k_write l D kA V Z N l1 l2 l3 u H.size h) (gw_V gw_2632 gw_2634 gs_12_6 gw_16 gw_2635) (by decide +kernel) hF hL rfl hl hc rfl hdg kk
def B_stops_0 (N : Nat) (l1 : Int32) (l2 : Int32) (u : RSt) : Option (Int32 × RSt) := pu (sI u 118 l1) fun u_1 => pu (sI u_1 119 l2) fun u_2 => some (0, u_2)
set_option maxHeartbeats 4000000 in
theorem b_stops_0 {r : Int32} (X : RC p s m args c cX12_stops 3 (Cond.code yX12_stops cX12_stops 3 none) D kA V A) (hE : REv p l e R s m args below meth c cX12_stops D kA Z A Q w) (hF : 0 ≤ R.frames) (hL : 0 ≤ R.locals) {l1 : Int32} {l2 : Int32}  {u : RSt} (h : B_stops_0 N l1 l2 u = some (r, w)) (hS : RS D kA Z A s u H locs) (hl : lv_has ls 3 [(0, .ref (Z 200)), (1, .int l1), (2, .int l2)]) : W p l e R s m args below meth c H locs 0 0 Q (F0 m 0 ls []) := by
  obtain ⟨⟨hx, hb, hml, hown, hts⟩, hK, hEV, hA⟩ := id X
  have hG : ∀ w ∈ GW, w.before args s = true := fun w h => hts w (List.mem_cons_of_mem _ h)
  unfold B_stops_0 at h
  refine lv_aload_n hx hb dX12_stops_0 rfl (lv_at hl 0 rfl) ?_
  refine lv_iload_n hx hb dX12_stops_1 rfl (lv_at hl 1 rfl) ?_
  obtain ⟨u_1, e_u_1, h⟩ := pu_of h
  refine rp_118 X hS e_u_1 dX12_stops_2 (fun H locs hS => ?_)
  refine lv_aload_n hx hb dX12_stops_5 rfl (lv_at hl 0 rfl) ?_
  refine lv_iload_n hx hb dX12_stops_6 rfl (lv_at hl 2 rfl) ?_
  obtain ⟨u_2, e_u_2, h⟩ := pu_of h
  refine rp_119 X hS e_u_2 dX12_stops_7 (fun H locs hS => ?_)
  obtain ⟨-, rfl⟩ := so h
  exact hE _ _ _ _ hS dX12_stops_10
def F_stops (N : Nat) (l1 : Int32) (l2 : Int32) (u : RSt) : Option (Int32 × RSt) := B_stops_0 N l1 l2 u
set_option maxHeartbeats 4000000 in
theorem k_stops (l : Launch) (D : va_G) (kA : Nat → ClassId) (V Z : Nat → Nat) (N : Nat) (l1 : Int32) (l2 : Int32) (u : RSt) (sz : Nat) {r : Int32} {w : RSt} (h : F_stops N l1 l2 u = some (r, w)) : Met l yX12_stops (Cond.code yX12_stops cX12_stops 3 none :: GW) { frames := 0, cells := 0, slots := 0, locals := 0 } (rPc D kA V Z [.int l1, .int l2] u sz) (rQv D kA Z u sz w) 0 0 (va_A (RW kA Z u) sz) := by
  refine Met.ofW (cc := cX12_stops) (maxL := 3) (ret := none) (by decide) rfl ?_
  intro p e s m args below meth c s₁ Bd hml hv
  obtain ⟨rfl, hsz, hP, hK, hD0, hE⟩ := hv
  have hts := atoms_spec (ws := Cond.code yX12_stops cX12_stops 3 none :: GW) Bd.pre
  have hl := lv_entry (.ref (Z 200) :: [.int l1, .int l2]) (n := 3) (Nat.le_of_ble_eq_true rfl)
  rw [lg_entry_eq]
  generalize (lg_sl (.ref (Z 200) :: [.int l1, .int l2]) ++ List.replicate (3 - (lg_sl (.ref (Z 200) :: [.int l1, .int l2])).length) Slot.unset).toArray = ls at hl ⊢
  have hl : lv_has ls 3 [(0, .ref (Z 200)), (1, .int l1), (2, .int l2)] := hl
  subst hsz
  have X : RC p s m (.ref (Z 200) :: [.int l1, .int l2]).toArray c cX12_stops 3 (Cond.code yX12_stops cX12_stops 3 none) D kA V (va_A (RW kA Z u) s.heap.size) := ⟨⟨Bd.exec, Bd.bytes, hml, findClass_of_methodNamed Bd.named, hts⟩, hK, hE, fun q h => Or.inr h⟩
  exact b_stops_0 X (rend_v (cy := cX12_stops) X Bd.returns Bd.notSynchronized) (Nat.le_refl _) (Nat.le_refl _) h ⟨hP, hD0.self, va_S.rf⟩ (lv_sub hl [0, 1, 2] rfl)
theorem kc_stops {r : Int32} {cc : ByteArray} {pc nL : Nat} {c0 : Cond} {rest : List Value} {l1 : Int32} {l2 : Int32} {u : RSt} (X : RC p s m args c cc nL c0 D kA V A) (hS : RS D kA Z A s u H locs) (h : F_stops N l1 l2 u = some (r, w)) (hF : 0 + 1 ≤ R.frames) (hL : 8 + (3 + 11) + 0 ≤ R.locals) (hl : ls.size = nL) (hc : (rest.map fun v => v.category).sum ≤ 8) (hdg : decode cc pc = .ok (.invokevirtual 560, 3)) (kk : ∀ H locs, RS D kA Z A s w H locs → W p l e R s m args below meth c H locs 0 0 Q (F0 m (pc + 3) ls (rest))) : W p l e R s m args below meth c H locs 0 0 Q (F0 m pc ls (.int l2 :: .int l1 :: .ref (Z 200) :: rest)) :=
  rcall_v (n := 2) X hS (k_stops l D kA V Z N l1 l2 u H.size h) (gw_V gw_2624 gw_2626 gs_12_4 gw_16 gw_2627) (by decide +kernel) hF hL rfl hl hc rfl hdg kk
def B_mayCall_0 (N : Nat) (l1 : Int32) (u : RSt) : Option (Int32 × RSt) := if (u.1 114) = (8 : Int32) then (bn (F_stops N 4 l1 u) fun _ u_8 => some (0, u_8)) else (wr 9 (u.1 114) (sA u 108 (u.1 114).toNatClampNeg (u.1 113)) fun u_2 => wr 9 (u_2.1 114) (sA u_2 109 (u_2.1 114).toNatClampNeg (u_2.1 115)) fun u_4 => wr 9 (u_4.1 114) (sA u_4 110 (u_4.1 114).toNatClampNeg (u_4.1 116)) fun u_6 => some (1, u_6))
set_option maxHeartbeats 4000000 in
theorem b_mayCall_0 {r : Int32} (X : RC p s m args c cX12_mayCall 2 (Cond.code yX12_mayCall cX12_mayCall 2 (some .boolean)) D kA V A) (hE : REz p l e R s m args below meth c cX12_mayCall D kA Z A Q r w) (hF : 1 ≤ R.frames) (hL : 22 ≤ R.locals) {l1 : Int32}  {u : RSt} (h : B_mayCall_0 N l1 u = some (r, w)) (hS : RS D kA Z A s u H locs) (hl : lv_has ls 2 [(0, .ref (Z 200)), (1, .int l1)]) : W p l e R s m args below meth c H locs 0 0 Q (F0 m 0 ls []) := by
  obtain ⟨⟨hx, hb, hml, hown, hts⟩, hK, hEV, hA⟩ := id X
  have hG : ∀ w ∈ GW, w.before args s = true := fun w h => hts w (List.mem_cons_of_mem _ h)
  unfold B_mayCall_0 at h
  refine lv_aload_n hx hb dX12_mayCall_0 rfl (lv_at hl 0 rfl) ?_
  refine rg_114 X hS dX12_mayCall_1 ?_
  refine lv_bipush (v := 8) hx hb dX12_mayCall_4 (by decide) ?_
  refine lv_icmp_ne (tgt := 17) hx hb dX12_mayCall_6 (by decide) (fun c_1 => ?_) (fun c_1 => ?_)
  · have h := im (c_1) h
    refine lv_aload_n hx hb dX12_mayCall_17 rfl (lv_at hl 0 rfl) ?_
    refine rg_108 X hS dX12_mayCall_18 ?_
    refine lv_aload_n hx hb dX12_mayCall_21 rfl (lv_at hl 0 rfl) ?_
    refine rg_114 X hS dX12_mayCall_22 ?_
    refine lv_aload_n hx hb dX12_mayCall_25 rfl (lv_at hl 0 rfl) ?_
    refine rg_113 X hS dX12_mayCall_26 ?_
    obtain ⟨u_2, e_u_2, i_3, h⟩ := wr_of h
    refine rs_108 X hS i_3 e_u_2 dX12_mayCall_29 (fun H locs hS => ?_)
    refine lv_aload_n hx hb dX12_mayCall_30 rfl (lv_at hl 0 rfl) ?_
    refine rg_109 X hS dX12_mayCall_31 ?_
    refine lv_aload_n hx hb dX12_mayCall_34 rfl (lv_at hl 0 rfl) ?_
    refine rg_114 X hS dX12_mayCall_35 ?_
    refine lv_aload_n hx hb dX12_mayCall_38 rfl (lv_at hl 0 rfl) ?_
    refine rg_115 X hS dX12_mayCall_39 ?_
    obtain ⟨u_4, e_u_4, i_5, h⟩ := wr_of h
    refine rs_109 X hS i_5 e_u_4 dX12_mayCall_42 (fun H locs hS => ?_)
    refine lv_aload_n hx hb dX12_mayCall_43 rfl (lv_at hl 0 rfl) ?_
    refine rg_110 X hS dX12_mayCall_44 ?_
    refine lv_aload_n hx hb dX12_mayCall_47 rfl (lv_at hl 0 rfl) ?_
    refine rg_114 X hS dX12_mayCall_48 ?_
    refine lv_aload_n hx hb dX12_mayCall_51 rfl (lv_at hl 0 rfl) ?_
    refine rg_116 X hS dX12_mayCall_52 ?_
    obtain ⟨u_6, e_u_6, i_7, h⟩ := wr_of h
    refine rs_110 X hS i_7 e_u_6 dX12_mayCall_55 (fun H locs hS => ?_)
    refine lv_iconst (v := 1) hx hb dX12_mayCall_56 (by decide) ?_
    obtain ⟨rfl, rfl⟩ := so h
    exact hE _ _ _ _ hS (Or.inr rfl) dX12_mayCall_57
  · have h := ip (c_1) h
    refine lv_aload_n hx hb dX12_mayCall_9 rfl (lv_at hl 0 rfl) ?_
    refine lv_iconst (v := 4) hx hb dX12_mayCall_10 (by decide) ?_
    refine lv_iload_n hx hb dX12_mayCall_11 rfl (lv_at hl 1 rfl) ?_
    obtain ⟨r_u_8, u_8, h_u_8, h⟩ := bn_of h
    refine kc_stops X hS h_u_8 (Nat.le_trans (Nat.le_of_ble_eq_true rfl) hF) (Nat.le_trans (Nat.le_of_ble_eq_true rfl) hL) hl.1 (Nat.le_of_ble_eq_true rfl) dX12_mayCall_12 (fun H locs hS => ?_)
    refine lv_iconst (v := 0) hx hb dX12_mayCall_15 (by decide) ?_
    obtain ⟨rfl, rfl⟩ := so h
    exact hE _ _ _ _ hS (Or.inl rfl) dX12_mayCall_16
def F_mayCall (N : Nat) (l1 : Int32) (u : RSt) : Option (Int32 × RSt) := B_mayCall_0 N l1 u
set_option maxHeartbeats 4000000 in
theorem k_mayCall (l : Launch) (D : va_G) (kA : Nat → ClassId) (V Z : Nat → Nat) (N : Nat) (l1 : Int32) (u : RSt) (sz : Nat) {r : Int32} {w : RSt} (h : F_mayCall N l1 u = some (r, w)) : Met l yX12_mayCall (Cond.code yX12_mayCall cX12_mayCall 2 (some .boolean) :: GW) { frames := 1, cells := 0, slots := 0, locals := 22 } (rPc D kA V Z [.int l1] u sz) (rQi D kA Z u sz r w) 0 0 (va_A (RW kA Z u) sz) := by
  refine Met.ofW (cc := cX12_mayCall) (maxL := 2) (ret := (some .boolean)) (by decide) rfl ?_
  intro p e s m args below meth c s₁ Bd hml hv
  obtain ⟨rfl, hsz, hP, hK, hD0, hE⟩ := hv
  have hts := atoms_spec (ws := Cond.code yX12_mayCall cX12_mayCall 2 (some .boolean) :: GW) Bd.pre
  have hl := lv_entry (.ref (Z 200) :: [.int l1]) (n := 2) (Nat.le_of_ble_eq_true rfl)
  rw [lg_entry_eq]
  generalize (lg_sl (.ref (Z 200) :: [.int l1]) ++ List.replicate (2 - (lg_sl (.ref (Z 200) :: [.int l1])).length) Slot.unset).toArray = ls at hl ⊢
  have hl : lv_has ls 2 [(0, .ref (Z 200)), (1, .int l1)] := hl
  subst hsz
  have X : RC p s m (.ref (Z 200) :: [.int l1]).toArray c cX12_mayCall 2 (Cond.code yX12_mayCall cX12_mayCall 2 (some .boolean)) D kA V (va_A (RW kA Z u) s.heap.size) := ⟨⟨Bd.exec, Bd.bytes, hml, findClass_of_methodNamed Bd.named, hts⟩, hK, hE, fun q h => Or.inr h⟩
  exact b_mayCall_0 X (rend_z (cy := cX12_mayCall) X Bd.returns Bd.notSynchronized) (Nat.le_refl _) (Nat.le_refl _) h ⟨hP, hD0.self, va_S.rf⟩ (lv_sub hl [0, 1] rfl)
theorem kc_mayCall {r : Int32} {cc : ByteArray} {pc nL : Nat} {c0 : Cond} {rest : List Value} {l1 : Int32} {u : RSt} (X : RC p s m args c cc nL c0 D kA V A) (hS : RS D kA Z A s u H locs) (h : F_mayCall N l1 u = some (r, w)) (hF : 1 + 1 ≤ R.frames) (hL : 8 + (2 + 11) + 22 ≤ R.locals) (hl : ls.size = nL) (hc : (rest.map fun v => v.category).sum ≤ 8) (hdg : decode cc pc = .ok (.invokevirtual 617, 3)) (kk : ∀ H locs, RS D kA Z A s w H locs → W p l e R s m args below meth c H locs 0 0 Q (F0 m (pc + 3) ls (.int r :: rest))) : W p l e R s m args below meth c H locs 0 0 Q (F0 m pc ls (.int l1 :: .ref (Z 200) :: rest)) :=
  rcall_i (n := 1) X hS (k_mayCall l D kA V Z N l1 u H.size h) (gw_V gw_2648 gw_2650 gs_12_7 gw_16 gw_2651) (by decide +kernel) hF hL rfl hl hc rfl hdg kk
def B_enter_120 (N : Nat) (R_39 : Int32 × Int32 × Int32 × Int32 × Int32 × RSt → Option (Int32 × RSt)) (R_53 : Int32 × Int32 × Int32 × Int32 × Int32 × Int32 × RSt → Option (Int32 × RSt)) (l1 : Int32) (l2 : Int32) (l3 : Int32) (l4 : Int32) (l5 : Int32) (l6 : Int32) (s1 : Int32) (s2 : Int64) (u : RSt) : Option (Int32 × RSt) := wr 3000 s1 (sB u 82 s1.toNatClampNeg s2) fun u_1 => R_53 (l1, l2, l3, l4, l5, (l6 + 1), u_1)
set_option maxHeartbeats 4000000 in
theorem b_enter_120 {r : Int32} (X : RC p s m args c cX12_enter 7 (Cond.code yX12_enter cX12_enter 7 none) D kA V A) (hE : REv p l e R s m args below meth c cX12_enter D kA Z A Q w) (hF : 0 ≤ R.frames) (hL : 0 ≤ R.locals) {R_39 : Int32 × Int32 × Int32 × Int32 × Int32 × RSt → Option (Int32 × RSt)} {R_53 : Int32 × Int32 × Int32 × Int32 × Int32 × Int32 × RSt → Option (Int32 × RSt)} {l1 : Int32} {l2 : Int32} {l3 : Int32} {l4 : Int32} {l5 : Int32} {l6 : Int32} {s1 : Int32} {s2 : Int64} (hR_39 : ∀ (l1 : Int32) (l2 : Int32) (l3 : Int32) (l4 : Int32) (l5 : Int32) (u : RSt), R_39 (l1, l2, l3, l4, l5, u) = some (r, w) → ∀ (H : Heap) (locs : List Loc) (ls : Array Slot), RS D kA Z A s u H locs → lv_has ls 7 [(0, .ref (Z 200)), (1, .int l1), (2, .int l2), (3, .int l3), (4, .int l4), (5, .int l5)] → W p l e R s m args below meth c H locs 0 0 Q (F0 m 39 ls [])) (hR_53 : ∀ (l1 : Int32) (l2 : Int32) (l3 : Int32) (l4 : Int32) (l5 : Int32) (l6 : Int32) (u : RSt), R_53 (l1, l2, l3, l4, l5, l6, u) = some (r, w) → ∀ (H : Heap) (locs : List Loc) (ls : Array Slot), RS D kA Z A s u H locs → lv_has ls 7 [(0, .ref (Z 200)), (1, .int l1), (2, .int l2), (3, .int l3), (4, .int l4), (5, .int l5), (6, .int l6)] → W p l e R s m args below meth c H locs 0 0 Q (F0 m 53 ls [])) {u : RSt} (h : B_enter_120 N R_39 R_53 l1 l2 l3 l4 l5 l6 s1 s2 u = some (r, w)) (hS : RS D kA Z A s u H locs) (hl : lv_has ls 7 [(0, .ref (Z 200)), (1, .int l1), (2, .int l2), (3, .int l3), (4, .int l4), (5, .int l5), (6, .int l6)]) : W p l e R s m args below meth c H locs 0 0 Q (F0 m 120 ls [.long s2, .int s1, .ref (Z 82)]) := by
  obtain ⟨⟨hx, hb, hml, hown, hts⟩, hK, hEV, hA⟩ := id X
  have hG : ∀ w ∈ GW, w.before args s = true := fun w h => hts w (List.mem_cons_of_mem _ h)
  unfold B_enter_120 at h
  obtain ⟨u_1, e_u_1, i_2, h⟩ := wr_of h
  refine rs_82 X hS i_2 e_u_1 dX12_enter_120 (fun H locs hS => ?_)
  refine lv_iinc (v := l6 + 1) (lv' := [(6, .int (l6 + 1)), (0, .ref (Z 200)), (1, .int l1), (2, .int l2), (3, .int l3), (4, .int l4), (5, .int l5)]) hx hb dX12_enter_121 hl (k := 6) rfl rfl (by decide) rfl (fun ls hl => ?_)
  refine lv_goto (tgt := 53) hx hb dX12_enter_124 (by decide) ?_
  exact hR_53 _ _ _ _ _ _ _ h _ _ _ hS (lv_sub hl [1, 2, 3, 4, 5, 6, 0] rfl)
def B_enter_53 (N : Nat) (R_39 : Int32 × Int32 × Int32 × Int32 × Int32 × RSt → Option (Int32 × RSt)) (R_53 : Int32 × Int32 × Int32 × Int32 × Int32 × Int32 × RSt → Option (Int32 × RSt)) (l1 : Int32) (l2 : Int32) (l3 : Int32) (l4 : Int32) (l5 : Int32) (l6 : Int32) (u : RSt) : Option (Int32 × RSt) := rd (u.2.2.1 21) 320 (l4 + l5) fun v_3 => if v_3 ≤ l6 then (R_39 (l1, l2, l3, l4, (l5 + 1), u)) else (rd (u.2.2.1 23) 320 (l4 + l5) fun v_6 => if l2 ≤ l5 then (rd (u.2.2.2 24) 320 (l4 + l5) fun v_9 => B_enter_120 N R_39 R_53 l1 l2 l3 l4 l5 l6 ((l3 + v_6) + l6) v_9 u) else (rd (u.2.2.2 107) 6000 (((u.1 112) - l2) + l5) fun v_11 => B_enter_120 N R_39 R_53 l1 l2 l3 l4 l5 l6 ((l3 + v_6) + l6) v_11 u))
set_option maxHeartbeats 4000000 in
theorem b_enter_53 {r : Int32} (X : RC p s m args c cX12_enter 7 (Cond.code yX12_enter cX12_enter 7 none) D kA V A) (hE : REv p l e R s m args below meth c cX12_enter D kA Z A Q w) (hF : 0 ≤ R.frames) (hL : 0 ≤ R.locals) {R_39 : Int32 × Int32 × Int32 × Int32 × Int32 × RSt → Option (Int32 × RSt)} {R_53 : Int32 × Int32 × Int32 × Int32 × Int32 × Int32 × RSt → Option (Int32 × RSt)} {l1 : Int32} {l2 : Int32} {l3 : Int32} {l4 : Int32} {l5 : Int32} {l6 : Int32} (hR_39 : ∀ (l1 : Int32) (l2 : Int32) (l3 : Int32) (l4 : Int32) (l5 : Int32) (u : RSt), R_39 (l1, l2, l3, l4, l5, u) = some (r, w) → ∀ (H : Heap) (locs : List Loc) (ls : Array Slot), RS D kA Z A s u H locs → lv_has ls 7 [(0, .ref (Z 200)), (1, .int l1), (2, .int l2), (3, .int l3), (4, .int l4), (5, .int l5)] → W p l e R s m args below meth c H locs 0 0 Q (F0 m 39 ls [])) (hR_53 : ∀ (l1 : Int32) (l2 : Int32) (l3 : Int32) (l4 : Int32) (l5 : Int32) (l6 : Int32) (u : RSt), R_53 (l1, l2, l3, l4, l5, l6, u) = some (r, w) → ∀ (H : Heap) (locs : List Loc) (ls : Array Slot), RS D kA Z A s u H locs → lv_has ls 7 [(0, .ref (Z 200)), (1, .int l1), (2, .int l2), (3, .int l3), (4, .int l4), (5, .int l5), (6, .int l6)] → W p l e R s m args below meth c H locs 0 0 Q (F0 m 53 ls [])) {u : RSt} (h : B_enter_53 N R_39 R_53 l1 l2 l3 l4 l5 l6 u = some (r, w)) (hS : RS D kA Z A s u H locs) (hl : lv_has ls 7 [(0, .ref (Z 200)), (1, .int l1), (2, .int l2), (3, .int l3), (4, .int l4), (5, .int l5), (6, .int l6)]) : W p l e R s m args below meth c H locs 0 0 Q (F0 m 53 ls []) := by
  obtain ⟨⟨hx, hb, hml, hown, hts⟩, hK, hEV, hA⟩ := id X
  have hG : ∀ w ∈ GW, w.before args s = true := fun w h => hts w (List.mem_cons_of_mem _ h)
  unfold B_enter_53 at h
  refine lv_iload hx hb dX12_enter_53 (lv_at hl 6 rfl) ?_
  refine lv_aload_n hx hb dX12_enter_55 rfl (lv_at hl 0 rfl) ?_
  refine rg_21 X hS dX12_enter_56 ?_
  refine lv_iload hx hb dX12_enter_59 (lv_at hl 4 rfl) ?_
  refine lv_iload hx hb dX12_enter_61 (lv_at hl 5 rfl) ?_
  refine lv_iadd hx hb dX12_enter_63 ?_
  obtain ⟨v_3, e_v_3, i_4, h⟩ := rd_of h
  refine ra_21 X hS i_4 e_v_3 dX12_enter_64 ?_
  refine lv_icmp_ge (tgt := 127) hx hb dX12_enter_65 (by decide) (fun c_5 => ?_) (fun c_5 => ?_)
  · have h := ip (c_5) h
    refine lv_iinc (v := l5 + 1) (lv' := [(5, .int (l5 + 1)), (0, .ref (Z 200)), (1, .int l1), (2, .int l2), (3, .int l3), (4, .int l4), (6, .int l6)]) hx hb dX12_enter_127 hl (k := 5) rfl rfl (by decide) rfl (fun ls hl => ?_)
    refine lv_goto (tgt := 39) hx hb dX12_enter_130 (by decide) ?_
    exact hR_39 _ _ _ _ _ _ h _ _ _ hS (lv_sub hl [1, 2, 3, 4, 5, 0] rfl)
  · have h := im (c_5) h
    refine lv_aload_n hx hb dX12_enter_68 rfl (lv_at hl 0 rfl) ?_
    refine rg_82 X hS dX12_enter_69 ?_
    refine lv_iload_n hx hb dX12_enter_72 rfl (lv_at hl 3 rfl) ?_
    refine lv_aload_n hx hb dX12_enter_73 rfl (lv_at hl 0 rfl) ?_
    refine rg_23 X hS dX12_enter_74 ?_
    refine lv_iload hx hb dX12_enter_77 (lv_at hl 4 rfl) ?_
    refine lv_iload hx hb dX12_enter_79 (lv_at hl 5 rfl) ?_
    refine lv_iadd hx hb dX12_enter_81 ?_
    obtain ⟨v_6, e_v_6, i_7, h⟩ := rd_of h
    refine ra_23 X hS i_7 e_v_6 dX12_enter_82 ?_
    refine lv_iadd hx hb dX12_enter_83 ?_
    refine lv_iload hx hb dX12_enter_84 (lv_at hl 6 rfl) ?_
    refine lv_iadd hx hb dX12_enter_86 ?_
    refine lv_iload hx hb dX12_enter_87 (lv_at hl 5 rfl) ?_
    refine lv_iload_n hx hb dX12_enter_89 rfl (lv_at hl 2 rfl) ?_
    refine lv_icmp_ge (tgt := 110) hx hb dX12_enter_90 (by decide) (fun c_8 => ?_) (fun c_8 => ?_)
    · have h := ip (c_8) h
      refine lv_aload_n hx hb dX12_enter_110 rfl (lv_at hl 0 rfl) ?_
      refine rg_24 X hS dX12_enter_111 ?_
      refine lv_iload hx hb dX12_enter_114 (lv_at hl 4 rfl) ?_
      refine lv_iload hx hb dX12_enter_116 (lv_at hl 5 rfl) ?_
      refine lv_iadd hx hb dX12_enter_118 ?_
      obtain ⟨v_9, e_v_9, i_10, h⟩ := rd_of h
      refine ra_24 X hS i_10 e_v_9 dX12_enter_119 ?_
      exact b_enter_120 X hE hF hL hR_39 hR_53 h hS (lv_sub hl [0, 1, 2, 3, 4, 5, 6] rfl)
    · have h := im (c_8) h
      refine lv_aload_n hx hb dX12_enter_93 rfl (lv_at hl 0 rfl) ?_
      refine rg_107 X hS dX12_enter_94 ?_
      refine lv_aload_n hx hb dX12_enter_97 rfl (lv_at hl 0 rfl) ?_
      refine rg_112 X hS dX12_enter_98 ?_
      refine lv_iload_n hx hb dX12_enter_101 rfl (lv_at hl 2 rfl) ?_
      refine lv_isub hx hb dX12_enter_102 ?_
      refine lv_iload hx hb dX12_enter_103 (lv_at hl 5 rfl) ?_
      refine lv_iadd hx hb dX12_enter_105 ?_
      obtain ⟨v_11, e_v_11, i_12, h⟩ := rd_of h
      refine ra_107 X hS i_12 e_v_11 dX12_enter_106 ?_
      refine lv_goto (tgt := 120) hx hb dX12_enter_107 (by decide) ?_
      exact b_enter_120 X hE hF hL hR_39 hR_53 h hS (lv_sub hl [0, 1, 2, 3, 4, 5, 6] rfl)
def LP_enter_53 (N : Nat) (R_39 : Int32 × Int32 × Int32 × Int32 × Int32 × RSt → Option (Int32 × RSt)) : Nat → Int32 × Int32 × Int32 × Int32 × Int32 × Int32 × RSt → Option (Int32 × RSt) := lp (fun R a => B_enter_53 N R_39 R a.1 a.2.1 a.2.2.1 a.2.2.2.1 a.2.2.2.2.1 a.2.2.2.2.2.1 a.2.2.2.2.2.2)
theorem bl_enter_53 {r : Int32} (X : RC p s m args c cX12_enter 7 (Cond.code yX12_enter cX12_enter 7 none) D kA V A) (hE : REv p l e R s m args below meth c cX12_enter D kA Z A Q w) (hF : 0 ≤ R.frames) (hL : 0 ≤ R.locals) {R_39 : Int32 × Int32 × Int32 × Int32 × Int32 × RSt → Option (Int32 × RSt)} (hR_39 : ∀ (l1 : Int32) (l2 : Int32) (l3 : Int32) (l4 : Int32) (l5 : Int32) (u : RSt), R_39 (l1, l2, l3, l4, l5, u) = some (r, w) → ∀ (H : Heap) (locs : List Loc) (ls : Array Slot), RS D kA Z A s u H locs → lv_has ls 7 [(0, .ref (Z 200)), (1, .int l1), (2, .int l2), (3, .int l3), (4, .int l4), (5, .int l5)] → W p l e R s m args below meth c H locs 0 0 Q (F0 m 39 ls [])) : ∀ (n : Nat) (l1 : Int32) (l2 : Int32) (l3 : Int32) (l4 : Int32) (l5 : Int32) (l6 : Int32) (u : RSt), LP_enter_53 N R_39 n (l1, l2, l3, l4, l5, l6, u) = some (r, w) → ∀ (H : Heap) (locs : List Loc) (ls : Array Slot), RS D kA Z A s u H locs → lv_has ls 7 [(0, .ref (Z 200)), (1, .int l1), (2, .int l2), (3, .int l3), (4, .int l4), (5, .int l5), (6, .int l6)] → W p l e R s m args below meth c H locs 0 0 Q (F0 m 53 ls []) := by
  intro n
  induction n with
  | zero => intro l1 l2 l3 l4 l5 l6 u h; exact nomatch h
  | succ n ih => intro l1 l2 l3 l4 l5 l6 u h H locs ls hS hl; exact b_enter_53 (N := N) (R_53 := LP_enter_53 N R_39 n) X hE hF hL hR_39 ih h hS hl
def B_enter_39 (N : Nat) (R_39 : Int32 × Int32 × Int32 × Int32 × Int32 × RSt → Option (Int32 × RSt)) (l1 : Int32) (l2 : Int32) (l3 : Int32) (l4 : Int32) (l5 : Int32) (u : RSt) : Option (Int32 × RSt) := rd (u.2.2.1 29) 48 l1 fun v_13 => if v_13 ≤ l5 then (pu (sI u 112 ((u.1 112) - l2)) fun u_16 => wr 9 (u_16.1 114) (sA u_16 111 (u_16.1 114).toNatClampNeg (u_16.1 112)) fun u_17 => pu (sI u_17 114 ((u_17.1 114) + 1)) fun u_19 => pu (sI u_19 115 l3) fun u_20 => rd (u_20.2.2.1 32) 48 l1 fun v_21 => pu (sI u_20 113 v_21) fun u_23 => some (0, u_23)) else (LP_enter_53 N R_39 N (l1, l2, l3, l4, l5, 0, u))
set_option maxHeartbeats 4000000 in
theorem b_enter_39 {r : Int32} (X : RC p s m args c cX12_enter 7 (Cond.code yX12_enter cX12_enter 7 none) D kA V A) (hE : REv p l e R s m args below meth c cX12_enter D kA Z A Q w) (hF : 0 ≤ R.frames) (hL : 0 ≤ R.locals) {R_39 : Int32 × Int32 × Int32 × Int32 × Int32 × RSt → Option (Int32 × RSt)} {l1 : Int32} {l2 : Int32} {l3 : Int32} {l4 : Int32} {l5 : Int32} (hR_39 : ∀ (l1 : Int32) (l2 : Int32) (l3 : Int32) (l4 : Int32) (l5 : Int32) (u : RSt), R_39 (l1, l2, l3, l4, l5, u) = some (r, w) → ∀ (H : Heap) (locs : List Loc) (ls : Array Slot), RS D kA Z A s u H locs → lv_has ls 7 [(0, .ref (Z 200)), (1, .int l1), (2, .int l2), (3, .int l3), (4, .int l4), (5, .int l5)] → W p l e R s m args below meth c H locs 0 0 Q (F0 m 39 ls [])) {u : RSt} (h : B_enter_39 N R_39 l1 l2 l3 l4 l5 u = some (r, w)) (hS : RS D kA Z A s u H locs) (hl : lv_has ls 7 [(0, .ref (Z 200)), (1, .int l1), (2, .int l2), (3, .int l3), (4, .int l4), (5, .int l5)]) : W p l e R s m args below meth c H locs 0 0 Q (F0 m 39 ls []) := by
  obtain ⟨⟨hx, hb, hml, hown, hts⟩, hK, hEV, hA⟩ := id X
  have hG : ∀ w ∈ GW, w.before args s = true := fun w h => hts w (List.mem_cons_of_mem _ h)
  unfold B_enter_39 at h
  refine lv_iload hx hb dX12_enter_39 (lv_at hl 5 rfl) ?_
  refine lv_aload_n hx hb dX12_enter_41 rfl (lv_at hl 0 rfl) ?_
  refine rg_29 X hS dX12_enter_42 ?_
  refine lv_iload_n hx hb dX12_enter_45 rfl (lv_at hl 1 rfl) ?_
  obtain ⟨v_13, e_v_13, i_14, h⟩ := rd_of h
  refine ra_29 X hS i_14 e_v_13 dX12_enter_46 ?_
  refine lv_icmp_ge (tgt := 133) hx hb dX12_enter_47 (by decide) (fun c_15 => ?_) (fun c_15 => ?_)
  · have h := ip (c_15) h
    refine lv_aload_n hx hb dX12_enter_133 rfl (lv_at hl 0 rfl) ?_
    refine lv_dup hx hb dX12_enter_134 rfl ?_
    refine rg_112 X hS dX12_enter_135 ?_
    refine lv_iload_n hx hb dX12_enter_138 rfl (lv_at hl 2 rfl) ?_
    refine lv_isub hx hb dX12_enter_139 ?_
    obtain ⟨u_16, e_u_16, h⟩ := pu_of h
    refine rp_112 X hS e_u_16 dX12_enter_140 (fun H locs hS => ?_)
    refine lv_aload_n hx hb dX12_enter_143 rfl (lv_at hl 0 rfl) ?_
    refine rg_111 X hS dX12_enter_144 ?_
    refine lv_aload_n hx hb dX12_enter_147 rfl (lv_at hl 0 rfl) ?_
    refine rg_114 X hS dX12_enter_148 ?_
    refine lv_aload_n hx hb dX12_enter_151 rfl (lv_at hl 0 rfl) ?_
    refine rg_112 X hS dX12_enter_152 ?_
    obtain ⟨u_17, e_u_17, i_18, h⟩ := wr_of h
    refine rs_111 X hS i_18 e_u_17 dX12_enter_155 (fun H locs hS => ?_)
    refine lv_aload_n hx hb dX12_enter_156 rfl (lv_at hl 0 rfl) ?_
    refine lv_dup hx hb dX12_enter_157 rfl ?_
    refine rg_114 X hS dX12_enter_158 ?_
    refine lv_iconst (v := 1) hx hb dX12_enter_161 (by decide) ?_
    refine lv_iadd hx hb dX12_enter_162 ?_
    obtain ⟨u_19, e_u_19, h⟩ := pu_of h
    refine rp_114 X hS e_u_19 dX12_enter_163 (fun H locs hS => ?_)
    refine lv_aload_n hx hb dX12_enter_166 rfl (lv_at hl 0 rfl) ?_
    refine lv_iload_n hx hb dX12_enter_167 rfl (lv_at hl 3 rfl) ?_
    obtain ⟨u_20, e_u_20, h⟩ := pu_of h
    refine rp_115 X hS e_u_20 dX12_enter_168 (fun H locs hS => ?_)
    refine lv_aload_n hx hb dX12_enter_171 rfl (lv_at hl 0 rfl) ?_
    refine lv_aload_n hx hb dX12_enter_172 rfl (lv_at hl 0 rfl) ?_
    refine rg_32 X hS dX12_enter_173 ?_
    refine lv_iload_n hx hb dX12_enter_176 rfl (lv_at hl 1 rfl) ?_
    obtain ⟨v_21, e_v_21, i_22, h⟩ := rd_of h
    refine ra_32 X hS i_22 e_v_21 dX12_enter_177 ?_
    obtain ⟨u_23, e_u_23, h⟩ := pu_of h
    refine rp_113 X hS e_u_23 dX12_enter_178 (fun H locs hS => ?_)
    obtain ⟨-, rfl⟩ := so h
    exact hE _ _ _ _ hS dX12_enter_181
  · have h := im (c_15) h
    refine lv_iconst (v := 0) hx hb dX12_enter_50 (by decide) ?_
    refine lv_istore (lv' := [(6, .int 0), (0, .ref (Z 200)), (1, .int l1), (2, .int l2), (3, .int l3), (4, .int l4), (5, .int l5)]) hx hb dX12_enter_51 hl (by decide) rfl (fun ls hl => ?_)
    exact bl_enter_53 X hE hF hL hR_39 _ _ _ _ _ _ _ _ h _ _ _ hS (lv_sub hl [1, 2, 3, 4, 5, 6, 0] rfl)
def LP_enter_39 (N : Nat) : Nat → Int32 × Int32 × Int32 × Int32 × Int32 × RSt → Option (Int32 × RSt) := lp (fun R a => B_enter_39 N R a.1 a.2.1 a.2.2.1 a.2.2.2.1 a.2.2.2.2.1 a.2.2.2.2.2)
theorem bl_enter_39 {r : Int32} (X : RC p s m args c cX12_enter 7 (Cond.code yX12_enter cX12_enter 7 none) D kA V A) (hE : REv p l e R s m args below meth c cX12_enter D kA Z A Q w) (hF : 0 ≤ R.frames) (hL : 0 ≤ R.locals)  : ∀ (n : Nat) (l1 : Int32) (l2 : Int32) (l3 : Int32) (l4 : Int32) (l5 : Int32) (u : RSt), LP_enter_39 N n (l1, l2, l3, l4, l5, u) = some (r, w) → ∀ (H : Heap) (locs : List Loc) (ls : Array Slot), RS D kA Z A s u H locs → lv_has ls 7 [(0, .ref (Z 200)), (1, .int l1), (2, .int l2), (3, .int l3), (4, .int l4), (5, .int l5)] → W p l e R s m args below meth c H locs 0 0 Q (F0 m 39 ls []) := by
  intro n
  induction n with
  | zero => intro l1 l2 l3 l4 l5 u h; exact nomatch h
  | succ n ih => intro l1 l2 l3 l4 l5 u h H locs ls hS hl; exact b_enter_39 (N := N) (R_39 := LP_enter_39 N n) X hE hF hL  ih h hS hl
def B_enter_0 (N : Nat) (l1 : Int32) (u : RSt) : Option (Int32 × RSt) := rd (u.2.2.1 30) 48 l1 fun v_24 => rd (u.2.2.1 28) 48 l1 fun v_26 => LP_enter_39 N N (l1, v_24, (2100 + (100 * (u.1 114))), ((160 * (u.1 55)) + v_26), 0, u)
set_option maxHeartbeats 4000000 in
theorem b_enter_0 {r : Int32} (X : RC p s m args c cX12_enter 7 (Cond.code yX12_enter cX12_enter 7 none) D kA V A) (hE : REv p l e R s m args below meth c cX12_enter D kA Z A Q w) (hF : 0 ≤ R.frames) (hL : 0 ≤ R.locals) {l1 : Int32}  {u : RSt} (h : B_enter_0 N l1 u = some (r, w)) (hS : RS D kA Z A s u H locs) (hl : lv_has ls 7 [(0, .ref (Z 200)), (1, .int l1)]) : W p l e R s m args below meth c H locs 0 0 Q (F0 m 0 ls []) := by
  obtain ⟨⟨hx, hb, hml, hown, hts⟩, hK, hEV, hA⟩ := id X
  have hG : ∀ w ∈ GW, w.before args s = true := fun w h => hts w (List.mem_cons_of_mem _ h)
  unfold B_enter_0 at h
  refine lv_aload_n hx hb dX12_enter_0 rfl (lv_at hl 0 rfl) ?_
  refine rg_30 X hS dX12_enter_1 ?_
  refine lv_iload_n hx hb dX12_enter_4 rfl (lv_at hl 1 rfl) ?_
  obtain ⟨v_24, e_v_24, i_25, h⟩ := rd_of h
  refine ra_30 X hS i_25 e_v_24 dX12_enter_5 ?_
  refine lv_istore_n (lv' := [(2, .int v_24), (0, .ref (Z 200)), (1, .int l1)]) hx hb dX12_enter_6 rfl hl (by decide) rfl (fun ls hl => ?_)
  refine lv_sipush (v := 2100) hx hb dX12_enter_7 (by decide) ?_
  refine lv_bipush (v := 100) hx hb dX12_enter_10 (by decide) ?_
  refine lv_aload_n hx hb dX12_enter_12 rfl (lv_at hl 1 rfl) ?_
  refine rg_114 X hS dX12_enter_13 ?_
  refine lv_imul hx hb dX12_enter_16 ?_
  refine lv_iadd hx hb dX12_enter_17 ?_
  refine lv_istore_n (lv' := [(3, .int (2100 + (100 * (u.1 114)))), (2, .int v_24), (0, .ref (Z 200)), (1, .int l1)]) hx hb dX12_enter_18 rfl hl (by decide) rfl (fun ls hl => ?_)
  refine lv_sipush (v := 160) hx hb dX12_enter_19 (by decide) ?_
  refine lv_aload_n hx hb dX12_enter_22 rfl (lv_at hl 2 rfl) ?_
  refine rg_55 X hS dX12_enter_23 ?_
  refine lv_imul hx hb dX12_enter_26 ?_
  refine lv_aload_n hx hb dX12_enter_27 rfl (lv_at hl 2 rfl) ?_
  refine rg_28 X hS dX12_enter_28 ?_
  refine lv_iload_n hx hb dX12_enter_31 rfl (lv_at hl 3 rfl) ?_
  obtain ⟨v_26, e_v_26, i_27, h⟩ := rd_of h
  refine ra_28 X hS i_27 e_v_26 dX12_enter_32 ?_
  refine lv_iadd hx hb dX12_enter_33 ?_
  refine lv_istore (lv' := [(4, .int ((160 * (u.1 55)) + v_26)), (3, .int (2100 + (100 * (u.1 114)))), (2, .int v_24), (0, .ref (Z 200)), (1, .int l1)]) hx hb dX12_enter_34 hl (by decide) rfl (fun ls hl => ?_)
  refine lv_iconst (v := 0) hx hb dX12_enter_36 (by decide) ?_
  refine lv_istore (lv' := [(5, .int 0), (4, .int ((160 * (u.1 55)) + v_26)), (3, .int (2100 + (100 * (u.1 114)))), (2, .int v_24), (0, .ref (Z 200)), (1, .int l1)]) hx hb dX12_enter_37 hl (by decide) rfl (fun ls hl => ?_)
  exact bl_enter_39 X hE hF hL  _ _ _ _ _ _ _ h _ _ _ hS (lv_sub hl [4, 5, 3, 2, 1, 0] rfl)
def F_enter (N : Nat) (l1 : Int32) (u : RSt) : Option (Int32 × RSt) := B_enter_0 N l1 u
set_option maxHeartbeats 4000000 in
theorem k_enter (l : Launch) (D : va_G) (kA : Nat → ClassId) (V Z : Nat → Nat) (N : Nat) (l1 : Int32) (u : RSt) (sz : Nat) {r : Int32} {w : RSt} (h : F_enter N l1 u = some (r, w)) : Met l yX12_enter (Cond.code yX12_enter cX12_enter 7 none :: GW) { frames := 0, cells := 0, slots := 0, locals := 0 } (rPc D kA V Z [.int l1] u sz) (rQv D kA Z u sz w) 0 0 (va_A (RW kA Z u) sz) := by
  refine Met.ofW (cc := cX12_enter) (maxL := 7) (ret := none) (by decide) rfl ?_
  intro p e s m args below meth c s₁ Bd hml hv
  obtain ⟨rfl, hsz, hP, hK, hD0, hE⟩ := hv
  have hts := atoms_spec (ws := Cond.code yX12_enter cX12_enter 7 none :: GW) Bd.pre
  have hl := lv_entry (.ref (Z 200) :: [.int l1]) (n := 7) (Nat.le_of_ble_eq_true rfl)
  rw [lg_entry_eq]
  generalize (lg_sl (.ref (Z 200) :: [.int l1]) ++ List.replicate (7 - (lg_sl (.ref (Z 200) :: [.int l1])).length) Slot.unset).toArray = ls at hl ⊢
  have hl : lv_has ls 7 [(0, .ref (Z 200)), (1, .int l1)] := hl
  subst hsz
  have X : RC p s m (.ref (Z 200) :: [.int l1]).toArray c cX12_enter 7 (Cond.code yX12_enter cX12_enter 7 none) D kA V (va_A (RW kA Z u) s.heap.size) := ⟨⟨Bd.exec, Bd.bytes, hml, findClass_of_methodNamed Bd.named, hts⟩, hK, hE, fun q h => Or.inr h⟩
  exact b_enter_0 X (rend_v (cy := cX12_enter) X Bd.returns Bd.notSynchronized) (Nat.le_refl _) (Nat.le_refl _) h ⟨hP, hD0.self, va_S.rf⟩ (lv_sub hl [0, 1] rfl)
theorem kc_enter {r : Int32} {cc : ByteArray} {pc nL : Nat} {c0 : Cond} {rest : List Value} {l1 : Int32} {u : RSt} (X : RC p s m args c cc nL c0 D kA V A) (hS : RS D kA Z A s u H locs) (h : F_enter N l1 u = some (r, w)) (hF : 0 + 1 ≤ R.frames) (hL : 8 + (7 + 11) + 0 ≤ R.locals) (hl : ls.size = nL) (hc : (rest.map fun v => v.category).sum ≤ 8) (hdg : decode cc pc = .ok (.invokevirtual 620, 3)) (kk : ∀ H locs, RS D kA Z A s w H locs → W p l e R s m args below meth c H locs 0 0 Q (F0 m (pc + 3) ls (rest))) : W p l e R s m args below meth c H locs 0 0 Q (F0 m pc ls (.int l1 :: .ref (Z 200) :: rest)) :=
  rcall_v (n := 1) X hS (k_enter l D kA V Z N l1 u H.size h) (gw_V gw_2652 gw_2654 gs_12_8 gw_16 gw_2655) (by decide +kernel) hF hL rfl hl hc rfl hdg kk
def B_leave_0 (N : Nat) (u : RSt) : Option (Int32 × RSt) := pu (sI u 114 ((u.1 114) - 1)) fun u_1 => rd (u_1.2.2.1 111) 9 (u_1.1 114) fun v_2 => pu (sI u_1 112 v_2) fun u_4 => rd (u_4.2.2.1 108) 9 (u_4.1 114) fun v_5 => pu (sI u_4 113 v_5) fun u_7 => rd (u_7.2.2.1 109) 9 (u_7.1 114) fun v_8 => pu (sI u_7 115 v_8) fun u_10 => rd (u_10.2.2.1 110) 9 (u_10.1 114) fun v_11 => pu (sI u_10 116 v_11) fun u_13 => some (0, u_13)
set_option maxHeartbeats 4000000 in
theorem b_leave_0 {r : Int32} (X : RC p s m args c cX12_leave 1 (Cond.code yX12_leave cX12_leave 1 none) D kA V A) (hE : REv p l e R s m args below meth c cX12_leave D kA Z A Q w) (hF : 0 ≤ R.frames) (hL : 0 ≤ R.locals)  {u : RSt} (h : B_leave_0 N u = some (r, w)) (hS : RS D kA Z A s u H locs) (hl : lv_has ls 1 [(0, .ref (Z 200))]) : W p l e R s m args below meth c H locs 0 0 Q (F0 m 0 ls []) := by
  obtain ⟨⟨hx, hb, hml, hown, hts⟩, hK, hEV, hA⟩ := id X
  have hG : ∀ w ∈ GW, w.before args s = true := fun w h => hts w (List.mem_cons_of_mem _ h)
  unfold B_leave_0 at h
  refine lv_aload_n hx hb dX12_leave_0 rfl (lv_at hl 0 rfl) ?_
  refine lv_dup hx hb dX12_leave_1 rfl ?_
  refine rg_114 X hS dX12_leave_2 ?_
  refine lv_iconst (v := 1) hx hb dX12_leave_5 (by decide) ?_
  refine lv_isub hx hb dX12_leave_6 ?_
  obtain ⟨u_1, e_u_1, h⟩ := pu_of h
  refine rp_114 X hS e_u_1 dX12_leave_7 (fun H locs hS => ?_)
  refine lv_aload_n hx hb dX12_leave_10 rfl (lv_at hl 0 rfl) ?_
  refine lv_aload_n hx hb dX12_leave_11 rfl (lv_at hl 0 rfl) ?_
  refine rg_111 X hS dX12_leave_12 ?_
  refine lv_aload_n hx hb dX12_leave_15 rfl (lv_at hl 0 rfl) ?_
  refine rg_114 X hS dX12_leave_16 ?_
  obtain ⟨v_2, e_v_2, i_3, h⟩ := rd_of h
  refine ra_111 X hS i_3 e_v_2 dX12_leave_19 ?_
  obtain ⟨u_4, e_u_4, h⟩ := pu_of h
  refine rp_112 X hS e_u_4 dX12_leave_20 (fun H locs hS => ?_)
  refine lv_aload_n hx hb dX12_leave_23 rfl (lv_at hl 0 rfl) ?_
  refine lv_aload_n hx hb dX12_leave_24 rfl (lv_at hl 0 rfl) ?_
  refine rg_108 X hS dX12_leave_25 ?_
  refine lv_aload_n hx hb dX12_leave_28 rfl (lv_at hl 0 rfl) ?_
  refine rg_114 X hS dX12_leave_29 ?_
  obtain ⟨v_5, e_v_5, i_6, h⟩ := rd_of h
  refine ra_108 X hS i_6 e_v_5 dX12_leave_32 ?_
  obtain ⟨u_7, e_u_7, h⟩ := pu_of h
  refine rp_113 X hS e_u_7 dX12_leave_33 (fun H locs hS => ?_)
  refine lv_aload_n hx hb dX12_leave_36 rfl (lv_at hl 0 rfl) ?_
  refine lv_aload_n hx hb dX12_leave_37 rfl (lv_at hl 0 rfl) ?_
  refine rg_109 X hS dX12_leave_38 ?_
  refine lv_aload_n hx hb dX12_leave_41 rfl (lv_at hl 0 rfl) ?_
  refine rg_114 X hS dX12_leave_42 ?_
  obtain ⟨v_8, e_v_8, i_9, h⟩ := rd_of h
  refine ra_109 X hS i_9 e_v_8 dX12_leave_45 ?_
  obtain ⟨u_10, e_u_10, h⟩ := pu_of h
  refine rp_115 X hS e_u_10 dX12_leave_46 (fun H locs hS => ?_)
  refine lv_aload_n hx hb dX12_leave_49 rfl (lv_at hl 0 rfl) ?_
  refine lv_aload_n hx hb dX12_leave_50 rfl (lv_at hl 0 rfl) ?_
  refine rg_110 X hS dX12_leave_51 ?_
  refine lv_aload_n hx hb dX12_leave_54 rfl (lv_at hl 0 rfl) ?_
  refine rg_114 X hS dX12_leave_55 ?_
  obtain ⟨v_11, e_v_11, i_12, h⟩ := rd_of h
  refine ra_110 X hS i_12 e_v_11 dX12_leave_58 ?_
  obtain ⟨u_13, e_u_13, h⟩ := pu_of h
  refine rp_116 X hS e_u_13 dX12_leave_59 (fun H locs hS => ?_)
  obtain ⟨-, rfl⟩ := so h
  exact hE _ _ _ _ hS dX12_leave_62
def F_leave (N : Nat) (u : RSt) : Option (Int32 × RSt) := B_leave_0 N u
set_option maxHeartbeats 4000000 in
theorem k_leave (l : Launch) (D : va_G) (kA : Nat → ClassId) (V Z : Nat → Nat) (N : Nat) (u : RSt) (sz : Nat) {r : Int32} {w : RSt} (h : F_leave N u = some (r, w)) : Met l yX12_leave (Cond.code yX12_leave cX12_leave 1 none :: GW) { frames := 0, cells := 0, slots := 0, locals := 0 } (rPc D kA V Z [] u sz) (rQv D kA Z u sz w) 0 0 (va_A (RW kA Z u) sz) := by
  refine Met.ofW (cc := cX12_leave) (maxL := 1) (ret := none) (by decide) rfl ?_
  intro p e s m args below meth c s₁ Bd hml hv
  obtain ⟨rfl, hsz, hP, hK, hD0, hE⟩ := hv
  have hts := atoms_spec (ws := Cond.code yX12_leave cX12_leave 1 none :: GW) Bd.pre
  have hl := lv_entry (.ref (Z 200) :: []) (n := 1) (Nat.le_of_ble_eq_true rfl)
  rw [lg_entry_eq]
  generalize (lg_sl (.ref (Z 200) :: []) ++ List.replicate (1 - (lg_sl (.ref (Z 200) :: [])).length) Slot.unset).toArray = ls at hl ⊢
  have hl : lv_has ls 1 [(0, .ref (Z 200))] := hl
  subst hsz
  have X : RC p s m (.ref (Z 200) :: []).toArray c cX12_leave 1 (Cond.code yX12_leave cX12_leave 1 none) D kA V (va_A (RW kA Z u) s.heap.size) := ⟨⟨Bd.exec, Bd.bytes, hml, findClass_of_methodNamed Bd.named, hts⟩, hK, hE, fun q h => Or.inr h⟩
  exact b_leave_0 X (rend_v (cy := cX12_leave) X Bd.returns Bd.notSynchronized) (Nat.le_refl _) (Nat.le_refl _) h ⟨hP, hD0.self, va_S.rf⟩ (lv_sub hl [0] rfl)
theorem kc_leave {r : Int32} {cc : ByteArray} {pc nL : Nat} {c0 : Cond} {rest : List Value} {u : RSt} (X : RC p s m args c cc nL c0 D kA V A) (hS : RS D kA Z A s u H locs) (h : F_leave N u = some (r, w)) (hF : 0 + 1 ≤ R.frames) (hL : 8 + (1 + 11) + 0 ≤ R.locals) (hl : ls.size = nL) (hc : (rest.map fun v => v.category).sum ≤ 8) (hdg : decode cc pc = .ok (.invokevirtual 623, 3)) (kk : ∀ H locs, RS D kA Z A s w H locs → W p l e R s m args below meth c H locs 0 0 Q (F0 m (pc + 3) ls (rest))) : W p l e R s m args below meth c H locs 0 0 Q (F0 m pc ls (.ref (Z 200) :: rest)) :=
  rcall_v (n := 0) X hS (k_leave l D kA V Z N  u H.size h) (gw_V gw_2656 gw_2658 gs_12_9 gw_16 gw_2659) (by decide +kernel) hF hL rfl hl hc rfl hdg kk
def B_run_1519 (N : Nat) (R_39 : Int32 × RSt → Option (Int32 × RSt)) (l2 : Int32) (u : RSt) : Option (Int32 × RSt) := R_39 (l2, u)
set_option maxHeartbeats 4000000 in
theorem b_run_1519 {r : Int32} (X : RC p s m args c cX12_run 10 (Cond.code yX12_run cX12_run 10 none) D kA V A) (hE : REv p l e R s m args below meth c cX12_run D kA Z A Q w) (hF : 3 ≤ R.frames) (hL : 77 ≤ R.locals) {R_39 : Int32 × RSt → Option (Int32 × RSt)} {l2 : Int32} (hR_39 : ∀ (l2 : Int32) (u : RSt), R_39 (l2, u) = some (r, w) → ∀ (H : Heap) (locs : List Loc) (ls : Array Slot), RS D kA Z A s u H locs → lv_has ls 10 [(0, .ref (Z 200)), (2, .int l2)] → W p l e R s m args below meth c H locs 0 0 Q (F0 m 39 ls [])) {u : RSt} (h : B_run_1519 N R_39 l2 u = some (r, w)) (hS : RS D kA Z A s u H locs) (hl : lv_has ls 10 [(0, .ref (Z 200)), (2, .int l2)]) : W p l e R s m args below meth c H locs 0 0 Q (F0 m 1519 ls []) := by
  obtain ⟨⟨hx, hb, hml, hown, hts⟩, hK, hEV, hA⟩ := id X
  have hG : ∀ w ∈ GW, w.before args s = true := fun w h => hts w (List.mem_cons_of_mem _ h)
  unfold B_run_1519 at h
  refine lv_goto (tgt := 39) hx hb dX12_run_1519 (by decide) ?_
  exact hR_39 _ _ h _ _ _ hS (lv_sub hl [0, 1] rfl)
def B_run_483 (N : Nat) (R_39 : Int32 × RSt → Option (Int32 × RSt)) (l2 : Int32) (l5 : Int32) (u : RSt) : Option (Int32 × RSt) := bn (F_stops N 2 l5 u) fun _ u_1 => B_run_1519 N R_39 l2 u_1
set_option maxHeartbeats 4000000 in
theorem b_run_483 {r : Int32} (X : RC p s m args c cX12_run 10 (Cond.code yX12_run cX12_run 10 none) D kA V A) (hE : REv p l e R s m args below meth c cX12_run D kA Z A Q w) (hF : 3 ≤ R.frames) (hL : 77 ≤ R.locals) {R_39 : Int32 × RSt → Option (Int32 × RSt)} {l2 : Int32} {l5 : Int32} (hR_39 : ∀ (l2 : Int32) (u : RSt), R_39 (l2, u) = some (r, w) → ∀ (H : Heap) (locs : List Loc) (ls : Array Slot), RS D kA Z A s u H locs → lv_has ls 10 [(0, .ref (Z 200)), (2, .int l2)] → W p l e R s m args below meth c H locs 0 0 Q (F0 m 39 ls [])) {u : RSt} (h : B_run_483 N R_39 l2 l5 u = some (r, w)) (hS : RS D kA Z A s u H locs) (hl : lv_has ls 10 [(0, .ref (Z 200)), (2, .int l2), (5, .int l5)]) : W p l e R s m args below meth c H locs 0 0 Q (F0 m 483 ls []) := by
  obtain ⟨⟨hx, hb, hml, hown, hts⟩, hK, hEV, hA⟩ := id X
  have hG : ∀ w ∈ GW, w.before args s = true := fun w h => hts w (List.mem_cons_of_mem _ h)
  unfold B_run_483 at h
  refine lv_aload_n hx hb dX12_run_483 rfl (lv_at hl 0 rfl) ?_
  refine lv_iconst (v := 2) hx hb dX12_run_484 (by decide) ?_
  refine lv_iload hx hb dX12_run_485 (lv_at hl 2 rfl) ?_
  obtain ⟨r_u_1, u_1, h_u_1, h⟩ := bn_of h
  refine kc_stops X hS h_u_1 (Nat.le_trans (Nat.le_of_ble_eq_true rfl) hF) (Nat.le_trans (Nat.le_of_ble_eq_true rfl) hL) hl.1 (Nat.le_of_ble_eq_true rfl) dX12_run_487 (fun H locs hS => ?_)
  refine lv_goto (tgt := 1519) hx hb dX12_run_490 (by decide) ?_
  exact b_run_1519 X hE hF hL hR_39 h hS (lv_sub hl [0, 1] rfl)
def B_run_685 (N : Nat) (R_39 : Int32 × RSt → Option (Int32 × RSt)) (l2 : Int32) (s1 : Int32) (s2 : Int32) (s3 : Int64) (u : RSt) : Option (Int32 × RSt) := bn (F_write N s1 s2 s3 u) fun _ u_2 => B_run_1519 N R_39 l2 u_2
set_option maxHeartbeats 4000000 in
theorem b_run_685 {r : Int32} (X : RC p s m args c cX12_run 10 (Cond.code yX12_run cX12_run 10 none) D kA V A) (hE : REv p l e R s m args below meth c cX12_run D kA Z A Q w) (hF : 3 ≤ R.frames) (hL : 77 ≤ R.locals) {R_39 : Int32 × RSt → Option (Int32 × RSt)} {l2 : Int32} {s1 : Int32} {s2 : Int32} {s3 : Int64} (hR_39 : ∀ (l2 : Int32) (u : RSt), R_39 (l2, u) = some (r, w) → ∀ (H : Heap) (locs : List Loc) (ls : Array Slot), RS D kA Z A s u H locs → lv_has ls 10 [(0, .ref (Z 200)), (2, .int l2)] → W p l e R s m args below meth c H locs 0 0 Q (F0 m 39 ls [])) {u : RSt} (h : B_run_685 N R_39 l2 s1 s2 s3 u = some (r, w)) (hS : RS D kA Z A s u H locs) (hl : lv_has ls 10 [(0, .ref (Z 200)), (2, .int l2)]) : W p l e R s m args below meth c H locs 0 0 Q (F0 m 685 ls [.long s3, .int s2, .int s1, .ref (Z 200)]) := by
  obtain ⟨⟨hx, hb, hml, hown, hts⟩, hK, hEV, hA⟩ := id X
  have hG : ∀ w ∈ GW, w.before args s = true := fun w h => hts w (List.mem_cons_of_mem _ h)
  unfold B_run_685 at h
  obtain ⟨r_u_2, u_2, h_u_2, h⟩ := bn_of h
  refine kc_write X hS h_u_2 (Nat.le_trans (Nat.le_of_ble_eq_true rfl) hF) (Nat.le_trans (Nat.le_of_ble_eq_true rfl) hL) hl.1 (Nat.le_of_ble_eq_true rfl) dX12_run_685 (fun H locs hS => ?_)
  refine lv_goto (tgt := 1519) hx hb dX12_run_688 (by decide) ?_
  exact b_run_1519 X hE hF hL hR_39 h hS (lv_sub hl [0, 1] rfl)
def B_run_799 (N : Nat) (R_39 : Int32 × RSt → Option (Int32 × RSt)) (l2 : Int32) (s1 : Int32) (s2 : Int32) (s3 : Int32) (u : RSt) : Option (Int32 × RSt) := rd (u.2.2.2 107) 6000 ((u.1 112) - 1) fun v_3 => rd (u.2.2.2 107) 6000 (u.1 112) fun v_5 => ok (¬ ((s2 = 243 ∨ s2 = 244) ∧ v_5 = 0)) inferInstance <| wr 6000 s1 (sB u 107 s1.toNatClampNeg (r_two s2 s3 v_3 v_5)) fun u_10 => B_run_1519 N R_39 l2 u_10
set_option maxHeartbeats 4000000 in
theorem b_run_799 {r : Int32} (X : RC p s m args c cX12_run 10 (Cond.code yX12_run cX12_run 10 none) D kA V A) (hE : REv p l e R s m args below meth c cX12_run D kA Z A Q w) (hF : 3 ≤ R.frames) (hL : 77 ≤ R.locals) {R_39 : Int32 × RSt → Option (Int32 × RSt)} {l2 : Int32} {s1 : Int32} {s2 : Int32} {s3 : Int32} (hR_39 : ∀ (l2 : Int32) (u : RSt), R_39 (l2, u) = some (r, w) → ∀ (H : Heap) (locs : List Loc) (ls : Array Slot), RS D kA Z A s u H locs → lv_has ls 10 [(0, .ref (Z 200)), (2, .int l2)] → W p l e R s m args below meth c H locs 0 0 Q (F0 m 39 ls [])) {u : RSt} (h : B_run_799 N R_39 l2 s1 s2 s3 u = some (r, w)) (hS : RS D kA Z A s u H locs) (hl : lv_has ls 10 [(0, .ref (Z 200)), (2, .int l2)]) : W p l e R s m args below meth c H locs 0 0 Q (F0 m 799 ls [.int s3, .int s2, .int s1, .ref (Z 107)]) := by
  obtain ⟨⟨hx, hb, hml, hown, hts⟩, hK, hEV, hA⟩ := id X
  have hG : ∀ w ∈ GW, w.before args s = true := fun w h => hts w (List.mem_cons_of_mem _ h)
  unfold B_run_799 at h
  refine lv_aload_n hx hb dX12_run_799 rfl (lv_at hl 0 rfl) ?_
  refine rg_107 X hS dX12_run_800 ?_
  refine lv_aload_n hx hb dX12_run_803 rfl (lv_at hl 0 rfl) ?_
  refine rg_112 X hS dX12_run_804 ?_
  refine lv_iconst (v := 1) hx hb dX12_run_807 (by decide) ?_
  refine lv_isub hx hb dX12_run_808 ?_
  obtain ⟨v_3, e_v_3, i_4, h⟩ := rd_of h
  refine ra_107 X hS i_4 e_v_3 dX12_run_809 ?_
  refine lv_aload_n hx hb dX12_run_810 rfl (lv_at hl 0 rfl) ?_
  refine rg_107 X hS dX12_run_811 ?_
  refine lv_aload_n hx hb dX12_run_814 rfl (lv_at hl 0 rfl) ?_
  refine rg_112 X hS dX12_run_815 ?_
  obtain ⟨v_5, e_v_5, i_6, h⟩ := rd_of h
  refine ra_107 X hS i_6 e_v_5 dX12_run_818 ?_
  obtain ⟨z_7, h⟩ := ok_of h
  refine vp_callSl (W.runS (As := [.int s2, .int s3, .long v_3, .long v_5]) (rest := [.int s1, .ref (Z 107)]) X.1 (c_X12_reckoned l s2 s3 v_3 v_5 z_7) (va_cwS 4 hts (gw_P gw_2637 gw_2638 gw_16 gwp_X12_reckoned) rfl rfl rfl (by decide +kernel) ⟨Nat.le_trans (Nat.le_of_ble_eq_true rfl) hF, Nat.le_trans (Nat.le_of_ble_eq_true rfl) hL⟩) ⟨fun _ _ _ _ q => q, fun _ _ _ => ⟨rfl, trivial⟩⟩ rfl rfl hl.1 rfl (lv_room (Nat.le_of_ble_eq_true rfl)) dX12_run_819 ⟨Nat.zero_le _, Nat.zero_le _⟩) (fun r_8 q_9 => ?_)
  subst q_9
  obtain ⟨u_10, e_u_10, i_11, h⟩ := wr_of h
  refine rs_107 X hS i_11 e_u_10 dX12_run_822 (fun H locs hS => ?_)
  refine lv_goto (tgt := 1519) hx hb dX12_run_823 (by decide) ?_
  exact b_run_1519 X hE hF hL hR_39 h hS (lv_sub hl [0, 1] rfl)
def B_run_771 (N : Nat) (R_39 : Int32 × RSt → Option (Int32 × RSt)) (l2 : Int32) (l3 : Int32) (l4 : Int32) (u : RSt) : Option (Int32 × RSt) := rd (u.2.2.2 52) 16000 l3 fun v_12 => if v_12 = (1 : Int64) then (B_run_799 N R_39 l2 ((u.1 112) - 1) l4 1 u) else (B_run_799 N R_39 l2 ((u.1 112) - 1) l4 0 u)
set_option maxHeartbeats 4000000 in
theorem b_run_771 {r : Int32} (X : RC p s m args c cX12_run 10 (Cond.code yX12_run cX12_run 10 none) D kA V A) (hE : REv p l e R s m args below meth c cX12_run D kA Z A Q w) (hF : 3 ≤ R.frames) (hL : 77 ≤ R.locals) {R_39 : Int32 × RSt → Option (Int32 × RSt)} {l2 : Int32} {l3 : Int32} {l4 : Int32} (hR_39 : ∀ (l2 : Int32) (u : RSt), R_39 (l2, u) = some (r, w) → ∀ (H : Heap) (locs : List Loc) (ls : Array Slot), RS D kA Z A s u H locs → lv_has ls 10 [(0, .ref (Z 200)), (2, .int l2)] → W p l e R s m args below meth c H locs 0 0 Q (F0 m 39 ls [])) {u : RSt} (h : B_run_771 N R_39 l2 l3 l4 u = some (r, w)) (hS : RS D kA Z A s u H locs) (hl : lv_has ls 10 [(0, .ref (Z 200)), (2, .int l2), (3, .int l3), (4, .int l4)]) : W p l e R s m args below meth c H locs 0 0 Q (F0 m 771 ls []) := by
  obtain ⟨⟨hx, hb, hml, hown, hts⟩, hK, hEV, hA⟩ := id X
  have hG : ∀ w ∈ GW, w.before args s = true := fun w h => hts w (List.mem_cons_of_mem _ h)
  unfold B_run_771 at h
  refine lv_aload_n hx hb dX12_run_771 rfl (lv_at hl 0 rfl) ?_
  refine rg_107 X hS dX12_run_772 ?_
  refine lv_aload_n hx hb dX12_run_775 rfl (lv_at hl 0 rfl) ?_
  refine rg_112 X hS dX12_run_776 ?_
  refine lv_iconst (v := 1) hx hb dX12_run_779 (by decide) ?_
  refine lv_isub hx hb dX12_run_780 ?_
  refine lv_iload hx hb dX12_run_781 (lv_at hl 3 rfl) ?_
  refine lv_aload_n hx hb dX12_run_783 rfl (lv_at hl 0 rfl) ?_
  refine rg_52 X hS dX12_run_784 ?_
  refine lv_iload_n hx hb dX12_run_787 rfl (lv_at hl 2 rfl) ?_
  obtain ⟨v_12, e_v_12, i_13, h⟩ := rd_of h
  refine ra_52 X hS i_13 e_v_12 dX12_run_788 ?_
  refine lv_lconst (v := 1) hx hb dX12_run_789 (by decide) ?_
  refine W.lcmp hx hb dX12_run_790 ?_
  refine lv_if_ne (tgt := 798) hx hb dX12_run_791 (by decide) (fun c_14 => ?_) (fun c_14 => ?_)
  · have h := im (mt (lg_cmp_eq _ _).mpr c_14) h
    refine lv_iconst (v := 0) hx hb dX12_run_798 (by decide) ?_
    exact b_run_799 X hE hF hL hR_39 h hS (lv_sub hl [0, 1] rfl)
  · have h := ip ((lg_cmp_eq _ _).mp c_14) h
    refine lv_iconst (v := 1) hx hb dX12_run_794 (by decide) ?_
    refine lv_goto (tgt := 799) hx hb dX12_run_795 (by decide) ?_
    exact b_run_799 X hE hF hL hR_39 h hS (lv_sub hl [0, 1] rfl)
def B_run_747 (N : Nat) (R_39 : Int32 × RSt → Option (Int32 × RSt)) (l2 : Int32) (l3 : Int32) (l4 : Int32) (l5 : Int32) (u : RSt) : Option (Int32 × RSt) := rd (u.2.2.2 107) 6000 (u.1 112) fun v_15 => if v_15 = (0 : Int64) then (bn (F_stops N 1 l5 u) fun _ u_18 => B_run_1519 N R_39 l2 u_18) else (B_run_771 N R_39 l2 l3 l4 u)
set_option maxHeartbeats 4000000 in
theorem b_run_747 {r : Int32} (X : RC p s m args c cX12_run 10 (Cond.code yX12_run cX12_run 10 none) D kA V A) (hE : REv p l e R s m args below meth c cX12_run D kA Z A Q w) (hF : 3 ≤ R.frames) (hL : 77 ≤ R.locals) {R_39 : Int32 × RSt → Option (Int32 × RSt)} {l2 : Int32} {l3 : Int32} {l4 : Int32} {l5 : Int32} (hR_39 : ∀ (l2 : Int32) (u : RSt), R_39 (l2, u) = some (r, w) → ∀ (H : Heap) (locs : List Loc) (ls : Array Slot), RS D kA Z A s u H locs → lv_has ls 10 [(0, .ref (Z 200)), (2, .int l2)] → W p l e R s m args below meth c H locs 0 0 Q (F0 m 39 ls [])) {u : RSt} (h : B_run_747 N R_39 l2 l3 l4 l5 u = some (r, w)) (hS : RS D kA Z A s u H locs) (hl : lv_has ls 10 [(0, .ref (Z 200)), (2, .int l2), (3, .int l3), (4, .int l4), (5, .int l5)]) : W p l e R s m args below meth c H locs 0 0 Q (F0 m 747 ls []) := by
  obtain ⟨⟨hx, hb, hml, hown, hts⟩, hK, hEV, hA⟩ := id X
  have hG : ∀ w ∈ GW, w.before args s = true := fun w h => hts w (List.mem_cons_of_mem _ h)
  unfold B_run_747 at h
  refine lv_aload_n hx hb dX12_run_747 rfl (lv_at hl 0 rfl) ?_
  refine rg_107 X hS dX12_run_748 ?_
  refine lv_aload_n hx hb dX12_run_751 rfl (lv_at hl 0 rfl) ?_
  refine rg_112 X hS dX12_run_752 ?_
  obtain ⟨v_15, e_v_15, i_16, h⟩ := rd_of h
  refine ra_107 X hS i_16 e_v_15 dX12_run_755 ?_
  refine lv_lconst (v := 0) hx hb dX12_run_756 (by decide) ?_
  refine W.lcmp hx hb dX12_run_757 ?_
  refine lv_if_ne (tgt := 771) hx hb dX12_run_758 (by decide) (fun c_17 => ?_) (fun c_17 => ?_)
  · have h := im (mt (lg_cmp_eq _ _).mpr c_17) h
    exact b_run_771 X hE hF hL hR_39 h hS (lv_sub hl [0, 1, 2, 3] rfl)
  · have h := ip ((lg_cmp_eq _ _).mp c_17) h
    refine lv_aload_n hx hb dX12_run_761 rfl (lv_at hl 0 rfl) ?_
    refine lv_iconst (v := 1) hx hb dX12_run_762 (by decide) ?_
    refine lv_iload hx hb dX12_run_763 (lv_at hl 4 rfl) ?_
    obtain ⟨r_u_18, u_18, h_u_18, h⟩ := bn_of h
    refine kc_stops X hS h_u_18 (Nat.le_trans (Nat.le_of_ble_eq_true rfl) hF) (Nat.le_trans (Nat.le_of_ble_eq_true rfl) hL) hl.1 (Nat.le_of_ble_eq_true rfl) dX12_run_765 (fun H locs hS => ?_)
    refine lv_goto (tgt := 1519) hx hb dX12_run_768 (by decide) ?_
    exact b_run_1519 X hE hF hL hR_39 h hS (lv_sub hl [0, 1] rfl)
def B_run_847 (N : Nat) (R_39 : Int32 × RSt → Option (Int32 × RSt)) (l2 : Int32) (s1 : Int32) (s2 : Int32) (u : RSt) : Option (Int32 × RSt) := rd (u.2.2.2 107) 6000 ((u.1 112) - 1) fun v_19 => wr 6000 s1 (sB u 107 s1.toNatClampNeg (r_worked s2 (-v_19))) fun u_23 => B_run_1519 N R_39 l2 u_23
set_option maxHeartbeats 4000000 in
theorem b_run_847 {r : Int32} (X : RC p s m args c cX12_run 10 (Cond.code yX12_run cX12_run 10 none) D kA V A) (hE : REv p l e R s m args below meth c cX12_run D kA Z A Q w) (hF : 3 ≤ R.frames) (hL : 77 ≤ R.locals) {R_39 : Int32 × RSt → Option (Int32 × RSt)} {l2 : Int32} {s1 : Int32} {s2 : Int32} (hR_39 : ∀ (l2 : Int32) (u : RSt), R_39 (l2, u) = some (r, w) → ∀ (H : Heap) (locs : List Loc) (ls : Array Slot), RS D kA Z A s u H locs → lv_has ls 10 [(0, .ref (Z 200)), (2, .int l2)] → W p l e R s m args below meth c H locs 0 0 Q (F0 m 39 ls [])) {u : RSt} (h : B_run_847 N R_39 l2 s1 s2 u = some (r, w)) (hS : RS D kA Z A s u H locs) (hl : lv_has ls 10 [(0, .ref (Z 200)), (2, .int l2)]) : W p l e R s m args below meth c H locs 0 0 Q (F0 m 847 ls [.int s2, .int s1, .ref (Z 107)]) := by
  obtain ⟨⟨hx, hb, hml, hown, hts⟩, hK, hEV, hA⟩ := id X
  have hG : ∀ w ∈ GW, w.before args s = true := fun w h => hts w (List.mem_cons_of_mem _ h)
  unfold B_run_847 at h
  refine lv_aload_n hx hb dX12_run_847 rfl (lv_at hl 0 rfl) ?_
  refine rg_107 X hS dX12_run_848 ?_
  refine lv_aload_n hx hb dX12_run_851 rfl (lv_at hl 0 rfl) ?_
  refine rg_112 X hS dX12_run_852 ?_
  refine lv_iconst (v := 1) hx hb dX12_run_855 (by decide) ?_
  refine lv_isub hx hb dX12_run_856 ?_
  obtain ⟨v_19, e_v_19, i_20, h⟩ := rd_of h
  refine ra_107 X hS i_20 e_v_19 dX12_run_857 ?_
  refine lv_lneg hx hb dX12_run_858 ?_
  refine vp_callSl (W.runS (As := [.int s2, .long (-v_19)]) (rest := [.int s1, .ref (Z 107)]) X.1 (c_X12_worked l s2 (-v_19)) (va_cwS 2 hts (gw_P gw_2396 gw_2397 gw_16 gwp_X12_worked) rfl rfl rfl (by decide +kernel) ⟨Nat.le_trans (Nat.le_of_ble_eq_true rfl) hF, Nat.le_trans (Nat.le_of_ble_eq_true rfl) hL⟩) ⟨fun _ _ _ _ q => q, fun _ _ _ => ⟨rfl, trivial⟩⟩ rfl rfl hl.1 rfl (lv_room (Nat.le_of_ble_eq_true rfl)) dX12_run_859 ⟨Nat.zero_le _, Nat.zero_le _⟩) (fun r_21 q_22 => ?_)
  subst q_22
  obtain ⟨u_23, e_u_23, i_24, h⟩ := wr_of h
  refine rs_107 X hS i_24 e_u_23 dX12_run_862 (fun H locs hS => ?_)
  refine lv_goto (tgt := 1519) hx hb dX12_run_863 (by decide) ?_
  exact b_run_1519 X hE hF hL hR_39 h hS (lv_sub hl [0, 1] rfl)
def B_run_926 (N : Nat) (R_39 : Int32 × RSt → Option (Int32 × RSt)) (l2 : Int32) (s1 : Int32) (s2 : Int64) (u : RSt) : Option (Int32 × RSt) := wr 6000 s1 (sB u 107 s1.toNatClampNeg s2) fun u_25 => B_run_1519 N R_39 l2 u_25
set_option maxHeartbeats 4000000 in
theorem b_run_926 {r : Int32} (X : RC p s m args c cX12_run 10 (Cond.code yX12_run cX12_run 10 none) D kA V A) (hE : REv p l e R s m args below meth c cX12_run D kA Z A Q w) (hF : 3 ≤ R.frames) (hL : 77 ≤ R.locals) {R_39 : Int32 × RSt → Option (Int32 × RSt)} {l2 : Int32} {s1 : Int32} {s2 : Int64} (hR_39 : ∀ (l2 : Int32) (u : RSt), R_39 (l2, u) = some (r, w) → ∀ (H : Heap) (locs : List Loc) (ls : Array Slot), RS D kA Z A s u H locs → lv_has ls 10 [(0, .ref (Z 200)), (2, .int l2)] → W p l e R s m args below meth c H locs 0 0 Q (F0 m 39 ls [])) {u : RSt} (h : B_run_926 N R_39 l2 s1 s2 u = some (r, w)) (hS : RS D kA Z A s u H locs) (hl : lv_has ls 10 [(0, .ref (Z 200)), (2, .int l2)]) : W p l e R s m args below meth c H locs 0 0 Q (F0 m 926 ls [.long s2, .int s1, .ref (Z 107)]) := by
  obtain ⟨⟨hx, hb, hml, hown, hts⟩, hK, hEV, hA⟩ := id X
  have hG : ∀ w ∈ GW, w.before args s = true := fun w h => hts w (List.mem_cons_of_mem _ h)
  unfold B_run_926 at h
  obtain ⟨u_25, e_u_25, i_26, h⟩ := wr_of h
  refine rs_107 X hS i_26 e_u_25 dX12_run_926 (fun H locs hS => ?_)
  refine lv_goto (tgt := 1519) hx hb dX12_run_927 (by decide) ?_
  exact b_run_1519 X hE hF hL hR_39 h hS (lv_sub hl [0, 1] rfl)
def B_run_1066 (N : Nat) (R_39 : Int32 × RSt → Option (Int32 × RSt)) (l2 : Int32) (s1 : Int32) (s2 : Int64) (u : RSt) : Option (Int32 × RSt) := wr 6000 s1 (sB u 107 s1.toNatClampNeg s2) fun u_27 => B_run_1519 N R_39 l2 u_27
set_option maxHeartbeats 4000000 in
theorem b_run_1066 {r : Int32} (X : RC p s m args c cX12_run 10 (Cond.code yX12_run cX12_run 10 none) D kA V A) (hE : REv p l e R s m args below meth c cX12_run D kA Z A Q w) (hF : 3 ≤ R.frames) (hL : 77 ≤ R.locals) {R_39 : Int32 × RSt → Option (Int32 × RSt)} {l2 : Int32} {s1 : Int32} {s2 : Int64} (hR_39 : ∀ (l2 : Int32) (u : RSt), R_39 (l2, u) = some (r, w) → ∀ (H : Heap) (locs : List Loc) (ls : Array Slot), RS D kA Z A s u H locs → lv_has ls 10 [(0, .ref (Z 200)), (2, .int l2)] → W p l e R s m args below meth c H locs 0 0 Q (F0 m 39 ls [])) {u : RSt} (h : B_run_1066 N R_39 l2 s1 s2 u = some (r, w)) (hS : RS D kA Z A s u H locs) (hl : lv_has ls 10 [(0, .ref (Z 200)), (2, .int l2)]) : W p l e R s m args below meth c H locs 0 0 Q (F0 m 1066 ls [.long s2, .int s1, .ref (Z 107)]) := by
  obtain ⟨⟨hx, hb, hml, hown, hts⟩, hK, hEV, hA⟩ := id X
  have hG : ∀ w ∈ GW, w.before args s = true := fun w h => hts w (List.mem_cons_of_mem _ h)
  unfold B_run_1066 at h
  obtain ⟨u_27, e_u_27, i_28, h⟩ := wr_of h
  refine rs_107 X hS i_28 e_u_27 dX12_run_1066 (fun H locs hS => ?_)
  refine lv_goto (tgt := 1519) hx hb dX12_run_1067 (by decide) ?_
  exact b_run_1519 X hE hF hL hR_39 h hS (lv_sub hl [0, 1] rfl)
def B_run_1114 (N : Nat) (R_39 : Int32 × RSt → Option (Int32 × RSt)) (l2 : Int32) (s1 : Int32) (s2 : Int32) (s3 : Int32) (u : RSt) : Option (Int32 × RSt) := rd (u.2.2.2 107) 6000 ((u.1 112) - 1) fun v_29 => rd (u.2.2.2 107) 6000 (u.1 112) fun v_31 => wr 6000 s1 (sB u 107 s1.toNatClampNeg (r_special s2 s3 v_29 v_31)) fun u_35 => B_run_1519 N R_39 l2 u_35
set_option maxHeartbeats 4000000 in
theorem b_run_1114 {r : Int32} (X : RC p s m args c cX12_run 10 (Cond.code yX12_run cX12_run 10 none) D kA V A) (hE : REv p l e R s m args below meth c cX12_run D kA Z A Q w) (hF : 3 ≤ R.frames) (hL : 77 ≤ R.locals) {R_39 : Int32 × RSt → Option (Int32 × RSt)} {l2 : Int32} {s1 : Int32} {s2 : Int32} {s3 : Int32} (hR_39 : ∀ (l2 : Int32) (u : RSt), R_39 (l2, u) = some (r, w) → ∀ (H : Heap) (locs : List Loc) (ls : Array Slot), RS D kA Z A s u H locs → lv_has ls 10 [(0, .ref (Z 200)), (2, .int l2)] → W p l e R s m args below meth c H locs 0 0 Q (F0 m 39 ls [])) {u : RSt} (h : B_run_1114 N R_39 l2 s1 s2 s3 u = some (r, w)) (hS : RS D kA Z A s u H locs) (hl : lv_has ls 10 [(0, .ref (Z 200)), (2, .int l2)]) : W p l e R s m args below meth c H locs 0 0 Q (F0 m 1114 ls [.int s3, .int s2, .int s1, .ref (Z 107)]) := by
  obtain ⟨⟨hx, hb, hml, hown, hts⟩, hK, hEV, hA⟩ := id X
  have hG : ∀ w ∈ GW, w.before args s = true := fun w h => hts w (List.mem_cons_of_mem _ h)
  unfold B_run_1114 at h
  refine lv_aload_n hx hb dX12_run_1114 rfl (lv_at hl 0 rfl) ?_
  refine rg_107 X hS dX12_run_1115 ?_
  refine lv_aload_n hx hb dX12_run_1118 rfl (lv_at hl 0 rfl) ?_
  refine rg_112 X hS dX12_run_1119 ?_
  refine lv_iconst (v := 1) hx hb dX12_run_1122 (by decide) ?_
  refine lv_isub hx hb dX12_run_1123 ?_
  obtain ⟨v_29, e_v_29, i_30, h⟩ := rd_of h
  refine ra_107 X hS i_30 e_v_29 dX12_run_1124 ?_
  refine lv_aload_n hx hb dX12_run_1125 rfl (lv_at hl 0 rfl) ?_
  refine rg_107 X hS dX12_run_1126 ?_
  refine lv_aload_n hx hb dX12_run_1129 rfl (lv_at hl 0 rfl) ?_
  refine rg_112 X hS dX12_run_1130 ?_
  obtain ⟨v_31, e_v_31, i_32, h⟩ := rd_of h
  refine ra_107 X hS i_32 e_v_31 dX12_run_1133 ?_
  refine vp_callSl (W.runS (As := [.int s2, .int s3, .long v_29, .long v_31]) (rest := [.int s1, .ref (Z 107)]) X.1 (c_X12_special l s2 s3 v_29 v_31) (va_cwS 4 hts (gw_P gw_2645 gw_2646 gw_16 gwp_X12_special) rfl rfl rfl (by decide +kernel) ⟨Nat.le_trans (Nat.le_of_ble_eq_true rfl) hF, Nat.le_trans (Nat.le_of_ble_eq_true rfl) hL⟩) ⟨fun _ _ _ _ q => q, fun _ _ _ => ⟨rfl, trivial⟩⟩ rfl rfl hl.1 rfl (lv_room (Nat.le_of_ble_eq_true rfl)) dX12_run_1134 ⟨Nat.zero_le _, Nat.zero_le _⟩) (fun r_33 q_34 => ?_)
  subst q_34
  obtain ⟨u_35, e_u_35, i_36, h⟩ := wr_of h
  refine rs_107 X hS i_36 e_u_35 dX12_run_1137 (fun H locs hS => ?_)
  refine lv_goto (tgt := 1519) hx hb dX12_run_1138 (by decide) ?_
  exact b_run_1519 X hE hF hL hR_39 h hS (lv_sub hl [0, 1] rfl)
def B_run_1164 (N : Nat) (R_39 : Int32 × RSt → Option (Int32 × RSt)) (l2 : Int32) (s1 : Int32) (s2 : Int32) (s3 : Int32) (u : RSt) : Option (Int32 × RSt) := rd (u.2.2.2 107) 6000 ((u.1 112) - 1) fun v_37 => wr 6000 s1 (sB u 107 s1.toNatClampNeg (r_special s2 s3 v_37 0)) fun u_41 => B_run_1519 N R_39 l2 u_41
set_option maxHeartbeats 4000000 in
theorem b_run_1164 {r : Int32} (X : RC p s m args c cX12_run 10 (Cond.code yX12_run cX12_run 10 none) D kA V A) (hE : REv p l e R s m args below meth c cX12_run D kA Z A Q w) (hF : 3 ≤ R.frames) (hL : 77 ≤ R.locals) {R_39 : Int32 × RSt → Option (Int32 × RSt)} {l2 : Int32} {s1 : Int32} {s2 : Int32} {s3 : Int32} (hR_39 : ∀ (l2 : Int32) (u : RSt), R_39 (l2, u) = some (r, w) → ∀ (H : Heap) (locs : List Loc) (ls : Array Slot), RS D kA Z A s u H locs → lv_has ls 10 [(0, .ref (Z 200)), (2, .int l2)] → W p l e R s m args below meth c H locs 0 0 Q (F0 m 39 ls [])) {u : RSt} (h : B_run_1164 N R_39 l2 s1 s2 s3 u = some (r, w)) (hS : RS D kA Z A s u H locs) (hl : lv_has ls 10 [(0, .ref (Z 200)), (2, .int l2)]) : W p l e R s m args below meth c H locs 0 0 Q (F0 m 1164 ls [.int s3, .int s2, .int s1, .ref (Z 107)]) := by
  obtain ⟨⟨hx, hb, hml, hown, hts⟩, hK, hEV, hA⟩ := id X
  have hG : ∀ w ∈ GW, w.before args s = true := fun w h => hts w (List.mem_cons_of_mem _ h)
  unfold B_run_1164 at h
  refine lv_aload_n hx hb dX12_run_1164 rfl (lv_at hl 0 rfl) ?_
  refine rg_107 X hS dX12_run_1165 ?_
  refine lv_aload_n hx hb dX12_run_1168 rfl (lv_at hl 0 rfl) ?_
  refine rg_112 X hS dX12_run_1169 ?_
  refine lv_iconst (v := 1) hx hb dX12_run_1172 (by decide) ?_
  refine lv_isub hx hb dX12_run_1173 ?_
  obtain ⟨v_37, e_v_37, i_38, h⟩ := rd_of h
  refine ra_107 X hS i_38 e_v_37 dX12_run_1174 ?_
  refine lv_lconst (v := 0) hx hb dX12_run_1175 (by decide) ?_
  refine vp_callSl (W.runS (As := [.int s2, .int s3, .long v_37, .long 0]) (rest := [.int s1, .ref (Z 107)]) X.1 (c_X12_special l s2 s3 v_37 0) (va_cwS 4 hts (gw_P gw_2645 gw_2646 gw_16 gwp_X12_special) rfl rfl rfl (by decide +kernel) ⟨Nat.le_trans (Nat.le_of_ble_eq_true rfl) hF, Nat.le_trans (Nat.le_of_ble_eq_true rfl) hL⟩) ⟨fun _ _ _ _ q => q, fun _ _ _ => ⟨rfl, trivial⟩⟩ rfl rfl hl.1 rfl (lv_room (Nat.le_of_ble_eq_true rfl)) dX12_run_1176 ⟨Nat.zero_le _, Nat.zero_le _⟩) (fun r_39 q_40 => ?_)
  subst q_40
  obtain ⟨u_41, e_u_41, i_42, h⟩ := wr_of h
  refine rs_107 X hS i_42 e_u_41 dX12_run_1179 (fun H locs hS => ?_)
  refine lv_goto (tgt := 1519) hx hb dX12_run_1180 (by decide) ?_
  exact b_run_1519 X hE hF hL hR_39 h hS (lv_sub hl [0, 1] rfl)
def B_run_1141 (N : Nat) (R_39 : Int32 × RSt → Option (Int32 × RSt)) (l2 : Int32) (l4 : Int32) (l5 : Int32) (u : RSt) : Option (Int32 × RSt) := if l5 = (1 : Int32) then (B_run_1164 N R_39 l2 ((u.1 112) - 1) l4 1 u) else (B_run_1164 N R_39 l2 ((u.1 112) - 1) l4 0 u)
set_option maxHeartbeats 4000000 in
theorem b_run_1141 {r : Int32} (X : RC p s m args c cX12_run 10 (Cond.code yX12_run cX12_run 10 none) D kA V A) (hE : REv p l e R s m args below meth c cX12_run D kA Z A Q w) (hF : 3 ≤ R.frames) (hL : 77 ≤ R.locals) {R_39 : Int32 × RSt → Option (Int32 × RSt)} {l2 : Int32} {l4 : Int32} {l5 : Int32} (hR_39 : ∀ (l2 : Int32) (u : RSt), R_39 (l2, u) = some (r, w) → ∀ (H : Heap) (locs : List Loc) (ls : Array Slot), RS D kA Z A s u H locs → lv_has ls 10 [(0, .ref (Z 200)), (2, .int l2)] → W p l e R s m args below meth c H locs 0 0 Q (F0 m 39 ls [])) {u : RSt} (h : B_run_1141 N R_39 l2 l4 l5 u = some (r, w)) (hS : RS D kA Z A s u H locs) (hl : lv_has ls 10 [(0, .ref (Z 200)), (2, .int l2), (4, .int l4), (5, .int l5)]) : W p l e R s m args below meth c H locs 0 0 Q (F0 m 1141 ls []) := by
  obtain ⟨⟨hx, hb, hml, hown, hts⟩, hK, hEV, hA⟩ := id X
  have hG : ∀ w ∈ GW, w.before args s = true := fun w h => hts w (List.mem_cons_of_mem _ h)
  unfold B_run_1141 at h
  refine lv_aload_n hx hb dX12_run_1141 rfl (lv_at hl 0 rfl) ?_
  refine rg_107 X hS dX12_run_1142 ?_
  refine lv_aload_n hx hb dX12_run_1145 rfl (lv_at hl 0 rfl) ?_
  refine rg_112 X hS dX12_run_1146 ?_
  refine lv_iconst (v := 1) hx hb dX12_run_1149 (by decide) ?_
  refine lv_isub hx hb dX12_run_1150 ?_
  refine lv_iload hx hb dX12_run_1151 (lv_at hl 2 rfl) ?_
  refine lv_iload hx hb dX12_run_1153 (lv_at hl 3 rfl) ?_
  refine lv_iconst (v := 1) hx hb dX12_run_1155 (by decide) ?_
  refine lv_icmp_ne (tgt := 1163) hx hb dX12_run_1156 (by decide) (fun c_43 => ?_) (fun c_43 => ?_)
  · have h := im (c_43) h
    refine lv_iconst (v := 0) hx hb dX12_run_1163 (by decide) ?_
    exact b_run_1164 X hE hF hL hR_39 h hS (lv_sub hl [0, 1] rfl)
  · have h := ip (c_43) h
    refine lv_iconst (v := 1) hx hb dX12_run_1159 (by decide) ?_
    refine lv_goto (tgt := 1164) hx hb dX12_run_1160 (by decide) ?_
    exact b_run_1164 X hE hF hL hR_39 h hS (lv_sub hl [0, 1] rfl)
def B_run_39 (N : Nat) (R_39 : Int32 × RSt → Option (Int32 × RSt)) (l2 : Int32) (u : RSt) : Option (Int32 × RSt) := if l2 = (0 : Int32) then (some (0, u)) else (if (u.1 118) = (0 : Int32) then (pu (sI u 113 ((u.1 113) + 1)) fun u_46 => rd (u_46.2.2.1 50) 16000 (u.1 113) fun v_47 => rd (u_46.2.2.1 51) 16000 (u.1 113) fun v_49 => rd (u_46.2.2.1 49) 16000 (u.1 113) fun v_51 => if v_51 = 1 then (if (u_46.1 117) = (u_46.1 105) then (bn (F_stops N 3 v_49 u_46) fun _ u_56 => B_run_1519 N R_39 l2 u_56) else (pu (sI u_46 117 ((u_46.1 117) + 1)) fun u_55 => B_run_1519 N R_39 l2 u_55)) else (if v_51 = 2 then (pu (sI u_46 112 ((u_46.1 112) + 1)) fun u_58 => rd (u_58.2.2.2 52) 16000 (u.1 113) fun v_59 => wr 6000 (u_46.1 112) (sB u_58 107 (u_46.1 112).toNatClampNeg v_59) fun u_61 => B_run_1519 N R_39 l2 u_61) else (if v_51 = 3 then (pu (sI u_46 112 ((u_46.1 112) + 1)) fun u_64 => wr 6000 (u_46.1 112) (sB u_64 107 (u_46.1 112).toNatClampNeg ((u_64.1 104).toInt64)) fun u_65 => B_run_1519 N R_39 l2 u_65) else (if v_51 = 10 then (pu (sI u_46 112 ((u_46.1 112) + 1)) fun u_68 => wr 6000 (u_46.1 112) (sB u_68 107 (u_46.1 112).toNatClampNeg v_47.toInt64) fun u_69 => B_run_1519 N R_39 l2 u_69) else (if v_51 = 11 then (pu (sI u_46 112 ((u_46.1 112) + 1)) fun u_72 => wr 6000 (u_46.1 112) (sB u_72 107 (u_46.1 112).toNatClampNeg (((u_72.1 116) + v_47).toInt64)) fun u_73 => B_run_1519 N R_39 l2 u_73) else (if v_51 = 12 then (pu (sI u_46 112 ((u_46.1 112) + 1)) fun u_76 => wr 6000 (u_46.1 112) (sB u_76 107 (u_46.1 112).toNatClampNeg (((u_76.1 115) + v_47).toInt64)) fun u_77 => B_run_1519 N R_39 l2 u_77) else (if v_51 = 14 then (rd (u_46.2.2.2 107) 6000 ((u_46.1 112) - 2) fun v_80 => rd (u_46.2.2.2 107) 6000 ((u_46.1 112) - 1) fun v_82 => wr 6000 ((u_46.1 112) - 2) (sB u_46 107 ((u_46.1 112) - 2).toNatClampNeg (v_80 + v_82)) fun u_84 => pu (sI u_84 112 ((u_84.1 112) - 1)) fun u_86 => B_run_1519 N R_39 l2 u_86) else (if v_51 = 15 then (rd (u_46.2.2.2 107) 6000 ((u_46.1 112) - 1) fun v_88 => if v_88 < (0 : Int64) then (B_run_483 N R_39 l2 v_49 u_46) else (rd (u_46.2.2.2 107) 6000 ((u_46.1 112) - 1) fun v_91 => if v_91 < v_47.toInt64 then (B_run_1519 N R_39 l2 u_46) else (B_run_483 N R_39 l2 v_49 u_46))) else (if v_51 = 16 then (rd (u_46.2.2.2 107) 6000 ((u_46.1 112) - 1) fun v_95 => bn (F_read N v_95.toInt32 v_47 u_46) fun r_98 u_97 => wr 6000 ((u_46.1 112) - 1) (sB u_97 107 ((u_46.1 112) - 1).toNatClampNeg r_98) fun u_99 => B_run_1519 N R_39 l2 u_99) else (if v_51 = 17 then (rd (u_46.2.2.2 107) 6000 ((u_46.1 112) - 1) fun v_102 => bn (F_read N v_102.toInt32 v_47 u_46) fun r_105 u_104 => wr 6000 (u_46.1 112) (sB u_104 107 (u_46.1 112).toNatClampNeg r_105) fun u_106 => pu (sI u_106 112 ((u_106.1 112) + 1)) fun u_108 => B_run_1519 N R_39 l2 u_108) else (if v_51 = 18 then (pu (sI u_46 112 ((u_46.1 112) - 2)) fun u_110 => rd (u_110.2.2.2 107) 6000 (u_110.1 112) fun v_111 => rd (u_110.2.2.2 107) 6000 ((u_110.1 112) + 1) fun v_113 => bn (F_write N v_111.toInt32 v_47 v_113 u_110) fun _ u_115 => B_run_1519 N R_39 l2 u_115) else (if v_51 = 19 then (pu (sI u_46 112 ((u_46.1 112) - 2)) fun u_117 => rd (u_117.2.2.2 107) 6000 (u_117.1 112) fun v_118 => bn (F_read N v_118.toInt32 v_49 u_117) fun r_121 u_120 => rd (u_120.2.2.2 107) 6000 (u_120.1 112) fun v_122 => rd (u_120.2.2.2 107) 6000 ((u_120.1 112) + 1) fun v_124 => if (v_124 &&& 1) = (1 : Int64) then (B_run_685 N R_39 l2 v_122.toInt32 v_49 (r_121 ||| ((1 : Int64) <<< (v_47.toInt64 &&& 63))) u_120) else (B_run_685 N R_39 l2 v_122.toInt32 v_49 (r_121 &&& (((1 : Int64) <<< (v_47.toInt64 &&& 63)) ^^^ (-1))) u_120)) else (if v_51 = 20 then (rd (u_46.2.2.2 107) 6000 ((u_46.1 112) - 1) fun v_128 => wr 6000 ((u_46.1 112) - 1) (sB u_46 107 ((u_46.1 112) - 1).toNatClampNeg ((v_128 >>> (v_47.toInt64 &&& 63)) &&& 1)) fun u_130 => B_run_1519 N R_39 l2 u_130) else (if v_51 = 21 then (pu (sI u_46 112 ((u_46.1 112) - 1)) fun u_133 => if v_47 = (243 : Int32) then (B_run_747 N R_39 l2 (u.1 113) v_47 v_49 u_133) else (if v_47 = (244 : Int32) then (B_run_747 N R_39 l2 (u.1 113) v_47 v_49 u_133) else (B_run_771 N R_39 l2 (u.1 113) v_47 u_133))) else (if v_51 = 22 then (if v_47 = (1 : Int32) then (B_run_847 N R_39 l2 ((u_46.1 112) - 1) 1 u_46) else (B_run_847 N R_39 l2 ((u_46.1 112) - 1) 0 u_46)) else (if v_51 = 23 then (rd (u_46.2.2.2 107) 6000 ((u_46.1 112) - 1) fun v_139 => wr 6000 ((u_46.1 112) - 1) (sB u_46 107 ((u_46.1 112) - 1).toNatClampNeg (v_139 ^^^ (-1))) fun u_141 => B_run_1519 N R_39 l2 u_141) else (if v_51 = 24 then (rd (u_46.2.2.2 107) 6000 ((u_46.1 112) - 1) fun v_144 => if v_144 = (0 : Int64) then (B_run_926 N R_39 l2 ((u_46.1 112) - 1) 1 u_46) else (B_run_926 N R_39 l2 ((u_46.1 112) - 1) 0 u_46)) else (if v_51 = 25 then (rd (u_46.2.2.2 107) 6000 ((u_46.1 112) - 1) fun v_148 => wr 6000 ((u_46.1 112) - 1) (sB u_46 107 ((u_46.1 112) - 1).toNatClampNeg (r_cut v_47 v_148)) fun u_152 => B_run_1519 N R_39 l2 u_152) else (if v_51 = 26 then (pu (sI u_46 112 ((u_46.1 112) - 1)) fun u_155 => rd (u_155.2.2.2 107) 6000 (u_155.1 112) fun v_156 => if v_156 = (0 : Int64) then (pu (sI u_155 113 v_47) fun u_159 => B_run_1519 N R_39 l2 u_159) else (B_run_1519 N R_39 l2 u_155)) else (if v_51 = 27 then (pu (sI u_46 112 ((u_46.1 112) - 1)) fun u_161 => rd (u_161.2.2.2 107) 6000 (u_161.1 112) fun v_162 => if v_162 = (0 : Int64) then (B_run_1519 N R_39 l2 u_161) else (pu (sI u_161 113 v_47) fun u_165 => B_run_1519 N R_39 l2 u_165)) else (if v_51 = 28 then (pu (sI u_46 113 v_47) fun u_167 => B_run_1519 N R_39 l2 u_167) else (if v_51 = 29 then (rd (u_46.2.2.2 107) 6000 ((u_46.1 112) - 1) fun v_169 => if v_169 = (0 : Int64) then (B_run_1066 N R_39 l2 ((u_46.1 112) - 1) 0 u_46) else (B_run_1066 N R_39 l2 ((u_46.1 112) - 1) 1 u_46)) else (if v_51 = 30 then (if v_47 ≤ (0 : Int32) then (B_run_1141 N R_39 l2 v_47 v_49 u_46) else (if (5 : Int32) ≤ v_47 then (B_run_1141 N R_39 l2 v_47 v_49 u_46) else (pu (sI u_46 112 ((u_46.1 112) - 1)) fun u_175 => if v_49 = (1 : Int32) then (B_run_1114 N R_39 l2 ((u_175.1 112) - 1) v_47 1 u_175) else (B_run_1114 N R_39 l2 ((u_175.1 112) - 1) v_47 0 u_175)))) else (if v_51 = 31 then (bn (F_mayCall N v_49 u_46) fun r_179 u_178 => if r_179 = (0 : Int32) then (B_run_1519 N R_39 l2 u_178) else (bn (F_enter N v_47 u_178) fun _ u_181 => B_run_1519 N R_39 l2 u_181)) else (if v_51 = 32 then (bn (F_mayCall N v_49 u_46) fun r_184 u_183 => if r_184 = (0 : Int32) then (B_run_1519 N R_39 l2 u_183) else (wr 9 (u_183.1 114) (sA u_183 111 (u_183.1 114).toNatClampNeg (u_183.1 112)) fun u_186 => pu (sI u_186 114 ((u_186.1 114) + 1)) fun u_188 => rd (u_188.2.2.1 39) 48 v_47 fun v_189 => pu (sI u_188 116 v_189) fun u_191 => rd (u_191.2.2.1 38) 48 v_47 fun v_192 => rd (u_191.2.2.1 32) 48 v_192 fun v_194 => pu (sI u_191 113 v_194) fun u_196 => B_run_1519 N R_39 l2 u_196)) else (if v_51 = 33 then (if (u_46.1 114) = (0 : Int32) then (B_run_1519 N R_39 0 u_46) else (bn (F_leave N u_46) fun _ u_199 => B_run_1519 N R_39 l2 u_199)) else (if v_51 = 34 then (rd (u_46.2.2.2 107) 6000 ((u_46.1 112) - 1) fun v_201 => bn (F_leave N u_46) fun _ u_205 => pu (sI u_205 112 ((u_205.1 112) + 1)) fun u_206 => wr 6000 (u_205.1 112) (sB u_206 107 (u_205.1 112).toNatClampNeg (r_cut v_47 v_201)) fun u_207 => B_run_1519 N R_39 l2 u_207) else (if v_51 = 35 then (pu (sI u_46 112 ((u_46.1 112) - 1)) fun u_210 => rd (u_210.2.2.2 107) 6000 (u_210.1 112) fun v_211 => pu (sL u_210 120 (r_cut 3 v_211)) fun u_215 => bn (F_stops N 5 v_47 u_215) fun _ u_216 => B_run_1519 N R_39 l2 u_216) else (if v_51 = 36 then (rd (u_46.2.2.2 107) 6000 ((u_46.1 112) - 1) fun v_218 => rd (u_46.2.2.2 52) 16000 (u.1 113) fun v_220 => if v_218 < v_220 then (B_run_1519 N R_39 l2 u_46) else (rd (u_46.2.2.2 107) 6000 ((u_46.1 112) - 1) fun v_223 => rd (u_46.2.2.2 53) 16000 (u.1 113) fun v_225 => if v_225 < v_223 then (B_run_1519 N R_39 l2 u_46) else (pu (sI u_46 112 ((u_46.1 112) - 1)) fun u_228 => pu (sI u_228 113 v_47) fun u_229 => B_run_1519 N R_39 l2 u_229))) else (if v_51 = 37 then (pu (sI u_46 112 ((u_46.1 112) - 1)) fun u_231 => B_run_1519 N R_39 l2 u_231) else (if v_51 = 38 then (pu (sI u_46 112 ((u_46.1 112) - 1)) fun u_233 => rd (u_233.2.2.2 107) 6000 (u_233.1 112) fun v_234 => rd (u_233.2.2.2 107) 6000 ((u_233.1 112) - 1) fun v_236 => if v_234 ≤ v_236 then (B_run_1519 N R_39 l2 u_233) else (pu (sI u_233 113 v_47) fun u_239 => B_run_1519 N R_39 l2 u_239)) else (pu (sI u_46 112 ((u_46.1 112) - 1)) fun u_240 => rd (u_240.2.2.2 107) 6000 (u_240.1 112) fun v_241 => rd (u_240.2.2.2 107) 6000 ((u_240.1 112) - 1) fun v_243 => if v_241 = v_243 then (pu (sI u_240 113 v_47) fun u_246 => B_run_1519 N R_39 l2 u_246) else (B_run_1519 N R_39 l2 u_240))))))))))))))))))))))))))))))))) else (some (0, u)))
set_option maxHeartbeats 4000000 in
theorem b_run_39 {r : Int32} (X : RC p s m args c cX12_run 10 (Cond.code yX12_run cX12_run 10 none) D kA V A) (hE : REv p l e R s m args below meth c cX12_run D kA Z A Q w) (hF : 3 ≤ R.frames) (hL : 77 ≤ R.locals) {R_39 : Int32 × RSt → Option (Int32 × RSt)} {l2 : Int32} (hR_39 : ∀ (l2 : Int32) (u : RSt), R_39 (l2, u) = some (r, w) → ∀ (H : Heap) (locs : List Loc) (ls : Array Slot), RS D kA Z A s u H locs → lv_has ls 10 [(0, .ref (Z 200)), (2, .int l2)] → W p l e R s m args below meth c H locs 0 0 Q (F0 m 39 ls [])) {u : RSt} (h : B_run_39 N R_39 l2 u = some (r, w)) (hS : RS D kA Z A s u H locs) (hl : lv_has ls 10 [(0, .ref (Z 200)), (2, .int l2)]) : W p l e R s m args below meth c H locs 0 0 Q (F0 m 39 ls []) := by
  obtain ⟨⟨hx, hb, hml, hown, hts⟩, hK, hEV, hA⟩ := id X
  have hG : ∀ w ∈ GW, w.before args s = true := fun w h => hts w (List.mem_cons_of_mem _ h)
  unfold B_run_39 at h
  refine lv_iload_n hx hb dX12_run_39 rfl (lv_at hl 1 rfl) ?_
  refine lv_if_eq (tgt := 1522) hx hb dX12_run_40 (by decide) (fun c_44 => ?_) (fun c_44 => ?_)
  · have h := ip (c_44) h
    obtain ⟨-, rfl⟩ := so h
    exact hE _ _ _ _ hS dX12_run_1522
  · have h := im (c_44) h
    refine lv_aload_n hx hb dX12_run_43 rfl (lv_at hl 0 rfl) ?_
    refine rg_118 X hS dX12_run_44 ?_
    refine lv_if_ne (tgt := 1522) hx hb dX12_run_47 (by decide) (fun c_45 => ?_) (fun c_45 => ?_)
    · have h := im (c_45) h
      obtain ⟨-, rfl⟩ := so h
      exact hE _ _ _ _ hS dX12_run_1522
    · have h := ip (c_45) h
      refine lv_aload_n hx hb dX12_run_50 rfl (lv_at hl 0 rfl) ?_
      refine rg_113 X hS dX12_run_51 ?_
      refine lv_istore_n (lv' := [(3, .int (u.1 113)), (0, .ref (Z 200)), (2, .int l2)]) hx hb dX12_run_54 rfl hl (by decide) rfl (fun ls hl => ?_)
      refine lv_aload_n hx hb dX12_run_55 rfl (lv_at hl 1 rfl) ?_
      refine lv_dup hx hb dX12_run_56 rfl ?_
      refine rg_113 X hS dX12_run_57 ?_
      refine lv_iconst (v := 1) hx hb dX12_run_60 (by decide) ?_
      refine lv_iadd hx hb dX12_run_61 ?_
      obtain ⟨u_46, e_u_46, h⟩ := pu_of h
      refine rp_113 X hS e_u_46 dX12_run_62 (fun H locs hS => ?_)
      refine lv_aload_n hx hb dX12_run_65 rfl (lv_at hl 1 rfl) ?_
      refine rg_50 X hS dX12_run_66 ?_
      refine lv_iload_n hx hb dX12_run_69 rfl (lv_at hl 0 rfl) ?_
      obtain ⟨v_47, e_v_47, i_48, h⟩ := rd_of h
      refine ra_50 X hS i_48 e_v_47 dX12_run_70 ?_
      refine lv_istore (lv' := [(4, .int v_47), (3, .int (u.1 113)), (0, .ref (Z 200)), (2, .int l2)]) hx hb dX12_run_71 hl (by decide) rfl (fun ls hl => ?_)
      refine lv_aload_n hx hb dX12_run_73 rfl (lv_at hl 2 rfl) ?_
      refine rg_51 X hS dX12_run_74 ?_
      refine lv_iload_n hx hb dX12_run_77 rfl (lv_at hl 1 rfl) ?_
      obtain ⟨v_49, e_v_49, i_50, h⟩ := rd_of h
      refine ra_51 X hS i_50 e_v_49 dX12_run_78 ?_
      refine lv_istore (lv' := [(5, .int v_49), (4, .int v_47), (3, .int (u.1 113)), (0, .ref (Z 200)), (2, .int l2)]) hx hb dX12_run_79 hl (by decide) rfl (fun ls hl => ?_)
      refine lv_aload_n hx hb dX12_run_81 rfl (lv_at hl 3 rfl) ?_
      refine rg_49 X hS dX12_run_82 ?_
      refine lv_iload_n hx hb dX12_run_85 rfl (lv_at hl 2 rfl) ?_
      obtain ⟨v_51, e_v_51, i_52, h⟩ := rd_of h
      refine ra_49 X hS i_52 e_v_51 dX12_run_86 ?_
      by_cases e_53 : v_51 = 1
      · have h := ip e_53 h
        refine lv_tableIn (off := 165) (tgt := 252) hx hb dX12_run_87 (by rw [e_53]; decide) (by rw [e_53]; decide) (by rw [e_53]; rfl) (by decide) ?_
        refine lv_aload_n hx hb dX12_run_252 rfl (lv_at hl 3 rfl) ?_
        refine rg_117 X hS dX12_run_253 ?_
        refine lv_aload_n hx hb dX12_run_256 rfl (lv_at hl 3 rfl) ?_
        refine rg_105 X hS dX12_run_257 ?_
        refine lv_icmp_ne (tgt := 273) hx hb dX12_run_260 (by decide) (fun c_54 => ?_) (fun c_54 => ?_)
        · have h := im (c_54) h
          refine lv_aload_n hx hb dX12_run_273 rfl (lv_at hl 3 rfl) ?_
          refine lv_dup hx hb dX12_run_274 rfl ?_
          refine rg_117 X hS dX12_run_275 ?_
          refine lv_iconst (v := 1) hx hb dX12_run_278 (by decide) ?_
          refine lv_iadd hx hb dX12_run_279 ?_
          obtain ⟨u_55, e_u_55, h⟩ := pu_of h
          refine rp_117 X hS e_u_55 dX12_run_280 (fun H locs hS => ?_)
          refine lv_goto (tgt := 1519) hx hb dX12_run_283 (by decide) ?_
          exact b_run_1519 X hE hF hL hR_39 h hS (lv_sub hl [3, 4] rfl)
        · have h := ip (c_54) h
          refine lv_aload_n hx hb dX12_run_263 rfl (lv_at hl 3 rfl) ?_
          refine lv_iconst (v := 3) hx hb dX12_run_264 (by decide) ?_
          refine lv_iload hx hb dX12_run_265 (lv_at hl 0 rfl) ?_
          obtain ⟨r_u_56, u_56, h_u_56, h⟩ := bn_of h
          refine kc_stops X hS h_u_56 (Nat.le_trans (Nat.le_of_ble_eq_true rfl) hF) (Nat.le_trans (Nat.le_of_ble_eq_true rfl) hL) hl.1 (Nat.le_of_ble_eq_true rfl) dX12_run_267 (fun H locs hS => ?_)
          refine lv_goto (tgt := 1519) hx hb dX12_run_270 (by decide) ?_
          exact b_run_1519 X hE hF hL hR_39 h hS (lv_sub hl [3, 4] rfl)
      have h := im e_53 h
      by_cases e_57 : v_51 = 2
      · have h := ip e_57 h
        refine lv_tableIn (off := 199) (tgt := 286) hx hb dX12_run_87 (by rw [e_57]; decide) (by rw [e_57]; decide) (by rw [e_57]; rfl) (by decide) ?_
        refine lv_aload_n hx hb dX12_run_286 rfl (lv_at hl 3 rfl) ?_
        refine rg_107 X hS dX12_run_287 ?_
        refine lv_aload_n hx hb dX12_run_290 rfl (lv_at hl 3 rfl) ?_
        refine lv_dup hx hb dX12_run_291 rfl ?_
        refine rg_112 X hS dX12_run_292 ?_
        refine lv_dup_x1 hx hb dX12_run_295 rfl rfl ?_
        refine lv_iconst (v := 1) hx hb dX12_run_296 (by decide) ?_
        refine lv_iadd hx hb dX12_run_297 ?_
        obtain ⟨u_58, e_u_58, h⟩ := pu_of h
        refine rp_112 X hS e_u_58 dX12_run_298 (fun H locs hS => ?_)
        refine lv_aload_n hx hb dX12_run_301 rfl (lv_at hl 3 rfl) ?_
        refine rg_52 X hS dX12_run_302 ?_
        refine lv_iload_n hx hb dX12_run_305 rfl (lv_at hl 2 rfl) ?_
        obtain ⟨v_59, e_v_59, i_60, h⟩ := rd_of h
        refine ra_52 X hS i_60 e_v_59 dX12_run_306 ?_
        obtain ⟨u_61, e_u_61, i_62, h⟩ := wr_of h
        refine rs_107 X hS i_62 e_u_61 dX12_run_307 (fun H locs hS => ?_)
        refine lv_goto (tgt := 1519) hx hb dX12_run_308 (by decide) ?_
        exact b_run_1519 X hE hF hL hR_39 h hS (lv_sub hl [3, 4] rfl)
      have h := im e_57 h
      by_cases e_63 : v_51 = 3
      · have h := ip e_63 h
        refine lv_tableIn (off := 224) (tgt := 311) hx hb dX12_run_87 (by rw [e_63]; decide) (by rw [e_63]; decide) (by rw [e_63]; rfl) (by decide) ?_
        refine lv_aload_n hx hb dX12_run_311 rfl (lv_at hl 3 rfl) ?_
        refine rg_107 X hS dX12_run_312 ?_
        refine lv_aload_n hx hb dX12_run_315 rfl (lv_at hl 3 rfl) ?_
        refine lv_dup hx hb dX12_run_316 rfl ?_
        refine rg_112 X hS dX12_run_317 ?_
        refine lv_dup_x1 hx hb dX12_run_320 rfl rfl ?_
        refine lv_iconst (v := 1) hx hb dX12_run_321 (by decide) ?_
        refine lv_iadd hx hb dX12_run_322 ?_
        obtain ⟨u_64, e_u_64, h⟩ := pu_of h
        refine rp_112 X hS e_u_64 dX12_run_323 (fun H locs hS => ?_)
        refine lv_aload_n hx hb dX12_run_326 rfl (lv_at hl 3 rfl) ?_
        refine rg_104 X hS dX12_run_327 ?_
        refine lv_i2l (v := (u_64.1 104).toInt64) hx hb dX12_run_330 rfl ?_
        obtain ⟨u_65, e_u_65, i_66, h⟩ := wr_of h
        refine rs_107 X hS i_66 e_u_65 dX12_run_331 (fun H locs hS => ?_)
        refine lv_goto (tgt := 1519) hx hb dX12_run_332 (by decide) ?_
        exact b_run_1519 X hE hF hL hR_39 h hS (lv_sub hl [3, 4] rfl)
      have h := im e_63 h
      by_cases e_67 : v_51 = 10
      · have h := ip e_67 h
        refine lv_tableIn (off := 248) (tgt := 335) hx hb dX12_run_87 (by rw [e_67]; decide) (by rw [e_67]; decide) (by rw [e_67]; rfl) (by decide) ?_
        refine lv_aload_n hx hb dX12_run_335 rfl (lv_at hl 3 rfl) ?_
        refine rg_107 X hS dX12_run_336 ?_
        refine lv_aload_n hx hb dX12_run_339 rfl (lv_at hl 3 rfl) ?_
        refine lv_dup hx hb dX12_run_340 rfl ?_
        refine rg_112 X hS dX12_run_341 ?_
        refine lv_dup_x1 hx hb dX12_run_344 rfl rfl ?_
        refine lv_iconst (v := 1) hx hb dX12_run_345 (by decide) ?_
        refine lv_iadd hx hb dX12_run_346 ?_
        obtain ⟨u_68, e_u_68, h⟩ := pu_of h
        refine rp_112 X hS e_u_68 dX12_run_347 (fun H locs hS => ?_)
        refine lv_iload hx hb dX12_run_350 (lv_at hl 1 rfl) ?_
        refine lv_i2l (v := v_47.toInt64) hx hb dX12_run_352 rfl ?_
        obtain ⟨u_69, e_u_69, i_70, h⟩ := wr_of h
        refine rs_107 X hS i_70 e_u_69 dX12_run_353 (fun H locs hS => ?_)
        refine lv_goto (tgt := 1519) hx hb dX12_run_354 (by decide) ?_
        exact b_run_1519 X hE hF hL hR_39 h hS (lv_sub hl [3, 4] rfl)
      have h := im e_67 h
      by_cases e_71 : v_51 = 11
      · have h := ip e_71 h
        refine lv_tableIn (off := 270) (tgt := 357) hx hb dX12_run_87 (by rw [e_71]; decide) (by rw [e_71]; decide) (by rw [e_71]; rfl) (by decide) ?_
        refine lv_aload_n hx hb dX12_run_357 rfl (lv_at hl 3 rfl) ?_
        refine rg_107 X hS dX12_run_358 ?_
        refine lv_aload_n hx hb dX12_run_361 rfl (lv_at hl 3 rfl) ?_
        refine lv_dup hx hb dX12_run_362 rfl ?_
        refine rg_112 X hS dX12_run_363 ?_
        refine lv_dup_x1 hx hb dX12_run_366 rfl rfl ?_
        refine lv_iconst (v := 1) hx hb dX12_run_367 (by decide) ?_
        refine lv_iadd hx hb dX12_run_368 ?_
        obtain ⟨u_72, e_u_72, h⟩ := pu_of h
        refine rp_112 X hS e_u_72 dX12_run_369 (fun H locs hS => ?_)
        refine lv_aload_n hx hb dX12_run_372 rfl (lv_at hl 3 rfl) ?_
        refine rg_116 X hS dX12_run_373 ?_
        refine lv_iload hx hb dX12_run_376 (lv_at hl 1 rfl) ?_
        refine lv_iadd hx hb dX12_run_378 ?_
        refine lv_i2l (v := ((u_72.1 116) + v_47).toInt64) hx hb dX12_run_379 rfl ?_
        obtain ⟨u_73, e_u_73, i_74, h⟩ := wr_of h
        refine rs_107 X hS i_74 e_u_73 dX12_run_380 (fun H locs hS => ?_)
        refine lv_goto (tgt := 1519) hx hb dX12_run_381 (by decide) ?_
        exact b_run_1519 X hE hF hL hR_39 h hS (lv_sub hl [3, 4] rfl)
      have h := im e_71 h
      by_cases e_75 : v_51 = 12
      · have h := ip e_75 h
        refine lv_tableIn (off := 297) (tgt := 384) hx hb dX12_run_87 (by rw [e_75]; decide) (by rw [e_75]; decide) (by rw [e_75]; rfl) (by decide) ?_
        refine lv_aload_n hx hb dX12_run_384 rfl (lv_at hl 3 rfl) ?_
        refine rg_107 X hS dX12_run_385 ?_
        refine lv_aload_n hx hb dX12_run_388 rfl (lv_at hl 3 rfl) ?_
        refine lv_dup hx hb dX12_run_389 rfl ?_
        refine rg_112 X hS dX12_run_390 ?_
        refine lv_dup_x1 hx hb dX12_run_393 rfl rfl ?_
        refine lv_iconst (v := 1) hx hb dX12_run_394 (by decide) ?_
        refine lv_iadd hx hb dX12_run_395 ?_
        obtain ⟨u_76, e_u_76, h⟩ := pu_of h
        refine rp_112 X hS e_u_76 dX12_run_396 (fun H locs hS => ?_)
        refine lv_aload_n hx hb dX12_run_399 rfl (lv_at hl 3 rfl) ?_
        refine rg_115 X hS dX12_run_400 ?_
        refine lv_iload hx hb dX12_run_403 (lv_at hl 1 rfl) ?_
        refine lv_iadd hx hb dX12_run_405 ?_
        refine lv_i2l (v := ((u_76.1 115) + v_47).toInt64) hx hb dX12_run_406 rfl ?_
        obtain ⟨u_77, e_u_77, i_78, h⟩ := wr_of h
        refine rs_107 X hS i_78 e_u_77 dX12_run_407 (fun H locs hS => ?_)
        refine lv_goto (tgt := 1519) hx hb dX12_run_408 (by decide) ?_
        exact b_run_1519 X hE hF hL hR_39 h hS (lv_sub hl [3, 4] rfl)
      have h := im e_75 h
      by_cases e_79 : v_51 = 14
      · have h := ip e_79 h
        refine lv_tableIn (off := 324) (tgt := 411) hx hb dX12_run_87 (by rw [e_79]; decide) (by rw [e_79]; decide) (by rw [e_79]; rfl) (by decide) ?_
        refine lv_aload_n hx hb dX12_run_411 rfl (lv_at hl 3 rfl) ?_
        refine rg_107 X hS dX12_run_412 ?_
        refine lv_aload_n hx hb dX12_run_415 rfl (lv_at hl 3 rfl) ?_
        refine rg_112 X hS dX12_run_416 ?_
        refine lv_iconst (v := 2) hx hb dX12_run_419 (by decide) ?_
        refine lv_isub hx hb dX12_run_420 ?_
        refine lv_dup2_11 hx hb dX12_run_421 rfl rfl ?_
        obtain ⟨v_80, e_v_80, i_81, h⟩ := rd_of h
        refine ra_107 X hS i_81 e_v_80 dX12_run_422 ?_
        refine lv_aload_n hx hb dX12_run_423 rfl (lv_at hl 3 rfl) ?_
        refine rg_107 X hS dX12_run_424 ?_
        refine lv_aload_n hx hb dX12_run_427 rfl (lv_at hl 3 rfl) ?_
        refine rg_112 X hS dX12_run_428 ?_
        refine lv_iconst (v := 1) hx hb dX12_run_431 (by decide) ?_
        refine lv_isub hx hb dX12_run_432 ?_
        obtain ⟨v_82, e_v_82, i_83, h⟩ := rd_of h
        refine ra_107 X hS i_83 e_v_82 dX12_run_433 ?_
        refine lv_ladd hx hb dX12_run_434 ?_
        obtain ⟨u_84, e_u_84, i_85, h⟩ := wr_of h
        refine rs_107 X hS i_85 e_u_84 dX12_run_435 (fun H locs hS => ?_)
        refine lv_aload_n hx hb dX12_run_436 rfl (lv_at hl 3 rfl) ?_
        refine lv_dup hx hb dX12_run_437 rfl ?_
        refine rg_112 X hS dX12_run_438 ?_
        refine lv_iconst (v := 1) hx hb dX12_run_441 (by decide) ?_
        refine lv_isub hx hb dX12_run_442 ?_
        obtain ⟨u_86, e_u_86, h⟩ := pu_of h
        refine rp_112 X hS e_u_86 dX12_run_443 (fun H locs hS => ?_)
        refine lv_goto (tgt := 1519) hx hb dX12_run_446 (by decide) ?_
        exact b_run_1519 X hE hF hL hR_39 h hS (lv_sub hl [3, 4] rfl)
      have h := im e_79 h
      by_cases e_87 : v_51 = 15
      · have h := ip e_87 h
        refine lv_tableIn (off := 362) (tgt := 449) hx hb dX12_run_87 (by rw [e_87]; decide) (by rw [e_87]; decide) (by rw [e_87]; rfl) (by decide) ?_
        refine lv_aload_n hx hb dX12_run_449 rfl (lv_at hl 3 rfl) ?_
        refine rg_107 X hS dX12_run_450 ?_
        refine lv_aload_n hx hb dX12_run_453 rfl (lv_at hl 3 rfl) ?_
        refine rg_112 X hS dX12_run_454 ?_
        refine lv_iconst (v := 1) hx hb dX12_run_457 (by decide) ?_
        refine lv_isub hx hb dX12_run_458 ?_
        obtain ⟨v_88, e_v_88, i_89, h⟩ := rd_of h
        refine ra_107 X hS i_89 e_v_88 dX12_run_459 ?_
        refine lv_lconst (v := 0) hx hb dX12_run_460 (by decide) ?_
        refine W.lcmp hx hb dX12_run_461 ?_
        refine lv_if_lt (tgt := 483) hx hb dX12_run_462 (by decide) (fun c_90 => ?_) (fun c_90 => ?_)
        · have h := ip ((lg_cmp_lt _ _).mp c_90) h
          exact b_run_483 X hE hF hL hR_39 h hS (lv_sub hl [3, 4, 0] rfl)
        · have h := im (mt (lg_cmp_lt _ _).mpr c_90) h
          refine lv_aload_n hx hb dX12_run_465 rfl (lv_at hl 3 rfl) ?_
          refine rg_107 X hS dX12_run_466 ?_
          refine lv_aload_n hx hb dX12_run_469 rfl (lv_at hl 3 rfl) ?_
          refine rg_112 X hS dX12_run_470 ?_
          refine lv_iconst (v := 1) hx hb dX12_run_473 (by decide) ?_
          refine lv_isub hx hb dX12_run_474 ?_
          obtain ⟨v_91, e_v_91, i_92, h⟩ := rd_of h
          refine ra_107 X hS i_92 e_v_91 dX12_run_475 ?_
          refine lv_iload hx hb dX12_run_476 (lv_at hl 1 rfl) ?_
          refine lv_i2l (v := v_47.toInt64) hx hb dX12_run_478 rfl ?_
          refine W.lcmp hx hb dX12_run_479 ?_
          refine lv_if_lt (tgt := 1519) hx hb dX12_run_480 (by decide) (fun c_93 => ?_) (fun c_93 => ?_)
          · have h := ip ((lg_cmp_lt _ _).mp c_93) h
            exact b_run_1519 X hE hF hL hR_39 h hS (lv_sub hl [3, 4] rfl)
          · have h := im (mt (lg_cmp_lt _ _).mpr c_93) h
            exact b_run_483 X hE hF hL hR_39 h hS (lv_sub hl [3, 4, 0] rfl)
      have h := im e_87 h
      by_cases e_94 : v_51 = 16
      · have h := ip e_94 h
        refine lv_tableIn (off := 406) (tgt := 493) hx hb dX12_run_87 (by rw [e_94]; decide) (by rw [e_94]; decide) (by rw [e_94]; rfl) (by decide) ?_
        refine lv_aload_n hx hb dX12_run_493 rfl (lv_at hl 3 rfl) ?_
        refine rg_107 X hS dX12_run_494 ?_
        refine lv_aload_n hx hb dX12_run_497 rfl (lv_at hl 3 rfl) ?_
        refine rg_112 X hS dX12_run_498 ?_
        refine lv_iconst (v := 1) hx hb dX12_run_501 (by decide) ?_
        refine lv_isub hx hb dX12_run_502 ?_
        refine lv_aload_n hx hb dX12_run_503 rfl (lv_at hl 3 rfl) ?_
        refine lv_aload_n hx hb dX12_run_504 rfl (lv_at hl 3 rfl) ?_
        refine rg_107 X hS dX12_run_505 ?_
        refine lv_aload_n hx hb dX12_run_508 rfl (lv_at hl 3 rfl) ?_
        refine rg_112 X hS dX12_run_509 ?_
        refine lv_iconst (v := 1) hx hb dX12_run_512 (by decide) ?_
        refine lv_isub hx hb dX12_run_513 ?_
        obtain ⟨v_95, e_v_95, i_96, h⟩ := rd_of h
        refine ra_107 X hS i_96 e_v_95 dX12_run_514 ?_
        refine lv_l2i (v := v_95.toInt32) hx hb dX12_run_515 rfl ?_
        refine lv_iload hx hb dX12_run_516 (lv_at hl 1 rfl) ?_
        obtain ⟨r_98, u_97, h_u_97, h⟩ := bn_of h
        refine kc_read X hS h_u_97 (Nat.le_trans (Nat.le_of_ble_eq_true rfl) hF) (Nat.le_trans (Nat.le_of_ble_eq_true rfl) hL) hl.1 (Nat.le_of_ble_eq_true rfl) dX12_run_518 (fun H locs hS => ?_)
        obtain ⟨u_99, e_u_99, i_100, h⟩ := wr_of h
        refine rs_107 X hS i_100 e_u_99 dX12_run_521 (fun H locs hS => ?_)
        refine lv_goto (tgt := 1519) hx hb dX12_run_522 (by decide) ?_
        exact b_run_1519 X hE hF hL hR_39 h hS (lv_sub hl [3, 4] rfl)
      have h := im e_94 h
      by_cases e_101 : v_51 = 17
      · have h := ip e_101 h
        refine lv_tableIn (off := 438) (tgt := 525) hx hb dX12_run_87 (by rw [e_101]; decide) (by rw [e_101]; decide) (by rw [e_101]; rfl) (by decide) ?_
        refine lv_aload_n hx hb dX12_run_525 rfl (lv_at hl 3 rfl) ?_
        refine rg_107 X hS dX12_run_526 ?_
        refine lv_aload_n hx hb dX12_run_529 rfl (lv_at hl 3 rfl) ?_
        refine rg_112 X hS dX12_run_530 ?_
        refine lv_aload_n hx hb dX12_run_533 rfl (lv_at hl 3 rfl) ?_
        refine lv_aload_n hx hb dX12_run_534 rfl (lv_at hl 3 rfl) ?_
        refine rg_107 X hS dX12_run_535 ?_
        refine lv_aload_n hx hb dX12_run_538 rfl (lv_at hl 3 rfl) ?_
        refine rg_112 X hS dX12_run_539 ?_
        refine lv_iconst (v := 1) hx hb dX12_run_542 (by decide) ?_
        refine lv_isub hx hb dX12_run_543 ?_
        obtain ⟨v_102, e_v_102, i_103, h⟩ := rd_of h
        refine ra_107 X hS i_103 e_v_102 dX12_run_544 ?_
        refine lv_l2i (v := v_102.toInt32) hx hb dX12_run_545 rfl ?_
        refine lv_iload hx hb dX12_run_546 (lv_at hl 1 rfl) ?_
        obtain ⟨r_105, u_104, h_u_104, h⟩ := bn_of h
        refine kc_read X hS h_u_104 (Nat.le_trans (Nat.le_of_ble_eq_true rfl) hF) (Nat.le_trans (Nat.le_of_ble_eq_true rfl) hL) hl.1 (Nat.le_of_ble_eq_true rfl) dX12_run_548 (fun H locs hS => ?_)
        obtain ⟨u_106, e_u_106, i_107, h⟩ := wr_of h
        refine rs_107 X hS i_107 e_u_106 dX12_run_551 (fun H locs hS => ?_)
        refine lv_aload_n hx hb dX12_run_552 rfl (lv_at hl 3 rfl) ?_
        refine lv_dup hx hb dX12_run_553 rfl ?_
        refine rg_112 X hS dX12_run_554 ?_
        refine lv_iconst (v := 1) hx hb dX12_run_557 (by decide) ?_
        refine lv_iadd hx hb dX12_run_558 ?_
        obtain ⟨u_108, e_u_108, h⟩ := pu_of h
        refine rp_112 X hS e_u_108 dX12_run_559 (fun H locs hS => ?_)
        refine lv_goto (tgt := 1519) hx hb dX12_run_562 (by decide) ?_
        exact b_run_1519 X hE hF hL hR_39 h hS (lv_sub hl [3, 4] rfl)
      have h := im e_101 h
      by_cases e_109 : v_51 = 18
      · have h := ip e_109 h
        refine lv_tableIn (off := 478) (tgt := 565) hx hb dX12_run_87 (by rw [e_109]; decide) (by rw [e_109]; decide) (by rw [e_109]; rfl) (by decide) ?_
        refine lv_aload_n hx hb dX12_run_565 rfl (lv_at hl 3 rfl) ?_
        refine lv_dup hx hb dX12_run_566 rfl ?_
        refine rg_112 X hS dX12_run_567 ?_
        refine lv_iconst (v := 2) hx hb dX12_run_570 (by decide) ?_
        refine lv_isub hx hb dX12_run_571 ?_
        obtain ⟨u_110, e_u_110, h⟩ := pu_of h
        refine rp_112 X hS e_u_110 dX12_run_572 (fun H locs hS => ?_)
        refine lv_aload_n hx hb dX12_run_575 rfl (lv_at hl 3 rfl) ?_
        refine lv_aload_n hx hb dX12_run_576 rfl (lv_at hl 3 rfl) ?_
        refine rg_107 X hS dX12_run_577 ?_
        refine lv_aload_n hx hb dX12_run_580 rfl (lv_at hl 3 rfl) ?_
        refine rg_112 X hS dX12_run_581 ?_
        obtain ⟨v_111, e_v_111, i_112, h⟩ := rd_of h
        refine ra_107 X hS i_112 e_v_111 dX12_run_584 ?_
        refine lv_l2i (v := v_111.toInt32) hx hb dX12_run_585 rfl ?_
        refine lv_iload hx hb dX12_run_586 (lv_at hl 1 rfl) ?_
        refine lv_aload_n hx hb dX12_run_588 rfl (lv_at hl 3 rfl) ?_
        refine rg_107 X hS dX12_run_589 ?_
        refine lv_aload_n hx hb dX12_run_592 rfl (lv_at hl 3 rfl) ?_
        refine rg_112 X hS dX12_run_593 ?_
        refine lv_iconst (v := 1) hx hb dX12_run_596 (by decide) ?_
        refine lv_iadd hx hb dX12_run_597 ?_
        obtain ⟨v_113, e_v_113, i_114, h⟩ := rd_of h
        refine ra_107 X hS i_114 e_v_113 dX12_run_598 ?_
        obtain ⟨r_u_115, u_115, h_u_115, h⟩ := bn_of h
        refine kc_write X hS h_u_115 (Nat.le_trans (Nat.le_of_ble_eq_true rfl) hF) (Nat.le_trans (Nat.le_of_ble_eq_true rfl) hL) hl.1 (Nat.le_of_ble_eq_true rfl) dX12_run_599 (fun H locs hS => ?_)
        refine lv_goto (tgt := 1519) hx hb dX12_run_602 (by decide) ?_
        exact b_run_1519 X hE hF hL hR_39 h hS (lv_sub hl [3, 4] rfl)
      have h := im e_109 h
      by_cases e_116 : v_51 = 19
      · have h := ip e_116 h
        refine lv_tableIn (off := 518) (tgt := 605) hx hb dX12_run_87 (by rw [e_116]; decide) (by rw [e_116]; decide) (by rw [e_116]; rfl) (by decide) ?_
        refine lv_aload_n hx hb dX12_run_605 rfl (lv_at hl 3 rfl) ?_
        refine lv_dup hx hb dX12_run_606 rfl ?_
        refine rg_112 X hS dX12_run_607 ?_
        refine lv_iconst (v := 2) hx hb dX12_run_610 (by decide) ?_
        refine lv_isub hx hb dX12_run_611 ?_
        obtain ⟨u_117, e_u_117, h⟩ := pu_of h
        refine rp_112 X hS e_u_117 dX12_run_612 (fun H locs hS => ?_)
        refine lv_aload_n hx hb dX12_run_615 rfl (lv_at hl 3 rfl) ?_
        refine lv_aload_n hx hb dX12_run_616 rfl (lv_at hl 3 rfl) ?_
        refine rg_107 X hS dX12_run_617 ?_
        refine lv_aload_n hx hb dX12_run_620 rfl (lv_at hl 3 rfl) ?_
        refine rg_112 X hS dX12_run_621 ?_
        obtain ⟨v_118, e_v_118, i_119, h⟩ := rd_of h
        refine ra_107 X hS i_119 e_v_118 dX12_run_624 ?_
        refine lv_l2i (v := v_118.toInt32) hx hb dX12_run_625 rfl ?_
        refine lv_iload hx hb dX12_run_626 (lv_at hl 0 rfl) ?_
        obtain ⟨r_121, u_120, h_u_120, h⟩ := bn_of h
        refine kc_read X hS h_u_120 (Nat.le_trans (Nat.le_of_ble_eq_true rfl) hF) (Nat.le_trans (Nat.le_of_ble_eq_true rfl) hL) hl.1 (Nat.le_of_ble_eq_true rfl) dX12_run_628 (fun H locs hS => ?_)
        refine lv_lstore (lv' := [(6, .long r_121), (5, .int v_49), (4, .int v_47), (3, .int (u.1 113)), (0, .ref (Z 200)), (2, .int l2)]) hx hb dX12_run_631 hl (by decide) rfl (fun ls hl => ?_)
        refine lv_aload_n hx hb dX12_run_633 rfl (lv_at hl 4 rfl) ?_
        refine lv_aload_n hx hb dX12_run_634 rfl (lv_at hl 4 rfl) ?_
        refine rg_107 X hS dX12_run_635 ?_
        refine lv_aload_n hx hb dX12_run_638 rfl (lv_at hl 4 rfl) ?_
        refine rg_112 X hS dX12_run_639 ?_
        obtain ⟨v_122, e_v_122, i_123, h⟩ := rd_of h
        refine ra_107 X hS i_123 e_v_122 dX12_run_642 ?_
        refine lv_l2i (v := v_122.toInt32) hx hb dX12_run_643 rfl ?_
        refine lv_iload hx hb dX12_run_644 (lv_at hl 1 rfl) ?_
        refine lv_aload_n hx hb dX12_run_646 rfl (lv_at hl 4 rfl) ?_
        refine rg_107 X hS dX12_run_647 ?_
        refine lv_aload_n hx hb dX12_run_650 rfl (lv_at hl 4 rfl) ?_
        refine rg_112 X hS dX12_run_651 ?_
        refine lv_iconst (v := 1) hx hb dX12_run_654 (by decide) ?_
        refine lv_iadd hx hb dX12_run_655 ?_
        obtain ⟨v_124, e_v_124, i_125, h⟩ := rd_of h
        refine ra_107 X hS i_125 e_v_124 dX12_run_656 ?_
        refine lv_lconst (v := 1) hx hb dX12_run_657 (by decide) ?_
        refine lv_land hx hb dX12_run_658 ?_
        refine lv_lconst (v := 1) hx hb dX12_run_659 (by decide) ?_
        refine W.lcmp hx hb dX12_run_660 ?_
        refine lv_if_ne (tgt := 674) hx hb dX12_run_661 (by decide) (fun c_126 => ?_) (fun c_126 => ?_)
        · have h := im (mt (lg_cmp_eq _ _).mpr c_126) h
          refine lv_lload hx hb dX12_run_674 (lv_at hl 0 rfl) ?_
          refine lv_lconst (v := 1) hx hb dX12_run_676 (by decide) ?_
          refine lv_iload hx hb dX12_run_677 (lv_at hl 2 rfl) ?_
          refine lv_lshl (v := (1 : Int64) <<< (v_47.toInt64 &&& 63)) hx hb dX12_run_679 rfl ?_
          refine lv_ldc2 (v := -1) hx hb hown (hG _ gw_2636) dX12_run_680 ?_
          refine lv_lxor hx hb dX12_run_683 ?_
          refine lv_land hx hb dX12_run_684 ?_
          exact b_run_685 X hE hF hL hR_39 h hS (lv_sub hl [4, 5] rfl)
        · have h := ip ((lg_cmp_eq _ _).mp c_126) h
          refine lv_lload hx hb dX12_run_664 (lv_at hl 0 rfl) ?_
          refine lv_lconst (v := 1) hx hb dX12_run_666 (by decide) ?_
          refine lv_iload hx hb dX12_run_667 (lv_at hl 2 rfl) ?_
          refine lv_lshl (v := (1 : Int64) <<< (v_47.toInt64 &&& 63)) hx hb dX12_run_669 rfl ?_
          refine lv_lor hx hb dX12_run_670 ?_
          refine lv_goto (tgt := 685) hx hb dX12_run_671 (by decide) ?_
          exact b_run_685 X hE hF hL hR_39 h hS (lv_sub hl [4, 5] rfl)
      have h := im e_116 h
      by_cases e_127 : v_51 = 20
      · have h := ip e_127 h
        refine lv_tableIn (off := 604) (tgt := 691) hx hb dX12_run_87 (by rw [e_127]; decide) (by rw [e_127]; decide) (by rw [e_127]; rfl) (by decide) ?_
        refine lv_aload_n hx hb dX12_run_691 rfl (lv_at hl 3 rfl) ?_
        refine rg_107 X hS dX12_run_692 ?_
        refine lv_aload_n hx hb dX12_run_695 rfl (lv_at hl 3 rfl) ?_
        refine rg_112 X hS dX12_run_696 ?_
        refine lv_iconst (v := 1) hx hb dX12_run_699 (by decide) ?_
        refine lv_isub hx hb dX12_run_700 ?_
        refine lv_aload_n hx hb dX12_run_701 rfl (lv_at hl 3 rfl) ?_
        refine rg_107 X hS dX12_run_702 ?_
        refine lv_aload_n hx hb dX12_run_705 rfl (lv_at hl 3 rfl) ?_
        refine rg_112 X hS dX12_run_706 ?_
        refine lv_iconst (v := 1) hx hb dX12_run_709 (by decide) ?_
        refine lv_isub hx hb dX12_run_710 ?_
        obtain ⟨v_128, e_v_128, i_129, h⟩ := rd_of h
        refine ra_107 X hS i_129 e_v_128 dX12_run_711 ?_
        refine lv_iload hx hb dX12_run_712 (lv_at hl 1 rfl) ?_
        refine lv_lshr (v := v_128 >>> (v_47.toInt64 &&& 63)) hx hb dX12_run_714 rfl ?_
        refine lv_lconst (v := 1) hx hb dX12_run_715 (by decide) ?_
        refine lv_land hx hb dX12_run_716 ?_
        obtain ⟨u_130, e_u_130, i_131, h⟩ := wr_of h
        refine rs_107 X hS i_131 e_u_130 dX12_run_717 (fun H locs hS => ?_)
        refine lv_goto (tgt := 1519) hx hb dX12_run_718 (by decide) ?_
        exact b_run_1519 X hE hF hL hR_39 h hS (lv_sub hl [3, 4] rfl)
      have h := im e_127 h
      by_cases e_132 : v_51 = 21
      · have h := ip e_132 h
        refine lv_tableIn (off := 634) (tgt := 721) hx hb dX12_run_87 (by rw [e_132]; decide) (by rw [e_132]; decide) (by rw [e_132]; rfl) (by decide) ?_
        refine lv_aload_n hx hb dX12_run_721 rfl (lv_at hl 3 rfl) ?_
        refine lv_dup hx hb dX12_run_722 rfl ?_
        refine rg_112 X hS dX12_run_723 ?_
        refine lv_iconst (v := 1) hx hb dX12_run_726 (by decide) ?_
        refine lv_isub hx hb dX12_run_727 ?_
        obtain ⟨u_133, e_u_133, h⟩ := pu_of h
        refine rp_112 X hS e_u_133 dX12_run_728 (fun H locs hS => ?_)
        refine lv_iload hx hb dX12_run_731 (lv_at hl 1 rfl) ?_
        refine lv_sipush (v := 243) hx hb dX12_run_733 (by decide) ?_
        refine lv_icmp_eq (tgt := 747) hx hb dX12_run_736 (by decide) (fun c_134 => ?_) (fun c_134 => ?_)
        · have h := ip (c_134) h
          exact b_run_747 X hE hF hL hR_39 h hS (lv_sub hl [3, 4, 2, 1, 0] rfl)
        · have h := im (c_134) h
          refine lv_iload hx hb dX12_run_739 (lv_at hl 1 rfl) ?_
          refine lv_sipush (v := 244) hx hb dX12_run_741 (by decide) ?_
          refine lv_icmp_ne (tgt := 771) hx hb dX12_run_744 (by decide) (fun c_135 => ?_) (fun c_135 => ?_)
          · have h := im (c_135) h
            exact b_run_771 X hE hF hL hR_39 h hS (lv_sub hl [3, 4, 2, 1] rfl)
          · have h := ip (c_135) h
            exact b_run_747 X hE hF hL hR_39 h hS (lv_sub hl [3, 4, 2, 1, 0] rfl)
      have h := im e_132 h
      by_cases e_136 : v_51 = 22
      · have h := ip e_136 h
        refine lv_tableIn (off := 739) (tgt := 826) hx hb dX12_run_87 (by rw [e_136]; decide) (by rw [e_136]; decide) (by rw [e_136]; rfl) (by decide) ?_
        refine lv_aload_n hx hb dX12_run_826 rfl (lv_at hl 3 rfl) ?_
        refine rg_107 X hS dX12_run_827 ?_
        refine lv_aload_n hx hb dX12_run_830 rfl (lv_at hl 3 rfl) ?_
        refine rg_112 X hS dX12_run_831 ?_
        refine lv_iconst (v := 1) hx hb dX12_run_834 (by decide) ?_
        refine lv_isub hx hb dX12_run_835 ?_
        refine lv_iload hx hb dX12_run_836 (lv_at hl 1 rfl) ?_
        refine lv_iconst (v := 1) hx hb dX12_run_838 (by decide) ?_
        refine lv_icmp_ne (tgt := 846) hx hb dX12_run_839 (by decide) (fun c_137 => ?_) (fun c_137 => ?_)
        · have h := im (c_137) h
          refine lv_iconst (v := 0) hx hb dX12_run_846 (by decide) ?_
          exact b_run_847 X hE hF hL hR_39 h hS (lv_sub hl [3, 4] rfl)
        · have h := ip (c_137) h
          refine lv_iconst (v := 1) hx hb dX12_run_842 (by decide) ?_
          refine lv_goto (tgt := 847) hx hb dX12_run_843 (by decide) ?_
          exact b_run_847 X hE hF hL hR_39 h hS (lv_sub hl [3, 4] rfl)
      have h := im e_136 h
      by_cases e_138 : v_51 = 23
      · have h := ip e_138 h
        refine lv_tableIn (off := 779) (tgt := 866) hx hb dX12_run_87 (by rw [e_138]; decide) (by rw [e_138]; decide) (by rw [e_138]; rfl) (by decide) ?_
        refine lv_aload_n hx hb dX12_run_866 rfl (lv_at hl 3 rfl) ?_
        refine rg_107 X hS dX12_run_867 ?_
        refine lv_aload_n hx hb dX12_run_870 rfl (lv_at hl 3 rfl) ?_
        refine rg_112 X hS dX12_run_871 ?_
        refine lv_iconst (v := 1) hx hb dX12_run_874 (by decide) ?_
        refine lv_isub hx hb dX12_run_875 ?_
        refine lv_aload_n hx hb dX12_run_876 rfl (lv_at hl 3 rfl) ?_
        refine rg_107 X hS dX12_run_877 ?_
        refine lv_aload_n hx hb dX12_run_880 rfl (lv_at hl 3 rfl) ?_
        refine rg_112 X hS dX12_run_881 ?_
        refine lv_iconst (v := 1) hx hb dX12_run_884 (by decide) ?_
        refine lv_isub hx hb dX12_run_885 ?_
        obtain ⟨v_139, e_v_139, i_140, h⟩ := rd_of h
        refine ra_107 X hS i_140 e_v_139 dX12_run_886 ?_
        refine lv_ldc2 (v := -1) hx hb hown (hG _ gw_2636) dX12_run_887 ?_
        refine lv_lxor hx hb dX12_run_890 ?_
        obtain ⟨u_141, e_u_141, i_142, h⟩ := wr_of h
        refine rs_107 X hS i_142 e_u_141 dX12_run_891 (fun H locs hS => ?_)
        refine lv_goto (tgt := 1519) hx hb dX12_run_892 (by decide) ?_
        exact b_run_1519 X hE hF hL hR_39 h hS (lv_sub hl [3, 4] rfl)
      have h := im e_138 h
      by_cases e_143 : v_51 = 24
      · have h := ip e_143 h
        refine lv_tableIn (off := 808) (tgt := 895) hx hb dX12_run_87 (by rw [e_143]; decide) (by rw [e_143]; decide) (by rw [e_143]; rfl) (by decide) ?_
        refine lv_aload_n hx hb dX12_run_895 rfl (lv_at hl 3 rfl) ?_
        refine rg_107 X hS dX12_run_896 ?_
        refine lv_aload_n hx hb dX12_run_899 rfl (lv_at hl 3 rfl) ?_
        refine rg_112 X hS dX12_run_900 ?_
        refine lv_iconst (v := 1) hx hb dX12_run_903 (by decide) ?_
        refine lv_isub hx hb dX12_run_904 ?_
        refine lv_aload_n hx hb dX12_run_905 rfl (lv_at hl 3 rfl) ?_
        refine rg_107 X hS dX12_run_906 ?_
        refine lv_aload_n hx hb dX12_run_909 rfl (lv_at hl 3 rfl) ?_
        refine rg_112 X hS dX12_run_910 ?_
        refine lv_iconst (v := 1) hx hb dX12_run_913 (by decide) ?_
        refine lv_isub hx hb dX12_run_914 ?_
        obtain ⟨v_144, e_v_144, i_145, h⟩ := rd_of h
        refine ra_107 X hS i_145 e_v_144 dX12_run_915 ?_
        refine lv_lconst (v := 0) hx hb dX12_run_916 (by decide) ?_
        refine W.lcmp hx hb dX12_run_917 ?_
        refine lv_if_ne (tgt := 925) hx hb dX12_run_918 (by decide) (fun c_146 => ?_) (fun c_146 => ?_)
        · have h := im (mt (lg_cmp_eq _ _).mpr c_146) h
          refine lv_lconst (v := 0) hx hb dX12_run_925 (by decide) ?_
          exact b_run_926 X hE hF hL hR_39 h hS (lv_sub hl [3, 4] rfl)
        · have h := ip ((lg_cmp_eq _ _).mp c_146) h
          refine lv_lconst (v := 1) hx hb dX12_run_921 (by decide) ?_
          refine lv_goto (tgt := 926) hx hb dX12_run_922 (by decide) ?_
          exact b_run_926 X hE hF hL hR_39 h hS (lv_sub hl [3, 4] rfl)
      have h := im e_143 h
      by_cases e_147 : v_51 = 25
      · have h := ip e_147 h
        refine lv_tableIn (off := 843) (tgt := 930) hx hb dX12_run_87 (by rw [e_147]; decide) (by rw [e_147]; decide) (by rw [e_147]; rfl) (by decide) ?_
        refine lv_aload_n hx hb dX12_run_930 rfl (lv_at hl 3 rfl) ?_
        refine rg_107 X hS dX12_run_931 ?_
        refine lv_aload_n hx hb dX12_run_934 rfl (lv_at hl 3 rfl) ?_
        refine rg_112 X hS dX12_run_935 ?_
        refine lv_iconst (v := 1) hx hb dX12_run_938 (by decide) ?_
        refine lv_isub hx hb dX12_run_939 ?_
        refine lv_iload hx hb dX12_run_940 (lv_at hl 1 rfl) ?_
        refine lv_aload_n hx hb dX12_run_942 rfl (lv_at hl 3 rfl) ?_
        refine rg_107 X hS dX12_run_943 ?_
        refine lv_aload_n hx hb dX12_run_946 rfl (lv_at hl 3 rfl) ?_
        refine rg_112 X hS dX12_run_947 ?_
        refine lv_iconst (v := 1) hx hb dX12_run_950 (by decide) ?_
        refine lv_isub hx hb dX12_run_951 ?_
        obtain ⟨v_148, e_v_148, i_149, h⟩ := rd_of h
        refine ra_107 X hS i_149 e_v_148 dX12_run_952 ?_
        refine vp_callSl (W.runS (As := [.int v_47, .long v_148]) (rest := [.int ((u_46.1 112) - 1), .ref (Z 107)]) X.1 (c_X12_cutTo l v_47 v_148) (va_cwS 2 hts (gw_P gw_2399 gw_2400 gw_16 gwp_X12_cutTo) rfl rfl rfl (by decide +kernel) ⟨Nat.le_trans (Nat.le_of_ble_eq_true rfl) hF, Nat.le_trans (Nat.le_of_ble_eq_true rfl) hL⟩) ⟨fun _ _ _ _ q => q, fun _ _ _ => ⟨rfl, trivial⟩⟩ rfl rfl hl.1 rfl (lv_room (Nat.le_of_ble_eq_true rfl)) dX12_run_953 ⟨Nat.zero_le _, Nat.zero_le _⟩) (fun r_150 q_151 => ?_)
        subst q_151
        obtain ⟨u_152, e_u_152, i_153, h⟩ := wr_of h
        refine rs_107 X hS i_153 e_u_152 dX12_run_956 (fun H locs hS => ?_)
        refine lv_goto (tgt := 1519) hx hb dX12_run_957 (by decide) ?_
        exact b_run_1519 X hE hF hL hR_39 h hS (lv_sub hl [3, 4] rfl)
      have h := im e_147 h
      by_cases e_154 : v_51 = 26
      · have h := ip e_154 h
        refine lv_tableIn (off := 873) (tgt := 960) hx hb dX12_run_87 (by rw [e_154]; decide) (by rw [e_154]; decide) (by rw [e_154]; rfl) (by decide) ?_
        refine lv_aload_n hx hb dX12_run_960 rfl (lv_at hl 3 rfl) ?_
        refine lv_dup hx hb dX12_run_961 rfl ?_
        refine rg_112 X hS dX12_run_962 ?_
        refine lv_iconst (v := 1) hx hb dX12_run_965 (by decide) ?_
        refine lv_isub hx hb dX12_run_966 ?_
        obtain ⟨u_155, e_u_155, h⟩ := pu_of h
        refine rp_112 X hS e_u_155 dX12_run_967 (fun H locs hS => ?_)
        refine lv_aload_n hx hb dX12_run_970 rfl (lv_at hl 3 rfl) ?_
        refine rg_107 X hS dX12_run_971 ?_
        refine lv_aload_n hx hb dX12_run_974 rfl (lv_at hl 3 rfl) ?_
        refine rg_112 X hS dX12_run_975 ?_
        obtain ⟨v_156, e_v_156, i_157, h⟩ := rd_of h
        refine ra_107 X hS i_157 e_v_156 dX12_run_978 ?_
        refine lv_lconst (v := 0) hx hb dX12_run_979 (by decide) ?_
        refine W.lcmp hx hb dX12_run_980 ?_
        refine lv_if_ne (tgt := 1519) hx hb dX12_run_981 (by decide) (fun c_158 => ?_) (fun c_158 => ?_)
        · have h := im (mt (lg_cmp_eq _ _).mpr c_158) h
          exact b_run_1519 X hE hF hL hR_39 h hS (lv_sub hl [3, 4] rfl)
        · have h := ip ((lg_cmp_eq _ _).mp c_158) h
          refine lv_aload_n hx hb dX12_run_984 rfl (lv_at hl 3 rfl) ?_
          refine lv_iload hx hb dX12_run_985 (lv_at hl 1 rfl) ?_
          obtain ⟨u_159, e_u_159, h⟩ := pu_of h
          refine rp_113 X hS e_u_159 dX12_run_987 (fun H locs hS => ?_)
          refine lv_goto (tgt := 1519) hx hb dX12_run_990 (by decide) ?_
          exact b_run_1519 X hE hF hL hR_39 h hS (lv_sub hl [3, 4] rfl)
      have h := im e_154 h
      by_cases e_160 : v_51 = 27
      · have h := ip e_160 h
        refine lv_tableIn (off := 906) (tgt := 993) hx hb dX12_run_87 (by rw [e_160]; decide) (by rw [e_160]; decide) (by rw [e_160]; rfl) (by decide) ?_
        refine lv_aload_n hx hb dX12_run_993 rfl (lv_at hl 3 rfl) ?_
        refine lv_dup hx hb dX12_run_994 rfl ?_
        refine rg_112 X hS dX12_run_995 ?_
        refine lv_iconst (v := 1) hx hb dX12_run_998 (by decide) ?_
        refine lv_isub hx hb dX12_run_999 ?_
        obtain ⟨u_161, e_u_161, h⟩ := pu_of h
        refine rp_112 X hS e_u_161 dX12_run_1000 (fun H locs hS => ?_)
        refine lv_aload_n hx hb dX12_run_1003 rfl (lv_at hl 3 rfl) ?_
        refine rg_107 X hS dX12_run_1004 ?_
        refine lv_aload_n hx hb dX12_run_1007 rfl (lv_at hl 3 rfl) ?_
        refine rg_112 X hS dX12_run_1008 ?_
        obtain ⟨v_162, e_v_162, i_163, h⟩ := rd_of h
        refine ra_107 X hS i_163 e_v_162 dX12_run_1011 ?_
        refine lv_lconst (v := 0) hx hb dX12_run_1012 (by decide) ?_
        refine W.lcmp hx hb dX12_run_1013 ?_
        refine lv_if_eq (tgt := 1519) hx hb dX12_run_1014 (by decide) (fun c_164 => ?_) (fun c_164 => ?_)
        · have h := ip ((lg_cmp_eq _ _).mp c_164) h
          exact b_run_1519 X hE hF hL hR_39 h hS (lv_sub hl [3, 4] rfl)
        · have h := im (mt (lg_cmp_eq _ _).mpr c_164) h
          refine lv_aload_n hx hb dX12_run_1017 rfl (lv_at hl 3 rfl) ?_
          refine lv_iload hx hb dX12_run_1018 (lv_at hl 1 rfl) ?_
          obtain ⟨u_165, e_u_165, h⟩ := pu_of h
          refine rp_113 X hS e_u_165 dX12_run_1020 (fun H locs hS => ?_)
          refine lv_goto (tgt := 1519) hx hb dX12_run_1023 (by decide) ?_
          exact b_run_1519 X hE hF hL hR_39 h hS (lv_sub hl [3, 4] rfl)
      have h := im e_160 h
      by_cases e_166 : v_51 = 28
      · have h := ip e_166 h
        refine lv_tableIn (off := 939) (tgt := 1026) hx hb dX12_run_87 (by rw [e_166]; decide) (by rw [e_166]; decide) (by rw [e_166]; rfl) (by decide) ?_
        refine lv_aload_n hx hb dX12_run_1026 rfl (lv_at hl 3 rfl) ?_
        refine lv_iload hx hb dX12_run_1027 (lv_at hl 1 rfl) ?_
        obtain ⟨u_167, e_u_167, h⟩ := pu_of h
        refine rp_113 X hS e_u_167 dX12_run_1029 (fun H locs hS => ?_)
        refine lv_goto (tgt := 1519) hx hb dX12_run_1032 (by decide) ?_
        exact b_run_1519 X hE hF hL hR_39 h hS (lv_sub hl [3, 4] rfl)
      have h := im e_166 h
      by_cases e_168 : v_51 = 29
      · have h := ip e_168 h
        refine lv_tableIn (off := 948) (tgt := 1035) hx hb dX12_run_87 (by rw [e_168]; decide) (by rw [e_168]; decide) (by rw [e_168]; rfl) (by decide) ?_
        refine lv_aload_n hx hb dX12_run_1035 rfl (lv_at hl 3 rfl) ?_
        refine rg_107 X hS dX12_run_1036 ?_
        refine lv_aload_n hx hb dX12_run_1039 rfl (lv_at hl 3 rfl) ?_
        refine rg_112 X hS dX12_run_1040 ?_
        refine lv_iconst (v := 1) hx hb dX12_run_1043 (by decide) ?_
        refine lv_isub hx hb dX12_run_1044 ?_
        refine lv_aload_n hx hb dX12_run_1045 rfl (lv_at hl 3 rfl) ?_
        refine rg_107 X hS dX12_run_1046 ?_
        refine lv_aload_n hx hb dX12_run_1049 rfl (lv_at hl 3 rfl) ?_
        refine rg_112 X hS dX12_run_1050 ?_
        refine lv_iconst (v := 1) hx hb dX12_run_1053 (by decide) ?_
        refine lv_isub hx hb dX12_run_1054 ?_
        obtain ⟨v_169, e_v_169, i_170, h⟩ := rd_of h
        refine ra_107 X hS i_170 e_v_169 dX12_run_1055 ?_
        refine lv_lconst (v := 0) hx hb dX12_run_1056 (by decide) ?_
        refine W.lcmp hx hb dX12_run_1057 ?_
        refine lv_if_ne (tgt := 1065) hx hb dX12_run_1058 (by decide) (fun c_171 => ?_) (fun c_171 => ?_)
        · have h := im (mt (lg_cmp_eq _ _).mpr c_171) h
          refine lv_lconst (v := 1) hx hb dX12_run_1065 (by decide) ?_
          exact b_run_1066 X hE hF hL hR_39 h hS (lv_sub hl [3, 4] rfl)
        · have h := ip ((lg_cmp_eq _ _).mp c_171) h
          refine lv_lconst (v := 0) hx hb dX12_run_1061 (by decide) ?_
          refine lv_goto (tgt := 1066) hx hb dX12_run_1062 (by decide) ?_
          exact b_run_1066 X hE hF hL hR_39 h hS (lv_sub hl [3, 4] rfl)
      have h := im e_168 h
      by_cases e_172 : v_51 = 30
      · have h := ip e_172 h
        refine lv_tableIn (off := 983) (tgt := 1070) hx hb dX12_run_87 (by rw [e_172]; decide) (by rw [e_172]; decide) (by rw [e_172]; rfl) (by decide) ?_
        refine lv_iload hx hb dX12_run_1070 (lv_at hl 1 rfl) ?_
        refine lv_if_le (tgt := 1141) hx hb dX12_run_1072 (by decide) (fun c_173 => ?_) (fun c_173 => ?_)
        · have h := ip (c_173) h
          exact b_run_1141 X hE hF hL hR_39 h hS (lv_sub hl [3, 4, 1, 0] rfl)
        · have h := im (c_173) h
          refine lv_iload hx hb dX12_run_1075 (lv_at hl 1 rfl) ?_
          refine lv_iconst (v := 5) hx hb dX12_run_1077 (by decide) ?_
          refine lv_icmp_ge (tgt := 1141) hx hb dX12_run_1078 (by decide) (fun c_174 => ?_) (fun c_174 => ?_)
          · have h := ip (c_174) h
            exact b_run_1141 X hE hF hL hR_39 h hS (lv_sub hl [3, 4, 1, 0] rfl)
          · have h := im (c_174) h
            refine lv_aload_n hx hb dX12_run_1081 rfl (lv_at hl 3 rfl) ?_
            refine lv_dup hx hb dX12_run_1082 rfl ?_
            refine rg_112 X hS dX12_run_1083 ?_
            refine lv_iconst (v := 1) hx hb dX12_run_1086 (by decide) ?_
            refine lv_isub hx hb dX12_run_1087 ?_
            obtain ⟨u_175, e_u_175, h⟩ := pu_of h
            refine rp_112 X hS e_u_175 dX12_run_1088 (fun H locs hS => ?_)
            refine lv_aload_n hx hb dX12_run_1091 rfl (lv_at hl 3 rfl) ?_
            refine rg_107 X hS dX12_run_1092 ?_
            refine lv_aload_n hx hb dX12_run_1095 rfl (lv_at hl 3 rfl) ?_
            refine rg_112 X hS dX12_run_1096 ?_
            refine lv_iconst (v := 1) hx hb dX12_run_1099 (by decide) ?_
            refine lv_isub hx hb dX12_run_1100 ?_
            refine lv_iload hx hb dX12_run_1101 (lv_at hl 1 rfl) ?_
            refine lv_iload hx hb dX12_run_1103 (lv_at hl 0 rfl) ?_
            refine lv_iconst (v := 1) hx hb dX12_run_1105 (by decide) ?_
            refine lv_icmp_ne (tgt := 1113) hx hb dX12_run_1106 (by decide) (fun c_176 => ?_) (fun c_176 => ?_)
            · have h := im (c_176) h
              refine lv_iconst (v := 0) hx hb dX12_run_1113 (by decide) ?_
              exact b_run_1114 X hE hF hL hR_39 h hS (lv_sub hl [3, 4] rfl)
            · have h := ip (c_176) h
              refine lv_iconst (v := 1) hx hb dX12_run_1109 (by decide) ?_
              refine lv_goto (tgt := 1114) hx hb dX12_run_1110 (by decide) ?_
              exact b_run_1114 X hE hF hL hR_39 h hS (lv_sub hl [3, 4] rfl)
      have h := im e_172 h
      by_cases e_177 : v_51 = 31
      · have h := ip e_177 h
        refine lv_tableIn (off := 1096) (tgt := 1183) hx hb dX12_run_87 (by rw [e_177]; decide) (by rw [e_177]; decide) (by rw [e_177]; rfl) (by decide) ?_
        refine lv_aload_n hx hb dX12_run_1183 rfl (lv_at hl 3 rfl) ?_
        refine lv_iload hx hb dX12_run_1184 (lv_at hl 0 rfl) ?_
        obtain ⟨r_179, u_178, h_u_178, h⟩ := bn_of h
        refine kc_mayCall X hS h_u_178 (Nat.le_trans (Nat.le_of_ble_eq_true rfl) hF) (Nat.le_trans (Nat.le_of_ble_eq_true rfl) hL) hl.1 (Nat.le_of_ble_eq_true rfl) dX12_run_1186 (fun H locs hS => ?_)
        refine lv_if_eq (tgt := 1519) hx hb dX12_run_1189 (by decide) (fun c_180 => ?_) (fun c_180 => ?_)
        · have h := ip (c_180) h
          exact b_run_1519 X hE hF hL hR_39 h hS (lv_sub hl [3, 4] rfl)
        · have h := im (c_180) h
          refine lv_aload_n hx hb dX12_run_1192 rfl (lv_at hl 3 rfl) ?_
          refine lv_iload hx hb dX12_run_1193 (lv_at hl 1 rfl) ?_
          obtain ⟨r_u_181, u_181, h_u_181, h⟩ := bn_of h
          refine kc_enter X hS h_u_181 (Nat.le_trans (Nat.le_of_ble_eq_true rfl) hF) (Nat.le_trans (Nat.le_of_ble_eq_true rfl) hL) hl.1 (Nat.le_of_ble_eq_true rfl) dX12_run_1195 (fun H locs hS => ?_)
          refine lv_goto (tgt := 1519) hx hb dX12_run_1198 (by decide) ?_
          exact b_run_1519 X hE hF hL hR_39 h hS (lv_sub hl [3, 4] rfl)
      have h := im e_177 h
      by_cases e_182 : v_51 = 32
      · have h := ip e_182 h
        refine lv_tableIn (off := 1114) (tgt := 1201) hx hb dX12_run_87 (by rw [e_182]; decide) (by rw [e_182]; decide) (by rw [e_182]; rfl) (by decide) ?_
        refine lv_aload_n hx hb dX12_run_1201 rfl (lv_at hl 3 rfl) ?_
        refine lv_iload hx hb dX12_run_1202 (lv_at hl 0 rfl) ?_
        obtain ⟨r_184, u_183, h_u_183, h⟩ := bn_of h
        refine kc_mayCall X hS h_u_183 (Nat.le_trans (Nat.le_of_ble_eq_true rfl) hF) (Nat.le_trans (Nat.le_of_ble_eq_true rfl) hL) hl.1 (Nat.le_of_ble_eq_true rfl) dX12_run_1204 (fun H locs hS => ?_)
        refine lv_if_eq (tgt := 1519) hx hb dX12_run_1207 (by decide) (fun c_185 => ?_) (fun c_185 => ?_)
        · have h := ip (c_185) h
          exact b_run_1519 X hE hF hL hR_39 h hS (lv_sub hl [3, 4] rfl)
        · have h := im (c_185) h
          refine lv_aload_n hx hb dX12_run_1210 rfl (lv_at hl 3 rfl) ?_
          refine rg_111 X hS dX12_run_1211 ?_
          refine lv_aload_n hx hb dX12_run_1214 rfl (lv_at hl 3 rfl) ?_
          refine rg_114 X hS dX12_run_1215 ?_
          refine lv_aload_n hx hb dX12_run_1218 rfl (lv_at hl 3 rfl) ?_
          refine rg_112 X hS dX12_run_1219 ?_
          obtain ⟨u_186, e_u_186, i_187, h⟩ := wr_of h
          refine rs_111 X hS i_187 e_u_186 dX12_run_1222 (fun H locs hS => ?_)
          refine lv_aload_n hx hb dX12_run_1223 rfl (lv_at hl 3 rfl) ?_
          refine lv_dup hx hb dX12_run_1224 rfl ?_
          refine rg_114 X hS dX12_run_1225 ?_
          refine lv_iconst (v := 1) hx hb dX12_run_1228 (by decide) ?_
          refine lv_iadd hx hb dX12_run_1229 ?_
          obtain ⟨u_188, e_u_188, h⟩ := pu_of h
          refine rp_114 X hS e_u_188 dX12_run_1230 (fun H locs hS => ?_)
          refine lv_aload_n hx hb dX12_run_1233 rfl (lv_at hl 3 rfl) ?_
          refine lv_aload_n hx hb dX12_run_1234 rfl (lv_at hl 3 rfl) ?_
          refine rg_39 X hS dX12_run_1235 ?_
          refine lv_iload hx hb dX12_run_1238 (lv_at hl 1 rfl) ?_
          obtain ⟨v_189, e_v_189, i_190, h⟩ := rd_of h
          refine ra_39 X hS i_190 e_v_189 dX12_run_1240 ?_
          obtain ⟨u_191, e_u_191, h⟩ := pu_of h
          refine rp_116 X hS e_u_191 dX12_run_1241 (fun H locs hS => ?_)
          refine lv_aload_n hx hb dX12_run_1244 rfl (lv_at hl 3 rfl) ?_
          refine lv_aload_n hx hb dX12_run_1245 rfl (lv_at hl 3 rfl) ?_
          refine rg_32 X hS dX12_run_1246 ?_
          refine lv_aload_n hx hb dX12_run_1249 rfl (lv_at hl 3 rfl) ?_
          refine rg_38 X hS dX12_run_1250 ?_
          refine lv_iload hx hb dX12_run_1253 (lv_at hl 1 rfl) ?_
          obtain ⟨v_192, e_v_192, i_193, h⟩ := rd_of h
          refine ra_38 X hS i_193 e_v_192 dX12_run_1255 ?_
          obtain ⟨v_194, e_v_194, i_195, h⟩ := rd_of h
          refine ra_32 X hS i_195 e_v_194 dX12_run_1256 ?_
          obtain ⟨u_196, e_u_196, h⟩ := pu_of h
          refine rp_113 X hS e_u_196 dX12_run_1257 (fun H locs hS => ?_)
          refine lv_goto (tgt := 1519) hx hb dX12_run_1260 (by decide) ?_
          exact b_run_1519 X hE hF hL hR_39 h hS (lv_sub hl [3, 4] rfl)
      have h := im e_182 h
      by_cases e_197 : v_51 = 33
      · have h := ip e_197 h
        refine lv_tableIn (off := 1176) (tgt := 1263) hx hb dX12_run_87 (by rw [e_197]; decide) (by rw [e_197]; decide) (by rw [e_197]; rfl) (by decide) ?_
        refine lv_aload_n hx hb dX12_run_1263 rfl (lv_at hl 3 rfl) ?_
        refine rg_114 X hS dX12_run_1264 ?_
        refine lv_if_ne (tgt := 1275) hx hb dX12_run_1267 (by decide) (fun c_198 => ?_) (fun c_198 => ?_)
        · have h := im (c_198) h
          refine lv_aload_n hx hb dX12_run_1275 rfl (lv_at hl 3 rfl) ?_
          obtain ⟨r_u_199, u_199, h_u_199, h⟩ := bn_of h
          refine kc_leave X hS h_u_199 (Nat.le_trans (Nat.le_of_ble_eq_true rfl) hF) (Nat.le_trans (Nat.le_of_ble_eq_true rfl) hL) hl.1 (Nat.le_of_ble_eq_true rfl) dX12_run_1276 (fun H locs hS => ?_)
          refine lv_goto (tgt := 1519) hx hb dX12_run_1279 (by decide) ?_
          exact b_run_1519 X hE hF hL hR_39 h hS (lv_sub hl [3, 4] rfl)
        · have h := ip (c_198) h
          refine lv_iconst (v := 0) hx hb dX12_run_1270 (by decide) ?_
          refine lv_istore_n (lv' := [(2, .int 0), (5, .int v_49), (4, .int v_47), (3, .int (u.1 113)), (0, .ref (Z 200))]) hx hb dX12_run_1271 rfl hl (by decide) rfl (fun ls hl => ?_)
          refine lv_goto (tgt := 1519) hx hb dX12_run_1272 (by decide) ?_
          exact b_run_1519 X hE hF hL hR_39 h hS (lv_sub hl [4, 0] rfl)
      have h := im e_197 h
      by_cases e_200 : v_51 = 34
      · have h := ip e_200 h
        refine lv_tableIn (off := 1195) (tgt := 1282) hx hb dX12_run_87 (by rw [e_200]; decide) (by rw [e_200]; decide) (by rw [e_200]; rfl) (by decide) ?_
        refine lv_iload hx hb dX12_run_1282 (lv_at hl 1 rfl) ?_
        refine lv_aload_n hx hb dX12_run_1284 rfl (lv_at hl 3 rfl) ?_
        refine rg_107 X hS dX12_run_1285 ?_
        refine lv_aload_n hx hb dX12_run_1288 rfl (lv_at hl 3 rfl) ?_
        refine rg_112 X hS dX12_run_1289 ?_
        refine lv_iconst (v := 1) hx hb dX12_run_1292 (by decide) ?_
        refine lv_isub hx hb dX12_run_1293 ?_
        obtain ⟨v_201, e_v_201, i_202, h⟩ := rd_of h
        refine ra_107 X hS i_202 e_v_201 dX12_run_1294 ?_
        refine vp_callSl (W.runS (As := [.int v_47, .long v_201]) (rest := []) X.1 (c_X12_cutTo l v_47 v_201) (va_cwS 2 hts (gw_P gw_2399 gw_2400 gw_16 gwp_X12_cutTo) rfl rfl rfl (by decide +kernel) ⟨Nat.le_trans (Nat.le_of_ble_eq_true rfl) hF, Nat.le_trans (Nat.le_of_ble_eq_true rfl) hL⟩) ⟨fun _ _ _ _ q => q, fun _ _ _ => ⟨rfl, trivial⟩⟩ rfl rfl hl.1 rfl (lv_room (Nat.le_of_ble_eq_true rfl)) dX12_run_1295 ⟨Nat.zero_le _, Nat.zero_le _⟩) (fun r_203 q_204 => ?_)
        subst q_204
        refine lv_lstore (lv' := [(8, .long (r_cut v_47 v_201)), (5, .int v_49), (4, .int v_47), (3, .int (u.1 113)), (0, .ref (Z 200)), (2, .int l2)]) hx hb dX12_run_1298 hl (by decide) rfl (fun ls hl => ?_)
        refine lv_aload_n hx hb dX12_run_1300 rfl (lv_at hl 4 rfl) ?_
        obtain ⟨r_u_205, u_205, h_u_205, h⟩ := bn_of h
        refine kc_leave X hS h_u_205 (Nat.le_trans (Nat.le_of_ble_eq_true rfl) hF) (Nat.le_trans (Nat.le_of_ble_eq_true rfl) hL) hl.1 (Nat.le_of_ble_eq_true rfl) dX12_run_1301 (fun H locs hS => ?_)
        refine lv_aload_n hx hb dX12_run_1304 rfl (lv_at hl 4 rfl) ?_
        refine rg_107 X hS dX12_run_1305 ?_
        refine lv_aload_n hx hb dX12_run_1308 rfl (lv_at hl 4 rfl) ?_
        refine lv_dup hx hb dX12_run_1309 rfl ?_
        refine rg_112 X hS dX12_run_1310 ?_
        refine lv_dup_x1 hx hb dX12_run_1313 rfl rfl ?_
        refine lv_iconst (v := 1) hx hb dX12_run_1314 (by decide) ?_
        refine lv_iadd hx hb dX12_run_1315 ?_
        obtain ⟨u_206, e_u_206, h⟩ := pu_of h
        refine rp_112 X hS e_u_206 dX12_run_1316 (fun H locs hS => ?_)
        refine lv_lload hx hb dX12_run_1319 (lv_at hl 0 rfl) ?_
        obtain ⟨u_207, e_u_207, i_208, h⟩ := wr_of h
        refine rs_107 X hS i_208 e_u_207 dX12_run_1321 (fun H locs hS => ?_)
        refine lv_goto (tgt := 1519) hx hb dX12_run_1322 (by decide) ?_
        exact b_run_1519 X hE hF hL hR_39 h hS (lv_sub hl [4, 5] rfl)
      have h := im e_200 h
      by_cases e_209 : v_51 = 35
      · have h := ip e_209 h
        refine lv_tableIn (off := 1238) (tgt := 1325) hx hb dX12_run_87 (by rw [e_209]; decide) (by rw [e_209]; decide) (by rw [e_209]; rfl) (by decide) ?_
        refine lv_aload_n hx hb dX12_run_1325 rfl (lv_at hl 3 rfl) ?_
        refine lv_dup hx hb dX12_run_1326 rfl ?_
        refine rg_112 X hS dX12_run_1327 ?_
        refine lv_iconst (v := 1) hx hb dX12_run_1330 (by decide) ?_
        refine lv_isub hx hb dX12_run_1331 ?_
        obtain ⟨u_210, e_u_210, h⟩ := pu_of h
        refine rp_112 X hS e_u_210 dX12_run_1332 (fun H locs hS => ?_)
        refine lv_aload_n hx hb dX12_run_1335 rfl (lv_at hl 3 rfl) ?_
        refine lv_iconst (v := 3) hx hb dX12_run_1336 (by decide) ?_
        refine lv_aload_n hx hb dX12_run_1337 rfl (lv_at hl 3 rfl) ?_
        refine rg_107 X hS dX12_run_1338 ?_
        refine lv_aload_n hx hb dX12_run_1341 rfl (lv_at hl 3 rfl) ?_
        refine rg_112 X hS dX12_run_1342 ?_
        obtain ⟨v_211, e_v_211, i_212, h⟩ := rd_of h
        refine ra_107 X hS i_212 e_v_211 dX12_run_1345 ?_
        refine vp_callSl (W.runS (As := [.int 3, .long v_211]) (rest := [.ref (Z 200)]) X.1 (c_X12_cutTo l 3 v_211) (va_cwS 2 hts (gw_P gw_2399 gw_2400 gw_16 gwp_X12_cutTo) rfl rfl rfl (by decide +kernel) ⟨Nat.le_trans (Nat.le_of_ble_eq_true rfl) hF, Nat.le_trans (Nat.le_of_ble_eq_true rfl) hL⟩) ⟨fun _ _ _ _ q => q, fun _ _ _ => ⟨rfl, trivial⟩⟩ rfl rfl hl.1 rfl (lv_room (Nat.le_of_ble_eq_true rfl)) dX12_run_1346 ⟨Nat.zero_le _, Nat.zero_le _⟩) (fun r_213 q_214 => ?_)
        subst q_214
        obtain ⟨u_215, e_u_215, h⟩ := pu_of h
        refine rp_120 X hS e_u_215 dX12_run_1349 (fun H locs hS => ?_)
        refine lv_aload_n hx hb dX12_run_1352 rfl (lv_at hl 3 rfl) ?_
        refine lv_iconst (v := 5) hx hb dX12_run_1353 (by decide) ?_
        refine lv_iload hx hb dX12_run_1354 (lv_at hl 1 rfl) ?_
        obtain ⟨r_u_216, u_216, h_u_216, h⟩ := bn_of h
        refine kc_stops X hS h_u_216 (Nat.le_trans (Nat.le_of_ble_eq_true rfl) hF) (Nat.le_trans (Nat.le_of_ble_eq_true rfl) hL) hl.1 (Nat.le_of_ble_eq_true rfl) dX12_run_1356 (fun H locs hS => ?_)
        refine lv_goto (tgt := 1519) hx hb dX12_run_1359 (by decide) ?_
        exact b_run_1519 X hE hF hL hR_39 h hS (lv_sub hl [3, 4] rfl)
      have h := im e_209 h
      by_cases e_217 : v_51 = 36
      · have h := ip e_217 h
        refine lv_tableIn (off := 1275) (tgt := 1362) hx hb dX12_run_87 (by rw [e_217]; decide) (by rw [e_217]; decide) (by rw [e_217]; rfl) (by decide) ?_
        refine lv_aload_n hx hb dX12_run_1362 rfl (lv_at hl 3 rfl) ?_
        refine rg_107 X hS dX12_run_1363 ?_
        refine lv_aload_n hx hb dX12_run_1366 rfl (lv_at hl 3 rfl) ?_
        refine rg_112 X hS dX12_run_1367 ?_
        refine lv_iconst (v := 1) hx hb dX12_run_1370 (by decide) ?_
        refine lv_isub hx hb dX12_run_1371 ?_
        obtain ⟨v_218, e_v_218, i_219, h⟩ := rd_of h
        refine ra_107 X hS i_219 e_v_218 dX12_run_1372 ?_
        refine lv_aload_n hx hb dX12_run_1373 rfl (lv_at hl 3 rfl) ?_
        refine rg_52 X hS dX12_run_1374 ?_
        refine lv_iload_n hx hb dX12_run_1377 rfl (lv_at hl 2 rfl) ?_
        obtain ⟨v_220, e_v_220, i_221, h⟩ := rd_of h
        refine ra_52 X hS i_221 e_v_220 dX12_run_1378 ?_
        refine W.lcmp hx hb dX12_run_1379 ?_
        refine lv_if_lt (tgt := 1519) hx hb dX12_run_1380 (by decide) (fun c_222 => ?_) (fun c_222 => ?_)
        · have h := ip ((lg_cmp_lt _ _).mp c_222) h
          exact b_run_1519 X hE hF hL hR_39 h hS (lv_sub hl [3, 4] rfl)
        · have h := im (mt (lg_cmp_lt _ _).mpr c_222) h
          refine lv_aload_n hx hb dX12_run_1383 rfl (lv_at hl 3 rfl) ?_
          refine rg_107 X hS dX12_run_1384 ?_
          refine lv_aload_n hx hb dX12_run_1387 rfl (lv_at hl 3 rfl) ?_
          refine rg_112 X hS dX12_run_1388 ?_
          refine lv_iconst (v := 1) hx hb dX12_run_1391 (by decide) ?_
          refine lv_isub hx hb dX12_run_1392 ?_
          obtain ⟨v_223, e_v_223, i_224, h⟩ := rd_of h
          refine ra_107 X hS i_224 e_v_223 dX12_run_1393 ?_
          refine lv_aload_n hx hb dX12_run_1394 rfl (lv_at hl 3 rfl) ?_
          refine rg_53 X hS dX12_run_1395 ?_
          refine lv_iload_n hx hb dX12_run_1398 rfl (lv_at hl 2 rfl) ?_
          obtain ⟨v_225, e_v_225, i_226, h⟩ := rd_of h
          refine ra_53 X hS i_226 e_v_225 dX12_run_1399 ?_
          refine W.lcmp hx hb dX12_run_1400 ?_
          refine lv_if_gt (tgt := 1519) hx hb dX12_run_1401 (by decide) (fun c_227 => ?_) (fun c_227 => ?_)
          · have h := ip ((lg_cmp_gt _ _).mp c_227) h
            exact b_run_1519 X hE hF hL hR_39 h hS (lv_sub hl [3, 4] rfl)
          · have h := im (mt (lg_cmp_gt _ _).mpr c_227) h
            refine lv_aload_n hx hb dX12_run_1404 rfl (lv_at hl 3 rfl) ?_
            refine lv_dup hx hb dX12_run_1405 rfl ?_
            refine rg_112 X hS dX12_run_1406 ?_
            refine lv_iconst (v := 1) hx hb dX12_run_1409 (by decide) ?_
            refine lv_isub hx hb dX12_run_1410 ?_
            obtain ⟨u_228, e_u_228, h⟩ := pu_of h
            refine rp_112 X hS e_u_228 dX12_run_1411 (fun H locs hS => ?_)
            refine lv_aload_n hx hb dX12_run_1414 rfl (lv_at hl 3 rfl) ?_
            refine lv_iload hx hb dX12_run_1415 (lv_at hl 1 rfl) ?_
            obtain ⟨u_229, e_u_229, h⟩ := pu_of h
            refine rp_113 X hS e_u_229 dX12_run_1417 (fun H locs hS => ?_)
            refine lv_goto (tgt := 1519) hx hb dX12_run_1420 (by decide) ?_
            exact b_run_1519 X hE hF hL hR_39 h hS (lv_sub hl [3, 4] rfl)
      have h := im e_217 h
      by_cases e_230 : v_51 = 37
      · have h := ip e_230 h
        refine lv_tableIn (off := 1336) (tgt := 1423) hx hb dX12_run_87 (by rw [e_230]; decide) (by rw [e_230]; decide) (by rw [e_230]; rfl) (by decide) ?_
        refine lv_aload_n hx hb dX12_run_1423 rfl (lv_at hl 3 rfl) ?_
        refine lv_dup hx hb dX12_run_1424 rfl ?_
        refine rg_112 X hS dX12_run_1425 ?_
        refine lv_iconst (v := 1) hx hb dX12_run_1428 (by decide) ?_
        refine lv_isub hx hb dX12_run_1429 ?_
        obtain ⟨u_231, e_u_231, h⟩ := pu_of h
        refine rp_112 X hS e_u_231 dX12_run_1430 (fun H locs hS => ?_)
        refine lv_goto (tgt := 1519) hx hb dX12_run_1433 (by decide) ?_
        exact b_run_1519 X hE hF hL hR_39 h hS (lv_sub hl [3, 4] rfl)
      have h := im e_230 h
      by_cases e_232 : v_51 = 38
      · have h := ip e_232 h
        refine lv_tableIn (off := 1349) (tgt := 1436) hx hb dX12_run_87 (by rw [e_232]; decide) (by rw [e_232]; decide) (by rw [e_232]; rfl) (by decide) ?_
        refine lv_aload_n hx hb dX12_run_1436 rfl (lv_at hl 3 rfl) ?_
        refine lv_dup hx hb dX12_run_1437 rfl ?_
        refine rg_112 X hS dX12_run_1438 ?_
        refine lv_iconst (v := 1) hx hb dX12_run_1441 (by decide) ?_
        refine lv_isub hx hb dX12_run_1442 ?_
        obtain ⟨u_233, e_u_233, h⟩ := pu_of h
        refine rp_112 X hS e_u_233 dX12_run_1443 (fun H locs hS => ?_)
        refine lv_aload_n hx hb dX12_run_1446 rfl (lv_at hl 3 rfl) ?_
        refine rg_107 X hS dX12_run_1447 ?_
        refine lv_aload_n hx hb dX12_run_1450 rfl (lv_at hl 3 rfl) ?_
        refine rg_112 X hS dX12_run_1451 ?_
        obtain ⟨v_234, e_v_234, i_235, h⟩ := rd_of h
        refine ra_107 X hS i_235 e_v_234 dX12_run_1454 ?_
        refine lv_aload_n hx hb dX12_run_1455 rfl (lv_at hl 3 rfl) ?_
        refine rg_107 X hS dX12_run_1456 ?_
        refine lv_aload_n hx hb dX12_run_1459 rfl (lv_at hl 3 rfl) ?_
        refine rg_112 X hS dX12_run_1460 ?_
        refine lv_iconst (v := 1) hx hb dX12_run_1463 (by decide) ?_
        refine lv_isub hx hb dX12_run_1464 ?_
        obtain ⟨v_236, e_v_236, i_237, h⟩ := rd_of h
        refine ra_107 X hS i_237 e_v_236 dX12_run_1465 ?_
        refine W.lcmp hx hb dX12_run_1466 ?_
        refine lv_if_le (tgt := 1519) hx hb dX12_run_1467 (by decide) (fun c_238 => ?_) (fun c_238 => ?_)
        · have h := ip ((lg_cmp_le _ _).mp c_238) h
          exact b_run_1519 X hE hF hL hR_39 h hS (lv_sub hl [3, 4] rfl)
        · have h := im (mt (lg_cmp_le _ _).mpr c_238) h
          refine lv_aload_n hx hb dX12_run_1470 rfl (lv_at hl 3 rfl) ?_
          refine lv_iload hx hb dX12_run_1471 (lv_at hl 1 rfl) ?_
          obtain ⟨u_239, e_u_239, h⟩ := pu_of h
          refine rp_113 X hS e_u_239 dX12_run_1473 (fun H locs hS => ?_)
          refine lv_goto (tgt := 1519) hx hb dX12_run_1476 (by decide) ?_
          exact b_run_1519 X hE hF hL hR_39 h hS (lv_sub hl [3, 4] rfl)
      have h := im e_232 h
      refine lv_tableDef (tgt := 1479) hx hb dX12_run_87 (by decide) (fun off h1 h2 ho => by
        have hI : (v_51).toInt = 1 ∨ (v_51).toInt = 2 ∨ (v_51).toInt = 3 ∨ (v_51).toInt = 4 ∨ (v_51).toInt = 5 ∨ (v_51).toInt = 6 ∨ (v_51).toInt = 7 ∨ (v_51).toInt = 8 ∨ (v_51).toInt = 9 ∨ (v_51).toInt = 10 ∨ (v_51).toInt = 11 ∨ (v_51).toInt = 12 ∨ (v_51).toInt = 13 ∨ (v_51).toInt = 14 ∨ (v_51).toInt = 15 ∨ (v_51).toInt = 16 ∨ (v_51).toInt = 17 ∨ (v_51).toInt = 18 ∨ (v_51).toInt = 19 ∨ (v_51).toInt = 20 ∨ (v_51).toInt = 21 ∨ (v_51).toInt = 22 ∨ (v_51).toInt = 23 ∨ (v_51).toInt = 24 ∨ (v_51).toInt = 25 ∨ (v_51).toInt = 26 ∨ (v_51).toInt = 27 ∨ (v_51).toInt = 28 ∨ (v_51).toInt = 29 ∨ (v_51).toInt = 30 ∨ (v_51).toInt = 31 ∨ (v_51).toInt = 32 ∨ (v_51).toInt = 33 ∨ (v_51).toInt = 34 ∨ (v_51).toInt = 35 ∨ (v_51).toInt = 36 ∨ (v_51).toInt = 37 ∨ (v_51).toInt = 38 := by omega
        rcases hI with q | q | q | q | q | q | q | q | q | q | q | q | q | q | q | q | q | q | q | q | q | q | q | q | q | q | q | q | q | q | q | q | q | q | q | q | q | q
        · exact absurd (Int32.toInt_inj.mp (q.trans (by decide))) e_53
        · exact absurd (Int32.toInt_inj.mp (q.trans (by decide))) e_57
        · exact absurd (Int32.toInt_inj.mp (q.trans (by decide))) e_63
        · rw [q] at ho; simpa using ho
        · rw [q] at ho; simpa using ho
        · rw [q] at ho; simpa using ho
        · rw [q] at ho; simpa using ho
        · rw [q] at ho; simpa using ho
        · rw [q] at ho; simpa using ho
        · exact absurd (Int32.toInt_inj.mp (q.trans (by decide))) e_67
        · exact absurd (Int32.toInt_inj.mp (q.trans (by decide))) e_71
        · exact absurd (Int32.toInt_inj.mp (q.trans (by decide))) e_75
        · rw [q] at ho; simpa using ho
        · exact absurd (Int32.toInt_inj.mp (q.trans (by decide))) e_79
        · exact absurd (Int32.toInt_inj.mp (q.trans (by decide))) e_87
        · exact absurd (Int32.toInt_inj.mp (q.trans (by decide))) e_94
        · exact absurd (Int32.toInt_inj.mp (q.trans (by decide))) e_101
        · exact absurd (Int32.toInt_inj.mp (q.trans (by decide))) e_109
        · exact absurd (Int32.toInt_inj.mp (q.trans (by decide))) e_116
        · exact absurd (Int32.toInt_inj.mp (q.trans (by decide))) e_127
        · exact absurd (Int32.toInt_inj.mp (q.trans (by decide))) e_132
        · exact absurd (Int32.toInt_inj.mp (q.trans (by decide))) e_136
        · exact absurd (Int32.toInt_inj.mp (q.trans (by decide))) e_138
        · exact absurd (Int32.toInt_inj.mp (q.trans (by decide))) e_143
        · exact absurd (Int32.toInt_inj.mp (q.trans (by decide))) e_147
        · exact absurd (Int32.toInt_inj.mp (q.trans (by decide))) e_154
        · exact absurd (Int32.toInt_inj.mp (q.trans (by decide))) e_160
        · exact absurd (Int32.toInt_inj.mp (q.trans (by decide))) e_166
        · exact absurd (Int32.toInt_inj.mp (q.trans (by decide))) e_168
        · exact absurd (Int32.toInt_inj.mp (q.trans (by decide))) e_172
        · exact absurd (Int32.toInt_inj.mp (q.trans (by decide))) e_177
        · exact absurd (Int32.toInt_inj.mp (q.trans (by decide))) e_182
        · exact absurd (Int32.toInt_inj.mp (q.trans (by decide))) e_197
        · exact absurd (Int32.toInt_inj.mp (q.trans (by decide))) e_200
        · exact absurd (Int32.toInt_inj.mp (q.trans (by decide))) e_209
        · exact absurd (Int32.toInt_inj.mp (q.trans (by decide))) e_217
        · exact absurd (Int32.toInt_inj.mp (q.trans (by decide))) e_230
        · exact absurd (Int32.toInt_inj.mp (q.trans (by decide))) e_232) (by decide) ?_
      refine lv_aload_n hx hb dX12_run_1479 rfl (lv_at hl 3 rfl) ?_
      refine lv_dup hx hb dX12_run_1480 rfl ?_
      refine rg_112 X hS dX12_run_1481 ?_
      refine lv_iconst (v := 1) hx hb dX12_run_1484 (by decide) ?_
      refine lv_isub hx hb dX12_run_1485 ?_
      obtain ⟨u_240, e_u_240, h⟩ := pu_of h
      refine rp_112 X hS e_u_240 dX12_run_1486 (fun H locs hS => ?_)
      refine lv_aload_n hx hb dX12_run_1489 rfl (lv_at hl 3 rfl) ?_
      refine rg_107 X hS dX12_run_1490 ?_
      refine lv_aload_n hx hb dX12_run_1493 rfl (lv_at hl 3 rfl) ?_
      refine rg_112 X hS dX12_run_1494 ?_
      obtain ⟨v_241, e_v_241, i_242, h⟩ := rd_of h
      refine ra_107 X hS i_242 e_v_241 dX12_run_1497 ?_
      refine lv_aload_n hx hb dX12_run_1498 rfl (lv_at hl 3 rfl) ?_
      refine rg_107 X hS dX12_run_1499 ?_
      refine lv_aload_n hx hb dX12_run_1502 rfl (lv_at hl 3 rfl) ?_
      refine rg_112 X hS dX12_run_1503 ?_
      refine lv_iconst (v := 1) hx hb dX12_run_1506 (by decide) ?_
      refine lv_isub hx hb dX12_run_1507 ?_
      obtain ⟨v_243, e_v_243, i_244, h⟩ := rd_of h
      refine ra_107 X hS i_244 e_v_243 dX12_run_1508 ?_
      refine W.lcmp hx hb dX12_run_1509 ?_
      refine lv_if_ne (tgt := 1519) hx hb dX12_run_1510 (by decide) (fun c_245 => ?_) (fun c_245 => ?_)
      · have h := im (mt (lg_cmp_eq _ _).mpr c_245) h
        exact b_run_1519 X hE hF hL hR_39 h hS (lv_sub hl [3, 4] rfl)
      · have h := ip ((lg_cmp_eq _ _).mp c_245) h
        refine lv_aload_n hx hb dX12_run_1513 rfl (lv_at hl 3 rfl) ?_
        refine lv_iload hx hb dX12_run_1514 (lv_at hl 1 rfl) ?_
        obtain ⟨u_246, e_u_246, h⟩ := pu_of h
        refine rp_113 X hS e_u_246 dX12_run_1516 (fun H locs hS => ?_)
        exact b_run_1519 X hE hF hL hR_39 h hS (lv_sub hl [3, 4] rfl)
def LP_run_39 (N : Nat) : Nat → Int32 × RSt → Option (Int32 × RSt) := lp (fun R a => B_run_39 N R a.1 a.2)
theorem bl_run_39 {r : Int32} (X : RC p s m args c cX12_run 10 (Cond.code yX12_run cX12_run 10 none) D kA V A) (hE : REv p l e R s m args below meth c cX12_run D kA Z A Q w) (hF : 3 ≤ R.frames) (hL : 77 ≤ R.locals)  : ∀ (n : Nat) (l2 : Int32) (u : RSt), LP_run_39 N n (l2, u) = some (r, w) → ∀ (H : Heap) (locs : List Loc) (ls : Array Slot), RS D kA Z A s u H locs → lv_has ls 10 [(0, .ref (Z 200)), (2, .int l2)] → W p l e R s m args below meth c H locs 0 0 Q (F0 m 39 ls []) := by
  intro n
  induction n with
  | zero => intro l2 u h; exact nomatch h
  | succ n ih => intro l2 u h H locs ls hS hl; exact b_run_39 (N := N) (R_39 := LP_run_39 N n) X hE hF hL  ih h hS hl
def B_run_0 (N : Nat) (l1 : Int32) (u : RSt) : Option (Int32 × RSt) := pu (sI u 113 l1) fun u_247 => pu (sI u_247 112 0) fun u_248 => pu (sI u_248 114 0) fun u_249 => pu (sI u_249 115 2100) fun u_250 => pu (sI u_250 116 0) fun u_251 => pu (sI u_251 117 0) fun u_252 => pu (sI u_252 118 0) fun u_253 => LP_run_39 N N (1, u_253)
set_option maxHeartbeats 4000000 in
theorem b_run_0 {r : Int32} (X : RC p s m args c cX12_run 10 (Cond.code yX12_run cX12_run 10 none) D kA V A) (hE : REv p l e R s m args below meth c cX12_run D kA Z A Q w) (hF : 3 ≤ R.frames) (hL : 77 ≤ R.locals) {l1 : Int32}  {u : RSt} (h : B_run_0 N l1 u = some (r, w)) (hS : RS D kA Z A s u H locs) (hl : lv_has ls 10 [(0, .ref (Z 200)), (1, .int l1)]) : W p l e R s m args below meth c H locs 0 0 Q (F0 m 0 ls []) := by
  obtain ⟨⟨hx, hb, hml, hown, hts⟩, hK, hEV, hA⟩ := id X
  have hG : ∀ w ∈ GW, w.before args s = true := fun w h => hts w (List.mem_cons_of_mem _ h)
  unfold B_run_0 at h
  refine lv_aload_n hx hb dX12_run_0 rfl (lv_at hl 0 rfl) ?_
  refine lv_iload_n hx hb dX12_run_1 rfl (lv_at hl 1 rfl) ?_
  obtain ⟨u_247, e_u_247, h⟩ := pu_of h
  refine rp_113 X hS e_u_247 dX12_run_2 (fun H locs hS => ?_)
  refine lv_aload_n hx hb dX12_run_5 rfl (lv_at hl 0 rfl) ?_
  refine lv_iconst (v := 0) hx hb dX12_run_6 (by decide) ?_
  obtain ⟨u_248, e_u_248, h⟩ := pu_of h
  refine rp_112 X hS e_u_248 dX12_run_7 (fun H locs hS => ?_)
  refine lv_aload_n hx hb dX12_run_10 rfl (lv_at hl 0 rfl) ?_
  refine lv_iconst (v := 0) hx hb dX12_run_11 (by decide) ?_
  obtain ⟨u_249, e_u_249, h⟩ := pu_of h
  refine rp_114 X hS e_u_249 dX12_run_12 (fun H locs hS => ?_)
  refine lv_aload_n hx hb dX12_run_15 rfl (lv_at hl 0 rfl) ?_
  refine lv_sipush (v := 2100) hx hb dX12_run_16 (by decide) ?_
  obtain ⟨u_250, e_u_250, h⟩ := pu_of h
  refine rp_115 X hS e_u_250 dX12_run_19 (fun H locs hS => ?_)
  refine lv_aload_n hx hb dX12_run_22 rfl (lv_at hl 0 rfl) ?_
  refine lv_iconst (v := 0) hx hb dX12_run_23 (by decide) ?_
  obtain ⟨u_251, e_u_251, h⟩ := pu_of h
  refine rp_116 X hS e_u_251 dX12_run_24 (fun H locs hS => ?_)
  refine lv_aload_n hx hb dX12_run_27 rfl (lv_at hl 0 rfl) ?_
  refine lv_iconst (v := 0) hx hb dX12_run_28 (by decide) ?_
  obtain ⟨u_252, e_u_252, h⟩ := pu_of h
  refine rp_117 X hS e_u_252 dX12_run_29 (fun H locs hS => ?_)
  refine lv_aload_n hx hb dX12_run_32 rfl (lv_at hl 0 rfl) ?_
  refine lv_iconst (v := 0) hx hb dX12_run_33 (by decide) ?_
  obtain ⟨u_253, e_u_253, h⟩ := pu_of h
  refine rp_118 X hS e_u_253 dX12_run_34 (fun H locs hS => ?_)
  refine lv_iconst (v := 1) hx hb dX12_run_37 (by decide) ?_
  refine lv_istore_n (lv' := [(2, .int 1), (0, .ref (Z 200)), (1, .int l1)]) hx hb dX12_run_38 rfl hl (by decide) rfl (fun ls hl => ?_)
  exact bl_run_39 X hE hF hL  _ _ _ h _ _ _ hS (lv_sub hl [1, 0] rfl)
def F_run (N : Nat) (l1 : Int32) (u : RSt) : Option (Int32 × RSt) := B_run_0 N l1 u
set_option maxHeartbeats 4000000 in
theorem k_run (l : Launch) (D : va_G) (kA : Nat → ClassId) (V Z : Nat → Nat) (N : Nat) (l1 : Int32) (u : RSt) (sz : Nat) {r : Int32} {w : RSt} (h : F_run N l1 u = some (r, w)) : Met l yX12_run (Cond.code yX12_run cX12_run 10 none :: GW) { frames := 3, cells := 0, slots := 0, locals := 77 } (rPc D kA V Z [.int l1] u sz) (rQv D kA Z u sz w) 0 0 (va_A (RW kA Z u) sz) := by
  refine Met.ofW (cc := cX12_run) (maxL := 10) (ret := none) (by decide) rfl ?_
  intro p e s m args below meth c s₁ Bd hml hv
  obtain ⟨rfl, hsz, hP, hK, hD0, hE⟩ := hv
  have hts := atoms_spec (ws := Cond.code yX12_run cX12_run 10 none :: GW) Bd.pre
  have hl := lv_entry (.ref (Z 200) :: [.int l1]) (n := 10) (Nat.le_of_ble_eq_true rfl)
  rw [lg_entry_eq]
  generalize (lg_sl (.ref (Z 200) :: [.int l1]) ++ List.replicate (10 - (lg_sl (.ref (Z 200) :: [.int l1])).length) Slot.unset).toArray = ls at hl ⊢
  have hl : lv_has ls 10 [(0, .ref (Z 200)), (1, .int l1)] := hl
  subst hsz
  have X : RC p s m (.ref (Z 200) :: [.int l1]).toArray c cX12_run 10 (Cond.code yX12_run cX12_run 10 none) D kA V (va_A (RW kA Z u) s.heap.size) := ⟨⟨Bd.exec, Bd.bytes, hml, findClass_of_methodNamed Bd.named, hts⟩, hK, hE, fun q h => Or.inr h⟩
  exact b_run_0 X (rend_v (cy := cX12_run) X Bd.returns Bd.notSynchronized) (Nat.le_refl _) (Nat.le_refl _) h ⟨hP, hD0.self, va_S.rf⟩ (lv_sub hl [0, 1] rfl)
theorem kc_run {r : Int32} {cc : ByteArray} {pc nL : Nat} {c0 : Cond} {rest : List Value} {l1 : Int32} {u : RSt} (X : RC p s m args c cc nL c0 D kA V A) (hS : RS D kA Z A s u H locs) (h : F_run N l1 u = some (r, w)) (hF : 3 + 1 ≤ R.frames) (hL : 8 + (10 + 11) + 77 ≤ R.locals) (hl : ls.size = nL) (hc : (rest.map fun v => v.category).sum ≤ 8) (hdg : decode cc pc = .ok (.invokevirtual 632, 3)) (kk : ∀ H locs, RS D kA Z A s w H locs → W p l e R s m args below meth c H locs 0 0 Q (F0 m (pc + 3) ls (rest))) : W p l e R s m args below meth c H locs 0 0 Q (F0 m pc ls (.int l1 :: .ref (Z 200) :: rest)) :=
  rcall_v (n := 1) X hS (k_run l D kA V Z N l1 u H.size h) (gw_V gw_2620 gw_2622 gs_12_3 gw_16 gw_2623) (by decide +kernel) hF hL rfl hl hc rfl hdg kk
def B_runTask_0 (N : Nat) (l1 : Int32) (u : RSt) : Option (Int32 × RSt) := rd (u.2.2.1 89) 8 l1 fun v_1 => wr 8 l1 (sA u 89 l1.toNatClampNeg (v_1 + 1)) fun u_3 => rd (u_3.2.2.1 45) 16 ((8 * (u_3.1 55)) + l1) fun v_5 => bn (F_run N v_5 u_3) fun _ u_7 => wr 8 l1 (sA u_7 90 l1.toNatClampNeg (u_7.1 117)) fun u_8 => if (u_8.1 118) = (0 : Int32) then (some (0, u_8)) else (wr 8 l1 (sA u_8 88 l1.toNatClampNeg (vp_nar .boolean 1)) fun u_11 => wr 8 l1 (sA u_11 91 l1.toNatClampNeg (u_11.1 118)) fun u_13 => wr 8 l1 (sA u_13 92 l1.toNatClampNeg (u_13.1 119)) fun u_15 => wr 8 l1 (sA u_15 93 l1.toNatClampNeg (u_15.1 104)) fun u_17 => if (u_17.1 118) = (5 : Int32) then (wr 8 l1 (sA u_17 94 l1.toNatClampNeg ((u_17.2.1 120).toInt32)) fun u_22 => some (0, u_22)) else (wr 8 l1 (sA u_17 94 l1.toNatClampNeg 0) fun u_20 => some (0, u_20)))
set_option maxHeartbeats 4000000 in
theorem b_runTask_0 {r : Int32} (X : RC p s m args c cX12_runTask 2 (Cond.code yX12_runTask cX12_runTask 2 none) D kA V A) (hE : REv p l e R s m args below meth c cX12_runTask D kA Z A Q w) (hF : 4 ≤ R.frames) (hL : 106 ≤ R.locals) {l1 : Int32}  {u : RSt} (h : B_runTask_0 N l1 u = some (r, w)) (hS : RS D kA Z A s u H locs) (hl : lv_has ls 2 [(0, .ref (Z 200)), (1, .int l1)]) : W p l e R s m args below meth c H locs 0 0 Q (F0 m 0 ls []) := by
  obtain ⟨⟨hx, hb, hml, hown, hts⟩, hK, hEV, hA⟩ := id X
  have hG : ∀ w ∈ GW, w.before args s = true := fun w h => hts w (List.mem_cons_of_mem _ h)
  unfold B_runTask_0 at h
  refine lv_aload_n hx hb dX12_runTask_0 rfl (lv_at hl 0 rfl) ?_
  refine rg_89 X hS dX12_runTask_1 ?_
  refine lv_iload_n hx hb dX12_runTask_4 rfl (lv_at hl 1 rfl) ?_
  refine lv_dup2_11 hx hb dX12_runTask_5 rfl rfl ?_
  obtain ⟨v_1, e_v_1, i_2, h⟩ := rd_of h
  refine ra_89 X hS i_2 e_v_1 dX12_runTask_6 ?_
  refine lv_iconst (v := 1) hx hb dX12_runTask_7 (by decide) ?_
  refine lv_iadd hx hb dX12_runTask_8 ?_
  obtain ⟨u_3, e_u_3, i_4, h⟩ := wr_of h
  refine rs_89 X hS i_4 e_u_3 dX12_runTask_9 (fun H locs hS => ?_)
  refine lv_aload_n hx hb dX12_runTask_10 rfl (lv_at hl 0 rfl) ?_
  refine lv_aload_n hx hb dX12_runTask_11 rfl (lv_at hl 0 rfl) ?_
  refine rg_45 X hS dX12_runTask_12 ?_
  refine lv_bipush (v := 8) hx hb dX12_runTask_15 (by decide) ?_
  refine lv_aload_n hx hb dX12_runTask_17 rfl (lv_at hl 0 rfl) ?_
  refine rg_55 X hS dX12_runTask_18 ?_
  refine lv_imul hx hb dX12_runTask_21 ?_
  refine lv_iload_n hx hb dX12_runTask_22 rfl (lv_at hl 1 rfl) ?_
  refine lv_iadd hx hb dX12_runTask_23 ?_
  obtain ⟨v_5, e_v_5, i_6, h⟩ := rd_of h
  refine ra_45 X hS i_6 e_v_5 dX12_runTask_24 ?_
  obtain ⟨r_u_7, u_7, h_u_7, h⟩ := bn_of h
  refine kc_run X hS h_u_7 (Nat.le_trans (Nat.le_of_ble_eq_true rfl) hF) (Nat.le_trans (Nat.le_of_ble_eq_true rfl) hL) hl.1 (Nat.le_of_ble_eq_true rfl) dX12_runTask_25 (fun H locs hS => ?_)
  refine lv_aload_n hx hb dX12_runTask_28 rfl (lv_at hl 0 rfl) ?_
  refine rg_90 X hS dX12_runTask_29 ?_
  refine lv_iload_n hx hb dX12_runTask_32 rfl (lv_at hl 1 rfl) ?_
  refine lv_aload_n hx hb dX12_runTask_33 rfl (lv_at hl 0 rfl) ?_
  refine rg_117 X hS dX12_runTask_34 ?_
  obtain ⟨u_8, e_u_8, i_9, h⟩ := wr_of h
  refine rs_90 X hS i_9 e_u_8 dX12_runTask_37 (fun H locs hS => ?_)
  refine lv_aload_n hx hb dX12_runTask_38 rfl (lv_at hl 0 rfl) ?_
  refine rg_118 X hS dX12_runTask_39 ?_
  refine lv_if_ne (tgt := 46) hx hb dX12_runTask_42 (by decide) (fun c_10 => ?_) (fun c_10 => ?_)
  · have h := im (c_10) h
    refine lv_aload_n hx hb dX12_runTask_46 rfl (lv_at hl 0 rfl) ?_
    refine rg_88 X hS dX12_runTask_47 ?_
    refine lv_iload_n hx hb dX12_runTask_50 rfl (lv_at hl 1 rfl) ?_
    refine lv_iconst (v := 1) hx hb dX12_runTask_51 (by decide) ?_
    obtain ⟨u_11, e_u_11, i_12, h⟩ := wr_of h
    refine rs_88 X hS i_12 e_u_11 dX12_runTask_52 (fun H locs hS => ?_)
    refine lv_aload_n hx hb dX12_runTask_53 rfl (lv_at hl 0 rfl) ?_
    refine rg_91 X hS dX12_runTask_54 ?_
    refine lv_iload_n hx hb dX12_runTask_57 rfl (lv_at hl 1 rfl) ?_
    refine lv_aload_n hx hb dX12_runTask_58 rfl (lv_at hl 0 rfl) ?_
    refine rg_118 X hS dX12_runTask_59 ?_
    obtain ⟨u_13, e_u_13, i_14, h⟩ := wr_of h
    refine rs_91 X hS i_14 e_u_13 dX12_runTask_62 (fun H locs hS => ?_)
    refine lv_aload_n hx hb dX12_runTask_63 rfl (lv_at hl 0 rfl) ?_
    refine rg_92 X hS dX12_runTask_64 ?_
    refine lv_iload_n hx hb dX12_runTask_67 rfl (lv_at hl 1 rfl) ?_
    refine lv_aload_n hx hb dX12_runTask_68 rfl (lv_at hl 0 rfl) ?_
    refine rg_119 X hS dX12_runTask_69 ?_
    obtain ⟨u_15, e_u_15, i_16, h⟩ := wr_of h
    refine rs_92 X hS i_16 e_u_15 dX12_runTask_72 (fun H locs hS => ?_)
    refine lv_aload_n hx hb dX12_runTask_73 rfl (lv_at hl 0 rfl) ?_
    refine rg_93 X hS dX12_runTask_74 ?_
    refine lv_iload_n hx hb dX12_runTask_77 rfl (lv_at hl 1 rfl) ?_
    refine lv_aload_n hx hb dX12_runTask_78 rfl (lv_at hl 0 rfl) ?_
    refine rg_104 X hS dX12_runTask_79 ?_
    obtain ⟨u_17, e_u_17, i_18, h⟩ := wr_of h
    refine rs_93 X hS i_18 e_u_17 dX12_runTask_82 (fun H locs hS => ?_)
    refine lv_aload_n hx hb dX12_runTask_83 rfl (lv_at hl 0 rfl) ?_
    refine rg_94 X hS dX12_runTask_84 ?_
    refine lv_iload_n hx hb dX12_runTask_87 rfl (lv_at hl 1 rfl) ?_
    refine lv_aload_n hx hb dX12_runTask_88 rfl (lv_at hl 0 rfl) ?_
    refine rg_118 X hS dX12_runTask_89 ?_
    refine lv_iconst (v := 5) hx hb dX12_runTask_92 (by decide) ?_
    refine lv_icmp_ne (tgt := 104) hx hb dX12_runTask_93 (by decide) (fun c_19 => ?_) (fun c_19 => ?_)
    · have h := im (c_19) h
      refine lv_iconst (v := 0) hx hb dX12_runTask_104 (by decide) ?_
      obtain ⟨u_20, e_u_20, i_21, h⟩ := wr_of h
      refine rs_94 X hS i_21 e_u_20 dX12_runTask_105 (fun H locs hS => ?_)
      obtain ⟨-, rfl⟩ := so h
      exact hE _ _ _ _ hS dX12_runTask_106
    · have h := ip (c_19) h
      refine lv_aload_n hx hb dX12_runTask_96 rfl (lv_at hl 0 rfl) ?_
      refine rg_120 X hS dX12_runTask_97 ?_
      refine lv_l2i (v := (u_17.2.1 120).toInt32) hx hb dX12_runTask_100 rfl ?_
      refine lv_goto (tgt := 105) hx hb dX12_runTask_101 (by decide) ?_
      obtain ⟨u_22, e_u_22, i_23, h⟩ := wr_of h
      refine rs_94 X hS i_23 e_u_22 dX12_runTask_105 (fun H locs hS => ?_)
      obtain ⟨-, rfl⟩ := so h
      exact hE _ _ _ _ hS dX12_runTask_106
  · have h := ip (c_10) h
    obtain ⟨-, rfl⟩ := so h
    exact hE _ _ _ _ hS dX12_runTask_45
def F_runTask (N : Nat) (l1 : Int32) (u : RSt) : Option (Int32 × RSt) := B_runTask_0 N l1 u
set_option maxHeartbeats 4000000 in
theorem k_runTask (l : Launch) (D : va_G) (kA : Nat → ClassId) (V Z : Nat → Nat) (N : Nat) (l1 : Int32) (u : RSt) (sz : Nat) {r : Int32} {w : RSt} (h : F_runTask N l1 u = some (r, w)) : Met l yX12_runTask (Cond.code yX12_runTask cX12_runTask 2 none :: GW) { frames := 4, cells := 0, slots := 0, locals := 106 } (rPc D kA V Z [.int l1] u sz) (rQv D kA Z u sz w) 0 0 (va_A (RW kA Z u) sz) := by
  refine Met.ofW (cc := cX12_runTask) (maxL := 2) (ret := none) (by decide) rfl ?_
  intro p e s m args below meth c s₁ Bd hml hv
  obtain ⟨rfl, hsz, hP, hK, hD0, hE⟩ := hv
  have hts := atoms_spec (ws := Cond.code yX12_runTask cX12_runTask 2 none :: GW) Bd.pre
  have hl := lv_entry (.ref (Z 200) :: [.int l1]) (n := 2) (Nat.le_of_ble_eq_true rfl)
  rw [lg_entry_eq]
  generalize (lg_sl (.ref (Z 200) :: [.int l1]) ++ List.replicate (2 - (lg_sl (.ref (Z 200) :: [.int l1])).length) Slot.unset).toArray = ls at hl ⊢
  have hl : lv_has ls 2 [(0, .ref (Z 200)), (1, .int l1)] := hl
  subst hsz
  have X : RC p s m (.ref (Z 200) :: [.int l1]).toArray c cX12_runTask 2 (Cond.code yX12_runTask cX12_runTask 2 none) D kA V (va_A (RW kA Z u) s.heap.size) := ⟨⟨Bd.exec, Bd.bytes, hml, findClass_of_methodNamed Bd.named, hts⟩, hK, hE, fun q h => Or.inr h⟩
  exact b_runTask_0 X (rend_v (cy := cX12_runTask) X Bd.returns Bd.notSynchronized) (Nat.le_refl _) (Nat.le_refl _) h ⟨hP, hD0.self, va_S.rf⟩ (lv_sub hl [0, 1] rfl)
theorem kc_runTask {r : Int32} {cc : ByteArray} {pc nL : Nat} {c0 : Cond} {rest : List Value} {l1 : Int32} {u : RSt} (X : RC p s m args c cc nL c0 D kA V A) (hS : RS D kA Z A s u H locs) (h : F_runTask N l1 u = some (r, w)) (hF : 4 + 1 ≤ R.frames) (hL : 8 + (2 + 11) + 106 ≤ R.locals) (hl : ls.size = nL) (hc : (rest.map fun v => v.category).sum ≤ 8) (hdg : decode cc pc = .ok (.invokevirtual 665, 3)) (kk : ∀ H locs, RS D kA Z A s w H locs → W p l e R s m args below meth c H locs 0 0 Q (F0 m (pc + 3) ls (rest))) : W p l e R s m args below meth c H locs 0 0 Q (F0 m pc ls (.int l1 :: .ref (Z 200) :: rest)) :=
  rcall_v (n := 1) X hS (k_runTask l D kA V Z N l1 u H.size h) (gw_V gw_2616 gw_2618 gs_12_2 gw_16 gw_2619) (by decide +kernel) hF hL rfl hl hc rfl hdg kk
def B_forces_2 (N : Nat) (R_2 : Int32 × Int32 × RSt → Option (Int32 × RSt)) (l1 : Int32) (l2 : Int32) (u : RSt) : Option (Int32 × RSt) := if (l1 + 64) ≤ l2 then (some (0, u)) else (rd (u.2.2.1 85) 128 l2 fun v_2 => rd (u.2.2.1 86) 128 l2 fun v_4 => rd (u.2.2.1 87) 128 l2 fun v_6 => wr 128 l2 (sA u 85 l2.toNatClampNeg ((v_2 &&& (v_4 ^^^ (-1))) ||| v_6)) fun u_8 => R_2 (l1, (l2 + 1), u_8))
set_option maxHeartbeats 4000000 in
theorem b_forces_2 {r : Int32} (X : RC p s m args c cX12_forces 3 (Cond.code yX12_forces cX12_forces 3 none) D kA V A) (hE : REv p l e R s m args below meth c cX12_forces D kA Z A Q w) (hF : 0 ≤ R.frames) (hL : 0 ≤ R.locals) {R_2 : Int32 × Int32 × RSt → Option (Int32 × RSt)} {l1 : Int32} {l2 : Int32} (hR_2 : ∀ (l1 : Int32) (l2 : Int32) (u : RSt), R_2 (l1, l2, u) = some (r, w) → ∀ (H : Heap) (locs : List Loc) (ls : Array Slot), RS D kA Z A s u H locs → lv_has ls 3 [(0, .ref (Z 200)), (1, .int l1), (2, .int l2)] → W p l e R s m args below meth c H locs 0 0 Q (F0 m 2 ls [])) {u : RSt} (h : B_forces_2 N R_2 l1 l2 u = some (r, w)) (hS : RS D kA Z A s u H locs) (hl : lv_has ls 3 [(0, .ref (Z 200)), (1, .int l1), (2, .int l2)]) : W p l e R s m args below meth c H locs 0 0 Q (F0 m 2 ls []) := by
  obtain ⟨⟨hx, hb, hml, hown, hts⟩, hK, hEV, hA⟩ := id X
  have hG : ∀ w ∈ GW, w.before args s = true := fun w h => hts w (List.mem_cons_of_mem _ h)
  unfold B_forces_2 at h
  refine lv_iload_n hx hb dX12_forces_2 rfl (lv_at hl 2 rfl) ?_
  refine lv_iload_n hx hb dX12_forces_3 rfl (lv_at hl 1 rfl) ?_
  refine lv_bipush (v := 64) hx hb dX12_forces_4 (by decide) ?_
  refine lv_iadd hx hb dX12_forces_6 ?_
  refine lv_icmp_ge (tgt := 44) hx hb dX12_forces_7 (by decide) (fun c_1 => ?_) (fun c_1 => ?_)
  · have h := ip (c_1) h
    obtain ⟨-, rfl⟩ := so h
    exact hE _ _ _ _ hS dX12_forces_44
  · have h := im (c_1) h
    refine lv_aload_n hx hb dX12_forces_10 rfl (lv_at hl 0 rfl) ?_
    refine rg_85 X hS dX12_forces_11 ?_
    refine lv_iload_n hx hb dX12_forces_14 rfl (lv_at hl 2 rfl) ?_
    refine lv_aload_n hx hb dX12_forces_15 rfl (lv_at hl 0 rfl) ?_
    refine rg_85 X hS dX12_forces_16 ?_
    refine lv_iload_n hx hb dX12_forces_19 rfl (lv_at hl 2 rfl) ?_
    obtain ⟨v_2, e_v_2, i_3, h⟩ := rd_of h
    refine ra_85 X hS i_3 e_v_2 dX12_forces_20 ?_
    refine lv_aload_n hx hb dX12_forces_21 rfl (lv_at hl 0 rfl) ?_
    refine rg_86 X hS dX12_forces_22 ?_
    refine lv_iload_n hx hb dX12_forces_25 rfl (lv_at hl 2 rfl) ?_
    obtain ⟨v_4, e_v_4, i_5, h⟩ := rd_of h
    refine ra_86 X hS i_5 e_v_4 dX12_forces_26 ?_
    refine lv_iconst (v := (-1)) hx hb dX12_forces_27 (by decide) ?_
    refine lv_ixor hx hb dX12_forces_28 ?_
    refine lv_iand hx hb dX12_forces_29 ?_
    refine lv_aload_n hx hb dX12_forces_30 rfl (lv_at hl 0 rfl) ?_
    refine rg_87 X hS dX12_forces_31 ?_
    refine lv_iload_n hx hb dX12_forces_34 rfl (lv_at hl 2 rfl) ?_
    obtain ⟨v_6, e_v_6, i_7, h⟩ := rd_of h
    refine ra_87 X hS i_7 e_v_6 dX12_forces_35 ?_
    refine lv_ior hx hb dX12_forces_36 ?_
    obtain ⟨u_8, e_u_8, i_9, h⟩ := wr_of h
    refine rs_85 X hS i_9 e_u_8 dX12_forces_37 (fun H locs hS => ?_)
    refine lv_iinc (v := l2 + 1) (lv' := [(2, .int (l2 + 1)), (0, .ref (Z 200)), (1, .int l1)]) hx hb dX12_forces_38 hl (k := 2) rfl rfl (by decide) rfl (fun ls hl => ?_)
    refine lv_goto (tgt := 2) hx hb dX12_forces_41 (by decide) ?_
    exact hR_2 _ _ _ h _ _ _ hS (lv_sub hl [1, 2, 0] rfl)
def LP_forces_2 (N : Nat) : Nat → Int32 × Int32 × RSt → Option (Int32 × RSt) := lp (fun R a => B_forces_2 N R a.1 a.2.1 a.2.2)
theorem bl_forces_2 {r : Int32} (X : RC p s m args c cX12_forces 3 (Cond.code yX12_forces cX12_forces 3 none) D kA V A) (hE : REv p l e R s m args below meth c cX12_forces D kA Z A Q w) (hF : 0 ≤ R.frames) (hL : 0 ≤ R.locals)  : ∀ (n : Nat) (l1 : Int32) (l2 : Int32) (u : RSt), LP_forces_2 N n (l1, l2, u) = some (r, w) → ∀ (H : Heap) (locs : List Loc) (ls : Array Slot), RS D kA Z A s u H locs → lv_has ls 3 [(0, .ref (Z 200)), (1, .int l1), (2, .int l2)] → W p l e R s m args below meth c H locs 0 0 Q (F0 m 2 ls []) := by
  intro n
  induction n with
  | zero => intro l1 l2 u h; exact nomatch h
  | succ n ih => intro l1 l2 u h H locs ls hS hl; exact b_forces_2 (N := N) (R_2 := LP_forces_2 N n) X hE hF hL  ih h hS hl
def B_forces_0 (N : Nat) (l1 : Int32) (u : RSt) : Option (Int32 × RSt) := LP_forces_2 N N (l1, l1, u)
set_option maxHeartbeats 4000000 in
theorem b_forces_0 {r : Int32} (X : RC p s m args c cX12_forces 3 (Cond.code yX12_forces cX12_forces 3 none) D kA V A) (hE : REv p l e R s m args below meth c cX12_forces D kA Z A Q w) (hF : 0 ≤ R.frames) (hL : 0 ≤ R.locals) {l1 : Int32}  {u : RSt} (h : B_forces_0 N l1 u = some (r, w)) (hS : RS D kA Z A s u H locs) (hl : lv_has ls 3 [(0, .ref (Z 200)), (1, .int l1)]) : W p l e R s m args below meth c H locs 0 0 Q (F0 m 0 ls []) := by
  obtain ⟨⟨hx, hb, hml, hown, hts⟩, hK, hEV, hA⟩ := id X
  have hG : ∀ w ∈ GW, w.before args s = true := fun w h => hts w (List.mem_cons_of_mem _ h)
  unfold B_forces_0 at h
  refine lv_iload_n hx hb dX12_forces_0 rfl (lv_at hl 1 rfl) ?_
  refine lv_istore_n (lv' := [(2, .int l1), (0, .ref (Z 200)), (1, .int l1)]) hx hb dX12_forces_1 rfl hl (by decide) rfl (fun ls hl => ?_)
  exact bl_forces_2 X hE hF hL  _ _ _ _ h _ _ _ hS (lv_sub hl [1, 2, 0] rfl)
def F_forces (N : Nat) (l1 : Int32) (u : RSt) : Option (Int32 × RSt) := B_forces_0 N l1 u
set_option maxHeartbeats 4000000 in
theorem k_forces (l : Launch) (D : va_G) (kA : Nat → ClassId) (V Z : Nat → Nat) (N : Nat) (l1 : Int32) (u : RSt) (sz : Nat) {r : Int32} {w : RSt} (h : F_forces N l1 u = some (r, w)) : Met l yX12_forces (Cond.code yX12_forces cX12_forces 3 none :: GW) { frames := 0, cells := 0, slots := 0, locals := 0 } (rPc D kA V Z [.int l1] u sz) (rQv D kA Z u sz w) 0 0 (va_A (RW kA Z u) sz) := by
  refine Met.ofW (cc := cX12_forces) (maxL := 3) (ret := none) (by decide) rfl ?_
  intro p e s m args below meth c s₁ Bd hml hv
  obtain ⟨rfl, hsz, hP, hK, hD0, hE⟩ := hv
  have hts := atoms_spec (ws := Cond.code yX12_forces cX12_forces 3 none :: GW) Bd.pre
  have hl := lv_entry (.ref (Z 200) :: [.int l1]) (n := 3) (Nat.le_of_ble_eq_true rfl)
  rw [lg_entry_eq]
  generalize (lg_sl (.ref (Z 200) :: [.int l1]) ++ List.replicate (3 - (lg_sl (.ref (Z 200) :: [.int l1])).length) Slot.unset).toArray = ls at hl ⊢
  have hl : lv_has ls 3 [(0, .ref (Z 200)), (1, .int l1)] := hl
  subst hsz
  have X : RC p s m (.ref (Z 200) :: [.int l1]).toArray c cX12_forces 3 (Cond.code yX12_forces cX12_forces 3 none) D kA V (va_A (RW kA Z u) s.heap.size) := ⟨⟨Bd.exec, Bd.bytes, hml, findClass_of_methodNamed Bd.named, hts⟩, hK, hE, fun q h => Or.inr h⟩
  exact b_forces_0 X (rend_v (cy := cX12_forces) X Bd.returns Bd.notSynchronized) (Nat.le_refl _) (Nat.le_refl _) h ⟨hP, hD0.self, va_S.rf⟩ (lv_sub hl [0, 1] rfl)
theorem kc_forces {r : Int32} {cc : ByteArray} {pc nL : Nat} {c0 : Cond} {rest : List Value} {l1 : Int32} {u : RSt} (X : RC p s m args c cc nL c0 D kA V A) (hS : RS D kA Z A s u H locs) (h : F_forces N l1 u = some (r, w)) (hF : 0 + 1 ≤ R.frames) (hL : 8 + (3 + 11) + 0 ≤ R.locals) (hl : ls.size = nL) (hc : (rest.map fun v => v.category).sum ≤ 8) (hdg : decode cc pc = .ok (.invokevirtual 662, 3)) (kk : ∀ H locs, RS D kA Z A s w H locs → W p l e R s m args below meth c H locs 0 0 Q (F0 m (pc + 3) ls (rest))) : W p l e R s m args below meth c H locs 0 0 Q (F0 m pc ls (.int l1 :: .ref (Z 200) :: rest)) :=
  rcall_v (n := 1) X hS (k_forces l D kA V Z N l1 u H.size h) (gw_V gw_2612 gw_2614 gs_12_1 gw_16 gw_2615) (by decide +kernel) hF hL rfl hl hc rfl hdg kk
def B_numberOf_0 (N : Nat) (l1 : Int32) (l2 : Int32) (u : RSt) : Option (Int64 × RSt) := rd (u.2.2.1 12) 320 ((160 * (u.1 55)) + l1) fun v_1 => if (2 : Int32) ≤ v_1 then (rd (u.2.2.1 15) 320 ((160 * (u.1 55)) + l1) fun v_4 => rd (u.2.2.1 10) 320 ((160 * (u.1 55)) + l1) fun v_6 => bn (F_read N v_4 v_6 u) fun r_9 u_8 => some (r_9, u_8)) else (rd (u.2.2.1 15) 320 ((160 * (u.1 55)) + l1) fun v_10 => rd (u.2.2.2 82) 3000 (v_10 + l2) fun v_12 => some (v_12, u))
set_option maxHeartbeats 4000000 in
theorem b_numberOf_0 {r : Int64} (X : RC p s m args c cX12_numberOf 4 (Cond.code yX12_numberOf cX12_numberOf 4 (some .long)) D kA V A) (hE : REl p l e R s m args below meth c cX12_numberOf D kA Z A Q r w) (hF : 2 ≤ R.frames) (hL : 48 ≤ R.locals) {l1 : Int32} {l2 : Int32}  {u : RSt} (h : B_numberOf_0 N l1 l2 u = some (r, w)) (hS : RS D kA Z A s u H locs) (hl : lv_has ls 4 [(0, .ref (Z 200)), (1, .int l1), (2, .int l2)]) : W p l e R s m args below meth c H locs 0 0 Q (F0 m 0 ls []) := by
  obtain ⟨⟨hx, hb, hml, hown, hts⟩, hK, hEV, hA⟩ := id X
  have hG : ∀ w ∈ GW, w.before args s = true := fun w h => hts w (List.mem_cons_of_mem _ h)
  unfold B_numberOf_0 at h
  refine lv_sipush (v := 160) hx hb dX12_numberOf_0 (by decide) ?_
  refine lv_aload_n hx hb dX12_numberOf_3 rfl (lv_at hl 0 rfl) ?_
  refine rg_55 X hS dX12_numberOf_4 ?_
  refine lv_imul hx hb dX12_numberOf_7 ?_
  refine lv_iload_n hx hb dX12_numberOf_8 rfl (lv_at hl 1 rfl) ?_
  refine lv_iadd hx hb dX12_numberOf_9 ?_
  refine lv_istore_n (lv' := [(3, .int ((160 * (u.1 55)) + l1)), (0, .ref (Z 200)), (1, .int l1), (2, .int l2)]) hx hb dX12_numberOf_10 rfl hl (by decide) rfl (fun ls hl => ?_)
  refine lv_aload_n hx hb dX12_numberOf_11 rfl (lv_at hl 1 rfl) ?_
  refine rg_12 X hS dX12_numberOf_12 ?_
  refine lv_iload_n hx hb dX12_numberOf_15 rfl (lv_at hl 0 rfl) ?_
  obtain ⟨v_1, e_v_1, i_2, h⟩ := rd_of h
  refine ra_12 X hS i_2 e_v_1 dX12_numberOf_16 ?_
  refine lv_iconst (v := 2) hx hb dX12_numberOf_17 (by decide) ?_
  refine lv_icmp_ge (tgt := 37) hx hb dX12_numberOf_18 (by decide) (fun c_3 => ?_) (fun c_3 => ?_)
  · have h := ip (c_3) h
    refine lv_aload_n hx hb dX12_numberOf_37 rfl (lv_at hl 1 rfl) ?_
    refine lv_aload_n hx hb dX12_numberOf_38 rfl (lv_at hl 1 rfl) ?_
    refine rg_15 X hS dX12_numberOf_39 ?_
    refine lv_iload_n hx hb dX12_numberOf_42 rfl (lv_at hl 0 rfl) ?_
    obtain ⟨v_4, e_v_4, i_5, h⟩ := rd_of h
    refine ra_15 X hS i_5 e_v_4 dX12_numberOf_43 ?_
    refine lv_aload_n hx hb dX12_numberOf_44 rfl (lv_at hl 1 rfl) ?_
    refine rg_10 X hS dX12_numberOf_45 ?_
    refine lv_iload_n hx hb dX12_numberOf_48 rfl (lv_at hl 0 rfl) ?_
    obtain ⟨v_6, e_v_6, i_7, h⟩ := rd_of h
    refine ra_10 X hS i_7 e_v_6 dX12_numberOf_49 ?_
    obtain ⟨r_9, u_8, h_u_8, h⟩ := bn_of h
    refine kc_read X hS h_u_8 (Nat.le_trans (Nat.le_of_ble_eq_true rfl) hF) (Nat.le_trans (Nat.le_of_ble_eq_true rfl) hL) hl.1 (Nat.le_of_ble_eq_true rfl) dX12_numberOf_50 (fun H locs hS => ?_)
    obtain ⟨rfl, rfl⟩ := so h
    exact hE _ _ _ _ hS dX12_numberOf_53
  · have h := im (c_3) h
    refine lv_aload_n hx hb dX12_numberOf_21 rfl (lv_at hl 1 rfl) ?_
    refine rg_82 X hS dX12_numberOf_22 ?_
    refine lv_aload_n hx hb dX12_numberOf_25 rfl (lv_at hl 1 rfl) ?_
    refine rg_15 X hS dX12_numberOf_26 ?_
    refine lv_iload_n hx hb dX12_numberOf_29 rfl (lv_at hl 0 rfl) ?_
    obtain ⟨v_10, e_v_10, i_11, h⟩ := rd_of h
    refine ra_15 X hS i_11 e_v_10 dX12_numberOf_30 ?_
    refine lv_iload_n hx hb dX12_numberOf_31 rfl (lv_at hl 3 rfl) ?_
    refine lv_iadd hx hb dX12_numberOf_32 ?_
    obtain ⟨v_12, e_v_12, i_13, h⟩ := rd_of h
    refine ra_82 X hS i_13 e_v_12 dX12_numberOf_33 ?_
    refine lv_goto (tgt := 53) hx hb dX12_numberOf_34 (by decide) ?_
    obtain ⟨rfl, rfl⟩ := so h
    exact hE _ _ _ _ hS dX12_numberOf_53
def F_numberOf (N : Nat) (l1 : Int32) (l2 : Int32) (u : RSt) : Option (Int64 × RSt) := B_numberOf_0 N l1 l2 u
set_option maxHeartbeats 4000000 in
theorem k_numberOf (l : Launch) (D : va_G) (kA : Nat → ClassId) (V Z : Nat → Nat) (N : Nat) (l1 : Int32) (l2 : Int32) (u : RSt) (sz : Nat) {r : Int64} {w : RSt} (h : F_numberOf N l1 l2 u = some (r, w)) : Met l yX12_numberOf (Cond.code yX12_numberOf cX12_numberOf 4 (some .long) :: GW) { frames := 2, cells := 0, slots := 0, locals := 48 } (rPc D kA V Z [.int l1, .int l2] u sz) (rQl D kA Z u sz r w) 0 0 (va_A (RW kA Z u) sz) := by
  refine Met.ofW (cc := cX12_numberOf) (maxL := 4) (ret := (some .long)) (by decide) rfl ?_
  intro p e s m args below meth c s₁ Bd hml hv
  obtain ⟨rfl, hsz, hP, hK, hD0, hE⟩ := hv
  have hts := atoms_spec (ws := Cond.code yX12_numberOf cX12_numberOf 4 (some .long) :: GW) Bd.pre
  have hl := lv_entry (.ref (Z 200) :: [.int l1, .int l2]) (n := 4) (Nat.le_of_ble_eq_true rfl)
  rw [lg_entry_eq]
  generalize (lg_sl (.ref (Z 200) :: [.int l1, .int l2]) ++ List.replicate (4 - (lg_sl (.ref (Z 200) :: [.int l1, .int l2])).length) Slot.unset).toArray = ls at hl ⊢
  have hl : lv_has ls 4 [(0, .ref (Z 200)), (1, .int l1), (2, .int l2)] := hl
  subst hsz
  have X : RC p s m (.ref (Z 200) :: [.int l1, .int l2]).toArray c cX12_numberOf 4 (Cond.code yX12_numberOf cX12_numberOf 4 (some .long)) D kA V (va_A (RW kA Z u) s.heap.size) := ⟨⟨Bd.exec, Bd.bytes, hml, findClass_of_methodNamed Bd.named, hts⟩, hK, hE, fun q h => Or.inr h⟩
  exact b_numberOf_0 X (rend_l (cy := cX12_numberOf) X Bd.returns Bd.notSynchronized) (Nat.le_refl _) (Nat.le_refl _) h ⟨hP, hD0.self, va_S.rf⟩ (lv_sub hl [0, 1, 2] rfl)
theorem kc_numberOf {r : Int64} {cc : ByteArray} {pc nL : Nat} {c0 : Cond} {rest : List Value} {l1 : Int32} {l2 : Int32} {u : RSt} (X : RC p s m args c cc nL c0 D kA V A) (hS : RS D kA Z A s u H locs) (h : F_numberOf N l1 l2 u = some (r, w)) (hF : 2 + 1 ≤ R.frames) (hL : 8 + (4 + 11) + 48 ≤ R.locals) (hl : ls.size = nL) (hc : (rest.map fun v => v.category).sum ≤ 8) (hdg : decode cc pc = .ok (.invokevirtual 677, 3)) (kk : ∀ H locs, RS D kA Z A s w H locs → W p l e R s m args below meth c H locs 0 0 Q (F0 m (pc + 3) ls (.long r :: rest))) : W p l e R s m args below meth c H locs 0 0 Q (F0 m pc ls (.int l2 :: .int l1 :: .ref (Z 200) :: rest)) :=
  rcall_l (n := 2) X hS (k_numberOf l D kA V Z N l1 l2 u H.size h) (gw_V gw_2660 gw_2662 gs_12_10 gw_16 gw_2663) (by decide +kernel) hF hL rfl hl hc rfl hdg kk
def B_ticks_104 (N : Nat) (R_35 : Int32 × Int32 × RSt → Option (Int32 × RSt)) (l1 : Int32) (l2 : Int32) (u : RSt) : Option (Int32 × RSt) := R_35 (l1, (l2 + 1), u)
set_option maxHeartbeats 4000000 in
theorem b_ticks_104 {r : Int32} (X : RC p s m args c cX12_ticks 6 (Cond.code yX12_ticks cX12_ticks 6 (some .int)) D kA V A) (hE : REi p l e R s m args below meth c cX12_ticks D kA Z A Q r w) (hF : 5 ≤ R.frames) (hL : 127 ≤ R.locals) {R_35 : Int32 × Int32 × RSt → Option (Int32 × RSt)} {l1 : Int32} {l2 : Int32} (hR_35 : ∀ (l1 : Int32) (l2 : Int32) (u : RSt), R_35 (l1, l2, u) = some (r, w) → ∀ (H : Heap) (locs : List Loc) (ls : Array Slot), RS D kA Z A s u H locs → lv_has ls 6 [(0, .ref (Z 200)), (1, .int l1), (2, .int l2)] → W p l e R s m args below meth c H locs 0 0 Q (F0 m 35 ls [])) {u : RSt} (h : B_ticks_104 N R_35 l1 l2 u = some (r, w)) (hS : RS D kA Z A s u H locs) (hl : lv_has ls 6 [(0, .ref (Z 200)), (1, .int l1), (2, .int l2)]) : W p l e R s m args below meth c H locs 0 0 Q (F0 m 104 ls []) := by
  obtain ⟨⟨hx, hb, hml, hown, hts⟩, hK, hEV, hA⟩ := id X
  have hG : ∀ w ∈ GW, w.before args s = true := fun w h => hts w (List.mem_cons_of_mem _ h)
  unfold B_ticks_104 at h
  refine lv_iinc (v := l2 + 1) (lv' := [(2, .int (l2 + 1)), (0, .ref (Z 200)), (1, .int l1)]) hx hb dX12_ticks_104 hl (k := 2) rfl rfl (by decide) rfl (fun ls hl => ?_)
  refine lv_goto (tgt := 35) hx hb dX12_ticks_107 (by decide) ?_
  exact hR_35 _ _ _ h _ _ _ hS (lv_sub hl [1, 2, 0] rfl)
def B_ticks_331 (N : Nat) (R_146 : Int32 × Int32 × RSt → Option (Int32 × RSt)) (l1 : Int32) (l2 : Int32) (u : RSt) : Option (Int32 × RSt) := R_146 (l1, (l2 + 1), u)
set_option maxHeartbeats 4000000 in
theorem b_ticks_331 {r : Int32} (X : RC p s m args c cX12_ticks 6 (Cond.code yX12_ticks cX12_ticks 6 (some .int)) D kA V A) (hE : REi p l e R s m args below meth c cX12_ticks D kA Z A Q r w) (hF : 5 ≤ R.frames) (hL : 127 ≤ R.locals) {R_146 : Int32 × Int32 × RSt → Option (Int32 × RSt)} {l1 : Int32} {l2 : Int32} (hR_146 : ∀ (l1 : Int32) (l2 : Int32) (u : RSt), R_146 (l1, l2, u) = some (r, w) → ∀ (H : Heap) (locs : List Loc) (ls : Array Slot), RS D kA Z A s u H locs → lv_has ls 6 [(0, .ref (Z 200)), (1, .int l1), (2, .int l2)] → W p l e R s m args below meth c H locs 0 0 Q (F0 m 146 ls [])) {u : RSt} (h : B_ticks_331 N R_146 l1 l2 u = some (r, w)) (hS : RS D kA Z A s u H locs) (hl : lv_has ls 6 [(0, .ref (Z 200)), (1, .int l1), (2, .int l2)]) : W p l e R s m args below meth c H locs 0 0 Q (F0 m 331 ls []) := by
  obtain ⟨⟨hx, hb, hml, hown, hts⟩, hK, hEV, hA⟩ := id X
  have hG : ∀ w ∈ GW, w.before args s = true := fun w h => hts w (List.mem_cons_of_mem _ h)
  unfold B_ticks_331 at h
  refine lv_iinc (v := l2 + 1) (lv' := [(2, .int (l2 + 1)), (0, .ref (Z 200)), (1, .int l1)]) hx hb dX12_ticks_331 hl (k := 2) rfl rfl (by decide) rfl (fun ls hl => ?_)
  refine lv_goto (tgt := 146) hx hb dX12_ticks_334 (by decide) ?_
  exact hR_146 _ _ _ h _ _ _ hS (lv_sub hl [1, 2, 0] rfl)
def B_ticks_196 (N : Nat) (R_146 : Int32 × Int32 × RSt → Option (Int32 × RSt)) (R_196 : Int32 × Int32 × Int64 × Int32 × RSt → Option (Int32 × RSt)) (l1 : Int32) (l2 : Int32) (l3 : Int64) (l5 : Int32) (u : RSt) : Option (Int32 × RSt) := if l5 ≤ (0 : Int32) then (wr 100 0 (sA u 99 (0 : Int32).toNatClampNeg (u.1 104)) fun u_2 => rd (u_2.2.2.1 95) 16 l2 fun v_4 => wr 100 0 (sA u_2 100 (0 : Int32).toNatClampNeg v_4) fun u_6 => rd (u_6.2.2.1 96) 16 l2 fun v_8 => wr 100 0 (sA u_6 101 (0 : Int32).toNatClampNeg v_8) fun u_10 => wr 100 0 (sB u_10 102 (0 : Int32).toNatClampNeg l3) fun u_12 => if (100 : Int32) ≤ (u_12.1 103) then (B_ticks_331 N R_146 l1 l2 u_12) else (pu (sI u_12 103 ((u_12.1 103) + 1)) fun u_15 => B_ticks_331 N R_146 l1 l2 u_15)) else (rd (u.2.2.1 99) 100 (l5 - 1) fun v_16 => wr 100 l5 (sA u 99 l5.toNatClampNeg v_16) fun u_18 => rd (u_18.2.2.1 100) 100 (l5 - 1) fun v_20 => wr 100 l5 (sA u_18 100 l5.toNatClampNeg v_20) fun u_22 => rd (u_22.2.2.1 101) 100 (l5 - 1) fun v_24 => wr 100 l5 (sA u_22 101 l5.toNatClampNeg v_24) fun u_26 => rd (u_26.2.2.2 102) 100 (l5 - 1) fun v_28 => wr 100 l5 (sB u_26 102 l5.toNatClampNeg v_28) fun u_30 => R_196 (l1, l2, l3, (l5 + (-1)), u_30))
set_option maxHeartbeats 4000000 in
theorem b_ticks_196 {r : Int32} (X : RC p s m args c cX12_ticks 6 (Cond.code yX12_ticks cX12_ticks 6 (some .int)) D kA V A) (hE : REi p l e R s m args below meth c cX12_ticks D kA Z A Q r w) (hF : 5 ≤ R.frames) (hL : 127 ≤ R.locals) {R_146 : Int32 × Int32 × RSt → Option (Int32 × RSt)} {R_196 : Int32 × Int32 × Int64 × Int32 × RSt → Option (Int32 × RSt)} {l1 : Int32} {l2 : Int32} {l3 : Int64} {l5 : Int32} (hR_146 : ∀ (l1 : Int32) (l2 : Int32) (u : RSt), R_146 (l1, l2, u) = some (r, w) → ∀ (H : Heap) (locs : List Loc) (ls : Array Slot), RS D kA Z A s u H locs → lv_has ls 6 [(0, .ref (Z 200)), (1, .int l1), (2, .int l2)] → W p l e R s m args below meth c H locs 0 0 Q (F0 m 146 ls [])) (hR_196 : ∀ (l1 : Int32) (l2 : Int32) (l3 : Int64) (l5 : Int32) (u : RSt), R_196 (l1, l2, l3, l5, u) = some (r, w) → ∀ (H : Heap) (locs : List Loc) (ls : Array Slot), RS D kA Z A s u H locs → lv_has ls 6 [(0, .ref (Z 200)), (1, .int l1), (2, .int l2), (3, .long l3), (5, .int l5)] → W p l e R s m args below meth c H locs 0 0 Q (F0 m 196 ls [])) {u : RSt} (h : B_ticks_196 N R_146 R_196 l1 l2 l3 l5 u = some (r, w)) (hS : RS D kA Z A s u H locs) (hl : lv_has ls 6 [(0, .ref (Z 200)), (1, .int l1), (2, .int l2), (3, .long l3), (5, .int l5)]) : W p l e R s m args below meth c H locs 0 0 Q (F0 m 196 ls []) := by
  obtain ⟨⟨hx, hb, hml, hown, hts⟩, hK, hEV, hA⟩ := id X
  have hG : ∀ w ∈ GW, w.before args s = true := fun w h => hts w (List.mem_cons_of_mem _ h)
  unfold B_ticks_196 at h
  refine lv_iload hx hb dX12_ticks_196 (lv_at hl 4 rfl) ?_
  refine lv_if_le (tgt := 271) hx hb dX12_ticks_198 (by decide) (fun c_1 => ?_) (fun c_1 => ?_)
  · have h := ip (c_1) h
    refine lv_aload_n hx hb dX12_ticks_271 rfl (lv_at hl 0 rfl) ?_
    refine rg_99 X hS dX12_ticks_272 ?_
    refine lv_iconst (v := 0) hx hb dX12_ticks_275 (by decide) ?_
    refine lv_aload_n hx hb dX12_ticks_276 rfl (lv_at hl 0 rfl) ?_
    refine rg_104 X hS dX12_ticks_277 ?_
    obtain ⟨u_2, e_u_2, i_3, h⟩ := wr_of h
    refine rs_99 X hS i_3 e_u_2 dX12_ticks_280 (fun H locs hS => ?_)
    refine lv_aload_n hx hb dX12_ticks_281 rfl (lv_at hl 0 rfl) ?_
    refine rg_100 X hS dX12_ticks_282 ?_
    refine lv_iconst (v := 0) hx hb dX12_ticks_285 (by decide) ?_
    refine lv_aload_n hx hb dX12_ticks_286 rfl (lv_at hl 0 rfl) ?_
    refine rg_95 X hS dX12_ticks_287 ?_
    refine lv_iload_n hx hb dX12_ticks_290 rfl (lv_at hl 2 rfl) ?_
    obtain ⟨v_4, e_v_4, i_5, h⟩ := rd_of h
    refine ra_95 X hS i_5 e_v_4 dX12_ticks_291 ?_
    obtain ⟨u_6, e_u_6, i_7, h⟩ := wr_of h
    refine rs_100 X hS i_7 e_u_6 dX12_ticks_292 (fun H locs hS => ?_)
    refine lv_aload_n hx hb dX12_ticks_293 rfl (lv_at hl 0 rfl) ?_
    refine rg_101 X hS dX12_ticks_294 ?_
    refine lv_iconst (v := 0) hx hb dX12_ticks_297 (by decide) ?_
    refine lv_aload_n hx hb dX12_ticks_298 rfl (lv_at hl 0 rfl) ?_
    refine rg_96 X hS dX12_ticks_299 ?_
    refine lv_iload_n hx hb dX12_ticks_302 rfl (lv_at hl 2 rfl) ?_
    obtain ⟨v_8, e_v_8, i_9, h⟩ := rd_of h
    refine ra_96 X hS i_9 e_v_8 dX12_ticks_303 ?_
    obtain ⟨u_10, e_u_10, i_11, h⟩ := wr_of h
    refine rs_101 X hS i_11 e_u_10 dX12_ticks_304 (fun H locs hS => ?_)
    refine lv_aload_n hx hb dX12_ticks_305 rfl (lv_at hl 0 rfl) ?_
    refine rg_102 X hS dX12_ticks_306 ?_
    refine lv_iconst (v := 0) hx hb dX12_ticks_309 (by decide) ?_
    refine lv_lload_n hx hb dX12_ticks_310 rfl (lv_at hl 3 rfl) ?_
    obtain ⟨u_12, e_u_12, i_13, h⟩ := wr_of h
    refine rs_102 X hS i_13 e_u_12 dX12_ticks_311 (fun H locs hS => ?_)
    refine lv_aload_n hx hb dX12_ticks_312 rfl (lv_at hl 0 rfl) ?_
    refine rg_103 X hS dX12_ticks_313 ?_
    refine lv_bipush (v := 100) hx hb dX12_ticks_316 (by decide) ?_
    refine lv_icmp_ge (tgt := 331) hx hb dX12_ticks_318 (by decide) (fun c_14 => ?_) (fun c_14 => ?_)
    · have h := ip (c_14) h
      exact b_ticks_331 X hE hF hL hR_146 h hS (lv_sub hl [0, 1, 2] rfl)
    · have h := im (c_14) h
      refine lv_aload_n hx hb dX12_ticks_321 rfl (lv_at hl 0 rfl) ?_
      refine lv_dup hx hb dX12_ticks_322 rfl ?_
      refine rg_103 X hS dX12_ticks_323 ?_
      refine lv_iconst (v := 1) hx hb dX12_ticks_326 (by decide) ?_
      refine lv_iadd hx hb dX12_ticks_327 ?_
      obtain ⟨u_15, e_u_15, h⟩ := pu_of h
      refine rp_103 X hS e_u_15 dX12_ticks_328 (fun H locs hS => ?_)
      exact b_ticks_331 X hE hF hL hR_146 h hS (lv_sub hl [0, 1, 2] rfl)
  · have h := im (c_1) h
    refine lv_aload_n hx hb dX12_ticks_201 rfl (lv_at hl 0 rfl) ?_
    refine rg_99 X hS dX12_ticks_202 ?_
    refine lv_iload hx hb dX12_ticks_205 (lv_at hl 4 rfl) ?_
    refine lv_aload_n hx hb dX12_ticks_207 rfl (lv_at hl 0 rfl) ?_
    refine rg_99 X hS dX12_ticks_208 ?_
    refine lv_iload hx hb dX12_ticks_211 (lv_at hl 4 rfl) ?_
    refine lv_iconst (v := 1) hx hb dX12_ticks_213 (by decide) ?_
    refine lv_isub hx hb dX12_ticks_214 ?_
    obtain ⟨v_16, e_v_16, i_17, h⟩ := rd_of h
    refine ra_99 X hS i_17 e_v_16 dX12_ticks_215 ?_
    obtain ⟨u_18, e_u_18, i_19, h⟩ := wr_of h
    refine rs_99 X hS i_19 e_u_18 dX12_ticks_216 (fun H locs hS => ?_)
    refine lv_aload_n hx hb dX12_ticks_217 rfl (lv_at hl 0 rfl) ?_
    refine rg_100 X hS dX12_ticks_218 ?_
    refine lv_iload hx hb dX12_ticks_221 (lv_at hl 4 rfl) ?_
    refine lv_aload_n hx hb dX12_ticks_223 rfl (lv_at hl 0 rfl) ?_
    refine rg_100 X hS dX12_ticks_224 ?_
    refine lv_iload hx hb dX12_ticks_227 (lv_at hl 4 rfl) ?_
    refine lv_iconst (v := 1) hx hb dX12_ticks_229 (by decide) ?_
    refine lv_isub hx hb dX12_ticks_230 ?_
    obtain ⟨v_20, e_v_20, i_21, h⟩ := rd_of h
    refine ra_100 X hS i_21 e_v_20 dX12_ticks_231 ?_
    obtain ⟨u_22, e_u_22, i_23, h⟩ := wr_of h
    refine rs_100 X hS i_23 e_u_22 dX12_ticks_232 (fun H locs hS => ?_)
    refine lv_aload_n hx hb dX12_ticks_233 rfl (lv_at hl 0 rfl) ?_
    refine rg_101 X hS dX12_ticks_234 ?_
    refine lv_iload hx hb dX12_ticks_237 (lv_at hl 4 rfl) ?_
    refine lv_aload_n hx hb dX12_ticks_239 rfl (lv_at hl 0 rfl) ?_
    refine rg_101 X hS dX12_ticks_240 ?_
    refine lv_iload hx hb dX12_ticks_243 (lv_at hl 4 rfl) ?_
    refine lv_iconst (v := 1) hx hb dX12_ticks_245 (by decide) ?_
    refine lv_isub hx hb dX12_ticks_246 ?_
    obtain ⟨v_24, e_v_24, i_25, h⟩ := rd_of h
    refine ra_101 X hS i_25 e_v_24 dX12_ticks_247 ?_
    obtain ⟨u_26, e_u_26, i_27, h⟩ := wr_of h
    refine rs_101 X hS i_27 e_u_26 dX12_ticks_248 (fun H locs hS => ?_)
    refine lv_aload_n hx hb dX12_ticks_249 rfl (lv_at hl 0 rfl) ?_
    refine rg_102 X hS dX12_ticks_250 ?_
    refine lv_iload hx hb dX12_ticks_253 (lv_at hl 4 rfl) ?_
    refine lv_aload_n hx hb dX12_ticks_255 rfl (lv_at hl 0 rfl) ?_
    refine rg_102 X hS dX12_ticks_256 ?_
    refine lv_iload hx hb dX12_ticks_259 (lv_at hl 4 rfl) ?_
    refine lv_iconst (v := 1) hx hb dX12_ticks_261 (by decide) ?_
    refine lv_isub hx hb dX12_ticks_262 ?_
    obtain ⟨v_28, e_v_28, i_29, h⟩ := rd_of h
    refine ra_102 X hS i_29 e_v_28 dX12_ticks_263 ?_
    obtain ⟨u_30, e_u_30, i_31, h⟩ := wr_of h
    refine rs_102 X hS i_31 e_u_30 dX12_ticks_264 (fun H locs hS => ?_)
    refine lv_iinc (v := l5 + (-1)) (lv' := [(5, .int (l5 + (-1))), (0, .ref (Z 200)), (1, .int l1), (2, .int l2), (3, .long l3)]) hx hb dX12_ticks_265 hl (k := 4) rfl rfl (by decide) rfl (fun ls hl => ?_)
    refine lv_goto (tgt := 196) hx hb dX12_ticks_268 (by decide) ?_
    exact hR_196 _ _ _ _ _ h _ _ _ hS (lv_sub hl [1, 2, 3, 4, 0] rfl)
def LP_ticks_196 (N : Nat) (R_146 : Int32 × Int32 × RSt → Option (Int32 × RSt)) : Nat → Int32 × Int32 × Int64 × Int32 × RSt → Option (Int32 × RSt) := lp (fun R a => B_ticks_196 N R_146 R a.1 a.2.1 a.2.2.1 a.2.2.2.1 a.2.2.2.2)
theorem bl_ticks_196 {r : Int32} (X : RC p s m args c cX12_ticks 6 (Cond.code yX12_ticks cX12_ticks 6 (some .int)) D kA V A) (hE : REi p l e R s m args below meth c cX12_ticks D kA Z A Q r w) (hF : 5 ≤ R.frames) (hL : 127 ≤ R.locals) {R_146 : Int32 × Int32 × RSt → Option (Int32 × RSt)} (hR_146 : ∀ (l1 : Int32) (l2 : Int32) (u : RSt), R_146 (l1, l2, u) = some (r, w) → ∀ (H : Heap) (locs : List Loc) (ls : Array Slot), RS D kA Z A s u H locs → lv_has ls 6 [(0, .ref (Z 200)), (1, .int l1), (2, .int l2)] → W p l e R s m args below meth c H locs 0 0 Q (F0 m 146 ls [])) : ∀ (n : Nat) (l1 : Int32) (l2 : Int32) (l3 : Int64) (l5 : Int32) (u : RSt), LP_ticks_196 N R_146 n (l1, l2, l3, l5, u) = some (r, w) → ∀ (H : Heap) (locs : List Loc) (ls : Array Slot), RS D kA Z A s u H locs → lv_has ls 6 [(0, .ref (Z 200)), (1, .int l1), (2, .int l2), (3, .long l3), (5, .int l5)] → W p l e R s m args below meth c H locs 0 0 Q (F0 m 196 ls []) := by
  intro n
  induction n with
  | zero => intro l1 l2 l3 l5 u h; exact nomatch h
  | succ n ih => intro l1 l2 l3 l5 u h H locs ls hS hl; exact b_ticks_196 (N := N) (R_196 := LP_ticks_196 N R_146 n) X hE hF hL hR_146 ih h hS hl
def B_ticks_146 (N : Nat) (R_146 : Int32 × Int32 × RSt → Option (Int32 × RSt)) (l1 : Int32) (l2 : Int32) (u : RSt) : Option (Int32 × RSt) := if (u.1 98) ≤ l2 then (pu (sI u 104 ((u.1 104) + 1)) fun u_33 => some (l1, u_33)) else (rd (u.2.2.1 95) 16 l2 fun v_34 => rd (u.2.2.1 96) 16 l2 fun v_36 => bn (F_numberOf N v_34 v_36 u) fun r_39 u_38 => rd (u_38.2.2.2 97) 16 l2 fun v_40 => if r_39 = v_40 then (B_ticks_331 N R_146 l1 l2 u_38) else (wr 16 l2 (sB u_38 97 l2.toNatClampNeg r_39) fun u_43 => LP_ticks_196 N R_146 N (l1, l2, r_39, 99, u_43)))
set_option maxHeartbeats 4000000 in
theorem b_ticks_146 {r : Int32} (X : RC p s m args c cX12_ticks 6 (Cond.code yX12_ticks cX12_ticks 6 (some .int)) D kA V A) (hE : REi p l e R s m args below meth c cX12_ticks D kA Z A Q r w) (hF : 5 ≤ R.frames) (hL : 127 ≤ R.locals) {R_146 : Int32 × Int32 × RSt → Option (Int32 × RSt)} {l1 : Int32} {l2 : Int32} (hR_146 : ∀ (l1 : Int32) (l2 : Int32) (u : RSt), R_146 (l1, l2, u) = some (r, w) → ∀ (H : Heap) (locs : List Loc) (ls : Array Slot), RS D kA Z A s u H locs → lv_has ls 6 [(0, .ref (Z 200)), (1, .int l1), (2, .int l2)] → W p l e R s m args below meth c H locs 0 0 Q (F0 m 146 ls [])) {u : RSt} (h : B_ticks_146 N R_146 l1 l2 u = some (r, w)) (hS : RS D kA Z A s u H locs) (hl : lv_has ls 6 [(0, .ref (Z 200)), (1, .int l1), (2, .int l2)]) : W p l e R s m args below meth c H locs 0 0 Q (F0 m 146 ls []) := by
  obtain ⟨⟨hx, hb, hml, hown, hts⟩, hK, hEV, hA⟩ := id X
  have hG : ∀ w ∈ GW, w.before args s = true := fun w h => hts w (List.mem_cons_of_mem _ h)
  unfold B_ticks_146 at h
  refine lv_iload_n hx hb dX12_ticks_146 rfl (lv_at hl 2 rfl) ?_
  refine lv_aload_n hx hb dX12_ticks_147 rfl (lv_at hl 0 rfl) ?_
  refine rg_98 X hS dX12_ticks_148 ?_
  refine lv_icmp_ge (tgt := 337) hx hb dX12_ticks_151 (by decide) (fun c_32 => ?_) (fun c_32 => ?_)
  · have h := ip (c_32) h
    refine lv_aload_n hx hb dX12_ticks_337 rfl (lv_at hl 0 rfl) ?_
    refine lv_dup hx hb dX12_ticks_338 rfl ?_
    refine rg_104 X hS dX12_ticks_339 ?_
    refine lv_iconst (v := 1) hx hb dX12_ticks_342 (by decide) ?_
    refine lv_iadd hx hb dX12_ticks_343 ?_
    obtain ⟨u_33, e_u_33, h⟩ := pu_of h
    refine rp_104 X hS e_u_33 dX12_ticks_344 (fun H locs hS => ?_)
    refine lv_iload_n hx hb dX12_ticks_347 rfl (lv_at hl 1 rfl) ?_
    obtain ⟨rfl, rfl⟩ := so h
    exact hE _ _ _ _ hS dX12_ticks_348
  · have h := im (c_32) h
    refine lv_aload_n hx hb dX12_ticks_154 rfl (lv_at hl 0 rfl) ?_
    refine lv_aload_n hx hb dX12_ticks_155 rfl (lv_at hl 0 rfl) ?_
    refine rg_95 X hS dX12_ticks_156 ?_
    refine lv_iload_n hx hb dX12_ticks_159 rfl (lv_at hl 2 rfl) ?_
    obtain ⟨v_34, e_v_34, i_35, h⟩ := rd_of h
    refine ra_95 X hS i_35 e_v_34 dX12_ticks_160 ?_
    refine lv_aload_n hx hb dX12_ticks_161 rfl (lv_at hl 0 rfl) ?_
    refine rg_96 X hS dX12_ticks_162 ?_
    refine lv_iload_n hx hb dX12_ticks_165 rfl (lv_at hl 2 rfl) ?_
    obtain ⟨v_36, e_v_36, i_37, h⟩ := rd_of h
    refine ra_96 X hS i_37 e_v_36 dX12_ticks_166 ?_
    obtain ⟨r_39, u_38, h_u_38, h⟩ := bn_of h
    refine kc_numberOf X hS h_u_38 (Nat.le_trans (Nat.le_of_ble_eq_true rfl) hF) (Nat.le_trans (Nat.le_of_ble_eq_true rfl) hL) hl.1 (Nat.le_of_ble_eq_true rfl) dX12_ticks_167 (fun H locs hS => ?_)
    refine lv_lstore_n (lv' := [(3, .long r_39), (0, .ref (Z 200)), (1, .int l1), (2, .int l2)]) hx hb dX12_ticks_170 rfl hl (by decide) rfl (fun ls hl => ?_)
    refine lv_lload_n hx hb dX12_ticks_171 rfl (lv_at hl 0 rfl) ?_
    refine lv_aload_n hx hb dX12_ticks_172 rfl (lv_at hl 1 rfl) ?_
    refine rg_97 X hS dX12_ticks_173 ?_
    refine lv_iload_n hx hb dX12_ticks_176 rfl (lv_at hl 3 rfl) ?_
    obtain ⟨v_40, e_v_40, i_41, h⟩ := rd_of h
    refine ra_97 X hS i_41 e_v_40 dX12_ticks_177 ?_
    refine W.lcmp hx hb dX12_ticks_178 ?_
    refine lv_if_ne (tgt := 185) hx hb dX12_ticks_179 (by decide) (fun c_42 => ?_) (fun c_42 => ?_)
    · have h := im (mt (lg_cmp_eq _ _).mpr c_42) h
      refine lv_aload_n hx hb dX12_ticks_185 rfl (lv_at hl 1 rfl) ?_
      refine rg_97 X hS dX12_ticks_186 ?_
      refine lv_iload_n hx hb dX12_ticks_189 rfl (lv_at hl 3 rfl) ?_
      refine lv_lload_n hx hb dX12_ticks_190 rfl (lv_at hl 0 rfl) ?_
      obtain ⟨u_43, e_u_43, i_44, h⟩ := wr_of h
      refine rs_97 X hS i_44 e_u_43 dX12_ticks_191 (fun H locs hS => ?_)
      refine lv_bipush (v := 99) hx hb dX12_ticks_192 (by decide) ?_
      refine lv_istore (lv' := [(5, .int 99), (3, .long r_39), (0, .ref (Z 200)), (1, .int l1), (2, .int l2)]) hx hb dX12_ticks_194 hl (by decide) rfl (fun ls hl => ?_)
      exact bl_ticks_196 X hE hF hL hR_146 _ _ _ _ _ _ h _ _ _ hS (lv_sub hl [2, 3, 4, 1, 0] rfl)
    · have h := ip ((lg_cmp_eq _ _).mp c_42) h
      refine lv_goto (tgt := 331) hx hb dX12_ticks_182 (by decide) ?_
      exact b_ticks_331 X hE hF hL hR_146 h hS (lv_sub hl [1, 2, 3] rfl)
def LP_ticks_146 (N : Nat) : Nat → Int32 × Int32 × RSt → Option (Int32 × RSt) := lp (fun R a => B_ticks_146 N R a.1 a.2.1 a.2.2)
theorem bl_ticks_146 {r : Int32} (X : RC p s m args c cX12_ticks 6 (Cond.code yX12_ticks cX12_ticks 6 (some .int)) D kA V A) (hE : REi p l e R s m args below meth c cX12_ticks D kA Z A Q r w) (hF : 5 ≤ R.frames) (hL : 127 ≤ R.locals)  : ∀ (n : Nat) (l1 : Int32) (l2 : Int32) (u : RSt), LP_ticks_146 N n (l1, l2, u) = some (r, w) → ∀ (H : Heap) (locs : List Loc) (ls : Array Slot), RS D kA Z A s u H locs → lv_has ls 6 [(0, .ref (Z 200)), (1, .int l1), (2, .int l2)] → W p l e R s m args below meth c H locs 0 0 Q (F0 m 146 ls []) := by
  intro n
  induction n with
  | zero => intro l1 l2 u h; exact nomatch h
  | succ n ih => intro l1 l2 u h H locs ls hS hl; exact b_ticks_146 (N := N) (R_146 := LP_ticks_146 N n) X hE hF hL  ih h hS hl
def B_ticks_119 (N : Nat) (R_119 : Int32 × Int32 × RSt → Option (Int32 × RSt)) (l1 : Int32) (l2 : Int32) (u : RSt) : Option (Int32 × RSt) := if (128 : Int32) ≤ l2 then (LP_ticks_146 N N (l1, 0, u)) else (rd (u.2.2.1 85) 128 l2 fun v_46 => wr 128 l2 (sA u 84 l2.toNatClampNeg v_46) fun u_48 => R_119 (l1, (l2 + 1), u_48))
set_option maxHeartbeats 4000000 in
theorem b_ticks_119 {r : Int32} (X : RC p s m args c cX12_ticks 6 (Cond.code yX12_ticks cX12_ticks 6 (some .int)) D kA V A) (hE : REi p l e R s m args below meth c cX12_ticks D kA Z A Q r w) (hF : 5 ≤ R.frames) (hL : 127 ≤ R.locals) {R_119 : Int32 × Int32 × RSt → Option (Int32 × RSt)} {l1 : Int32} {l2 : Int32} (hR_119 : ∀ (l1 : Int32) (l2 : Int32) (u : RSt), R_119 (l1, l2, u) = some (r, w) → ∀ (H : Heap) (locs : List Loc) (ls : Array Slot), RS D kA Z A s u H locs → lv_has ls 6 [(0, .ref (Z 200)), (1, .int l1), (2, .int l2)] → W p l e R s m args below meth c H locs 0 0 Q (F0 m 119 ls [])) {u : RSt} (h : B_ticks_119 N R_119 l1 l2 u = some (r, w)) (hS : RS D kA Z A s u H locs) (hl : lv_has ls 6 [(0, .ref (Z 200)), (1, .int l1), (2, .int l2)]) : W p l e R s m args below meth c H locs 0 0 Q (F0 m 119 ls []) := by
  obtain ⟨⟨hx, hb, hml, hown, hts⟩, hK, hEV, hA⟩ := id X
  have hG : ∀ w ∈ GW, w.before args s = true := fun w h => hts w (List.mem_cons_of_mem _ h)
  unfold B_ticks_119 at h
  refine lv_iload_n hx hb dX12_ticks_119 rfl (lv_at hl 2 rfl) ?_
  refine lv_sipush (v := 128) hx hb dX12_ticks_120 (by decide) ?_
  refine lv_icmp_ge (tgt := 144) hx hb dX12_ticks_123 (by decide) (fun c_45 => ?_) (fun c_45 => ?_)
  · have h := ip (c_45) h
    refine lv_iconst (v := 0) hx hb dX12_ticks_144 (by decide) ?_
    refine lv_istore_n (lv' := [(2, .int 0), (0, .ref (Z 200)), (1, .int l1)]) hx hb dX12_ticks_145 rfl hl (by decide) rfl (fun ls hl => ?_)
    exact bl_ticks_146 X hE hF hL  _ _ _ _ h _ _ _ hS (lv_sub hl [1, 2, 0] rfl)
  · have h := im (c_45) h
    refine lv_aload_n hx hb dX12_ticks_126 rfl (lv_at hl 0 rfl) ?_
    refine rg_84 X hS dX12_ticks_127 ?_
    refine lv_iload_n hx hb dX12_ticks_130 rfl (lv_at hl 2 rfl) ?_
    refine lv_aload_n hx hb dX12_ticks_131 rfl (lv_at hl 0 rfl) ?_
    refine rg_85 X hS dX12_ticks_132 ?_
    refine lv_iload_n hx hb dX12_ticks_135 rfl (lv_at hl 2 rfl) ?_
    obtain ⟨v_46, e_v_46, i_47, h⟩ := rd_of h
    refine ra_85 X hS i_47 e_v_46 dX12_ticks_136 ?_
    obtain ⟨u_48, e_u_48, i_49, h⟩ := wr_of h
    refine rs_84 X hS i_49 e_u_48 dX12_ticks_137 (fun H locs hS => ?_)
    refine lv_iinc (v := l2 + 1) (lv' := [(2, .int (l2 + 1)), (0, .ref (Z 200)), (1, .int l1)]) hx hb dX12_ticks_138 hl (k := 2) rfl rfl (by decide) rfl (fun ls hl => ?_)
    refine lv_goto (tgt := 119) hx hb dX12_ticks_141 (by decide) ?_
    exact hR_119 _ _ _ h _ _ _ hS (lv_sub hl [1, 2, 0] rfl)
def LP_ticks_119 (N : Nat) : Nat → Int32 × Int32 × RSt → Option (Int32 × RSt) := lp (fun R a => B_ticks_119 N R a.1 a.2.1 a.2.2)
theorem bl_ticks_119 {r : Int32} (X : RC p s m args c cX12_ticks 6 (Cond.code yX12_ticks cX12_ticks 6 (some .int)) D kA V A) (hE : REi p l e R s m args below meth c cX12_ticks D kA Z A Q r w) (hF : 5 ≤ R.frames) (hL : 127 ≤ R.locals)  : ∀ (n : Nat) (l1 : Int32) (l2 : Int32) (u : RSt), LP_ticks_119 N n (l1, l2, u) = some (r, w) → ∀ (H : Heap) (locs : List Loc) (ls : Array Slot), RS D kA Z A s u H locs → lv_has ls 6 [(0, .ref (Z 200)), (1, .int l1), (2, .int l2)] → W p l e R s m args below meth c H locs 0 0 Q (F0 m 119 ls []) := by
  intro n
  induction n with
  | zero => intro l1 l2 u h; exact nomatch h
  | succ n ih => intro l1 l2 u h H locs ls hS hl; exact b_ticks_119 (N := N) (R_119 := LP_ticks_119 N n) X hE hF hL  ih h hS hl
def B_ticks_35 (N : Nat) (R_35 : Int32 × Int32 × RSt → Option (Int32 × RSt)) (l1 : Int32) (l2 : Int32) (u : RSt) : Option (Int32 × RSt) := rd (u.2.2.1 48) 2 (u.1 55) fun v_50 => if v_50 ≤ l2 then (bn (F_forces N 64 u) fun _ u_53 => LP_ticks_119 N N (l1, 64, u_53)) else (rd (u.2.2.1 88) 8 l2 fun v_54 => if v_54 = (0 : Int32) then (rd (u.2.2.1 43) 16 ((8 * (u.1 55)) + l2) fun v_57 => nz v_57 <| rd (u.2.2.1 44) 16 ((8 * (u.1 55)) + l2) fun v_60 => if ((u.1 104) - (u.1 104) / v_57 * v_57) = v_60 then (bn (F_runTask N l2 u) fun _ u_63 => B_ticks_104 N R_35 (l1 + 1) l2 u_63) else (B_ticks_104 N R_35 l1 l2 u)) else (B_ticks_104 N R_35 l1 l2 u))
set_option maxHeartbeats 4000000 in
theorem b_ticks_35 {r : Int32} (X : RC p s m args c cX12_ticks 6 (Cond.code yX12_ticks cX12_ticks 6 (some .int)) D kA V A) (hE : REi p l e R s m args below meth c cX12_ticks D kA Z A Q r w) (hF : 5 ≤ R.frames) (hL : 127 ≤ R.locals) {R_35 : Int32 × Int32 × RSt → Option (Int32 × RSt)} {l1 : Int32} {l2 : Int32} (hR_35 : ∀ (l1 : Int32) (l2 : Int32) (u : RSt), R_35 (l1, l2, u) = some (r, w) → ∀ (H : Heap) (locs : List Loc) (ls : Array Slot), RS D kA Z A s u H locs → lv_has ls 6 [(0, .ref (Z 200)), (1, .int l1), (2, .int l2)] → W p l e R s m args below meth c H locs 0 0 Q (F0 m 35 ls [])) {u : RSt} (h : B_ticks_35 N R_35 l1 l2 u = some (r, w)) (hS : RS D kA Z A s u H locs) (hl : lv_has ls 6 [(0, .ref (Z 200)), (1, .int l1), (2, .int l2)]) : W p l e R s m args below meth c H locs 0 0 Q (F0 m 35 ls []) := by
  obtain ⟨⟨hx, hb, hml, hown, hts⟩, hK, hEV, hA⟩ := id X
  have hG : ∀ w ∈ GW, w.before args s = true := fun w h => hts w (List.mem_cons_of_mem _ h)
  unfold B_ticks_35 at h
  refine lv_iload_n hx hb dX12_ticks_35 rfl (lv_at hl 2 rfl) ?_
  refine lv_aload_n hx hb dX12_ticks_36 rfl (lv_at hl 0 rfl) ?_
  refine rg_48 X hS dX12_ticks_37 ?_
  refine lv_aload_n hx hb dX12_ticks_40 rfl (lv_at hl 0 rfl) ?_
  refine rg_55 X hS dX12_ticks_41 ?_
  obtain ⟨v_50, e_v_50, i_51, h⟩ := rd_of h
  refine ra_48 X hS i_51 e_v_50 dX12_ticks_44 ?_
  refine lv_icmp_ge (tgt := 110) hx hb dX12_ticks_45 (by decide) (fun c_52 => ?_) (fun c_52 => ?_)
  · have h := ip (c_52) h
    refine lv_aload_n hx hb dX12_ticks_110 rfl (lv_at hl 0 rfl) ?_
    refine lv_bipush (v := 64) hx hb dX12_ticks_111 (by decide) ?_
    obtain ⟨r_u_53, u_53, h_u_53, h⟩ := bn_of h
    refine kc_forces X hS h_u_53 (Nat.le_trans (Nat.le_of_ble_eq_true rfl) hF) (Nat.le_trans (Nat.le_of_ble_eq_true rfl) hL) hl.1 (Nat.le_of_ble_eq_true rfl) dX12_ticks_113 (fun H locs hS => ?_)
    refine lv_bipush (v := 64) hx hb dX12_ticks_116 (by decide) ?_
    refine lv_istore_n (lv' := [(2, .int 64), (0, .ref (Z 200)), (1, .int l1)]) hx hb dX12_ticks_118 rfl hl (by decide) rfl (fun ls hl => ?_)
    exact bl_ticks_119 X hE hF hL  _ _ _ _ h _ _ _ hS (lv_sub hl [1, 2, 0] rfl)
  · have h := im (c_52) h
    refine lv_aload_n hx hb dX12_ticks_48 rfl (lv_at hl 0 rfl) ?_
    refine rg_88 X hS dX12_ticks_49 ?_
    refine lv_iload_n hx hb dX12_ticks_52 rfl (lv_at hl 2 rfl) ?_
    obtain ⟨v_54, e_v_54, i_55, h⟩ := rd_of h
    refine ra_88 X hS i_55 e_v_54 dX12_ticks_53 ?_
    refine lv_if_ne (tgt := 104) hx hb dX12_ticks_54 (by decide) (fun c_56 => ?_) (fun c_56 => ?_)
    · have h := im (c_56) h
      exact b_ticks_104 X hE hF hL hR_35 h hS (lv_sub hl [0, 1, 2] rfl)
    · have h := ip (c_56) h
      refine lv_aload_n hx hb dX12_ticks_57 rfl (lv_at hl 0 rfl) ?_
      refine rg_104 X hS dX12_ticks_58 ?_
      refine lv_aload_n hx hb dX12_ticks_61 rfl (lv_at hl 0 rfl) ?_
      refine rg_43 X hS dX12_ticks_62 ?_
      refine lv_bipush (v := 8) hx hb dX12_ticks_65 (by decide) ?_
      refine lv_aload_n hx hb dX12_ticks_67 rfl (lv_at hl 0 rfl) ?_
      refine rg_55 X hS dX12_ticks_68 ?_
      refine lv_imul hx hb dX12_ticks_71 ?_
      refine lv_iload_n hx hb dX12_ticks_72 rfl (lv_at hl 2 rfl) ?_
      refine lv_iadd hx hb dX12_ticks_73 ?_
      obtain ⟨v_57, e_v_57, i_58, h⟩ := rd_of h
      refine ra_43 X hS i_58 e_v_57 dX12_ticks_74 ?_
      obtain ⟨z_59, h⟩ := nz_of h
      refine lv_irem hx hb dX12_ticks_75 z_59 ?_
      refine lv_aload_n hx hb dX12_ticks_76 rfl (lv_at hl 0 rfl) ?_
      refine rg_44 X hS dX12_ticks_77 ?_
      refine lv_bipush (v := 8) hx hb dX12_ticks_80 (by decide) ?_
      refine lv_aload_n hx hb dX12_ticks_82 rfl (lv_at hl 0 rfl) ?_
      refine rg_55 X hS dX12_ticks_83 ?_
      refine lv_imul hx hb dX12_ticks_86 ?_
      refine lv_iload_n hx hb dX12_ticks_87 rfl (lv_at hl 2 rfl) ?_
      refine lv_iadd hx hb dX12_ticks_88 ?_
      obtain ⟨v_60, e_v_60, i_61, h⟩ := rd_of h
      refine ra_44 X hS i_61 e_v_60 dX12_ticks_89 ?_
      refine lv_icmp_eq (tgt := 96) hx hb dX12_ticks_90 (by decide) (fun c_62 => ?_) (fun c_62 => ?_)
      · have h := ip (c_62) h
        refine lv_iinc (v := l1 + 1) (lv' := [(1, .int (l1 + 1)), (0, .ref (Z 200)), (2, .int l2)]) hx hb dX12_ticks_96 hl (k := 1) rfl rfl (by decide) rfl (fun ls hl => ?_)
        refine lv_aload_n hx hb dX12_ticks_99 rfl (lv_at hl 1 rfl) ?_
        refine lv_iload_n hx hb dX12_ticks_100 rfl (lv_at hl 2 rfl) ?_
        obtain ⟨r_u_63, u_63, h_u_63, h⟩ := bn_of h
        refine kc_runTask X hS h_u_63 (Nat.le_trans (Nat.le_of_ble_eq_true rfl) hF) (Nat.le_trans (Nat.le_of_ble_eq_true rfl) hL) hl.1 (Nat.le_of_ble_eq_true rfl) dX12_ticks_101 (fun H locs hS => ?_)
        exact b_ticks_104 X hE hF hL hR_35 h hS (lv_sub hl [1, 0, 2] rfl)
      · have h := im (c_62) h
        refine lv_goto (tgt := 104) hx hb dX12_ticks_93 (by decide) ?_
        exact b_ticks_104 X hE hF hL hR_35 h hS (lv_sub hl [0, 1, 2] rfl)
def LP_ticks_35 (N : Nat) : Nat → Int32 × Int32 × RSt → Option (Int32 × RSt) := lp (fun R a => B_ticks_35 N R a.1 a.2.1 a.2.2)
theorem bl_ticks_35 {r : Int32} (X : RC p s m args c cX12_ticks 6 (Cond.code yX12_ticks cX12_ticks 6 (some .int)) D kA V A) (hE : REi p l e R s m args below meth c cX12_ticks D kA Z A Q r w) (hF : 5 ≤ R.frames) (hL : 127 ≤ R.locals)  : ∀ (n : Nat) (l1 : Int32) (l2 : Int32) (u : RSt), LP_ticks_35 N n (l1, l2, u) = some (r, w) → ∀ (H : Heap) (locs : List Loc) (ls : Array Slot), RS D kA Z A s u H locs → lv_has ls 6 [(0, .ref (Z 200)), (1, .int l1), (2, .int l2)] → W p l e R s m args below meth c H locs 0 0 Q (F0 m 35 ls []) := by
  intro n
  induction n with
  | zero => intro l1 l2 u h; exact nomatch h
  | succ n ih => intro l1 l2 u h H locs ls hS hl; exact b_ticks_35 (N := N) (R_35 := LP_ticks_35 N n) X hE hF hL  ih h hS hl
def B_ticks_4 (N : Nat) (R_4 : Int32 × Int32 × RSt → Option (Int32 × RSt)) (l1 : Int32) (l2 : Int32) (u : RSt) : Option (Int32 × RSt) := if (64 : Int32) ≤ l2 then (bn (F_forces N 0 u) fun _ u_65 => LP_ticks_35 N N (l1, 0, u_65)) else (rd (u.2.2.1 84) 128 l2 fun v_66 => wr 128 l2 (sA u 85 l2.toNatClampNeg v_66) fun u_68 => R_4 (l1, (l2 + 1), u_68))
set_option maxHeartbeats 4000000 in
theorem b_ticks_4 {r : Int32} (X : RC p s m args c cX12_ticks 6 (Cond.code yX12_ticks cX12_ticks 6 (some .int)) D kA V A) (hE : REi p l e R s m args below meth c cX12_ticks D kA Z A Q r w) (hF : 5 ≤ R.frames) (hL : 127 ≤ R.locals) {R_4 : Int32 × Int32 × RSt → Option (Int32 × RSt)} {l1 : Int32} {l2 : Int32} (hR_4 : ∀ (l1 : Int32) (l2 : Int32) (u : RSt), R_4 (l1, l2, u) = some (r, w) → ∀ (H : Heap) (locs : List Loc) (ls : Array Slot), RS D kA Z A s u H locs → lv_has ls 6 [(0, .ref (Z 200)), (1, .int l1), (2, .int l2)] → W p l e R s m args below meth c H locs 0 0 Q (F0 m 4 ls [])) {u : RSt} (h : B_ticks_4 N R_4 l1 l2 u = some (r, w)) (hS : RS D kA Z A s u H locs) (hl : lv_has ls 6 [(0, .ref (Z 200)), (1, .int l1), (2, .int l2)]) : W p l e R s m args below meth c H locs 0 0 Q (F0 m 4 ls []) := by
  obtain ⟨⟨hx, hb, hml, hown, hts⟩, hK, hEV, hA⟩ := id X
  have hG : ∀ w ∈ GW, w.before args s = true := fun w h => hts w (List.mem_cons_of_mem _ h)
  unfold B_ticks_4 at h
  refine lv_iload_n hx hb dX12_ticks_4 rfl (lv_at hl 2 rfl) ?_
  refine lv_bipush (v := 64) hx hb dX12_ticks_5 (by decide) ?_
  refine lv_icmp_ge (tgt := 28) hx hb dX12_ticks_7 (by decide) (fun c_64 => ?_) (fun c_64 => ?_)
  · have h := ip (c_64) h
    refine lv_aload_n hx hb dX12_ticks_28 rfl (lv_at hl 0 rfl) ?_
    refine lv_iconst (v := 0) hx hb dX12_ticks_29 (by decide) ?_
    obtain ⟨r_u_65, u_65, h_u_65, h⟩ := bn_of h
    refine kc_forces X hS h_u_65 (Nat.le_trans (Nat.le_of_ble_eq_true rfl) hF) (Nat.le_trans (Nat.le_of_ble_eq_true rfl) hL) hl.1 (Nat.le_of_ble_eq_true rfl) dX12_ticks_30 (fun H locs hS => ?_)
    refine lv_iconst (v := 0) hx hb dX12_ticks_33 (by decide) ?_
    refine lv_istore_n (lv' := [(2, .int 0), (0, .ref (Z 200)), (1, .int l1)]) hx hb dX12_ticks_34 rfl hl (by decide) rfl (fun ls hl => ?_)
    exact bl_ticks_35 X hE hF hL  _ _ _ _ h _ _ _ hS (lv_sub hl [1, 2, 0] rfl)
  · have h := im (c_64) h
    refine lv_aload_n hx hb dX12_ticks_10 rfl (lv_at hl 0 rfl) ?_
    refine rg_85 X hS dX12_ticks_11 ?_
    refine lv_iload_n hx hb dX12_ticks_14 rfl (lv_at hl 2 rfl) ?_
    refine lv_aload_n hx hb dX12_ticks_15 rfl (lv_at hl 0 rfl) ?_
    refine rg_84 X hS dX12_ticks_16 ?_
    refine lv_iload_n hx hb dX12_ticks_19 rfl (lv_at hl 2 rfl) ?_
    obtain ⟨v_66, e_v_66, i_67, h⟩ := rd_of h
    refine ra_84 X hS i_67 e_v_66 dX12_ticks_20 ?_
    obtain ⟨u_68, e_u_68, i_69, h⟩ := wr_of h
    refine rs_85 X hS i_69 e_u_68 dX12_ticks_21 (fun H locs hS => ?_)
    refine lv_iinc (v := l2 + 1) (lv' := [(2, .int (l2 + 1)), (0, .ref (Z 200)), (1, .int l1)]) hx hb dX12_ticks_22 hl (k := 2) rfl rfl (by decide) rfl (fun ls hl => ?_)
    refine lv_goto (tgt := 4) hx hb dX12_ticks_25 (by decide) ?_
    exact hR_4 _ _ _ h _ _ _ hS (lv_sub hl [1, 2, 0] rfl)
def LP_ticks_4 (N : Nat) : Nat → Int32 × Int32 × RSt → Option (Int32 × RSt) := lp (fun R a => B_ticks_4 N R a.1 a.2.1 a.2.2)
theorem bl_ticks_4 {r : Int32} (X : RC p s m args c cX12_ticks 6 (Cond.code yX12_ticks cX12_ticks 6 (some .int)) D kA V A) (hE : REi p l e R s m args below meth c cX12_ticks D kA Z A Q r w) (hF : 5 ≤ R.frames) (hL : 127 ≤ R.locals)  : ∀ (n : Nat) (l1 : Int32) (l2 : Int32) (u : RSt), LP_ticks_4 N n (l1, l2, u) = some (r, w) → ∀ (H : Heap) (locs : List Loc) (ls : Array Slot), RS D kA Z A s u H locs → lv_has ls 6 [(0, .ref (Z 200)), (1, .int l1), (2, .int l2)] → W p l e R s m args below meth c H locs 0 0 Q (F0 m 4 ls []) := by
  intro n
  induction n with
  | zero => intro l1 l2 u h; exact nomatch h
  | succ n ih => intro l1 l2 u h H locs ls hS hl; exact b_ticks_4 (N := N) (R_4 := LP_ticks_4 N n) X hE hF hL  ih h hS hl
def B_ticks_0 (N : Nat) (u : RSt) : Option (Int32 × RSt) := LP_ticks_4 N N (0, 0, u)
set_option maxHeartbeats 4000000 in
theorem b_ticks_0 {r : Int32} (X : RC p s m args c cX12_ticks 6 (Cond.code yX12_ticks cX12_ticks 6 (some .int)) D kA V A) (hE : REi p l e R s m args below meth c cX12_ticks D kA Z A Q r w) (hF : 5 ≤ R.frames) (hL : 127 ≤ R.locals)  {u : RSt} (h : B_ticks_0 N u = some (r, w)) (hS : RS D kA Z A s u H locs) (hl : lv_has ls 6 [(0, .ref (Z 200))]) : W p l e R s m args below meth c H locs 0 0 Q (F0 m 0 ls []) := by
  obtain ⟨⟨hx, hb, hml, hown, hts⟩, hK, hEV, hA⟩ := id X
  have hG : ∀ w ∈ GW, w.before args s = true := fun w h => hts w (List.mem_cons_of_mem _ h)
  unfold B_ticks_0 at h
  refine lv_iconst (v := 0) hx hb dX12_ticks_0 (by decide) ?_
  refine lv_istore_n (lv' := [(1, .int 0), (0, .ref (Z 200))]) hx hb dX12_ticks_1 rfl hl (by decide) rfl (fun ls hl => ?_)
  refine lv_iconst (v := 0) hx hb dX12_ticks_2 (by decide) ?_
  refine lv_istore_n (lv' := [(2, .int 0), (1, .int 0), (0, .ref (Z 200))]) hx hb dX12_ticks_3 rfl hl (by decide) rfl (fun ls hl => ?_)
  exact bl_ticks_4 X hE hF hL  _ _ _ _ h _ _ _ hS (lv_sub hl [2, 1, 0] rfl)
def F_ticks (N : Nat) (u : RSt) : Option (Int32 × RSt) := B_ticks_0 N u
set_option maxHeartbeats 4000000 in
theorem k_ticks (l : Launch) (D : va_G) (kA : Nat → ClassId) (V Z : Nat → Nat) (N : Nat) (u : RSt) (sz : Nat) {r : Int32} {w : RSt} (h : F_ticks N u = some (r, w)) : Met l yX12_ticks (Cond.code yX12_ticks cX12_ticks 6 (some .int) :: GW) { frames := 5, cells := 0, slots := 0, locals := 127 } (rPc D kA V Z [] u sz) (rQi D kA Z u sz r w) 0 0 (va_A (RW kA Z u) sz) := by
  refine Met.ofW (cc := cX12_ticks) (maxL := 6) (ret := (some .int)) (by decide) rfl ?_
  intro p e s m args below meth c s₁ Bd hml hv
  obtain ⟨rfl, hsz, hP, hK, hD0, hE⟩ := hv
  have hts := atoms_spec (ws := Cond.code yX12_ticks cX12_ticks 6 (some .int) :: GW) Bd.pre
  have hl := lv_entry (.ref (Z 200) :: []) (n := 6) (Nat.le_of_ble_eq_true rfl)
  rw [lg_entry_eq]
  generalize (lg_sl (.ref (Z 200) :: []) ++ List.replicate (6 - (lg_sl (.ref (Z 200) :: [])).length) Slot.unset).toArray = ls at hl ⊢
  have hl : lv_has ls 6 [(0, .ref (Z 200))] := hl
  subst hsz
  have X : RC p s m (.ref (Z 200) :: []).toArray c cX12_ticks 6 (Cond.code yX12_ticks cX12_ticks 6 (some .int)) D kA V (va_A (RW kA Z u) s.heap.size) := ⟨⟨Bd.exec, Bd.bytes, hml, findClass_of_methodNamed Bd.named, hts⟩, hK, hE, fun q h => Or.inr h⟩
  exact b_ticks_0 X (rend_i (cy := cX12_ticks) X Bd.returns Bd.notSynchronized) (Nat.le_refl _) (Nat.le_refl _) h ⟨hP, hD0.self, va_S.rf⟩ (lv_sub hl [0] rfl)
theorem kc_ticks {r : Int32} {cc : ByteArray} {pc nL : Nat} {c0 : Cond} {rest : List Value} {u : RSt} (X : RC p s m args c cc nL c0 D kA V A) (hS : RS D kA Z A s u H locs) (h : F_ticks N u = some (r, w)) (hF : 5 + 1 ≤ R.frames) (hL : 8 + (6 + 11) + 127 ≤ R.locals) (hl : ls.size = nL) (hc : (rest.map fun v => v.category).sum ≤ 8) (hdg : decode cc pc = .ok (.invokevirtual 736, 3)) (kk : ∀ H locs, RS D kA Z A s w H locs → W p l e R s m args below meth c H locs 0 0 Q (F0 m (pc + 3) ls (.int r :: rest))) : W p l e R s m args below meth c H locs 0 0 Q (F0 m pc ls (.ref (Z 200) :: rest)) :=
  rcall_i (n := 0) X hS (k_ticks l D kA V Z N  u H.size h) (gw_V gw_2608 gw_2610 gs_12_0 gw_16 gw_2611) (by decide +kernel) hF hL rfl hl hc rfl hdg kk
end VmRows
