abbrev cX7_isDue : ByteArray := prog_9_method_3_code
def yX7_isDue : MethodName := ⟨RX7, "isDue", "(I)Z"⟩
theorem dX7_isDue_0 : decode cX7_isDue 0 = .ok (.aload_n 0, 1) := by decide +kernel
theorem dX7_isDue_1 : decode cX7_isDue 1 = .ok (.getfield 7, 3) := by decide +kernel
theorem dX7_isDue_4 : decode cX7_isDue 4 = .ok (.ifCond .le 22, 3) := by decide +kernel
theorem dX7_isDue_7 : decode cX7_isDue 7 = .ok (.iload_n 1, 1) := by decide +kernel
theorem dX7_isDue_8 : decode cX7_isDue 8 = .ok (.aload_n 0, 1) := by decide +kernel
theorem dX7_isDue_9 : decode cX7_isDue 9 = .ok (.getfield 7, 3) := by decide +kernel
theorem dX7_isDue_12 : decode cX7_isDue 12 = .ok (.invokestatic 41, 3) := by decide +kernel
theorem dX7_isDue_15 : decode cX7_isDue 15 = .ok (.aload_n 0, 1) := by decide +kernel
theorem dX7_isDue_16 : decode cX7_isDue 16 = .ok (.getfield 13, 3) := by decide +kernel
theorem dX7_isDue_19 : decode cX7_isDue 19 = .ok (.if_icmp .ne 7, 3) := by decide +kernel
theorem dX7_isDue_22 : decode cX7_isDue 22 = .ok (.iconst 1, 1) := by decide +kernel
theorem dX7_isDue_23 : decode cX7_isDue 23 = .ok (.goto 4, 3) := by decide +kernel
theorem dX7_isDue_26 : decode cX7_isDue 26 = .ok (.iconst 0, 1) := by decide +kernel
theorem dX7_isDue_27 : decode cX7_isDue 27 = .ok (.ireturn, 1) := by decide +kernel
abbrev cX10_latest : ByteArray := prog_12_method_7_code
def yX10_latest : MethodName := ⟨RX10, "latest", "(I)I"⟩
theorem dX10_latest_0 : decode cX10_latest 0 = .ok (.aload_n 0, 1) := by decide +kernel
theorem dX10_latest_1 : decode cX10_latest 1 = .ok (.getfield 41, 3) := by decide +kernel
theorem dX10_latest_4 : decode cX10_latest 4 = .ok (.iconst 1, 1) := by decide +kernel
theorem dX10_latest_5 : decode cX10_latest 5 = .ok (.isub, 1) := by decide +kernel
theorem dX10_latest_6 : decode cX10_latest 6 = .ok (.iload_n 1, 1) := by decide +kernel
theorem dX10_latest_7 : decode cX10_latest 7 = .ok (.isub, 1) := by decide +kernel
theorem dX10_latest_8 : decode cX10_latest 8 = .ok (.bipush 100, 2) := by decide +kernel
theorem dX10_latest_10 : decode cX10_latest 10 = .ok (.invokestatic 44, 3) := by decide +kernel
theorem dX10_latest_13 : decode cX10_latest 13 = .ok (.ireturn, 1) := by decide +kernel
abbrev cX6_hasRoomFor : ByteArray := prog_8_method_10_code
def yX6_hasRoomFor : MethodName := ⟨RX6, "hasRoomFor", "(I)Z"⟩
theorem dX6_hasRoomFor_0 : decode cX6_hasRoomFor 0 = .ok (.aload_n 0, 1) := by decide +kernel
theorem dX6_hasRoomFor_1 : decode cX6_hasRoomFor 1 = .ok (.getfield 92, 3) := by decide +kernel
theorem dX6_hasRoomFor_4 : decode cX6_hasRoomFor 4 = .ok (.sipush 160, 3) := by decide +kernel
theorem dX6_hasRoomFor_7 : decode cX6_hasRoomFor 7 = .ok (.if_icmp .lt 5, 3) := by decide +kernel
theorem dX6_hasRoomFor_10 : decode cX6_hasRoomFor 10 = .ok (.iconst 0, 1) := by decide +kernel
theorem dX6_hasRoomFor_11 : decode cX6_hasRoomFor 11 = .ok (.ireturn, 1) := by decide +kernel
theorem dX6_hasRoomFor_12 : decode cX6_hasRoomFor 12 = .ok (.iload_n 1, 1) := by decide +kernel
theorem dX6_hasRoomFor_13 : decode cX6_hasRoomFor 13 = .ok (.iconst 5, 1) := by decide +kernel
theorem dX6_hasRoomFor_14 : decode cX6_hasRoomFor 14 = .ok (.if_icmp .ne 25, 3) := by decide +kernel
theorem dX6_hasRoomFor_17 : decode cX6_hasRoomFor 17 = .ok (.aload_n 0, 1) := by decide +kernel
theorem dX6_hasRoomFor_18 : decode cX6_hasRoomFor 18 = .ok (.aload_n 0, 1) := by decide +kernel
theorem dX6_hasRoomFor_19 : decode cX6_hasRoomFor 19 = .ok (.getfield 89, 3) := by decide +kernel
theorem dX6_hasRoomFor_22 : decode cX6_hasRoomFor 22 = .ok (.invokevirtual 111, 3) := by decide +kernel
theorem dX6_hasRoomFor_25 : decode cX6_hasRoomFor 25 = .ok (.getfield 86, 3) := by decide +kernel
theorem dX6_hasRoomFor_28 : decode cX6_hasRoomFor 28 = .ok (.bipush 6, 2) := by decide +kernel
theorem dX6_hasRoomFor_30 : decode cX6_hasRoomFor 30 = .ok (.if_icmp .ge 7, 3) := by decide +kernel
theorem dX6_hasRoomFor_33 : decode cX6_hasRoomFor 33 = .ok (.iconst 1, 1) := by decide +kernel
theorem dX6_hasRoomFor_34 : decode cX6_hasRoomFor 34 = .ok (.goto 4, 3) := by decide +kernel
theorem dX6_hasRoomFor_37 : decode cX6_hasRoomFor 37 = .ok (.iconst 0, 1) := by decide +kernel
theorem dX6_hasRoomFor_38 : decode cX6_hasRoomFor 38 = .ok (.ireturn, 1) := by decide +kernel
theorem dX6_hasRoomFor_39 : decode cX6_hasRoomFor 39 = .ok (.iload_n 1, 1) := by decide +kernel
theorem dX6_hasRoomFor_40 : decode cX6_hasRoomFor 40 = .ok (.iconst 4, 1) := by decide +kernel
theorem dX6_hasRoomFor_41 : decode cX6_hasRoomFor 41 = .ok (.if_icmp .gt 17, 3) := by decide +kernel
theorem dX6_hasRoomFor_44 : decode cX6_hasRoomFor 44 = .ok (.aload_n 0, 1) := by decide +kernel
theorem dX6_hasRoomFor_45 : decode cX6_hasRoomFor 45 = .ok (.getfield 34, 3) := by decide +kernel
theorem dX6_hasRoomFor_48 : decode cX6_hasRoomFor 48 = .ok (.iload_n 1, 1) := by decide +kernel
theorem dX6_hasRoomFor_49 : decode cX6_hasRoomFor 49 = .ok (.iaload, 1) := by decide +kernel
theorem dX6_hasRoomFor_50 : decode cX6_hasRoomFor 50 = .ok (.getstatic 131, 3) := by decide +kernel
theorem dX6_hasRoomFor_53 : decode cX6_hasRoomFor 53 = .ok (.iload_n 1, 1) := by decide +kernel
theorem dX6_hasRoomFor_54 : decode cX6_hasRoomFor 54 = .ok (.iaload, 1) := by decide +kernel
theorem dX6_hasRoomFor_55 : decode cX6_hasRoomFor 55 = .ok (.if_icmp .ge 7, 3) := by decide +kernel
theorem dX6_hasRoomFor_58 : decode cX6_hasRoomFor 58 = .ok (.iconst 1, 1) := by decide +kernel
theorem dX6_hasRoomFor_59 : decode cX6_hasRoomFor 59 = .ok (.goto 4, 3) := by decide +kernel
theorem dX6_hasRoomFor_62 : decode cX6_hasRoomFor 62 = .ok (.iconst 0, 1) := by decide +kernel
theorem dX6_hasRoomFor_63 : decode cX6_hasRoomFor 63 = .ok (.ireturn, 1) := by decide +kernel
abbrev cX6_empty : ByteArray := prog_8_method_2_code
def yX6_empty : MethodName := ⟨RX6, "empty", "()V"⟩
theorem dX6_empty_0 : decode cX6_empty 0 = .ok (.aload_n 0, 1) := by decide +kernel
theorem dX6_empty_1 : decode cX6_empty 1 = .ok (.iconst 0, 1) := by decide +kernel
theorem dX6_empty_2 : decode cX6_empty 2 = .ok (.putfield 92, 3) := by decide +kernel
theorem dX6_empty_5 : decode cX6_empty 5 = .ok (.aload_n 0, 1) := by decide +kernel
theorem dX6_empty_6 : decode cX6_empty 6 = .ok (.iconst 0, 1) := by decide +kernel
theorem dX6_empty_7 : decode cX6_empty 7 = .ok (.putfield 95, 3) := by decide +kernel
theorem dX6_empty_10 : decode cX6_empty 10 = .ok (.aload_n 0, 1) := by decide +kernel
theorem dX6_empty_11 : decode cX6_empty 11 = .ok (.iconst 0, 1) := by decide +kernel
theorem dX6_empty_12 : decode cX6_empty 12 = .ok (.putfield 98, 3) := by decide +kernel
theorem dX6_empty_15 : decode cX6_empty 15 = .ok (.aload_n 0, 1) := by decide +kernel
theorem dX6_empty_16 : decode cX6_empty 16 = .ok (.iconst (-1), 1) := by decide +kernel
theorem dX6_empty_17 : decode cX6_empty 17 = .ok (.putfield 89, 3) := by decide +kernel
theorem dX6_empty_20 : decode cX6_empty 20 = .ok (.aload_n 0, 1) := by decide +kernel
theorem dX6_empty_21 : decode cX6_empty 21 = .ok (.getfield 34, 3) := by decide +kernel
theorem dX6_empty_24 : decode cX6_empty 24 = .ok (.iconst 0, 1) := by decide +kernel
theorem dX6_empty_25 : decode cX6_empty 25 = .ok (.invokestatic 101, 3) := by decide +kernel
theorem dX6_empty_28 : decode cX6_empty 28 = .ok (.return_, 1) := by decide +kernel
abbrev cX1_takeInputs : ByteArray := prog_3_method_2_code
def yX1_takeInputs : MethodName := ⟨RX1, "takeInputs", "()V"⟩
theorem dX1_takeInputs_0 : decode cX1_takeInputs 0 = .ok (.iconst 0, 1) := by decide +kernel
theorem dX1_takeInputs_1 : decode cX1_takeInputs 1 = .ok (.istore_n 1, 1) := by decide +kernel
theorem dX1_takeInputs_2 : decode cX1_takeInputs 2 = .ok (.iload_n 1, 1) := by decide +kernel
theorem dX1_takeInputs_3 : decode cX1_takeInputs 3 = .ok (.bipush 64, 2) := by decide +kernel
theorem dX1_takeInputs_5 : decode cX1_takeInputs 5 = .ok (.if_icmp .ge 48, 3) := by decide +kernel
theorem dX1_takeInputs_8 : decode cX1_takeInputs 8 = .ok (.aload_n 0, 1) := by decide +kernel
theorem dX1_takeInputs_9 : decode cX1_takeInputs 9 = .ok (.getfield 11, 3) := by decide +kernel
theorem dX1_takeInputs_12 : decode cX1_takeInputs 12 = .ok (.iconst 0, 1) := by decide +kernel
theorem dX1_takeInputs_13 : decode cX1_takeInputs 13 = .ok (.aaload, 1) := by decide +kernel
theorem dX1_takeInputs_14 : decode cX1_takeInputs 14 = .ok (.iload_n 1, 1) := by decide +kernel
theorem dX1_takeInputs_15 : decode cX1_takeInputs 15 = .ok (.iaload, 1) := by decide +kernel
theorem dX1_takeInputs_16 : decode cX1_takeInputs 16 = .ok (.aload_n 0, 1) := by decide +kernel
theorem dX1_takeInputs_17 : decode cX1_takeInputs 17 = .ok (.getfield 11, 3) := by decide +kernel
theorem dX1_takeInputs_20 : decode cX1_takeInputs 20 = .ok (.iconst 4, 1) := by decide +kernel
theorem dX1_takeInputs_21 : decode cX1_takeInputs 21 = .ok (.aaload, 1) := by decide +kernel
theorem dX1_takeInputs_22 : decode cX1_takeInputs 22 = .ok (.iload_n 1, 1) := by decide +kernel
theorem dX1_takeInputs_23 : decode cX1_takeInputs 23 = .ok (.iaload, 1) := by decide +kernel
theorem dX1_takeInputs_24 : decode cX1_takeInputs 24 = .ok (.iconst (-1), 1) := by decide +kernel
theorem dX1_takeInputs_25 : decode cX1_takeInputs 25 = .ok (.ixor, 1) := by decide +kernel
theorem dX1_takeInputs_26 : decode cX1_takeInputs 26 = .ok (.iand, 1) := by decide +kernel
theorem dX1_takeInputs_27 : decode cX1_takeInputs 27 = .ok (.istore_n 2, 1) := by decide +kernel
theorem dX1_takeInputs_28 : decode cX1_takeInputs 28 = .ok (.aload_n 0, 1) := by decide +kernel
theorem dX1_takeInputs_29 : decode cX1_takeInputs 29 = .ok (.getfield 11, 3) := by decide +kernel
theorem dX1_takeInputs_32 : decode cX1_takeInputs 32 = .ok (.iconst 2, 1) := by decide +kernel
theorem dX1_takeInputs_33 : decode cX1_takeInputs 33 = .ok (.aaload, 1) := by decide +kernel
theorem dX1_takeInputs_34 : decode cX1_takeInputs 34 = .ok (.iload_n 1, 1) := by decide +kernel
theorem dX1_takeInputs_35 : decode cX1_takeInputs 35 = .ok (.iload_n 2, 1) := by decide +kernel
theorem dX1_takeInputs_36 : decode cX1_takeInputs 36 = .ok (.aload_n 0, 1) := by decide +kernel
theorem dX1_takeInputs_37 : decode cX1_takeInputs 37 = .ok (.getfield 11, 3) := by decide +kernel
theorem dX1_takeInputs_40 : decode cX1_takeInputs 40 = .ok (.bipush 6, 2) := by decide +kernel
theorem dX1_takeInputs_42 : decode cX1_takeInputs 42 = .ok (.aaload, 1) := by decide +kernel
theorem dX1_takeInputs_43 : decode cX1_takeInputs 43 = .ok (.iload_n 1, 1) := by decide +kernel
theorem dX1_takeInputs_44 : decode cX1_takeInputs 44 = .ok (.iaload, 1) := by decide +kernel
theorem dX1_takeInputs_45 : decode cX1_takeInputs 45 = .ok (.ior, 1) := by decide +kernel
theorem dX1_takeInputs_46 : decode cX1_takeInputs 46 = .ok (.iastore, 1) := by decide +kernel
theorem dX1_takeInputs_47 : decode cX1_takeInputs 47 = .ok (.iinc 1 1, 3) := by decide +kernel
theorem dX1_takeInputs_50 : decode cX1_takeInputs 50 = .ok (.goto (-48), 3) := by decide +kernel
theorem dX1_takeInputs_53 : decode cX1_takeInputs 53 = .ok (.return_, 1) := by decide +kernel
abbrev cX1_giveOutputs : ByteArray := prog_3_method_3_code
def yX1_giveOutputs : MethodName := ⟨RX1, "giveOutputs", "()V"⟩
theorem dX1_giveOutputs_0 : decode cX1_giveOutputs 0 = .ok (.iconst 0, 1) := by decide +kernel
theorem dX1_giveOutputs_1 : decode cX1_giveOutputs 1 = .ok (.istore_n 1, 1) := by decide +kernel
theorem dX1_giveOutputs_2 : decode cX1_giveOutputs 2 = .ok (.iload_n 1, 1) := by decide +kernel
theorem dX1_giveOutputs_3 : decode cX1_giveOutputs 3 = .ok (.bipush 64, 2) := by decide +kernel
theorem dX1_giveOutputs_5 : decode cX1_giveOutputs 5 = .ok (.if_icmp .ge 64, 3) := by decide +kernel
theorem dX1_giveOutputs_8 : decode cX1_giveOutputs 8 = .ok (.aload_n 0, 1) := by decide +kernel
theorem dX1_giveOutputs_9 : decode cX1_giveOutputs 9 = .ok (.getfield 11, 3) := by decide +kernel
theorem dX1_giveOutputs_12 : decode cX1_giveOutputs 12 = .ok (.iconst 3, 1) := by decide +kernel
theorem dX1_giveOutputs_13 : decode cX1_giveOutputs 13 = .ok (.aaload, 1) := by decide +kernel
theorem dX1_giveOutputs_14 : decode cX1_giveOutputs 14 = .ok (.iload_n 1, 1) := by decide +kernel
theorem dX1_giveOutputs_15 : decode cX1_giveOutputs 15 = .ok (.iaload, 1) := by decide +kernel
theorem dX1_giveOutputs_16 : decode cX1_giveOutputs 16 = .ok (.aload_n 0, 1) := by decide +kernel
theorem dX1_giveOutputs_17 : decode cX1_giveOutputs 17 = .ok (.getfield 11, 3) := by decide +kernel
theorem dX1_giveOutputs_20 : decode cX1_giveOutputs 20 = .ok (.iconst 5, 1) := by decide +kernel
theorem dX1_giveOutputs_21 : decode cX1_giveOutputs 21 = .ok (.aaload, 1) := by decide +kernel
theorem dX1_giveOutputs_22 : decode cX1_giveOutputs 22 = .ok (.iload_n 1, 1) := by decide +kernel
theorem dX1_giveOutputs_23 : decode cX1_giveOutputs 23 = .ok (.iaload, 1) := by decide +kernel
theorem dX1_giveOutputs_24 : decode cX1_giveOutputs 24 = .ok (.iconst (-1), 1) := by decide +kernel
theorem dX1_giveOutputs_25 : decode cX1_giveOutputs 25 = .ok (.ixor, 1) := by decide +kernel
theorem dX1_giveOutputs_26 : decode cX1_giveOutputs 26 = .ok (.iand, 1) := by decide +kernel
theorem dX1_giveOutputs_27 : decode cX1_giveOutputs 27 = .ok (.istore_n 2, 1) := by decide +kernel
theorem dX1_giveOutputs_28 : decode cX1_giveOutputs 28 = .ok (.aload_n 0, 1) := by decide +kernel
theorem dX1_giveOutputs_29 : decode cX1_giveOutputs 29 = .ok (.getfield 11, 3) := by decide +kernel
theorem dX1_giveOutputs_32 : decode cX1_giveOutputs 32 = .ok (.iconst 3, 1) := by decide +kernel
theorem dX1_giveOutputs_33 : decode cX1_giveOutputs 33 = .ok (.aaload, 1) := by decide +kernel
theorem dX1_giveOutputs_34 : decode cX1_giveOutputs 34 = .ok (.iload_n 1, 1) := by decide +kernel
theorem dX1_giveOutputs_35 : decode cX1_giveOutputs 35 = .ok (.iload_n 2, 1) := by decide +kernel
theorem dX1_giveOutputs_36 : decode cX1_giveOutputs 36 = .ok (.aload_n 0, 1) := by decide +kernel
theorem dX1_giveOutputs_37 : decode cX1_giveOutputs 37 = .ok (.getfield 11, 3) := by decide +kernel
theorem dX1_giveOutputs_40 : decode cX1_giveOutputs 40 = .ok (.bipush 7, 2) := by decide +kernel
theorem dX1_giveOutputs_42 : decode cX1_giveOutputs 42 = .ok (.aaload, 1) := by decide +kernel
theorem dX1_giveOutputs_43 : decode cX1_giveOutputs 43 = .ok (.iload_n 1, 1) := by decide +kernel
theorem dX1_giveOutputs_44 : decode cX1_giveOutputs 44 = .ok (.iaload, 1) := by decide +kernel
theorem dX1_giveOutputs_45 : decode cX1_giveOutputs 45 = .ok (.ior, 1) := by decide +kernel
theorem dX1_giveOutputs_46 : decode cX1_giveOutputs 46 = .ok (.iastore, 1) := by decide +kernel
theorem dX1_giveOutputs_47 : decode cX1_giveOutputs 47 = .ok (.aload_n 0, 1) := by decide +kernel
theorem dX1_giveOutputs_48 : decode cX1_giveOutputs 48 = .ok (.getfield 11, 3) := by decide +kernel
theorem dX1_giveOutputs_51 : decode cX1_giveOutputs 51 = .ok (.iconst 1, 1) := by decide +kernel
theorem dX1_giveOutputs_52 : decode cX1_giveOutputs 52 = .ok (.aaload, 1) := by decide +kernel
theorem dX1_giveOutputs_53 : decode cX1_giveOutputs 53 = .ok (.iload_n 1, 1) := by decide +kernel
theorem dX1_giveOutputs_54 : decode cX1_giveOutputs 54 = .ok (.aload_n 0, 1) := by decide +kernel
theorem dX1_giveOutputs_55 : decode cX1_giveOutputs 55 = .ok (.getfield 11, 3) := by decide +kernel
theorem dX1_giveOutputs_58 : decode cX1_giveOutputs 58 = .ok (.iconst 3, 1) := by decide +kernel
theorem dX1_giveOutputs_59 : decode cX1_giveOutputs 59 = .ok (.aaload, 1) := by decide +kernel
theorem dX1_giveOutputs_60 : decode cX1_giveOutputs 60 = .ok (.iload_n 1, 1) := by decide +kernel
theorem dX1_giveOutputs_61 : decode cX1_giveOutputs 61 = .ok (.iaload, 1) := by decide +kernel
theorem dX1_giveOutputs_62 : decode cX1_giveOutputs 62 = .ok (.iastore, 1) := by decide +kernel
theorem dX1_giveOutputs_63 : decode cX1_giveOutputs 63 = .ok (.iinc 1 1, 3) := by decide +kernel
theorem dX1_giveOutputs_66 : decode cX1_giveOutputs 66 = .ok (.goto (-64), 3) := by decide +kernel
theorem dX1_giveOutputs_69 : decode cX1_giveOutputs 69 = .ok (.return_, 1) := by decide +kernel
abbrev cX1_wipe : ByteArray := prog_3_method_4_code
def yX1_wipe : MethodName := ⟨RX1, "wipe", "()V"⟩
theorem dX1_wipe_0 : decode cX1_wipe 0 = .ok (.aload_n 0, 1) := by decide +kernel
theorem dX1_wipe_1 : decode cX1_wipe 1 = .ok (.getfield 11, 3) := by decide +kernel
theorem dX1_wipe_4 : decode cX1_wipe 4 = .ok (.iconst 2, 1) := by decide +kernel
theorem dX1_wipe_5 : decode cX1_wipe 5 = .ok (.aaload, 1) := by decide +kernel
theorem dX1_wipe_6 : decode cX1_wipe 6 = .ok (.iconst 0, 1) := by decide +kernel
theorem dX1_wipe_7 : decode cX1_wipe 7 = .ok (.invokestatic 16, 3) := by decide +kernel
theorem dX1_wipe_10 : decode cX1_wipe 10 = .ok (.aload_n 0, 1) := by decide +kernel
theorem dX1_wipe_11 : decode cX1_wipe 11 = .ok (.getfield 11, 3) := by decide +kernel
theorem dX1_wipe_14 : decode cX1_wipe 14 = .ok (.iconst 3, 1) := by decide +kernel
theorem dX1_wipe_15 : decode cX1_wipe 15 = .ok (.aaload, 1) := by decide +kernel
theorem dX1_wipe_16 : decode cX1_wipe 16 = .ok (.iconst 0, 1) := by decide +kernel
theorem dX1_wipe_17 : decode cX1_wipe 17 = .ok (.invokestatic 16, 3) := by decide +kernel
theorem dX1_wipe_20 : decode cX1_wipe 20 = .ok (.return_, 1) := by decide +kernel
abbrev cX1_get : ByteArray := prog_3_method_5_code
def yX1_get : MethodName := ⟨RX1, "get", "(III)J"⟩
theorem dX1_get_0 : decode cX1_get 0 = .ok (.lconst 0, 1) := by decide +kernel
theorem dX1_get_1 : decode cX1_get 1 = .ok (.lstore 4, 2) := by decide +kernel
theorem dX1_get_3 : decode cX1_get 3 = .ok (.iload_n 2, 1) := by decide +kernel
theorem dX1_get_4 : decode cX1_get 4 = .ok (.istore 6, 2) := by decide +kernel
theorem dX1_get_6 : decode cX1_get 6 = .ok (.iload 6, 2) := by decide +kernel
theorem dX1_get_8 : decode cX1_get 8 = .ok (.iload_n 2, 1) := by decide +kernel
theorem dX1_get_9 : decode cX1_get 9 = .ok (.getstatic 22, 3) := by decide +kernel
theorem dX1_get_12 : decode cX1_get 12 = .ok (.iload_n 3, 1) := by decide +kernel
theorem dX1_get_13 : decode cX1_get 13 = .ok (.iaload, 1) := by decide +kernel
theorem dX1_get_14 : decode cX1_get 14 = .ok (.bipush 8, 2) := by decide +kernel
theorem dX1_get_16 : decode cX1_get 16 = .ok (.idiv, 1) := by decide +kernel
theorem dX1_get_17 : decode cX1_get 17 = .ok (.iadd, 1) := by decide +kernel
theorem dX1_get_18 : decode cX1_get 18 = .ok (.if_icmp .ge 39, 3) := by decide +kernel
theorem dX1_get_21 : decode cX1_get 21 = .ok (.iload 6, 2) := by decide +kernel
theorem dX1_get_23 : decode cX1_get 23 = .ok (.ifCond .lt 34, 3) := by decide +kernel
theorem dX1_get_26 : decode cX1_get 26 = .ok (.iload 6, 2) := by decide +kernel
theorem dX1_get_28 : decode cX1_get 28 = .ok (.bipush 64, 2) := by decide +kernel
theorem dX1_get_30 : decode cX1_get 30 = .ok (.if_icmp .ge 27, 3) := by decide +kernel
theorem dX1_get_33 : decode cX1_get 33 = .ok (.lload 4, 2) := by decide +kernel
theorem dX1_get_35 : decode cX1_get 35 = .ok (.bipush 8, 2) := by decide +kernel
theorem dX1_get_37 : decode cX1_get 37 = .ok (.lshl, 1) := by decide +kernel
theorem dX1_get_38 : decode cX1_get 38 = .ok (.aload_n 0, 1) := by decide +kernel
theorem dX1_get_39 : decode cX1_get 39 = .ok (.getfield 11, 3) := by decide +kernel
theorem dX1_get_42 : decode cX1_get 42 = .ok (.iload_n 1, 1) := by decide +kernel
theorem dX1_get_43 : decode cX1_get 43 = .ok (.aaload, 1) := by decide +kernel
theorem dX1_get_44 : decode cX1_get 44 = .ok (.iload 6, 2) := by decide +kernel
theorem dX1_get_46 : decode cX1_get 46 = .ok (.iaload, 1) := by decide +kernel
theorem dX1_get_47 : decode cX1_get 47 = .ok (.i2l, 1) := by decide +kernel
theorem dX1_get_48 : decode cX1_get 48 = .ok (.lor, 1) := by decide +kernel
theorem dX1_get_49 : decode cX1_get 49 = .ok (.lstore 4, 2) := by decide +kernel
theorem dX1_get_51 : decode cX1_get 51 = .ok (.iinc 6 1, 3) := by decide +kernel
theorem dX1_get_54 : decode cX1_get 54 = .ok (.goto (-48), 3) := by decide +kernel
theorem dX1_get_57 : decode cX1_get 57 = .ok (.iload_n 3, 1) := by decide +kernel
theorem dX1_get_58 : decode cX1_get 58 = .ok (.lload 4, 2) := by decide +kernel
theorem dX1_get_60 : decode cX1_get 60 = .ok (.invokestatic 26, 3) := by decide +kernel
theorem dX1_get_63 : decode cX1_get 63 = .ok (.lreturn, 1) := by decide +kernel
abbrev cX1_set : ByteArray := prog_3_method_6_code
def yX1_set : MethodName := ⟨RX1, "set", "(IIJ)V"⟩
theorem dX1_set_0 : decode cX1_set 0 = .ok (.getstatic 22, 3) := by decide +kernel
theorem dX1_set_3 : decode cX1_set 3 = .ok (.iload_n 2, 1) := by decide +kernel
theorem dX1_set_4 : decode cX1_set 4 = .ok (.iaload, 1) := by decide +kernel
theorem dX1_set_5 : decode cX1_set 5 = .ok (.bipush 8, 2) := by decide +kernel
theorem dX1_set_7 : decode cX1_set 7 = .ok (.isub, 1) := by decide +kernel
theorem dX1_set_8 : decode cX1_set 8 = .ok (.istore 5, 2) := by decide +kernel
theorem dX1_set_10 : decode cX1_set 10 = .ok (.iload_n 1, 1) := by decide +kernel
theorem dX1_set_11 : decode cX1_set 11 = .ok (.istore 6, 2) := by decide +kernel
theorem dX1_set_13 : decode cX1_set 13 = .ok (.iload 5, 2) := by decide +kernel
theorem dX1_set_15 : decode cX1_set 15 = .ok (.ifCond .lt 42, 3) := by decide +kernel
theorem dX1_set_18 : decode cX1_set 18 = .ok (.iload 6, 2) := by decide +kernel
theorem dX1_set_20 : decode cX1_set 20 = .ok (.ifCond .lt 37, 3) := by decide +kernel
theorem dX1_set_23 : decode cX1_set 23 = .ok (.iload 6, 2) := by decide +kernel
theorem dX1_set_25 : decode cX1_set 25 = .ok (.bipush 64, 2) := by decide +kernel
theorem dX1_set_27 : decode cX1_set 27 = .ok (.if_icmp .ge 30, 3) := by decide +kernel
theorem dX1_set_30 : decode cX1_set 30 = .ok (.aload_n 0, 1) := by decide +kernel
theorem dX1_set_31 : decode cX1_set 31 = .ok (.getfield 11, 3) := by decide +kernel
theorem dX1_set_34 : decode cX1_set 34 = .ok (.iconst 3, 1) := by decide +kernel
theorem dX1_set_35 : decode cX1_set 35 = .ok (.aaload, 1) := by decide +kernel
theorem dX1_set_36 : decode cX1_set 36 = .ok (.iload 6, 2) := by decide +kernel
theorem dX1_set_38 : decode cX1_set 38 = .ok (.lload_n 3, 1) := by decide +kernel
theorem dX1_set_39 : decode cX1_set 39 = .ok (.iload 5, 2) := by decide +kernel
theorem dX1_set_41 : decode cX1_set 41 = .ok (.lshr, 1) := by decide +kernel
theorem dX1_set_42 : decode cX1_set 42 = .ok (.l2i, 1) := by decide +kernel
theorem dX1_set_43 : decode cX1_set 43 = .ok (.sipush 255, 3) := by decide +kernel
theorem dX1_set_46 : decode cX1_set 46 = .ok (.iand, 1) := by decide +kernel
theorem dX1_set_47 : decode cX1_set 47 = .ok (.iastore, 1) := by decide +kernel
theorem dX1_set_48 : decode cX1_set 48 = .ok (.iinc 5 (-8), 3) := by decide +kernel
theorem dX1_set_51 : decode cX1_set 51 = .ok (.iinc 6 1, 3) := by decide +kernel
theorem dX1_set_54 : decode cX1_set 54 = .ok (.goto (-41), 3) := by decide +kernel
theorem dX1_set_57 : decode cX1_set 57 = .ok (.return_, 1) := by decide +kernel
theorem gw_1042 : (Jvm.Cond.methodLink "SoftController$Maker" (129 : Nat) ({ cls := "SoftController$Program", name := "hasRoomFor", desc := "(I)Z" } : Jvm.MethodName)) ∈ GW := gw_t (tin_5 _ (List.mem_of_getElem? (i := 82) rfl)) rfl
theorem gw_1043 : (Jvm.Cond.instanceMethod ({ cls := "SoftController$Program", name := "hasRoomFor", desc := "(I)Z" } : Jvm.MethodName)) ∈ GW := gw_t (tin_5 _ (List.mem_of_getElem? (i := 83) rfl)) rfl
theorem gw_1044 : (Jvm.Cond.selects "SoftController$Program" ({ cls := "SoftController$Program", name := "hasRoomFor", desc := "(I)Z" } : Jvm.MethodName) ({ cls := "SoftController$Program", name := "hasRoomFor", desc := "(I)Z" } : Jvm.MethodName)) ∈ GW := gw_t (tin_5 _ (List.mem_of_getElem? (i := 84) rfl)) rfl
theorem gw_1045 : (Jvm.Cond.code ({ cls := "SoftController$Program", name := "hasRoomFor", desc := "(I)Z" } : Jvm.MethodName) prog_8_method_10_code (2 : Nat) (Option.some Jvm.ClassFile.FieldType.boolean)) ∈ GW := gw_t (tin_5 _ (List.mem_of_getElem? (i := 85) rfl)) rfl
theorem gw_1077 : (Jvm.Cond.static ({ cls := "SoftController$Numbers", name := "cutTo", desc := "(IJ)J" } : Jvm.MethodName)) ∈ GW := gw_t (tin_5 _ (List.mem_of_getElem? (i := 117) rfl)) rfl
theorem gw_1420 : (Jvm.Cond.methodLink "SoftController" (147 : Nat) ({ cls := "SoftController$Images", name := "wipe", desc := "()V" } : Jvm.MethodName)) ∈ GW := gw_t (tin_6 _ (List.mem_of_getElem? (i := 220) rfl)) rfl
theorem gw_1421 : (Jvm.Cond.instanceMethod ({ cls := "SoftController$Images", name := "wipe", desc := "()V" } : Jvm.MethodName)) ∈ GW := gw_t (tin_6 _ (List.mem_of_getElem? (i := 221) rfl)) rfl
theorem gw_1422 : (Jvm.Cond.selects "SoftController$Images" ({ cls := "SoftController$Images", name := "wipe", desc := "()V" } : Jvm.MethodName) ({ cls := "SoftController$Images", name := "wipe", desc := "()V" } : Jvm.MethodName)) ∈ GW := gw_t (tin_6 _ (List.mem_of_getElem? (i := 222) rfl)) rfl
theorem gw_1423 : (Jvm.Cond.code ({ cls := "SoftController$Images", name := "wipe", desc := "()V" } : Jvm.MethodName) prog_3_method_4_code (1 : Nat) (Option.none : Option Jvm.ClassFile.FieldType)) ∈ GW := gw_t (tin_6 _ (List.mem_of_getElem? (i := 223) rfl)) rfl
theorem gw_1424 : (Jvm.Cond.methodLink "SoftController$Images" (16 : Nat) ({ cls := "java/util/Arrays", name := "fill", desc := "([II)V" } : Jvm.MethodName)) ∈ GW := gw_t (tin_6 _ (List.mem_of_getElem? (i := 224) rfl)) rfl
theorem gw_1447 : (Jvm.Cond.methodLink "SoftController$Machine" (56 : Nat) ({ cls := "SoftController$Images", name := "get", desc := "(III)J" } : Jvm.MethodName)) ∈ GW := gw_t (tin_7 _ (List.mem_of_getElem? (i := 7) rfl)) rfl
theorem gw_1448 : (Jvm.Cond.instanceMethod ({ cls := "SoftController$Images", name := "get", desc := "(III)J" } : Jvm.MethodName)) ∈ GW := gw_t (tin_7 _ (List.mem_of_getElem? (i := 8) rfl)) rfl
theorem gw_1449 : (Jvm.Cond.selects "SoftController$Images" ({ cls := "SoftController$Images", name := "get", desc := "(III)J" } : Jvm.MethodName) ({ cls := "SoftController$Images", name := "get", desc := "(III)J" } : Jvm.MethodName)) ∈ GW := gw_t (tin_7 _ (List.mem_of_getElem? (i := 9) rfl)) rfl
theorem gw_1450 : (Jvm.Cond.code ({ cls := "SoftController$Images", name := "get", desc := "(III)J" } : Jvm.MethodName) prog_3_method_5_code (7 : Nat) (Option.some Jvm.ClassFile.FieldType.long)) ∈ GW := gw_t (tin_7 _ (List.mem_of_getElem? (i := 10) rfl)) rfl
theorem gw_1452 : (Jvm.Cond.methodLink "SoftController$Images" (26 : Nat) ({ cls := "SoftController$Numbers", name := "cutTo", desc := "(IJ)J" } : Jvm.MethodName)) ∈ GW := gw_t (tin_7 _ (List.mem_of_getElem? (i := 12) rfl)) rfl
theorem gw_1487 : (Jvm.Cond.methodLink "SoftController" (366 : Nat) ({ cls := "SoftController$Images", name := "takeInputs", desc := "()V" } : Jvm.MethodName)) ∈ GW := gw_t (tin_7 _ (List.mem_of_getElem? (i := 47) rfl)) rfl
theorem gw_1488 : (Jvm.Cond.instanceMethod ({ cls := "SoftController$Images", name := "takeInputs", desc := "()V" } : Jvm.MethodName)) ∈ GW := gw_t (tin_7 _ (List.mem_of_getElem? (i := 48) rfl)) rfl
theorem gw_1489 : (Jvm.Cond.selects "SoftController$Images" ({ cls := "SoftController$Images", name := "takeInputs", desc := "()V" } : Jvm.MethodName) ({ cls := "SoftController$Images", name := "takeInputs", desc := "()V" } : Jvm.MethodName)) ∈ GW := gw_t (tin_7 _ (List.mem_of_getElem? (i := 49) rfl)) rfl
theorem gw_1490 : (Jvm.Cond.code ({ cls := "SoftController$Images", name := "takeInputs", desc := "()V" } : Jvm.MethodName) prog_3_method_2_code (3 : Nat) (Option.none : Option Jvm.ClassFile.FieldType)) ∈ GW := gw_t (tin_7 _ (List.mem_of_getElem? (i := 50) rfl)) rfl
theorem gw_1491 : (Jvm.Cond.methodLink "SoftController" (369 : Nat) ({ cls := "SoftController$Task", name := "isDue", desc := "(I)Z" } : Jvm.MethodName)) ∈ GW := gw_t (tin_7 _ (List.mem_of_getElem? (i := 51) rfl)) rfl
theorem gw_1492 : (Jvm.Cond.instanceMethod ({ cls := "SoftController$Task", name := "isDue", desc := "(I)Z" } : Jvm.MethodName)) ∈ GW := gw_t (tin_7 _ (List.mem_of_getElem? (i := 52) rfl)) rfl
theorem gw_1493 : (Jvm.Cond.selects "SoftController$Task" ({ cls := "SoftController$Task", name := "isDue", desc := "(I)Z" } : Jvm.MethodName) ({ cls := "SoftController$Task", name := "isDue", desc := "(I)Z" } : Jvm.MethodName)) ∈ GW := gw_t (tin_7 _ (List.mem_of_getElem? (i := 53) rfl)) rfl
theorem gw_1494 : (Jvm.Cond.code ({ cls := "SoftController$Task", name := "isDue", desc := "(I)Z" } : Jvm.MethodName) prog_9_method_3_code (2 : Nat) (Option.some Jvm.ClassFile.FieldType.boolean)) ∈ GW := gw_t (tin_7 _ (List.mem_of_getElem? (i := 54) rfl)) rfl
theorem gw_1495 : (Jvm.Cond.methodLink "SoftController$Task" (41 : Nat) ({ cls := "java/lang/Math", name := "floorMod", desc := "(II)I" } : Jvm.MethodName)) ∈ GW := gw_t (tin_7 _ (List.mem_of_getElem? (i := 55) rfl)) rfl
theorem gw_1496 : (Jvm.Cond.static ({ cls := "java/lang/Math", name := "floorMod", desc := "(II)I" } : Jvm.MethodName)) ∈ GW := gw_t (tin_7 _ (List.mem_of_getElem? (i := 56) rfl)) rfl
theorem gw_1497 : (Jvm.Cond.code ({ cls := "java/lang/Math", name := "floorMod", desc := "(II)I" } : Jvm.MethodName) prog_23_method_50_code (3 : Nat) (Option.some Jvm.ClassFile.FieldType.int)) ∈ GW := gw_t (tin_7 _ (List.mem_of_getElem? (i := 57) rfl)) rfl
theorem gw_1524 : (Jvm.Cond.methodLink "SoftController$Machine" (66 : Nat) ({ cls := "SoftController$Images", name := "set", desc := "(IIJ)V" } : Jvm.MethodName)) ∈ GW := gw_t (tin_7 _ (List.mem_of_getElem? (i := 84) rfl)) rfl
theorem gw_1525 : (Jvm.Cond.instanceMethod ({ cls := "SoftController$Images", name := "set", desc := "(IIJ)V" } : Jvm.MethodName)) ∈ GW := gw_t (tin_7 _ (List.mem_of_getElem? (i := 85) rfl)) rfl
theorem gw_1526 : (Jvm.Cond.selects "SoftController$Images" ({ cls := "SoftController$Images", name := "set", desc := "(IIJ)V" } : Jvm.MethodName) ({ cls := "SoftController$Images", name := "set", desc := "(IIJ)V" } : Jvm.MethodName)) ∈ GW := gw_t (tin_7 _ (List.mem_of_getElem? (i := 86) rfl)) rfl
theorem gw_1527 : (Jvm.Cond.code ({ cls := "SoftController$Images", name := "set", desc := "(IIJ)V" } : Jvm.MethodName) prog_3_method_6_code (7 : Nat) (Option.none : Option Jvm.ClassFile.FieldType)) ∈ GW := gw_t (tin_7 _ (List.mem_of_getElem? (i := 87) rfl)) rfl
theorem gw_156 : (Jvm.Cond.fieldLink "SoftController$Images" (11 : Nat) "SoftController$Images" "rows" "[[I") ∈ GW := gw_t (tin_1 _ (List.mem_of_getElem? (i := 156) rfl)) rfl
theorem gw_1620 : (Jvm.Cond.methodLink "SoftController" (383 : Nat) ({ cls := "SoftController$Images", name := "giveOutputs", desc := "()V" } : Jvm.MethodName)) ∈ GW := gw_t (tin_7 _ (List.mem_of_getElem? (i := 180) rfl)) rfl
theorem gw_1621 : (Jvm.Cond.instanceMethod ({ cls := "SoftController$Images", name := "giveOutputs", desc := "()V" } : Jvm.MethodName)) ∈ GW := gw_t (tin_7 _ (List.mem_of_getElem? (i := 181) rfl)) rfl
theorem gw_1622 : (Jvm.Cond.selects "SoftController$Images" ({ cls := "SoftController$Images", name := "giveOutputs", desc := "()V" } : Jvm.MethodName) ({ cls := "SoftController$Images", name := "giveOutputs", desc := "()V" } : Jvm.MethodName)) ∈ GW := gw_t (tin_7 _ (List.mem_of_getElem? (i := 182) rfl)) rfl
theorem gw_1623 : (Jvm.Cond.code ({ cls := "SoftController$Images", name := "giveOutputs", desc := "()V" } : Jvm.MethodName) prog_3_method_3_code (3 : Nat) (Option.none : Option Jvm.ClassFile.FieldType)) ∈ GW := gw_t (tin_7 _ (List.mem_of_getElem? (i := 183) rfl)) rfl
theorem gw_1813 : (Jvm.Cond.methodLink "SoftController" (302 : Nat) ({ cls := "SoftController$Trace", name := "latest", desc := "(I)I" } : Jvm.MethodName)) ∈ GW := gw_t (tin_8 _ (List.mem_of_getElem? (i := 133) rfl)) rfl
theorem gw_1814 : (Jvm.Cond.instanceMethod ({ cls := "SoftController$Trace", name := "latest", desc := "(I)I" } : Jvm.MethodName)) ∈ GW := gw_t (tin_8 _ (List.mem_of_getElem? (i := 134) rfl)) rfl
theorem gw_1815 : (Jvm.Cond.selects "SoftController$Trace" ({ cls := "SoftController$Trace", name := "latest", desc := "(I)I" } : Jvm.MethodName) ({ cls := "SoftController$Trace", name := "latest", desc := "(I)I" } : Jvm.MethodName)) ∈ GW := gw_t (tin_8 _ (List.mem_of_getElem? (i := 135) rfl)) rfl
theorem gw_1816 : (Jvm.Cond.code ({ cls := "SoftController$Trace", name := "latest", desc := "(I)I" } : Jvm.MethodName) prog_12_method_7_code (2 : Nat) (Option.some Jvm.ClassFile.FieldType.int)) ∈ GW := gw_t (tin_8 _ (List.mem_of_getElem? (i := 136) rfl)) rfl
theorem gw_1817 : (Jvm.Cond.methodLink "SoftController$Trace" (44 : Nat) ({ cls := "java/lang/Math", name := "floorMod", desc := "(II)I" } : Jvm.MethodName)) ∈ GW := gw_t (tin_8 _ (List.mem_of_getElem? (i := 137) rfl)) rfl
theorem gw_23 : (Jvm.Cond.initialized "java/util/Arrays") ∈ GW := gw_t (tin_1 _ (List.mem_of_getElem? (i := 23) rfl)) rfl
theorem gw_24 : (Jvm.Cond.initialized "SoftController$Numbers") ∈ GW := gw_t (tin_1 _ (List.mem_of_getElem? (i := 24) rfl)) rfl
theorem gw_399 : (Jvm.Cond.fieldLink "SoftController$Program" (89 : Nat) "SoftController$Program" "owner" "I") ∈ GW := gw_t (tin_2 _ (List.mem_of_getElem? (i := 159) rfl)) rfl
theorem gw_8 : (Jvm.Cond.initialized "SoftController$Images") ∈ GW := gw_t (tin_1 _ (List.mem_of_getElem? (i := 8) rfl)) rfl
theorem gw_985 : (Jvm.Cond.methodLink "SoftController$Maker" (32 : Nat) ({ cls := "SoftController$Program", name := "empty", desc := "()V" } : Jvm.MethodName)) ∈ GW := gw_t (tin_5 _ (List.mem_of_getElem? (i := 25) rfl)) rfl
theorem gw_986 : (Jvm.Cond.instanceMethod ({ cls := "SoftController$Program", name := "empty", desc := "()V" } : Jvm.MethodName)) ∈ GW := gw_t (tin_5 _ (List.mem_of_getElem? (i := 26) rfl)) rfl
theorem gw_987 : (Jvm.Cond.selects "SoftController$Program" ({ cls := "SoftController$Program", name := "empty", desc := "()V" } : Jvm.MethodName) ({ cls := "SoftController$Program", name := "empty", desc := "()V" } : Jvm.MethodName)) ∈ GW := gw_t (tin_5 _ (List.mem_of_getElem? (i := 27) rfl)) rfl
theorem gw_988 : (Jvm.Cond.code ({ cls := "SoftController$Program", name := "empty", desc := "()V" } : Jvm.MethodName) prog_8_method_2_code (1 : Nat) (Option.none : Option Jvm.ClassFile.FieldType)) ∈ GW := gw_t (tin_5 _ (List.mem_of_getElem? (i := 28) rfl)) rfl
theorem gw_989 : (Jvm.Cond.methodLink "SoftController$Program" (101 : Nat) ({ cls := "java/util/Arrays", name := "fill", desc := "([II)V" } : Jvm.MethodName)) ∈ GW := gw_t (tin_5 _ (List.mem_of_getElem? (i := 29) rfl)) rfl
theorem gw_990 : (Jvm.Cond.static ({ cls := "java/util/Arrays", name := "fill", desc := "([II)V" } : Jvm.MethodName)) ∈ GW := gw_t (tin_5 _ (List.mem_of_getElem? (i := 30) rfl)) rfl
theorem gw_991 : (Jvm.Cond.code ({ cls := "java/util/Arrays", name := "fill", desc := "([II)V" } : Jvm.MethodName) prog_31_method_103_code (4 : Nat) (Option.none : Option Jvm.ClassFile.FieldType)) ∈ GW := gw_t (tin_5 _ (List.mem_of_getElem? (i := 31) rfl)) rfl
theorem gwp_X5_cutTo : ∀ w ∈ wsX5_cutTo, w ∈ GW := gwl [1078, 1079] (by decide +kernel) (by decide +kernel)
theorem nw_1047 : (Jvm.Cond.fieldLinkNest "SoftController$Program" (131 : Nat) "SoftController" "MOST_OF_SORT" "[I" "SoftController") ∈ NWL := gw_n (tin_5 _ (List.mem_of_getElem? (i := 87) rfl)) rfl
theorem nw_1451 : (Jvm.Cond.fieldLinkNest "SoftController$Images" (22 : Nat) "SoftController" "BITS" "[I" "SoftController") ∈ NWL := gw_n (tin_7 _ (List.mem_of_getElem? (i := 11) rfl)) rfl
theorem nw_268 : (Jvm.Cond.fieldLinkNest "SoftController$Program" (86 : Nat) "SoftController$Name" "parameters" "I" "SoftController") ∈ NWL := gw_n (tin_2 _ (List.mem_of_getElem? (i := 28) rfl)) rfl
section C35imagesR
variable {p : Program} {l : Launch} {e : Env} {R : Room} {s : State} {m : MethodId} {args : Array Value} {below : List Frame} {meth : Method} {c : Code} {H : Heap} {locs : List Loc} {Q : State → Prop} {cells slots : Nat}
variable {cc : ByteArray} {pc nL : Nat} {c0 : Cond} {own : String} {ls : Array Slot} {rest : List Value} {D : va_G} {kA : Nat → ClassId} {V Z : Nat → Nat} {A : Nat → Prop}
variable {u u1 : CSt}
theorem cg_X7_7 (X : CC p s m args c cc nL c0 RX7 D kA V A) {q : Nat} (hq : q < 16) (hS : CS D kA Z A s u H locs) (hd : decode cc pc = .ok (.getfield 7, 3)) (kk : W p l e R s m args below meth c H locs cells slots Q (F0 m (pc + 3) ls (.int (tI u q 0) :: rest))) : W p l e R s m args below meth c H locs cells slots Q (F0 m pc ls (.ref (Z (400 + q)) :: rest)) := by
  obtain ⟨⟨hx, hb, hml, hown, hts⟩, hK, hE, hA⟩ := X
  have hG : ∀ w ∈ GW, w.before args s = true := fun w h => hts w (List.mem_cons_of_mem _ h)
  exact va_get (D := D) (ci := 6) (v := .int (tI u q 0)) (C := RX7) (T := TX7) (N := 10) hx hb hG gwl_X7 hown hK hS.1 (74 + q) (cw_task hq) rfl 0 (by decide) (hG _ gw_324) (fun _ h9 => h9) rfl hd kk
theorem cg_X7_13 (X : CC p s m args c cc nL c0 RX7 D kA V A) {q : Nat} (hq : q < 16) (hS : CS D kA Z A s u H locs) (hd : decode cc pc = .ok (.getfield 13, 3)) (kk : W p l e R s m args below meth c H locs cells slots Q (F0 m (pc + 3) ls (.int (tI u q 1) :: rest))) : W p l e R s m args below meth c H locs cells slots Q (F0 m pc ls (.ref (Z (400 + q)) :: rest)) := by
  obtain ⟨⟨hx, hb, hml, hown, hts⟩, hK, hE, hA⟩ := X
  have hG : ∀ w ∈ GW, w.before args s = true := fun w h => hts w (List.mem_cons_of_mem _ h)
  exact va_get (D := D) (ci := 6) (v := .int (tI u q 1)) (C := RX7) (T := TX7) (N := 10) hx hb hG gwl_X7 hown hK hS.1 (74 + q) (cw_task hq) rfl 1 (by decide) (hG _ gw_326) (fun _ h9 => h9) rfl hd kk
theorem cg_X6_89 (X : CC p s m args c cc nL c0 RX6 D kA V A) {q : Nat} (hq : q < 2) (hS : CS D kA Z A s u H locs) (hd : decode cc pc = .ok (.getfield 89, 3)) (kk : W p l e R s m args below meth c H locs cells slots Q (F0 m (pc + 3) ls (.int (pI u q 15) :: rest))) : W p l e R s m args below meth c H locs cells slots Q (F0 m pc ls (.ref (Z (300 + 50 * q)) :: rest)) := by
  obtain ⟨⟨hx, hb, hml, hown, hts⟩, hK, hE, hA⟩ := X
  have hG : ∀ w ∈ GW, w.before args s = true := fun w h => hts w (List.mem_cons_of_mem _ h)
  rcases (show q = 0 ∨ q = 1 by omega) with rfl | rfl
  · exact va_get (D := D) (ci := 5) (v := .int (pI u 0 15)) (C := RX6) (T := TX6) (N := 16) hx hb hG gwl_X6 hown hK hS.1 40 (cw_lit rfl) rfl 15 (by decide) (hG _ gw_399) (fun _ h9 => h9) rfl hd kk
  · exact va_get (D := D) (ci := 5) (v := .int (pI u 1 15)) (C := RX6) (T := TX6) (N := 16) hx hb hG gwl_X6 hown hK hS.1 57 (cw_lit rfl) rfl 15 (by decide) (hG _ gw_399) (fun _ h9 => h9) rfl hd kk
theorem cg_X6_86 (X : CC p s m args c cc nL c0 RX6 D kA V A) {q : Nat} (hq : q < 338) (hS : CS D kA Z A s u H locs) (hd : decode cc pc = .ok (.getfield 86, 3)) (kk : W p l e R s m args below meth c H locs cells slots Q (F0 m (pc + 3) ls (.int (mI u q 11) :: rest))) : W p l e R s m args below meth c H locs cells slots Q (F0 m pc ls (.ref (Z (1000 + q)) :: rest)) := by
  obtain ⟨⟨hx, hb, hml, hown, hts⟩, hK, hE, hA⟩ := X
  have hG : ∀ w ∈ GW, w.before args s = true := fun w h => hts w (List.mem_cons_of_mem _ h)
  exact va_getN (D := D) (ci := 4) (v := .int (mI u q 11)) (C := RX4) (T := TX4) (N := 15) hx hb hG gwl_X4 hown hK hS.1 (90 + q) (cw_name hq) rfl 11 (by decide) (va_Nw.use rfl (hE.1 _ nw_268)) (fun _ h9 => h9) rfl hd kk
theorem cp_X6_89 (X : CC p s m args c cc nL c0 RX6 D kA V A) {q : Nat} (hq : q < 2) (hS : CS D kA Z A s u H locs) {v : Int32} (hu : xpI u q 15 v = u1) (hd : decode cc pc = .ok (.putfield 89, 3)) (kk : ∀ H locs, CS D kA Z A s u1 H locs → W p l e R s m args below meth c H locs cells slots Q (F0 m (pc + 3) ls rest)) : W p l e R s m args below meth c H locs cells slots Q (F0 m pc ls (.int v :: .ref (Z (300 + 50 * q)) :: rest)) := by
  obtain ⟨⟨hx, hb, hml, hown, hts⟩, hK, hE, hA⟩ := X
  have hG : ∀ w ∈ GW, w.before args s = true := fun w h => hts w (List.mem_cons_of_mem _ h)
  subst hu
  rcases (show q = 0 ∨ q = 1 by omega) with rfl | rfl
  · refine va_put (D := D) (ci := 5) (v := .int v) (ty := .int) (C := RX6) (T := TX6) (N := 16) hx hb hG gwl_X6 tyX6 tyX6_ok nmX6 hown hK hS.1 hS.2.1 hS.2.2 40 (cw_lit rfl) rfl 15 (by decide) (hG _ gw_399) (fun _ h9 => h9) rfl (by decide +kernel) rfl rfl (Nat.le_of_ble_eq_true rfl) hd (fun H1 locs1 hP hD hS1 => kk H1 locs1 ?_)
    have he := cw_setL (kA := kA) (Z := Z) (u := u) (w := xpI u 0 15 v) (k := 40) (x := (Z (300 + 50 * 0), .inr (5, ([.ref (Z (300 + 50 * 0 + 1)), .ref (Z (300 + 50 * 0 + 2)), .ref (Z (1000 + (169 * 0 + 168))), .ref (Z (300 + 50 * 0 + 3)), .ref (Z (300 + 50 * 0 + 9)), .ref (Z (300 + 50 * 0 + 10)), .ref (Z (300 + 50 * 0 + 11)), .ref (Z (300 + 50 * 0 + 12)), .ref (Z (300 + 50 * 0 + 13)), .ref (Z (300 + 50 * 0 + 14)), .ref (Z (300 + 50 * 0 + 15)), .ref (Z (300 + 50 * 0 + 16)), .int (pI u 0 12), .int (pI u 0 13), .int (pI u 0 14), .int (pI u 0 15)] : List Value).set 15 (.int v)))) (by decide) rfl rfl rfl
    exact cs_put he hP hD hS1
  · refine va_put (D := D) (ci := 5) (v := .int v) (ty := .int) (C := RX6) (T := TX6) (N := 16) hx hb hG gwl_X6 tyX6 tyX6_ok nmX6 hown hK hS.1 hS.2.1 hS.2.2 57 (cw_lit rfl) rfl 15 (by decide) (hG _ gw_399) (fun _ h9 => h9) rfl (by decide +kernel) rfl rfl (Nat.le_of_ble_eq_true rfl) hd (fun H1 locs1 hP hD hS1 => kk H1 locs1 ?_)
    have he := cw_setL (kA := kA) (Z := Z) (u := u) (w := xpI u 1 15 v) (k := 57) (x := (Z (300 + 50 * 1), .inr (5, ([.ref (Z (300 + 50 * 1 + 1)), .ref (Z (300 + 50 * 1 + 2)), .ref (Z (1000 + (169 * 1 + 168))), .ref (Z (300 + 50 * 1 + 3)), .ref (Z (300 + 50 * 1 + 9)), .ref (Z (300 + 50 * 1 + 10)), .ref (Z (300 + 50 * 1 + 11)), .ref (Z (300 + 50 * 1 + 12)), .ref (Z (300 + 50 * 1 + 13)), .ref (Z (300 + 50 * 1 + 14)), .ref (Z (300 + 50 * 1 + 15)), .ref (Z (300 + 50 * 1 + 16)), .int (pI u 1 12), .int (pI u 1 13), .int (pI u 1 14), .int (pI u 1 15)] : List Value).set 15 (.int v)))) (by decide) rfl rfl rfl
    exact cs_put he hP hD hS1
theorem cfill_p9 {q : Nat} (hq : q < 2) {v : Int32} : ∃ k : Nat, (CW kA Z u)[k]? = some (Z (300 + 50 * q + 9), .inl (kA 0, 5, .inl (pA u q 9))) ∧ (CW kA Z u).set k (Z (300 + 50 * q + 9), .inl (kA 0, 5, .inl (fl (pA u q 9) v 5))) = CW kA Z (xpF u q 9 (fl (pA u q 9) v 5)) := by
  rcases (show q = 0 ∨ q = 1 by omega) with rfl | rfl
  · exact ⟨49, cw_lit rfl, cw_setL (by decide) rfl rfl rfl⟩
  · exact ⟨66, cw_lit rfl, cw_setL (by decide) rfl rfl rfl⟩
theorem cg_X1_11 (X : CC p s m args c cc nL c0 RX1 D kA V A) (hS : CS D kA Z A s u H locs) (hd : decode cc pc = .ok (.getfield 11, 3)) (kk : W p l e R s m args below meth c H locs cells slots Q (F0 m (pc + 3) ls (.ref (Z 210) :: rest))) : W p l e R s m args below meth c H locs cells slots Q (F0 m pc ls (.ref (Z 209) :: rest)) := by
  obtain ⟨⟨hx, hb, hml, hown, hts⟩, hK, hE, hA⟩ := X
  have hG : ∀ w ∈ GW, w.before args s = true := fun w h => hts w (List.mem_cons_of_mem _ h)
  exact va_get (D := D) (ci := 1) (v := .ref (Z 210)) (C := RX1) (T := TX1) (N := 1) hx hb hG gwl_X1 hown hK hS.1 9 (cw_lit rfl) rfl 0 (by decide) (hG _ gw_156) (fun _ h9 => h9) rfl hd kk
theorem ca_i (X : CC p s m args c cc nL c0 own D kA V A) {q : Nat} (hq : q < 8) (hS : CS D kA Z A s u H locs) {i : Int32} {v : Int32} (hi : vp_in i 64) (hv : cA u (211 + q) i.toNatClampNeg = v) (hd : decode cc pc = .ok (.iaload, 1)) (kk : W p l e R s m args below meth c H locs cells slots Q (F0 m (pc + 1) ls (.int v :: rest))) : W p l e R s m args below meth c H locs cells slots Q (F0 m pc ls (.int i :: .ref (Z (211 + q)) :: rest)) := by
  subst hv
  rcases (show q = 0 ∨ q = 1 ∨ q = 2 ∨ q = 3 ∨ q = 4 ∨ q = 5 ∨ q = 6 ∨ q = 7 by omega) with rfl | rfl | rfl | rfl | rfl | rfl | rfl | rfl
  · exact va_iald X.1.1 X.1.2.1 X.2.1 hS.1 11 0 (cw_lit rfl) rfl hi hd kk
  · exact va_iald X.1.1 X.1.2.1 X.2.1 hS.1 12 0 (cw_lit rfl) rfl hi hd kk
  · exact va_iald X.1.1 X.1.2.1 X.2.1 hS.1 13 0 (cw_lit rfl) rfl hi hd kk
  · exact va_iald X.1.1 X.1.2.1 X.2.1 hS.1 14 0 (cw_lit rfl) rfl hi hd kk
  · exact va_iald X.1.1 X.1.2.1 X.2.1 hS.1 15 0 (cw_lit rfl) rfl hi hd kk
  · exact va_iald X.1.1 X.1.2.1 X.2.1 hS.1 16 0 (cw_lit rfl) rfl hi hd kk
  · exact va_iald X.1.1 X.1.2.1 X.2.1 hS.1 17 0 (cw_lit rfl) rfl hi hd kk
  · exact va_iald X.1.1 X.1.2.1 X.2.1 hS.1 18 0 (cw_lit rfl) rfl hi hd kk
theorem cs_i (X : CC p s m args c cc nL c0 own D kA V A) {q : Nat} (hq : q < 8) (hS : CS D kA Z A s u H locs) {i : Int32} {v : Int32} (hi : vp_in i 64) (hu : xA u (211 + q) i.toNatClampNeg v = u1) (hd : decode cc pc = .ok (.iastore, 1)) (kk : ∀ H locs, CS D kA Z A s u1 H locs → W p l e R s m args below meth c H locs cells slots Q (F0 m (pc + 1) ls rest)) : W p l e R s m args below meth c H locs cells slots Q (F0 m pc ls (.int v :: .int i :: .ref (Z (211 + q)) :: rest)) := by
  subst hu
  rcases (show q = 0 ∨ q = 1 ∨ q = 2 ∨ q = 3 ∨ q = 4 ∨ q = 5 ∨ q = 6 ∨ q = 7 by omega) with rfl | rfl | rfl | rfl | rfl | rfl | rfl | rfl
  · refine va_iast X.1.1 X.1.2.1 X.2.1 hS.1 hS.2.1 hS.2.2 11 0 (cw_lit rfl) rfl hi hd (fun H1 locs1 hP hD hS1 => kk H1 locs1 ?_)
    have he := cw_setL (kA := kA) (Z := Z) (u := u) (w := xA u (211 + 0) i.toNatClampNeg v) (k := 11) (x := (Z (211 + 0), .inl (kA 0, 64, .inl (upd (cA u (211 + 0)) i.toNatClampNeg v)))) (by decide) rfl rfl rfl
    exact cs_put he hP hD hS1
  · refine va_iast X.1.1 X.1.2.1 X.2.1 hS.1 hS.2.1 hS.2.2 12 0 (cw_lit rfl) rfl hi hd (fun H1 locs1 hP hD hS1 => kk H1 locs1 ?_)
    have he := cw_setL (kA := kA) (Z := Z) (u := u) (w := xA u (211 + 1) i.toNatClampNeg v) (k := 12) (x := (Z (211 + 1), .inl (kA 0, 64, .inl (upd (cA u (211 + 1)) i.toNatClampNeg v)))) (by decide) rfl rfl rfl
    exact cs_put he hP hD hS1
  · refine va_iast X.1.1 X.1.2.1 X.2.1 hS.1 hS.2.1 hS.2.2 13 0 (cw_lit rfl) rfl hi hd (fun H1 locs1 hP hD hS1 => kk H1 locs1 ?_)
    have he := cw_setL (kA := kA) (Z := Z) (u := u) (w := xA u (211 + 2) i.toNatClampNeg v) (k := 13) (x := (Z (211 + 2), .inl (kA 0, 64, .inl (upd (cA u (211 + 2)) i.toNatClampNeg v)))) (by decide) rfl rfl rfl
    exact cs_put he hP hD hS1
  · refine va_iast X.1.1 X.1.2.1 X.2.1 hS.1 hS.2.1 hS.2.2 14 0 (cw_lit rfl) rfl hi hd (fun H1 locs1 hP hD hS1 => kk H1 locs1 ?_)
    have he := cw_setL (kA := kA) (Z := Z) (u := u) (w := xA u (211 + 3) i.toNatClampNeg v) (k := 14) (x := (Z (211 + 3), .inl (kA 0, 64, .inl (upd (cA u (211 + 3)) i.toNatClampNeg v)))) (by decide) rfl rfl rfl
    exact cs_put he hP hD hS1
  · refine va_iast X.1.1 X.1.2.1 X.2.1 hS.1 hS.2.1 hS.2.2 15 0 (cw_lit rfl) rfl hi hd (fun H1 locs1 hP hD hS1 => kk H1 locs1 ?_)
    have he := cw_setL (kA := kA) (Z := Z) (u := u) (w := xA u (211 + 4) i.toNatClampNeg v) (k := 15) (x := (Z (211 + 4), .inl (kA 0, 64, .inl (upd (cA u (211 + 4)) i.toNatClampNeg v)))) (by decide) rfl rfl rfl
    exact cs_put he hP hD hS1
  · refine va_iast X.1.1 X.1.2.1 X.2.1 hS.1 hS.2.1 hS.2.2 16 0 (cw_lit rfl) rfl hi hd (fun H1 locs1 hP hD hS1 => kk H1 locs1 ?_)
    have he := cw_setL (kA := kA) (Z := Z) (u := u) (w := xA u (211 + 5) i.toNatClampNeg v) (k := 16) (x := (Z (211 + 5), .inl (kA 0, 64, .inl (upd (cA u (211 + 5)) i.toNatClampNeg v)))) (by decide) rfl rfl rfl
    exact cs_put he hP hD hS1
  · refine va_iast X.1.1 X.1.2.1 X.2.1 hS.1 hS.2.1 hS.2.2 17 0 (cw_lit rfl) rfl hi hd (fun H1 locs1 hP hD hS1 => kk H1 locs1 ?_)
    have he := cw_setL (kA := kA) (Z := Z) (u := u) (w := xA u (211 + 6) i.toNatClampNeg v) (k := 17) (x := (Z (211 + 6), .inl (kA 0, 64, .inl (upd (cA u (211 + 6)) i.toNatClampNeg v)))) (by decide) rfl rfl rfl
    exact cs_put he hP hD hS1
  · refine va_iast X.1.1 X.1.2.1 X.2.1 hS.1 hS.2.1 hS.2.2 18 0 (cw_lit rfl) rfl hi hd (fun H1 locs1 hP hD hS1 => kk H1 locs1 ?_)
    have he := cw_setL (kA := kA) (Z := Z) (u := u) (w := xA u (211 + 7) i.toNatClampNeg v) (k := 18) (x := (Z (211 + 7), .inl (kA 0, 64, .inl (upd (cA u (211 + 7)) i.toNatClampNeg v)))) (by decide) rfl rfl rfl
    exact cs_put he hP hD hS1
end C35imagesR
section C35images
variable {p : Program} {l : Launch} {e : Env} {R : Room} {s : State} {m : MethodId} {args : Array Value} {below : List Frame} {meth : Method} {c : Code} {H : Heap} {locs : List Loc} {Q : State → Prop} {cells slots : Nat}
variable {ls : Array Slot} {D : va_G} {kA : Nat → ClassId} {V Z : Nat → Nat} {A : Nat → Prop} {N d : Nat} {w : CSt}
def B_X7_isDue_0 (N : Nat) (l0 : Nat) (l1 : Int32) (u : CSt) : Option (Int32 × CSt) := if (tI u l0 0) ≤ (0 : Int32) then (some (0, u)) else (pb (F_J9_floorMod_7cf53 N l1 (tI u l0 0)) fun r_2 => if r_2 = (tI u l0 1) then (some (1, u)) else (some (0, u)))
set_option maxHeartbeats 4000000 in
theorem b_X7_isDue_0 {r : Int32} (X : CC p s m args c cX7_isDue 2 (Cond.code yX7_isDue cX7_isDue 2 (some .boolean)) RX7 D kA V A) (hE : CEz p l e R s m args below meth c cX7_isDue D kA Z A Q r w) (hF : 1 ≤ R.frames) (hL : 22 ≤ R.locals) {l0 : Nat} {l1 : Int32} {u : CSt}  (h : B_X7_isDue_0 N l0 l1 u = some (r, w)) (h_l0 : l0 < 16) (hS : CS D kA Z A s u H locs) (hl : lv_has ls 2 [(0, .ref (Z (400 + l0))), (1, .int l1)]) : W p l e R s m args below meth c H locs 0 0 Q (F0 m 0 ls []) := by
  obtain ⟨⟨hx, hb, hml, hown, hts⟩, hK, hEV, hA⟩ := id X
  have hG : ∀ w ∈ GW, w.before args s = true := fun w h => hts w (List.mem_cons_of_mem _ h)
  unfold B_X7_isDue_0 at h
  refine lv_aload_n hx hb dX7_isDue_0 rfl (lv_at hl 0 rfl) ?_
  refine cg_X7_7 X h_l0 hS dX7_isDue_1 ?_
  refine lv_if_le (tgt := 26) hx hb dX7_isDue_4 (by decide) (fun c_1 => ?_) (fun c_1 => ?_)
  · have h := ip (c_1) h
    refine lv_iconst (v := 0) hx hb dX7_isDue_26 (by decide) ?_
    obtain ⟨rfl, rfl⟩ := so9 h
    exact hE _ _ _ _ hS (Or.inl rfl) dX7_isDue_27
  · have h := im (c_1) h
    refine lv_iload_n hx hb dX7_isDue_7 rfl (lv_at hl 1 rfl) ?_
    refine lv_aload_n hx hb dX7_isDue_8 rfl (lv_at hl 0 rfl) ?_
    refine cg_X7_7 X h_l0 hS dX7_isDue_9 ?_
    obtain ⟨r_2, e_r_2, h⟩ := pb_of h
    refine vp_callSi (W.runS (As := [.int l1, .int (tI u l0 0)]) (rest := []) X.1 (k_J9_floorMod_7cf53 l N l1 (tI u l0 0) e_r_2) (va_cwS 2 hts (gw_S gw_1495 gw_1496 gw_17 gw_1497) rfl rfl rfl (by decide +kernel) ⟨Nat.le_trans (Nat.le_of_ble_eq_true rfl) hF, Nat.le_trans (Nat.le_of_ble_eq_true rfl) hL⟩) ⟨fun _ _ _ _ q => q, fun _ _ _ => ⟨rfl, trivial⟩⟩ rfl rfl hl.1 rfl (lv_room (Nat.le_of_ble_eq_true rfl)) dX7_isDue_12 ⟨Nat.zero_le _, Nat.zero_le _⟩) (fun r_3 q_4 => ?_)
    rw [q_4]
    refine lv_aload_n hx hb dX7_isDue_15 rfl (lv_at hl 0 rfl) ?_
    refine cg_X7_13 X h_l0 hS dX7_isDue_16 ?_
    refine lv_icmp_ne (tgt := 26) hx hb dX7_isDue_19 (by decide) (fun c_5 => ?_) (fun c_5 => ?_)
    · have h := im (c_5) h
      refine lv_iconst (v := 0) hx hb dX7_isDue_26 (by decide) ?_
      obtain ⟨rfl, rfl⟩ := so9 h
      exact hE _ _ _ _ hS (Or.inl rfl) dX7_isDue_27
    · have h := ip (c_5) h
      refine lv_iconst (v := 1) hx hb dX7_isDue_22 (by decide) ?_
      refine lv_goto (tgt := 27) hx hb dX7_isDue_23 (by decide) ?_
      obtain ⟨rfl, rfl⟩ := so9 h
      exact hE _ _ _ _ hS (Or.inr rfl) dX7_isDue_27
def F_X7_isDue (N : Nat) (l0 : Nat) (l1 : Int32) (u : CSt) : Option (Int32 × CSt) := B_X7_isDue_0 N l0 l1 u
set_option maxHeartbeats 4000000 in
theorem k_X7_isDue (l : Launch) (D : va_G) (kA : Nat → ClassId) (V Z : Nat → Nat) (N : Nat) (l0 : Nat) (l1 : Int32) (h_l0 : l0 < 16) (u : CSt) (sz : Nat) {r : Int32} {w : CSt} (h : F_X7_isDue N l0 l1 u = some (r, w)) : Met l yX7_isDue (Cond.code yX7_isDue cX7_isDue 2 (some .boolean) :: GW) { frames := 1, cells := 0, slots := 0, locals := 22 } (cPc D kA V Z [.ref (Z (400 + l0)), .int l1] u sz) (cQi D kA Z u sz r w) 0 0 (va_A (CW kA Z u) sz) := by
  refine Met.ofW (cc := cX7_isDue) (maxL := 2) (ret := (some .boolean)) (by decide) rfl ?_
  intro p e s m args below meth c s₁ Bd hml hv
  obtain ⟨rfl, hsz, hP, hK, hD0, hE⟩ := hv
  have hts := atoms_spec (ws := Cond.code yX7_isDue cX7_isDue 2 (some .boolean) :: GW) Bd.pre
  have hl := lv_entry ([.ref (Z (400 + l0)), .int l1]) (n := 2) (Nat.le_of_ble_eq_true rfl)
  rw [lg_entry_eq]
  generalize (lg_sl ([.ref (Z (400 + l0)), .int l1]) ++ List.replicate (2 - (lg_sl ([.ref (Z (400 + l0)), .int l1])).length) Slot.unset).toArray = ls at hl ⊢
  have hl : lv_has ls 2 [(0, .ref (Z (400 + l0))), (1, .int l1)] := hl
  subst hsz
  have X : CC p s m ([.ref (Z (400 + l0)), .int l1]).toArray c cX7_isDue 2 (Cond.code yX7_isDue cX7_isDue 2 (some .boolean)) RX7 D kA V (va_A (CW kA Z u) s.heap.size) := ⟨⟨Bd.exec, Bd.bytes, hml, findClass_of_methodNamed Bd.named, hts⟩, hK, hE, fun q h => Or.inr h⟩
  refine b_X7_isDue_0 X (cend_z X Bd.returns Bd.notSynchronized) (Nat.le_refl _) (Nat.le_refl _) h h_l0 ⟨hP, hD0.self, va_S.rf⟩ (lv_sub hl [0, 1] rfl)
theorem kc_X7_isDue_RX11 {cc : ByteArray} {pc nL : Nat} {c0 : Cond} {rest : List Value} {l0 : Nat} {l1 : Int32} {u w1 : CSt} {r : Int32} (X : CC p s m args c cc nL c0 RX11 D kA V A) (h_l0 : l0 < 16) (hS : CS D kA Z A s u H locs) (h : F_X7_isDue N l0 l1 u = some (r, w1)) (hF : 1 + 1 ≤ R.frames) (hL : 8 + (2 + 11) + 22 ≤ R.locals) (hl : ls.size = nL) (hc : (rest.map fun v => v.category).sum ≤ 8) (hdg : decode cc pc = .ok (.invokevirtual 369, 3)) (kk : ∀ H locs, CS D kA Z A s w1 H locs → W p l e R s m args below meth c H locs 0 0 Q (F0 m (pc + 3) ls (.int r :: rest))) : W p l e R s m args below meth c H locs 0 0 Q (F0 m pc ls (.int l1 :: .ref (Z (400 + l0)) :: rest)) :=
  ccall_i (n := 1) X hS (k_X7_isDue l D kA V Z N l0 l1 h_l0 u H.size h) (gw_V gw_1491 gw_1492 gw_1493 gw_12 gw_1494) (by decide +kernel) (va_recv X.2.1 hS.1 (ci := 6) (q0 := 74 + l0) rfl (cw_task h_l0)) hF hL rfl hl hc rfl hdg kk
def B_X10_latest_0 (N : Nat) (l1 : Int32) (u : CSt) : Option (Int32 × CSt) := pb (F_J9_floorMod_7cf53 N (((cI u 11) - 1) - l1) 100) fun r_1 => some (r_1, u)
set_option maxHeartbeats 4000000 in
theorem b_X10_latest_0 {r : Int32} (X : CC p s m args c cX10_latest 2 (Cond.code yX10_latest cX10_latest 2 (some .int)) RX10 D kA V A) (hE : CEi p l e R s m args below meth c cX10_latest D kA Z A Q r w) (hF : 1 ≤ R.frames) (hL : 22 ≤ R.locals) {l1 : Int32} {u : CSt}  (h : B_X10_latest_0 N l1 u = some (r, w))  (hS : CS D kA Z A s u H locs) (hl : lv_has ls 2 [(0, .ref (Z 219)), (1, .int l1)]) : W p l e R s m args below meth c H locs 0 0 Q (F0 m 0 ls []) := by
  obtain ⟨⟨hx, hb, hml, hown, hts⟩, hK, hEV, hA⟩ := id X
  have hG : ∀ w ∈ GW, w.before args s = true := fun w h => hts w (List.mem_cons_of_mem _ h)
  unfold B_X10_latest_0 at h
  refine lv_aload_n hx hb dX10_latest_0 rfl (lv_at hl 0 rfl) ?_
  refine cg_X10_41 X hS dX10_latest_1 ?_
  refine lv_iconst (v := 1) hx hb dX10_latest_4 (by decide) ?_
  refine lv_isub hx hb dX10_latest_5 ?_
  refine lv_iload_n hx hb dX10_latest_6 rfl (lv_at hl 1 rfl) ?_
  refine lv_isub hx hb dX10_latest_7 ?_
  refine lv_bipush (v := 100) hx hb dX10_latest_8 (by decide) ?_
  obtain ⟨r_1, e_r_1, h⟩ := pb_of h
  refine vp_callSi (W.runS (As := [.int (((cI u 11) - 1) - l1), .int 100]) (rest := []) X.1 (k_J9_floorMod_7cf53 l N (((cI u 11) - 1) - l1) 100 e_r_1) (va_cwS 2 hts (gw_S gw_1817 gw_1496 gw_17 gw_1497) rfl rfl rfl (by decide +kernel) ⟨Nat.le_trans (Nat.le_of_ble_eq_true rfl) hF, Nat.le_trans (Nat.le_of_ble_eq_true rfl) hL⟩) ⟨fun _ _ _ _ q => q, fun _ _ _ => ⟨rfl, trivial⟩⟩ rfl rfl hl.1 rfl (lv_room (Nat.le_of_ble_eq_true rfl)) dX10_latest_10 ⟨Nat.zero_le _, Nat.zero_le _⟩) (fun r_2 q_3 => ?_)
  rw [q_3]
  obtain ⟨rfl, rfl⟩ := so9 h
  exact hE _ _ _ _ hS dX10_latest_13
def F_X10_latest (N : Nat) (l1 : Int32) (u : CSt) : Option (Int32 × CSt) := B_X10_latest_0 N l1 u
set_option maxHeartbeats 4000000 in
theorem k_X10_latest (l : Launch) (D : va_G) (kA : Nat → ClassId) (V Z : Nat → Nat) (N : Nat) (l1 : Int32) (u : CSt) (sz : Nat) {r : Int32} {w : CSt} (h : F_X10_latest N l1 u = some (r, w)) : Met l yX10_latest (Cond.code yX10_latest cX10_latest 2 (some .int) :: GW) { frames := 1, cells := 0, slots := 0, locals := 22 } (cPc D kA V Z [.ref (Z 219), .int l1] u sz) (cQi D kA Z u sz r w) 0 0 (va_A (CW kA Z u) sz) := by
  refine Met.ofW (cc := cX10_latest) (maxL := 2) (ret := (some .int)) (by decide) rfl ?_
  intro p e s m args below meth c s₁ Bd hml hv
  obtain ⟨rfl, hsz, hP, hK, hD0, hE⟩ := hv
  have hts := atoms_spec (ws := Cond.code yX10_latest cX10_latest 2 (some .int) :: GW) Bd.pre
  have hl := lv_entry ([.ref (Z 219), .int l1]) (n := 2) (Nat.le_of_ble_eq_true rfl)
  rw [lg_entry_eq]
  generalize (lg_sl ([.ref (Z 219), .int l1]) ++ List.replicate (2 - (lg_sl ([.ref (Z 219), .int l1])).length) Slot.unset).toArray = ls at hl ⊢
  have hl : lv_has ls 2 [(0, .ref (Z 219)), (1, .int l1)] := hl
  subst hsz
  have X : CC p s m ([.ref (Z 219), .int l1]).toArray c cX10_latest 2 (Cond.code yX10_latest cX10_latest 2 (some .int)) RX10 D kA V (va_A (CW kA Z u) s.heap.size) := ⟨⟨Bd.exec, Bd.bytes, hml, findClass_of_methodNamed Bd.named, hts⟩, hK, hE, fun q h => Or.inr h⟩
  refine b_X10_latest_0 X (cend_i X Bd.returns Bd.notSynchronized) (Nat.le_refl _) (Nat.le_refl _) h  ⟨hP, hD0.self, va_S.rf⟩ (lv_sub hl [0, 1] rfl)
theorem kc_X10_latest_RX11 {cc : ByteArray} {pc nL : Nat} {c0 : Cond} {rest : List Value} {l1 : Int32} {u w1 : CSt} {r : Int32} (X : CC p s m args c cc nL c0 RX11 D kA V A)  (hS : CS D kA Z A s u H locs) (h : F_X10_latest N l1 u = some (r, w1)) (hF : 1 + 1 ≤ R.frames) (hL : 8 + (2 + 11) + 22 ≤ R.locals) (hl : ls.size = nL) (hc : (rest.map fun v => v.category).sum ≤ 8) (hdg : decode cc pc = .ok (.invokevirtual 302, 3)) (kk : ∀ H locs, CS D kA Z A s w1 H locs → W p l e R s m args below meth c H locs 0 0 Q (F0 m (pc + 3) ls (.int r :: rest))) : W p l e R s m args below meth c H locs 0 0 Q (F0 m pc ls (.int l1 :: .ref (Z 219) :: rest)) :=
  ccall_i (n := 1) X hS (k_X10_latest l D kA V Z N l1  u H.size h) (gw_V gw_1813 gw_1814 gw_1815 gw_9 gw_1816) (by decide +kernel) (va_recv X.2.1 hS.1 (ci := 9) (q0 := 19) rfl (cw_lit rfl)) hF hL rfl hl hc rfl hdg kk
def B_X6_hasRoomFor_58 (N : Nat) (u : CSt) : Option (Int32 × CSt) := some (1, u)
set_option maxHeartbeats 4000000 in
theorem b_X6_hasRoomFor_58 {r : Int32} (X : CC p s m args c cX6_hasRoomFor 2 (Cond.code yX6_hasRoomFor cX6_hasRoomFor 2 (some .boolean)) RX6 D kA V A) (hE : CEz p l e R s m args below meth c cX6_hasRoomFor D kA Z A Q r w) (hF : 1 ≤ R.frames) (hL : 21 ≤ R.locals) {u : CSt}  (h : B_X6_hasRoomFor_58 N u = some (r, w))  (hS : CS D kA Z A s u H locs) (hl : lv_has ls 2 []) : W p l e R s m args below meth c H locs 0 0 Q (F0 m 58 ls []) := by
  obtain ⟨⟨hx, hb, hml, hown, hts⟩, hK, hEV, hA⟩ := id X
  have hG : ∀ w ∈ GW, w.before args s = true := fun w h => hts w (List.mem_cons_of_mem _ h)
  unfold B_X6_hasRoomFor_58 at h
  refine lv_iconst (v := 1) hx hb dX6_hasRoomFor_58 (by decide) ?_
  refine lv_goto (tgt := 63) hx hb dX6_hasRoomFor_59 (by decide) ?_
  obtain ⟨rfl, rfl⟩ := so9 h
  exact hE _ _ _ _ hS (Or.inr rfl) dX6_hasRoomFor_63
def B_X6_hasRoomFor_0 (N : Nat) (l0 : Nat) (l1 : Int32) (u : CSt) : Option (Int32 × CSt) := if (pI u l0 12) < (160 : Int32) then (if l1 = (5 : Int32) then (bc (F_X6_name N l0 (pI u l0 15) u) fun r_10 u_9 => ok (r_10 < 338) inferInstance <| if (6 : Int32) ≤ (mI u_9 r_10 11) then (some (0, u_9)) else (some (1, u_9))) else (if (4 : Int32) < l1 then (B_X6_hasRoomFor_58 N u) else (rd (pA u l0 9) 5 l1 fun v_5 => rd (fun j => bt_1.getD j 0) 5 l1 fun v_6 => if v_6 ≤ v_5 then (some (0, u)) else (B_X6_hasRoomFor_58 N u)))) else (some (0, u))
set_option maxHeartbeats 4000000 in
theorem b_X6_hasRoomFor_0 {r : Int32} (X : CC p s m args c cX6_hasRoomFor 2 (Cond.code yX6_hasRoomFor cX6_hasRoomFor 2 (some .boolean)) RX6 D kA V A) (hE : CEz p l e R s m args below meth c cX6_hasRoomFor D kA Z A Q r w) (hF : 1 ≤ R.frames) (hL : 21 ≤ R.locals) {l0 : Nat} {l1 : Int32} {u : CSt}  (h : B_X6_hasRoomFor_0 N l0 l1 u = some (r, w)) (h_l0 : l0 < 2) (hS : CS D kA Z A s u H locs) (hl : lv_has ls 2 [(0, .ref (Z (300 + 50 * l0))), (1, .int l1)]) : W p l e R s m args below meth c H locs 0 0 Q (F0 m 0 ls []) := by
  obtain ⟨⟨hx, hb, hml, hown, hts⟩, hK, hEV, hA⟩ := id X
  have hG : ∀ w ∈ GW, w.before args s = true := fun w h => hts w (List.mem_cons_of_mem _ h)
  unfold B_X6_hasRoomFor_0 at h
  refine lv_aload_n hx hb dX6_hasRoomFor_0 rfl (lv_at hl 0 rfl) ?_
  refine cg_X6_92 X h_l0 hS dX6_hasRoomFor_1 ?_
  refine lv_sipush (v := 160) hx hb dX6_hasRoomFor_4 (by decide) ?_
  refine lv_icmp_lt (tgt := 12) hx hb dX6_hasRoomFor_7 (by decide) (fun c_1 => ?_) (fun c_1 => ?_)
  · have h := ip (c_1) h
    refine lv_iload_n hx hb dX6_hasRoomFor_12 rfl (lv_at hl 1 rfl) ?_
    refine lv_iconst (v := 5) hx hb dX6_hasRoomFor_13 (by decide) ?_
    refine lv_icmp_ne (tgt := 39) hx hb dX6_hasRoomFor_14 (by decide) (fun c_2 => ?_) (fun c_2 => ?_)
    · have h := im (c_2) h
      refine lv_iload_n hx hb dX6_hasRoomFor_39 rfl (lv_at hl 1 rfl) ?_
      refine lv_iconst (v := 4) hx hb dX6_hasRoomFor_40 (by decide) ?_
      refine lv_icmp_gt (tgt := 58) hx hb dX6_hasRoomFor_41 (by decide) (fun c_3 => ?_) (fun c_3 => ?_)
      · have h := ip (c_3) h
        exact b_X6_hasRoomFor_58 X hE  hF hL  h  hS (lv_sub hl [] rfl)
      · have h := im (c_3) h
        refine lv_aload_n hx hb dX6_hasRoomFor_44 rfl (lv_at hl 0 rfl) ?_
        refine cg_X6_34 X h_l0 hS dX6_hasRoomFor_45 ?_
        refine lv_iload_n hx hb dX6_hasRoomFor_48 rfl (lv_at hl 1 rfl) ?_
        obtain ⟨v_5, e_v_5, i_4, h⟩ := rd_of h
        refine ca_p9 X h_l0 hS i_4 e_v_5 dX6_hasRoomFor_49 ?_
        refine va_getsN hx hb hEV.2.2.2.2.2.2.2.2.2.2.2.2.2.2.2.2.2.2.2.1 hS.2.2 hown (va_Nw.use rfl (hEV.1 _ nw_1047)) (fun _ h9 => h9) dX6_hasRoomFor_50 ?_
        refine lv_iload_n hx hb dX6_hasRoomFor_53 rfl (lv_at hl 1 rfl) ?_
        obtain ⟨v_6, e_v_6, i_7, h⟩ := rd_of h
        refine va_ti hx hb hEV.2.2.2.2.2.2.2.2.2.2.2.2.2.2.2.2.2.2.2.2 hS.2.2 i_7 rfl dX6_hasRoomFor_54 ?_
        rw [e_v_6]
        refine lv_icmp_ge (tgt := 62) hx hb dX6_hasRoomFor_55 (by decide) (fun c_8 => ?_) (fun c_8 => ?_)
        · have h := ip (c_8) h
          refine lv_iconst (v := 0) hx hb dX6_hasRoomFor_62 (by decide) ?_
          obtain ⟨rfl, rfl⟩ := so9 h
          exact hE _ _ _ _ hS (Or.inl rfl) dX6_hasRoomFor_63
        · have h := im (c_8) h
          exact b_X6_hasRoomFor_58 X hE  hF hL  h  hS (lv_sub hl [] rfl)
    · have h := ip (c_2) h
      refine lv_aload_n hx hb dX6_hasRoomFor_17 rfl (lv_at hl 0 rfl) ?_
      refine lv_aload_n hx hb dX6_hasRoomFor_18 rfl (lv_at hl 0 rfl) ?_
      refine cg_X6_89 X h_l0 hS dX6_hasRoomFor_19 ?_
      obtain ⟨r_10, u_9, h_u_9, h⟩ := bc_of h
      refine kc_X6_name_RX6 X h_l0 hS h_u_9 (Nat.le_trans (Nat.le_of_ble_eq_true rfl) hF) (Nat.le_trans (Nat.le_of_ble_eq_true rfl) hL) hl.1 (Nat.le_of_ble_eq_true rfl) dX6_hasRoomFor_22 (fun H locs hS => ?_)
      obtain ⟨z_11, h⟩ := ok_of h
      refine cg_X6_86 X z_11 hS dX6_hasRoomFor_25 ?_
      refine lv_bipush (v := 6) hx hb dX6_hasRoomFor_28 (by decide) ?_
      refine lv_icmp_ge (tgt := 37) hx hb dX6_hasRoomFor_30 (by decide) (fun c_12 => ?_) (fun c_12 => ?_)
      · have h := ip (c_12) h
        refine lv_iconst (v := 0) hx hb dX6_hasRoomFor_37 (by decide) ?_
        obtain ⟨rfl, rfl⟩ := so9 h
        exact hE _ _ _ _ hS (Or.inl rfl) dX6_hasRoomFor_38
      · have h := im (c_12) h
        refine lv_iconst (v := 1) hx hb dX6_hasRoomFor_33 (by decide) ?_
        refine lv_goto (tgt := 38) hx hb dX6_hasRoomFor_34 (by decide) ?_
        obtain ⟨rfl, rfl⟩ := so9 h
        exact hE _ _ _ _ hS (Or.inr rfl) dX6_hasRoomFor_38
  · have h := im (c_1) h
    refine lv_iconst (v := 0) hx hb dX6_hasRoomFor_10 (by decide) ?_
    obtain ⟨rfl, rfl⟩ := so9 h
    exact hE _ _ _ _ hS (Or.inl rfl) dX6_hasRoomFor_11
def F_X6_hasRoomFor (N : Nat) (l0 : Nat) (l1 : Int32) (u : CSt) : Option (Int32 × CSt) := B_X6_hasRoomFor_0 N l0 l1 u
set_option maxHeartbeats 4000000 in
theorem k_X6_hasRoomFor (l : Launch) (D : va_G) (kA : Nat → ClassId) (V Z : Nat → Nat) (N : Nat) (l0 : Nat) (l1 : Int32) (h_l0 : l0 < 2) (u : CSt) (sz : Nat) {r : Int32} {w : CSt} (h : F_X6_hasRoomFor N l0 l1 u = some (r, w)) : Met l yX6_hasRoomFor (Cond.code yX6_hasRoomFor cX6_hasRoomFor 2 (some .boolean) :: GW) { frames := 1, cells := 0, slots := 0, locals := 21 } (cPc D kA V Z [.ref (Z (300 + 50 * l0)), .int l1] u sz) (cQi D kA Z u sz r w) 0 0 (va_A (CW kA Z u) sz) := by
  refine Met.ofW (cc := cX6_hasRoomFor) (maxL := 2) (ret := (some .boolean)) (by decide) rfl ?_
  intro p e s m args below meth c s₁ Bd hml hv
  obtain ⟨rfl, hsz, hP, hK, hD0, hE⟩ := hv
  have hts := atoms_spec (ws := Cond.code yX6_hasRoomFor cX6_hasRoomFor 2 (some .boolean) :: GW) Bd.pre
  have hl := lv_entry ([.ref (Z (300 + 50 * l0)), .int l1]) (n := 2) (Nat.le_of_ble_eq_true rfl)
  rw [lg_entry_eq]
  generalize (lg_sl ([.ref (Z (300 + 50 * l0)), .int l1]) ++ List.replicate (2 - (lg_sl ([.ref (Z (300 + 50 * l0)), .int l1])).length) Slot.unset).toArray = ls at hl ⊢
  have hl : lv_has ls 2 [(0, .ref (Z (300 + 50 * l0))), (1, .int l1)] := hl
  subst hsz
  have X : CC p s m ([.ref (Z (300 + 50 * l0)), .int l1]).toArray c cX6_hasRoomFor 2 (Cond.code yX6_hasRoomFor cX6_hasRoomFor 2 (some .boolean)) RX6 D kA V (va_A (CW kA Z u) s.heap.size) := ⟨⟨Bd.exec, Bd.bytes, hml, findClass_of_methodNamed Bd.named, hts⟩, hK, hE, fun q h => Or.inr h⟩
  refine b_X6_hasRoomFor_0 X (cend_z X Bd.returns Bd.notSynchronized) (Nat.le_refl _) (Nat.le_refl _) h h_l0 ⟨hP, hD0.self, va_S.rf⟩ (lv_sub hl [0, 1] rfl)
theorem kc_X6_hasRoomFor_RX3 {cc : ByteArray} {pc nL : Nat} {c0 : Cond} {rest : List Value} {l0 : Nat} {l1 : Int32} {u w1 : CSt} {r : Int32} (X : CC p s m args c cc nL c0 RX3 D kA V A) (h_l0 : l0 < 2) (hS : CS D kA Z A s u H locs) (h : F_X6_hasRoomFor N l0 l1 u = some (r, w1)) (hF : 1 + 1 ≤ R.frames) (hL : 8 + (2 + 11) + 21 ≤ R.locals) (hl : ls.size = nL) (hc : (rest.map fun v => v.category).sum ≤ 8) (hdg : decode cc pc = .ok (.invokevirtual 129, 3)) (kk : ∀ H locs, CS D kA Z A s w1 H locs → W p l e R s m args below meth c H locs 0 0 Q (F0 m (pc + 3) ls (.int r :: rest))) : W p l e R s m args below meth c H locs 0 0 Q (F0 m pc ls (.int l1 :: .ref (Z (300 + 50 * l0)) :: rest)) :=
  ccall_i (n := 1) X hS (k_X6_hasRoomFor l D kA V Z N l0 l1 h_l0 u H.size h) (gw_V gw_1042 gw_1043 gw_1044 gw_10 gw_1045) (by decide +kernel) (cp_recv X.2.1 h_l0 hS) hF hL rfl hl hc rfl hdg kk
def B_X6_empty_0 (N : Nat) (l0 : Nat) (u : CSt) : Option (Int32 × CSt) := pc (xpI u l0 12 0) fun u_1 => pc (xpI u_1 l0 13 0) fun u_2 => pc (xpI u_2 l0 14 0) fun u_3 => pc (xpI u_3 l0 15 (-1)) fun u_4 => pc (xpF u_4 l0 9 (fl (pA u_4 l0 9) 0 5)) fun u_5 => some (0, u_5)
set_option maxHeartbeats 4000000 in
theorem b_X6_empty_0 {r : Int32} (X : CC p s m args c cX6_empty 1 (Cond.code yX6_empty cX6_empty 1 none) RX6 D kA V A) (hE : CEv p l e R s m args below meth c cX6_empty D kA Z A Q w) (hF : 1 ≤ R.frames) (hL : 23 ≤ R.locals) {l0 : Nat} {u : CSt}  (h : B_X6_empty_0 N l0 u = some (r, w)) (h_l0 : l0 < 2) (hS : CS D kA Z A s u H locs) (hl : lv_has ls 1 [(0, .ref (Z (300 + 50 * l0)))]) : W p l e R s m args below meth c H locs 0 0 Q (F0 m 0 ls []) := by
  obtain ⟨⟨hx, hb, hml, hown, hts⟩, hK, hEV, hA⟩ := id X
  have hG : ∀ w ∈ GW, w.before args s = true := fun w h => hts w (List.mem_cons_of_mem _ h)
  unfold B_X6_empty_0 at h
  refine lv_aload_n hx hb dX6_empty_0 rfl (lv_at hl 0 rfl) ?_
  refine lv_iconst (v := 0) hx hb dX6_empty_1 (by decide) ?_
  obtain ⟨u_1, e_u_1, h⟩ := pc_of h
  refine cp_X6_92 X h_l0 hS e_u_1 dX6_empty_2 (fun H locs hS => ?_)
  refine lv_aload_n hx hb dX6_empty_5 rfl (lv_at hl 0 rfl) ?_
  refine lv_iconst (v := 0) hx hb dX6_empty_6 (by decide) ?_
  obtain ⟨u_2, e_u_2, h⟩ := pc_of h
  refine cp_X6_95 X h_l0 hS e_u_2 dX6_empty_7 (fun H locs hS => ?_)
  refine lv_aload_n hx hb dX6_empty_10 rfl (lv_at hl 0 rfl) ?_
  refine lv_iconst (v := 0) hx hb dX6_empty_11 (by decide) ?_
  obtain ⟨u_3, e_u_3, h⟩ := pc_of h
  refine cp_X6_98 X h_l0 hS e_u_3 dX6_empty_12 (fun H locs hS => ?_)
  refine lv_aload_n hx hb dX6_empty_15 rfl (lv_at hl 0 rfl) ?_
  refine lv_iconst (v := (-1)) hx hb dX6_empty_16 (by decide) ?_
  obtain ⟨u_4, e_u_4, h⟩ := pc_of h
  refine cp_X6_89 X h_l0 hS e_u_4 dX6_empty_17 (fun H locs hS => ?_)
  refine lv_aload_n hx hb dX6_empty_20 rfl (lv_at hl 0 rfl) ?_
  refine cg_X6_34 X h_l0 hS dX6_empty_21 ?_
  refine lv_iconst (v := 0) hx hb dX6_empty_24 (by decide) ?_
  obtain ⟨u_5, e_u_5, h⟩ := pc_of h
  obtain ⟨k_6, q_7, q_8⟩ := cfill_p9 (kA := kA) (Z := Z) (u := u_4) h_l0 (v := 0)
  rw [e_u_5] at q_8
  refine cfill (w := u_5) X hS q_7 q_8 (by decide) (gw_S gw_989 gw_990 gw_23 gw_991) (Nat.le_trans (Nat.le_of_ble_eq_true rfl) hF) (Nat.le_trans (Nat.le_of_ble_eq_true rfl) hL) hl.1 (Nat.le_of_ble_eq_true rfl) dX6_empty_25 (fun H locs hS => ?_)
  obtain ⟨-, rfl⟩ := so9 h
  exact hE _ _ _ _ hS dX6_empty_28
def F_X6_empty (N : Nat) (l0 : Nat) (u : CSt) : Option (Int32 × CSt) := B_X6_empty_0 N l0 u
set_option maxHeartbeats 4000000 in
theorem k_X6_empty (l : Launch) (D : va_G) (kA : Nat → ClassId) (V Z : Nat → Nat) (N : Nat) (l0 : Nat) (h_l0 : l0 < 2) (u : CSt) (sz : Nat) {r : Int32} {w : CSt} (h : F_X6_empty N l0 u = some (r, w)) : Met l yX6_empty (Cond.code yX6_empty cX6_empty 1 none :: GW) { frames := 1, cells := 0, slots := 0, locals := 23 } (cPc D kA V Z [.ref (Z (300 + 50 * l0))] u sz) (cQv D kA Z u sz w) 0 0 (va_A (CW kA Z u) sz) := by
  refine Met.ofW (cc := cX6_empty) (maxL := 1) (ret := none) (by decide) rfl ?_
  intro p e s m args below meth c s₁ Bd hml hv
  obtain ⟨rfl, hsz, hP, hK, hD0, hE⟩ := hv
  have hts := atoms_spec (ws := Cond.code yX6_empty cX6_empty 1 none :: GW) Bd.pre
  have hl := lv_entry ([.ref (Z (300 + 50 * l0))]) (n := 1) (Nat.le_of_ble_eq_true rfl)
  rw [lg_entry_eq]
  generalize (lg_sl ([.ref (Z (300 + 50 * l0))]) ++ List.replicate (1 - (lg_sl ([.ref (Z (300 + 50 * l0))])).length) Slot.unset).toArray = ls at hl ⊢
  have hl : lv_has ls 1 [(0, .ref (Z (300 + 50 * l0)))] := hl
  subst hsz
  have X : CC p s m ([.ref (Z (300 + 50 * l0))]).toArray c cX6_empty 1 (Cond.code yX6_empty cX6_empty 1 none) RX6 D kA V (va_A (CW kA Z u) s.heap.size) := ⟨⟨Bd.exec, Bd.bytes, hml, findClass_of_methodNamed Bd.named, hts⟩, hK, hE, fun q h => Or.inr h⟩
  refine b_X6_empty_0 X (cend_v X Bd.returns Bd.notSynchronized) (Nat.le_refl _) (Nat.le_refl _) h h_l0 ⟨hP, hD0.self, va_S.rf⟩ (lv_sub hl [0] rfl)
theorem kc_X6_empty_RX3 {cc : ByteArray} {pc nL : Nat} {c0 : Cond} {rest : List Value} {l0 : Nat} {u w1 : CSt} {r : Int32} (X : CC p s m args c cc nL c0 RX3 D kA V A) (h_l0 : l0 < 2) (hS : CS D kA Z A s u H locs) (h : F_X6_empty N l0 u = some (r, w1)) (hF : 1 + 1 ≤ R.frames) (hL : 8 + (1 + 11) + 23 ≤ R.locals) (hl : ls.size = nL) (hc : (rest.map fun v => v.category).sum ≤ 8) (hdg : decode cc pc = .ok (.invokevirtual 32, 3)) (kk : ∀ H locs, CS D kA Z A s w1 H locs → W p l e R s m args below meth c H locs 0 0 Q (F0 m (pc + 3) ls (rest))) : W p l e R s m args below meth c H locs 0 0 Q (F0 m pc ls (.ref (Z (300 + 50 * l0)) :: rest)) :=
  ccall_v (n := 0) X hS (k_X6_empty l D kA V Z N l0 h_l0 u H.size h) (gw_V gw_985 gw_986 gw_987 gw_10 gw_988) (by decide +kernel) (cp_recv X.2.1 h_l0 hS) hF hL rfl hl hc rfl hdg kk
def B_X1_takeInputs_2 (N : Nat) (R_2 : Int32 × CSt → Option (Int32 × CSt)) (l1 : Int32) (u : CSt) : Option (Int32 × CSt) := if (64 : Int32) ≤ l1 then (some (0, u)) else (ix 8 0 <| rd (cA u (211 + ((0 : Int32).toNatClampNeg))) 64 l1 fun v_4 => ix 8 4 <| rd (cA u (211 + ((4 : Int32).toNatClampNeg))) 64 l1 fun v_7 => ix 8 2 <| ix 8 6 <| rd (cA u (211 + ((6 : Int32).toNatClampNeg))) 64 l1 fun v_11 => wc 64 l1 (xA u (211 + ((2 : Int32).toNatClampNeg)) l1.toNatClampNeg ((v_4 &&& (v_7 ^^^ (-1))) ||| v_11)) fun u_13 => R_2 ((l1 + 1), u_13))
set_option maxHeartbeats 4000000 in
theorem b_X1_takeInputs_2 {r : Int32} (X : CC p s m args c cX1_takeInputs 3 (Cond.code yX1_takeInputs cX1_takeInputs 3 none) RX1 D kA V A) (hE : CEv p l e R s m args below meth c cX1_takeInputs D kA Z A Q w) (hF : 0 ≤ R.frames) (hL : 0 ≤ R.locals) {R_2 : Int32 × CSt → Option (Int32 × CSt)} {l1 : Int32} {u : CSt} (hR_2 : ∀ (l1 : Int32) (u : CSt), R_2 (l1, u) = some (r, w) → ∀ (H : Heap) (locs : List Loc) (ls : Array Slot), CS D kA Z A s u H locs → lv_has ls 3 [(0, .ref (Z 209)), (1, .int l1)] → W p l e R s m args below meth c H locs 0 0 Q (F0 m 2 ls [])) (h : B_X1_takeInputs_2 N R_2 l1 u = some (r, w))  (hS : CS D kA Z A s u H locs) (hl : lv_has ls 3 [(0, .ref (Z 209)), (1, .int l1)]) : W p l e R s m args below meth c H locs 0 0 Q (F0 m 2 ls []) := by
  obtain ⟨⟨hx, hb, hml, hown, hts⟩, hK, hEV, hA⟩ := id X
  have hG : ∀ w ∈ GW, w.before args s = true := fun w h => hts w (List.mem_cons_of_mem _ h)
  unfold B_X1_takeInputs_2 at h
  refine lv_iload_n hx hb dX1_takeInputs_2 rfl (lv_at hl 1 rfl) ?_
  refine lv_bipush (v := 64) hx hb dX1_takeInputs_3 (by decide) ?_
  refine lv_icmp_ge (tgt := 53) hx hb dX1_takeInputs_5 (by decide) (fun c_1 => ?_) (fun c_1 => ?_)
  · have h := ip (c_1) h
    obtain ⟨-, rfl⟩ := so9 h
    exact hE _ _ _ _ hS dX1_takeInputs_53
  · have h := im (c_1) h
    refine lv_aload_n hx hb dX1_takeInputs_8 rfl (lv_at hl 0 rfl) ?_
    refine cg_X1_11 X hS dX1_takeInputs_9 ?_
    refine lv_iconst (v := 0) hx hb dX1_takeInputs_12 (by decide) ?_
    obtain ⟨i_2, h⟩ := ix_of h
    refine cq_rows X hS i_2 dX1_takeInputs_13 ?_
    refine lv_iload_n hx hb dX1_takeInputs_14 rfl (lv_at hl 1 rfl) ?_
    obtain ⟨v_4, e_v_4, i_3, h⟩ := rd_of h
    refine ca_i X (vpin_lt i_2) hS i_3 e_v_4 dX1_takeInputs_15 ?_
    refine lv_aload_n hx hb dX1_takeInputs_16 rfl (lv_at hl 0 rfl) ?_
    refine cg_X1_11 X hS dX1_takeInputs_17 ?_
    refine lv_iconst (v := 4) hx hb dX1_takeInputs_20 (by decide) ?_
    obtain ⟨i_5, h⟩ := ix_of h
    refine cq_rows X hS i_5 dX1_takeInputs_21 ?_
    refine lv_iload_n hx hb dX1_takeInputs_22 rfl (lv_at hl 1 rfl) ?_
    obtain ⟨v_7, e_v_7, i_6, h⟩ := rd_of h
    refine ca_i X (vpin_lt i_5) hS i_6 e_v_7 dX1_takeInputs_23 ?_
    refine lv_iconst (v := (-1)) hx hb dX1_takeInputs_24 (by decide) ?_
    refine lv_ixor hx hb dX1_takeInputs_25 ?_
    refine lv_iand hx hb dX1_takeInputs_26 ?_
    refine lv_istore_n (lv' := [(2, .int (v_4 &&& (v_7 ^^^ (-1)))), (0, .ref (Z 209)), (1, .int l1)]) hx hb dX1_takeInputs_27 rfl hl (by decide) rfl (fun ls hl => ?_)
    refine lv_aload_n hx hb dX1_takeInputs_28 rfl (lv_at hl 1 rfl) ?_
    refine cg_X1_11 X hS dX1_takeInputs_29 ?_
    refine lv_iconst (v := 2) hx hb dX1_takeInputs_32 (by decide) ?_
    obtain ⟨i_8, h⟩ := ix_of h
    refine cq_rows X hS i_8 dX1_takeInputs_33 ?_
    refine lv_iload_n hx hb dX1_takeInputs_34 rfl (lv_at hl 2 rfl) ?_
    refine lv_iload_n hx hb dX1_takeInputs_35 rfl (lv_at hl 0 rfl) ?_
    refine lv_aload_n hx hb dX1_takeInputs_36 rfl (lv_at hl 1 rfl) ?_
    refine cg_X1_11 X hS dX1_takeInputs_37 ?_
    refine lv_bipush (v := 6) hx hb dX1_takeInputs_40 (by decide) ?_
    obtain ⟨i_9, h⟩ := ix_of h
    refine cq_rows X hS i_9 dX1_takeInputs_42 ?_
    refine lv_iload_n hx hb dX1_takeInputs_43 rfl (lv_at hl 2 rfl) ?_
    obtain ⟨v_11, e_v_11, i_10, h⟩ := rd_of h
    refine ca_i X (vpin_lt i_9) hS i_10 e_v_11 dX1_takeInputs_44 ?_
    refine lv_ior hx hb dX1_takeInputs_45 ?_
    obtain ⟨u_13, e_u_13, i_12, h⟩ := wc_of h
    refine cs_i X (vpin_lt i_8) hS i_12 e_u_13 dX1_takeInputs_46 (fun H locs hS => ?_)
    refine lv_iinc (v := l1 + 1) (lv' := [(1, .int (l1 + 1)), (2, .int (v_4 &&& (v_7 ^^^ (-1)))), (0, .ref (Z 209))]) hx hb dX1_takeInputs_47 hl (k := 2) rfl rfl (by decide) rfl (fun ls hl => ?_)
    refine lv_goto (tgt := 2) hx hb dX1_takeInputs_50 (by decide) ?_
    exact hR_2 _ _  h _ _ _ hS (lv_sub hl [2, 0] rfl)
def LP_X1_takeInputs_2 (N : Nat) : Nat → Int32 × CSt → Option (Int32 × CSt) := lp (fun R a => B_X1_takeInputs_2 N R a.1 a.2)
theorem bl_X1_takeInputs_2 {r : Int32} (X : CC p s m args c cX1_takeInputs 3 (Cond.code yX1_takeInputs cX1_takeInputs 3 none) RX1 D kA V A) (hE : CEv p l e R s m args below meth c cX1_takeInputs D kA Z A Q w) (hF : 0 ≤ R.frames) (hL : 0 ≤ R.locals)  : ∀ (n : Nat) (l1 : Int32) (u : CSt), LP_X1_takeInputs_2 N n (l1, u) = some (r, w) → ∀ (H : Heap) (locs : List Loc) (ls : Array Slot), CS D kA Z A s u H locs → lv_has ls 3 [(0, .ref (Z 209)), (1, .int l1)] → W p l e R s m args below meth c H locs 0 0 Q (F0 m 2 ls []) := by
  intro n
  induction n with
  | zero => intro l1 u h; exact nomatch h
  | succ n ih => intro l1 u h H locs ls hS hl; exact b_X1_takeInputs_2 (N := N) (R_2 := LP_X1_takeInputs_2 N n) X hE  hF hL  ih h  hS hl
def B_X1_takeInputs_0 (N : Nat) (u : CSt) : Option (Int32 × CSt) := LP_X1_takeInputs_2 N N (0, u)
set_option maxHeartbeats 4000000 in
theorem b_X1_takeInputs_0 {r : Int32} (X : CC p s m args c cX1_takeInputs 3 (Cond.code yX1_takeInputs cX1_takeInputs 3 none) RX1 D kA V A) (hE : CEv p l e R s m args below meth c cX1_takeInputs D kA Z A Q w) (hF : 0 ≤ R.frames) (hL : 0 ≤ R.locals) {u : CSt}  (h : B_X1_takeInputs_0 N u = some (r, w))  (hS : CS D kA Z A s u H locs) (hl : lv_has ls 3 [(0, .ref (Z 209))]) : W p l e R s m args below meth c H locs 0 0 Q (F0 m 0 ls []) := by
  obtain ⟨⟨hx, hb, hml, hown, hts⟩, hK, hEV, hA⟩ := id X
  have hG : ∀ w ∈ GW, w.before args s = true := fun w h => hts w (List.mem_cons_of_mem _ h)
  unfold B_X1_takeInputs_0 at h
  refine lv_iconst (v := 0) hx hb dX1_takeInputs_0 (by decide) ?_
  refine lv_istore_n (lv' := [(1, .int 0), (0, .ref (Z 209))]) hx hb dX1_takeInputs_1 rfl hl (by decide) rfl (fun ls hl => ?_)
  exact bl_X1_takeInputs_2 X hE  hF hL  _ _ _  h _ _ _ hS (lv_sub hl [1, 0] rfl)
def F_X1_takeInputs (N : Nat) (u : CSt) : Option (Int32 × CSt) := B_X1_takeInputs_0 N u
set_option maxHeartbeats 4000000 in
theorem k_X1_takeInputs (l : Launch) (D : va_G) (kA : Nat → ClassId) (V Z : Nat → Nat) (N : Nat) (u : CSt) (sz : Nat) {r : Int32} {w : CSt} (h : F_X1_takeInputs N u = some (r, w)) : Met l yX1_takeInputs (Cond.code yX1_takeInputs cX1_takeInputs 3 none :: GW) { frames := 0, cells := 0, slots := 0, locals := 0 } (cPc D kA V Z [.ref (Z 209)] u sz) (cQv D kA Z u sz w) 0 0 (va_A (CW kA Z u) sz) := by
  refine Met.ofW (cc := cX1_takeInputs) (maxL := 3) (ret := none) (by decide) rfl ?_
  intro p e s m args below meth c s₁ Bd hml hv
  obtain ⟨rfl, hsz, hP, hK, hD0, hE⟩ := hv
  have hts := atoms_spec (ws := Cond.code yX1_takeInputs cX1_takeInputs 3 none :: GW) Bd.pre
  have hl := lv_entry ([.ref (Z 209)]) (n := 3) (Nat.le_of_ble_eq_true rfl)
  rw [lg_entry_eq]
  generalize (lg_sl ([.ref (Z 209)]) ++ List.replicate (3 - (lg_sl ([.ref (Z 209)])).length) Slot.unset).toArray = ls at hl ⊢
  have hl : lv_has ls 3 [(0, .ref (Z 209))] := hl
  subst hsz
  have X : CC p s m ([.ref (Z 209)]).toArray c cX1_takeInputs 3 (Cond.code yX1_takeInputs cX1_takeInputs 3 none) RX1 D kA V (va_A (CW kA Z u) s.heap.size) := ⟨⟨Bd.exec, Bd.bytes, hml, findClass_of_methodNamed Bd.named, hts⟩, hK, hE, fun q h => Or.inr h⟩
  refine b_X1_takeInputs_0 X (cend_v X Bd.returns Bd.notSynchronized) (Nat.le_refl _) (Nat.le_refl _) h  ⟨hP, hD0.self, va_S.rf⟩ (lv_sub hl [0] rfl)
theorem kc_X1_takeInputs_RX11 {cc : ByteArray} {pc nL : Nat} {c0 : Cond} {rest : List Value} {u w1 : CSt} {r : Int32} (X : CC p s m args c cc nL c0 RX11 D kA V A)  (hS : CS D kA Z A s u H locs) (h : F_X1_takeInputs N u = some (r, w1)) (hF : 0 + 1 ≤ R.frames) (hL : 8 + (3 + 11) + 0 ≤ R.locals) (hl : ls.size = nL) (hc : (rest.map fun v => v.category).sum ≤ 8) (hdg : decode cc pc = .ok (.invokevirtual 366, 3)) (kk : ∀ H locs, CS D kA Z A s w1 H locs → W p l e R s m args below meth c H locs 0 0 Q (F0 m (pc + 3) ls (rest))) : W p l e R s m args below meth c H locs 0 0 Q (F0 m pc ls (.ref (Z 209) :: rest)) :=
  ccall_v (n := 0) X hS (k_X1_takeInputs l D kA V Z N   u H.size h) (gw_V gw_1487 gw_1488 gw_1489 gw_8 gw_1490) (by decide +kernel) (va_recv X.2.1 hS.1 (ci := 1) (q0 := 9) rfl (cw_lit rfl)) hF hL rfl hl hc rfl hdg kk
def B_X1_giveOutputs_2 (N : Nat) (R_2 : Int32 × CSt → Option (Int32 × CSt)) (l1 : Int32) (u : CSt) : Option (Int32 × CSt) := if (64 : Int32) ≤ l1 then (some (0, u)) else (ix 8 3 <| rd (cA u (211 + ((3 : Int32).toNatClampNeg))) 64 l1 fun v_4 => ix 8 5 <| rd (cA u (211 + ((5 : Int32).toNatClampNeg))) 64 l1 fun v_7 => ix 8 3 <| ix 8 7 <| rd (cA u (211 + ((7 : Int32).toNatClampNeg))) 64 l1 fun v_11 => wc 64 l1 (xA u (211 + ((3 : Int32).toNatClampNeg)) l1.toNatClampNeg ((v_4 &&& (v_7 ^^^ (-1))) ||| v_11)) fun u_13 => ix 8 1 <| ix 8 3 <| rd (cA u_13 (211 + ((3 : Int32).toNatClampNeg))) 64 l1 fun v_17 => wc 64 l1 (xA u_13 (211 + ((1 : Int32).toNatClampNeg)) l1.toNatClampNeg v_17) fun u_19 => R_2 ((l1 + 1), u_19))
set_option maxHeartbeats 4000000 in
theorem b_X1_giveOutputs_2 {r : Int32} (X : CC p s m args c cX1_giveOutputs 3 (Cond.code yX1_giveOutputs cX1_giveOutputs 3 none) RX1 D kA V A) (hE : CEv p l e R s m args below meth c cX1_giveOutputs D kA Z A Q w) (hF : 0 ≤ R.frames) (hL : 0 ≤ R.locals) {R_2 : Int32 × CSt → Option (Int32 × CSt)} {l1 : Int32} {u : CSt} (hR_2 : ∀ (l1 : Int32) (u : CSt), R_2 (l1, u) = some (r, w) → ∀ (H : Heap) (locs : List Loc) (ls : Array Slot), CS D kA Z A s u H locs → lv_has ls 3 [(0, .ref (Z 209)), (1, .int l1)] → W p l e R s m args below meth c H locs 0 0 Q (F0 m 2 ls [])) (h : B_X1_giveOutputs_2 N R_2 l1 u = some (r, w))  (hS : CS D kA Z A s u H locs) (hl : lv_has ls 3 [(0, .ref (Z 209)), (1, .int l1)]) : W p l e R s m args below meth c H locs 0 0 Q (F0 m 2 ls []) := by
  obtain ⟨⟨hx, hb, hml, hown, hts⟩, hK, hEV, hA⟩ := id X
  have hG : ∀ w ∈ GW, w.before args s = true := fun w h => hts w (List.mem_cons_of_mem _ h)
  unfold B_X1_giveOutputs_2 at h
  refine lv_iload_n hx hb dX1_giveOutputs_2 rfl (lv_at hl 1 rfl) ?_
  refine lv_bipush (v := 64) hx hb dX1_giveOutputs_3 (by decide) ?_
  refine lv_icmp_ge (tgt := 69) hx hb dX1_giveOutputs_5 (by decide) (fun c_1 => ?_) (fun c_1 => ?_)
  · have h := ip (c_1) h
    obtain ⟨-, rfl⟩ := so9 h
    exact hE _ _ _ _ hS dX1_giveOutputs_69
  · have h := im (c_1) h
    refine lv_aload_n hx hb dX1_giveOutputs_8 rfl (lv_at hl 0 rfl) ?_
    refine cg_X1_11 X hS dX1_giveOutputs_9 ?_
    refine lv_iconst (v := 3) hx hb dX1_giveOutputs_12 (by decide) ?_
    obtain ⟨i_2, h⟩ := ix_of h
    refine cq_rows X hS i_2 dX1_giveOutputs_13 ?_
    refine lv_iload_n hx hb dX1_giveOutputs_14 rfl (lv_at hl 1 rfl) ?_
    obtain ⟨v_4, e_v_4, i_3, h⟩ := rd_of h
    refine ca_i X (vpin_lt i_2) hS i_3 e_v_4 dX1_giveOutputs_15 ?_
    refine lv_aload_n hx hb dX1_giveOutputs_16 rfl (lv_at hl 0 rfl) ?_
    refine cg_X1_11 X hS dX1_giveOutputs_17 ?_
    refine lv_iconst (v := 5) hx hb dX1_giveOutputs_20 (by decide) ?_
    obtain ⟨i_5, h⟩ := ix_of h
    refine cq_rows X hS i_5 dX1_giveOutputs_21 ?_
    refine lv_iload_n hx hb dX1_giveOutputs_22 rfl (lv_at hl 1 rfl) ?_
    obtain ⟨v_7, e_v_7, i_6, h⟩ := rd_of h
    refine ca_i X (vpin_lt i_5) hS i_6 e_v_7 dX1_giveOutputs_23 ?_
    refine lv_iconst (v := (-1)) hx hb dX1_giveOutputs_24 (by decide) ?_
    refine lv_ixor hx hb dX1_giveOutputs_25 ?_
    refine lv_iand hx hb dX1_giveOutputs_26 ?_
    refine lv_istore_n (lv' := [(2, .int (v_4 &&& (v_7 ^^^ (-1)))), (0, .ref (Z 209)), (1, .int l1)]) hx hb dX1_giveOutputs_27 rfl hl (by decide) rfl (fun ls hl => ?_)
    refine lv_aload_n hx hb dX1_giveOutputs_28 rfl (lv_at hl 1 rfl) ?_
    refine cg_X1_11 X hS dX1_giveOutputs_29 ?_
    refine lv_iconst (v := 3) hx hb dX1_giveOutputs_32 (by decide) ?_
    obtain ⟨i_8, h⟩ := ix_of h
    refine cq_rows X hS i_8 dX1_giveOutputs_33 ?_
    refine lv_iload_n hx hb dX1_giveOutputs_34 rfl (lv_at hl 2 rfl) ?_
    refine lv_iload_n hx hb dX1_giveOutputs_35 rfl (lv_at hl 0 rfl) ?_
    refine lv_aload_n hx hb dX1_giveOutputs_36 rfl (lv_at hl 1 rfl) ?_
    refine cg_X1_11 X hS dX1_giveOutputs_37 ?_
    refine lv_bipush (v := 7) hx hb dX1_giveOutputs_40 (by decide) ?_
    obtain ⟨i_9, h⟩ := ix_of h
    refine cq_rows X hS i_9 dX1_giveOutputs_42 ?_
    refine lv_iload_n hx hb dX1_giveOutputs_43 rfl (lv_at hl 2 rfl) ?_
    obtain ⟨v_11, e_v_11, i_10, h⟩ := rd_of h
    refine ca_i X (vpin_lt i_9) hS i_10 e_v_11 dX1_giveOutputs_44 ?_
    refine lv_ior hx hb dX1_giveOutputs_45 ?_
    obtain ⟨u_13, e_u_13, i_12, h⟩ := wc_of h
    refine cs_i X (vpin_lt i_8) hS i_12 e_u_13 dX1_giveOutputs_46 (fun H locs hS => ?_)
    refine lv_aload_n hx hb dX1_giveOutputs_47 rfl (lv_at hl 1 rfl) ?_
    refine cg_X1_11 X hS dX1_giveOutputs_48 ?_
    refine lv_iconst (v := 1) hx hb dX1_giveOutputs_51 (by decide) ?_
    obtain ⟨i_14, h⟩ := ix_of h
    refine cq_rows X hS i_14 dX1_giveOutputs_52 ?_
    refine lv_iload_n hx hb dX1_giveOutputs_53 rfl (lv_at hl 2 rfl) ?_
    refine lv_aload_n hx hb dX1_giveOutputs_54 rfl (lv_at hl 1 rfl) ?_
    refine cg_X1_11 X hS dX1_giveOutputs_55 ?_
    refine lv_iconst (v := 3) hx hb dX1_giveOutputs_58 (by decide) ?_
    obtain ⟨i_15, h⟩ := ix_of h
    refine cq_rows X hS i_15 dX1_giveOutputs_59 ?_
    refine lv_iload_n hx hb dX1_giveOutputs_60 rfl (lv_at hl 2 rfl) ?_
    obtain ⟨v_17, e_v_17, i_16, h⟩ := rd_of h
    refine ca_i X (vpin_lt i_15) hS i_16 e_v_17 dX1_giveOutputs_61 ?_
    obtain ⟨u_19, e_u_19, i_18, h⟩ := wc_of h
    refine cs_i X (vpin_lt i_14) hS i_18 e_u_19 dX1_giveOutputs_62 (fun H locs hS => ?_)
    refine lv_iinc (v := l1 + 1) (lv' := [(1, .int (l1 + 1)), (2, .int (v_4 &&& (v_7 ^^^ (-1)))), (0, .ref (Z 209))]) hx hb dX1_giveOutputs_63 hl (k := 2) rfl rfl (by decide) rfl (fun ls hl => ?_)
    refine lv_goto (tgt := 2) hx hb dX1_giveOutputs_66 (by decide) ?_
    exact hR_2 _ _  h _ _ _ hS (lv_sub hl [2, 0] rfl)
def LP_X1_giveOutputs_2 (N : Nat) : Nat → Int32 × CSt → Option (Int32 × CSt) := lp (fun R a => B_X1_giveOutputs_2 N R a.1 a.2)
theorem bl_X1_giveOutputs_2 {r : Int32} (X : CC p s m args c cX1_giveOutputs 3 (Cond.code yX1_giveOutputs cX1_giveOutputs 3 none) RX1 D kA V A) (hE : CEv p l e R s m args below meth c cX1_giveOutputs D kA Z A Q w) (hF : 0 ≤ R.frames) (hL : 0 ≤ R.locals)  : ∀ (n : Nat) (l1 : Int32) (u : CSt), LP_X1_giveOutputs_2 N n (l1, u) = some (r, w) → ∀ (H : Heap) (locs : List Loc) (ls : Array Slot), CS D kA Z A s u H locs → lv_has ls 3 [(0, .ref (Z 209)), (1, .int l1)] → W p l e R s m args below meth c H locs 0 0 Q (F0 m 2 ls []) := by
  intro n
  induction n with
  | zero => intro l1 u h; exact nomatch h
  | succ n ih => intro l1 u h H locs ls hS hl; exact b_X1_giveOutputs_2 (N := N) (R_2 := LP_X1_giveOutputs_2 N n) X hE  hF hL  ih h  hS hl
def B_X1_giveOutputs_0 (N : Nat) (u : CSt) : Option (Int32 × CSt) := LP_X1_giveOutputs_2 N N (0, u)
set_option maxHeartbeats 4000000 in
theorem b_X1_giveOutputs_0 {r : Int32} (X : CC p s m args c cX1_giveOutputs 3 (Cond.code yX1_giveOutputs cX1_giveOutputs 3 none) RX1 D kA V A) (hE : CEv p l e R s m args below meth c cX1_giveOutputs D kA Z A Q w) (hF : 0 ≤ R.frames) (hL : 0 ≤ R.locals) {u : CSt}  (h : B_X1_giveOutputs_0 N u = some (r, w))  (hS : CS D kA Z A s u H locs) (hl : lv_has ls 3 [(0, .ref (Z 209))]) : W p l e R s m args below meth c H locs 0 0 Q (F0 m 0 ls []) := by
  obtain ⟨⟨hx, hb, hml, hown, hts⟩, hK, hEV, hA⟩ := id X
  have hG : ∀ w ∈ GW, w.before args s = true := fun w h => hts w (List.mem_cons_of_mem _ h)
  unfold B_X1_giveOutputs_0 at h
  refine lv_iconst (v := 0) hx hb dX1_giveOutputs_0 (by decide) ?_
  refine lv_istore_n (lv' := [(1, .int 0), (0, .ref (Z 209))]) hx hb dX1_giveOutputs_1 rfl hl (by decide) rfl (fun ls hl => ?_)
  exact bl_X1_giveOutputs_2 X hE  hF hL  _ _ _  h _ _ _ hS (lv_sub hl [1, 0] rfl)
def F_X1_giveOutputs (N : Nat) (u : CSt) : Option (Int32 × CSt) := B_X1_giveOutputs_0 N u
set_option maxHeartbeats 4000000 in
theorem k_X1_giveOutputs (l : Launch) (D : va_G) (kA : Nat → ClassId) (V Z : Nat → Nat) (N : Nat) (u : CSt) (sz : Nat) {r : Int32} {w : CSt} (h : F_X1_giveOutputs N u = some (r, w)) : Met l yX1_giveOutputs (Cond.code yX1_giveOutputs cX1_giveOutputs 3 none :: GW) { frames := 0, cells := 0, slots := 0, locals := 0 } (cPc D kA V Z [.ref (Z 209)] u sz) (cQv D kA Z u sz w) 0 0 (va_A (CW kA Z u) sz) := by
  refine Met.ofW (cc := cX1_giveOutputs) (maxL := 3) (ret := none) (by decide) rfl ?_
  intro p e s m args below meth c s₁ Bd hml hv
  obtain ⟨rfl, hsz, hP, hK, hD0, hE⟩ := hv
  have hts := atoms_spec (ws := Cond.code yX1_giveOutputs cX1_giveOutputs 3 none :: GW) Bd.pre
  have hl := lv_entry ([.ref (Z 209)]) (n := 3) (Nat.le_of_ble_eq_true rfl)
  rw [lg_entry_eq]
  generalize (lg_sl ([.ref (Z 209)]) ++ List.replicate (3 - (lg_sl ([.ref (Z 209)])).length) Slot.unset).toArray = ls at hl ⊢
  have hl : lv_has ls 3 [(0, .ref (Z 209))] := hl
  subst hsz
  have X : CC p s m ([.ref (Z 209)]).toArray c cX1_giveOutputs 3 (Cond.code yX1_giveOutputs cX1_giveOutputs 3 none) RX1 D kA V (va_A (CW kA Z u) s.heap.size) := ⟨⟨Bd.exec, Bd.bytes, hml, findClass_of_methodNamed Bd.named, hts⟩, hK, hE, fun q h => Or.inr h⟩
  refine b_X1_giveOutputs_0 X (cend_v X Bd.returns Bd.notSynchronized) (Nat.le_refl _) (Nat.le_refl _) h  ⟨hP, hD0.self, va_S.rf⟩ (lv_sub hl [0] rfl)
theorem kc_X1_giveOutputs_RX11 {cc : ByteArray} {pc nL : Nat} {c0 : Cond} {rest : List Value} {u w1 : CSt} {r : Int32} (X : CC p s m args c cc nL c0 RX11 D kA V A)  (hS : CS D kA Z A s u H locs) (h : F_X1_giveOutputs N u = some (r, w1)) (hF : 0 + 1 ≤ R.frames) (hL : 8 + (3 + 11) + 0 ≤ R.locals) (hl : ls.size = nL) (hc : (rest.map fun v => v.category).sum ≤ 8) (hdg : decode cc pc = .ok (.invokevirtual 383, 3)) (kk : ∀ H locs, CS D kA Z A s w1 H locs → W p l e R s m args below meth c H locs 0 0 Q (F0 m (pc + 3) ls (rest))) : W p l e R s m args below meth c H locs 0 0 Q (F0 m pc ls (.ref (Z 209) :: rest)) :=
  ccall_v (n := 0) X hS (k_X1_giveOutputs l D kA V Z N   u H.size h) (gw_V gw_1620 gw_1621 gw_1622 gw_8 gw_1623) (by decide +kernel) (va_recv X.2.1 hS.1 (ci := 1) (q0 := 9) rfl (cw_lit rfl)) hF hL rfl hl hc rfl hdg kk
def B_X1_wipe_0 (N : Nat) (u : CSt) : Option (Int32 × CSt) := ix 8 2 <| pc (xF u 213 (fl (cA u 213) 0 64)) fun u_2 => ix 8 3 <| pc (xF u_2 214 (fl (cA u_2 214) 0 64)) fun u_4 => some (0, u_4)
set_option maxHeartbeats 4000000 in
theorem b_X1_wipe_0 {r : Int32} (X : CC p s m args c cX1_wipe 1 (Cond.code yX1_wipe cX1_wipe 1 none) RX1 D kA V A) (hE : CEv p l e R s m args below meth c cX1_wipe D kA Z A Q w) (hF : 1 ≤ R.frames) (hL : 23 ≤ R.locals) {u : CSt}  (h : B_X1_wipe_0 N u = some (r, w))  (hS : CS D kA Z A s u H locs) (hl : lv_has ls 1 [(0, .ref (Z 209))]) : W p l e R s m args below meth c H locs 0 0 Q (F0 m 0 ls []) := by
  obtain ⟨⟨hx, hb, hml, hown, hts⟩, hK, hEV, hA⟩ := id X
  have hG : ∀ w ∈ GW, w.before args s = true := fun w h => hts w (List.mem_cons_of_mem _ h)
  unfold B_X1_wipe_0 at h
  refine lv_aload_n hx hb dX1_wipe_0 rfl (lv_at hl 0 rfl) ?_
  refine cg_X1_11 X hS dX1_wipe_1 ?_
  refine lv_iconst (v := 2) hx hb dX1_wipe_4 (by decide) ?_
  obtain ⟨i_1, h⟩ := ix_of h
  refine cq_rows X hS i_1 dX1_wipe_5 ?_
  refine lv_iconst (v := 0) hx hb dX1_wipe_6 (by decide) ?_
  obtain ⟨u_2, e_u_2, h⟩ := pc_of h
  refine cfill (w := u_2) (q := 13) (n := 64) X hS (cw_lit rfl) (by subst e_u_2; exact cw_setL (by decide) rfl rfl rfl) (by decide) (gw_S gw_1424 gw_990 gw_23 gw_991) (Nat.le_trans (Nat.le_of_ble_eq_true rfl) hF) (Nat.le_trans (Nat.le_of_ble_eq_true rfl) hL) hl.1 (Nat.le_of_ble_eq_true rfl) dX1_wipe_7 (fun H locs hS => ?_)
  refine lv_aload_n hx hb dX1_wipe_10 rfl (lv_at hl 0 rfl) ?_
  refine cg_X1_11 X hS dX1_wipe_11 ?_
  refine lv_iconst (v := 3) hx hb dX1_wipe_14 (by decide) ?_
  obtain ⟨i_3, h⟩ := ix_of h
  refine cq_rows X hS i_3 dX1_wipe_15 ?_
  refine lv_iconst (v := 0) hx hb dX1_wipe_16 (by decide) ?_
  obtain ⟨u_4, e_u_4, h⟩ := pc_of h
  refine cfill (w := u_4) (q := 14) (n := 64) X hS (cw_lit rfl) (by subst e_u_4; exact cw_setL (by decide) rfl rfl rfl) (by decide) (gw_S gw_1424 gw_990 gw_23 gw_991) (Nat.le_trans (Nat.le_of_ble_eq_true rfl) hF) (Nat.le_trans (Nat.le_of_ble_eq_true rfl) hL) hl.1 (Nat.le_of_ble_eq_true rfl) dX1_wipe_17 (fun H locs hS => ?_)
  obtain ⟨-, rfl⟩ := so9 h
  exact hE _ _ _ _ hS dX1_wipe_20
def F_X1_wipe (N : Nat) (u : CSt) : Option (Int32 × CSt) := B_X1_wipe_0 N u
set_option maxHeartbeats 4000000 in
theorem k_X1_wipe (l : Launch) (D : va_G) (kA : Nat → ClassId) (V Z : Nat → Nat) (N : Nat) (u : CSt) (sz : Nat) {r : Int32} {w : CSt} (h : F_X1_wipe N u = some (r, w)) : Met l yX1_wipe (Cond.code yX1_wipe cX1_wipe 1 none :: GW) { frames := 1, cells := 0, slots := 0, locals := 23 } (cPc D kA V Z [.ref (Z 209)] u sz) (cQv D kA Z u sz w) 0 0 (va_A (CW kA Z u) sz) := by
  refine Met.ofW (cc := cX1_wipe) (maxL := 1) (ret := none) (by decide) rfl ?_
  intro p e s m args below meth c s₁ Bd hml hv
  obtain ⟨rfl, hsz, hP, hK, hD0, hE⟩ := hv
  have hts := atoms_spec (ws := Cond.code yX1_wipe cX1_wipe 1 none :: GW) Bd.pre
  have hl := lv_entry ([.ref (Z 209)]) (n := 1) (Nat.le_of_ble_eq_true rfl)
  rw [lg_entry_eq]
  generalize (lg_sl ([.ref (Z 209)]) ++ List.replicate (1 - (lg_sl ([.ref (Z 209)])).length) Slot.unset).toArray = ls at hl ⊢
  have hl : lv_has ls 1 [(0, .ref (Z 209))] := hl
  subst hsz
  have X : CC p s m ([.ref (Z 209)]).toArray c cX1_wipe 1 (Cond.code yX1_wipe cX1_wipe 1 none) RX1 D kA V (va_A (CW kA Z u) s.heap.size) := ⟨⟨Bd.exec, Bd.bytes, hml, findClass_of_methodNamed Bd.named, hts⟩, hK, hE, fun q h => Or.inr h⟩
  refine b_X1_wipe_0 X (cend_v X Bd.returns Bd.notSynchronized) (Nat.le_refl _) (Nat.le_refl _) h  ⟨hP, hD0.self, va_S.rf⟩ (lv_sub hl [0] rfl)
theorem kc_X1_wipe_RX11 {cc : ByteArray} {pc nL : Nat} {c0 : Cond} {rest : List Value} {u w1 : CSt} {r : Int32} (X : CC p s m args c cc nL c0 RX11 D kA V A)  (hS : CS D kA Z A s u H locs) (h : F_X1_wipe N u = some (r, w1)) (hF : 1 + 1 ≤ R.frames) (hL : 8 + (1 + 11) + 23 ≤ R.locals) (hl : ls.size = nL) (hc : (rest.map fun v => v.category).sum ≤ 8) (hdg : decode cc pc = .ok (.invokevirtual 147, 3)) (kk : ∀ H locs, CS D kA Z A s w1 H locs → W p l e R s m args below meth c H locs 0 0 Q (F0 m (pc + 3) ls (rest))) : W p l e R s m args below meth c H locs 0 0 Q (F0 m pc ls (.ref (Z 209) :: rest)) :=
  ccall_v (n := 0) X hS (k_X1_wipe l D kA V Z N   u H.size h) (gw_V gw_1420 gw_1421 gw_1422 gw_8 gw_1423) (by decide +kernel) (va_recv X.2.1 hS.1 (ci := 1) (q0 := 9) rfl (cw_lit rfl)) hF hL rfl hl hc rfl hdg kk
def B_X1_get_57 (N : Nat) (l3 : Int32) (l4 : Int64) (u : CSt) : Option (Int64 × CSt) := some (n_cut l3 l4, u)
set_option maxHeartbeats 4000000 in
theorem b_X1_get_57 {r : Int64} (X : CC p s m args c cX1_get 7 (Cond.code yX1_get cX1_get 7 (some .long)) RX1 D kA V A) (hE : CEl p l e R s m args below meth c cX1_get D kA Z A Q r w) (hF : 1 ≤ R.frames) (hL : 22 ≤ R.locals) {l3 : Int32} {l4 : Int64} {u : CSt}  (h : B_X1_get_57 N l3 l4 u = some (r, w))  (hS : CS D kA Z A s u H locs) (hl : lv_has ls 7 [(3, .int l3), (4, .long l4)]) : W p l e R s m args below meth c H locs 0 0 Q (F0 m 57 ls []) := by
  obtain ⟨⟨hx, hb, hml, hown, hts⟩, hK, hEV, hA⟩ := id X
  have hG : ∀ w ∈ GW, w.before args s = true := fun w h => hts w (List.mem_cons_of_mem _ h)
  unfold B_X1_get_57 at h
  refine lv_iload_n hx hb dX1_get_57 rfl (lv_at hl 0 rfl) ?_
  refine lv_lload hx hb dX1_get_58 (lv_at hl 1 rfl) ?_
  refine vp_callSl (W.runS (As := [.int l3, .long l4]) (rest := []) X.1 (c_X5_cutTo l l3 l4) (va_cwS 2 hts (gw_P gw_1452 gw_1077 gw_24 gwp_X5_cutTo) rfl rfl rfl (by decide +kernel) ⟨Nat.le_trans (Nat.le_of_ble_eq_true rfl) hF, Nat.le_trans (Nat.le_of_ble_eq_true rfl) hL⟩) ⟨fun _ _ _ _ q => q, fun _ _ _ => ⟨rfl, trivial⟩⟩ rfl rfl hl.1 rfl (lv_room (Nat.le_of_ble_eq_true rfl)) dX1_get_60 ⟨Nat.zero_le _, Nat.zero_le _⟩) (fun r_1 q_2 => ?_)
  subst q_2
  obtain ⟨rfl, rfl⟩ := so9 h
  exact hE _ _ _ _ hS dX1_get_63
def B_X1_get_6 (N : Nat) (R_6 : Int32 × Int32 × Int32 × Int64 × Int32 × CSt → Option (Int64 × CSt)) (l1 : Int32) (l2 : Int32) (l3 : Int32) (l4 : Int64) (l6 : Int32) (u : CSt) : Option (Int64 × CSt) := rd (fun j => bt_0.getD j 0) 5 l3 fun v_3 => if (l2 + (v_3 / 8)) ≤ l6 then (B_X1_get_57 N l3 l4 u) else (if l6 < (0 : Int32) then (B_X1_get_57 N l3 l4 u) else (if (64 : Int32) ≤ l6 then (B_X1_get_57 N l3 l4 u) else (ix 8 l1 <| rd (cA u (211 + l1.toNatClampNeg)) 64 l6 fun v_10 => R_6 (l1, l2, l3, ((l4 <<< ((8 : Int32).toInt64 &&& 63)) ||| v_10.toInt64), (l6 + 1), u))))
set_option maxHeartbeats 4000000 in
theorem b_X1_get_6 {r : Int64} (X : CC p s m args c cX1_get 7 (Cond.code yX1_get cX1_get 7 (some .long)) RX1 D kA V A) (hE : CEl p l e R s m args below meth c cX1_get D kA Z A Q r w) (hF : 1 ≤ R.frames) (hL : 22 ≤ R.locals) {R_6 : Int32 × Int32 × Int32 × Int64 × Int32 × CSt → Option (Int64 × CSt)} {l1 : Int32} {l2 : Int32} {l3 : Int32} {l4 : Int64} {l6 : Int32} {u : CSt} (hR_6 : ∀ (l1 : Int32) (l2 : Int32) (l3 : Int32) (l4 : Int64) (l6 : Int32) (u : CSt), R_6 (l1, l2, l3, l4, l6, u) = some (r, w) → ∀ (H : Heap) (locs : List Loc) (ls : Array Slot), CS D kA Z A s u H locs → lv_has ls 7 [(0, .ref (Z 209)), (1, .int l1), (2, .int l2), (3, .int l3), (4, .long l4), (6, .int l6)] → W p l e R s m args below meth c H locs 0 0 Q (F0 m 6 ls [])) (h : B_X1_get_6 N R_6 l1 l2 l3 l4 l6 u = some (r, w))  (hS : CS D kA Z A s u H locs) (hl : lv_has ls 7 [(0, .ref (Z 209)), (1, .int l1), (2, .int l2), (3, .int l3), (4, .long l4), (6, .int l6)]) : W p l e R s m args below meth c H locs 0 0 Q (F0 m 6 ls []) := by
  obtain ⟨⟨hx, hb, hml, hown, hts⟩, hK, hEV, hA⟩ := id X
  have hG : ∀ w ∈ GW, w.before args s = true := fun w h => hts w (List.mem_cons_of_mem _ h)
  unfold B_X1_get_6 at h
  refine lv_iload hx hb dX1_get_6 (lv_at hl 5 rfl) ?_
  refine lv_iload_n hx hb dX1_get_8 rfl (lv_at hl 2 rfl) ?_
  refine va_getsN hx hb hEV.2.2.2.2.2.2.2.2.2.2.2.2.2.2.2.2.2.2.1.1 hS.2.2 hown (va_Nw.use rfl (hEV.1 _ nw_1451)) (fun _ h9 => h9) dX1_get_9 ?_
  refine lv_iload_n hx hb dX1_get_12 rfl (lv_at hl 3 rfl) ?_
  obtain ⟨v_3, e_v_3, i_4, h⟩ := rd_of h
  refine va_ti hx hb hEV.2.2.2.2.2.2.2.2.2.2.2.2.2.2.2.2.2.2.1.2 hS.2.2 i_4 rfl dX1_get_13 ?_
  rw [e_v_3]
  refine lv_bipush (v := 8) hx hb dX1_get_14 (by decide) ?_
  refine lv_idiv hx hb dX1_get_16 (by decide) ?_
  refine lv_iadd hx hb dX1_get_17 ?_
  refine lv_icmp_ge (tgt := 57) hx hb dX1_get_18 (by decide) (fun c_5 => ?_) (fun c_5 => ?_)
  · have h := ip (c_5) h
    exact b_X1_get_57 X hE  hF hL  h  hS (lv_sub hl [3, 4] rfl)
  · have h := im (c_5) h
    refine lv_iload hx hb dX1_get_21 (lv_at hl 5 rfl) ?_
    refine lv_if_lt (tgt := 57) hx hb dX1_get_23 (by decide) (fun c_6 => ?_) (fun c_6 => ?_)
    · have h := ip (c_6) h
      exact b_X1_get_57 X hE  hF hL  h  hS (lv_sub hl [3, 4] rfl)
    · have h := im (c_6) h
      refine lv_iload hx hb dX1_get_26 (lv_at hl 5 rfl) ?_
      refine lv_bipush (v := 64) hx hb dX1_get_28 (by decide) ?_
      refine lv_icmp_ge (tgt := 57) hx hb dX1_get_30 (by decide) (fun c_7 => ?_) (fun c_7 => ?_)
      · have h := ip (c_7) h
        exact b_X1_get_57 X hE  hF hL  h  hS (lv_sub hl [3, 4] rfl)
      · have h := im (c_7) h
        refine lv_lload hx hb dX1_get_33 (lv_at hl 4 rfl) ?_
        refine lv_bipush (v := 8) hx hb dX1_get_35 (by decide) ?_
        refine lv_lshl (v := l4 <<< ((8 : Int32).toInt64 &&& 63)) hx hb dX1_get_37 rfl ?_
        refine lv_aload_n hx hb dX1_get_38 rfl (lv_at hl 0 rfl) ?_
        refine cg_X1_11 X hS dX1_get_39 ?_
        refine lv_iload_n hx hb dX1_get_42 rfl (lv_at hl 1 rfl) ?_
        obtain ⟨i_8, h⟩ := ix_of h
        refine cq_rows X hS i_8 dX1_get_43 ?_
        refine lv_iload hx hb dX1_get_44 (lv_at hl 5 rfl) ?_
        obtain ⟨v_10, e_v_10, i_9, h⟩ := rd_of h
        refine ca_i X (vpin_lt i_8) hS i_9 e_v_10 dX1_get_46 ?_
        refine lv_i2l (v := v_10.toInt64) hx hb dX1_get_47 rfl ?_
        refine lv_lor hx hb dX1_get_48 ?_
        refine lv_lstore (lv' := [(4, .long ((l4 <<< ((8 : Int32).toInt64 &&& 63)) ||| v_10.toInt64)), (0, .ref (Z 209)), (1, .int l1), (2, .int l2), (3, .int l3), (6, .int l6)]) hx hb dX1_get_49 hl (by decide) rfl (fun ls hl => ?_)
        refine lv_iinc (v := l6 + 1) (lv' := [(6, .int (l6 + 1)), (4, .long ((l4 <<< ((8 : Int32).toInt64 &&& 63)) ||| v_10.toInt64)), (0, .ref (Z 209)), (1, .int l1), (2, .int l2), (3, .int l3)]) hx hb dX1_get_51 hl (k := 5) rfl rfl (by decide) rfl (fun ls hl => ?_)
        refine lv_goto (tgt := 6) hx hb dX1_get_54 (by decide) ?_
        exact hR_6 _ _ _ _ _ _  h _ _ _ hS (lv_sub hl [2, 3, 4, 5, 1, 0] rfl)
def LP_X1_get_6 (N : Nat) : Nat → Int32 × Int32 × Int32 × Int64 × Int32 × CSt → Option (Int64 × CSt) := lp (fun R a => B_X1_get_6 N R a.1 a.2.1 a.2.2.1 a.2.2.2.1 a.2.2.2.2.1 a.2.2.2.2.2)
theorem bl_X1_get_6 {r : Int64} (X : CC p s m args c cX1_get 7 (Cond.code yX1_get cX1_get 7 (some .long)) RX1 D kA V A) (hE : CEl p l e R s m args below meth c cX1_get D kA Z A Q r w) (hF : 1 ≤ R.frames) (hL : 22 ≤ R.locals)  : ∀ (n : Nat) (l1 : Int32) (l2 : Int32) (l3 : Int32) (l4 : Int64) (l6 : Int32) (u : CSt), LP_X1_get_6 N n (l1, l2, l3, l4, l6, u) = some (r, w) → ∀ (H : Heap) (locs : List Loc) (ls : Array Slot), CS D kA Z A s u H locs → lv_has ls 7 [(0, .ref (Z 209)), (1, .int l1), (2, .int l2), (3, .int l3), (4, .long l4), (6, .int l6)] → W p l e R s m args below meth c H locs 0 0 Q (F0 m 6 ls []) := by
  intro n
  induction n with
  | zero => intro l1 l2 l3 l4 l6 u h; exact nomatch h
  | succ n ih => intro l1 l2 l3 l4 l6 u h H locs ls hS hl; exact b_X1_get_6 (N := N) (R_6 := LP_X1_get_6 N n) X hE  hF hL  ih h  hS hl
def B_X1_get_0 (N : Nat) (l1 : Int32) (l2 : Int32) (l3 : Int32) (u : CSt) : Option (Int64 × CSt) := LP_X1_get_6 N N (l1, l2, l3, 0, l2, u)
set_option maxHeartbeats 4000000 in
theorem b_X1_get_0 {r : Int64} (X : CC p s m args c cX1_get 7 (Cond.code yX1_get cX1_get 7 (some .long)) RX1 D kA V A) (hE : CEl p l e R s m args below meth c cX1_get D kA Z A Q r w) (hF : 1 ≤ R.frames) (hL : 22 ≤ R.locals) {l1 : Int32} {l2 : Int32} {l3 : Int32} {u : CSt}  (h : B_X1_get_0 N l1 l2 l3 u = some (r, w))  (hS : CS D kA Z A s u H locs) (hl : lv_has ls 7 [(0, .ref (Z 209)), (1, .int l1), (2, .int l2), (3, .int l3)]) : W p l e R s m args below meth c H locs 0 0 Q (F0 m 0 ls []) := by
  obtain ⟨⟨hx, hb, hml, hown, hts⟩, hK, hEV, hA⟩ := id X
  have hG : ∀ w ∈ GW, w.before args s = true := fun w h => hts w (List.mem_cons_of_mem _ h)
  unfold B_X1_get_0 at h
  refine lv_lconst (v := 0) hx hb dX1_get_0 (by decide) ?_
  refine lv_lstore (lv' := [(4, .long 0), (0, .ref (Z 209)), (1, .int l1), (2, .int l2), (3, .int l3)]) hx hb dX1_get_1 hl (by decide) rfl (fun ls hl => ?_)
  refine lv_iload_n hx hb dX1_get_3 rfl (lv_at hl 3 rfl) ?_
  refine lv_istore (lv' := [(6, .int l2), (4, .long 0), (0, .ref (Z 209)), (1, .int l1), (2, .int l2), (3, .int l3)]) hx hb dX1_get_4 hl (by decide) rfl (fun ls hl => ?_)
  exact bl_X1_get_6 X hE  hF hL  _ _ _ _ _ _ _  h _ _ _ hS (lv_sub hl [2, 3, 4, 5, 1, 0] rfl)
def F_X1_get (N : Nat) (l1 : Int32) (l2 : Int32) (l3 : Int32) (u : CSt) : Option (Int64 × CSt) := B_X1_get_0 N l1 l2 l3 u
set_option maxHeartbeats 4000000 in
theorem k_X1_get (l : Launch) (D : va_G) (kA : Nat → ClassId) (V Z : Nat → Nat) (N : Nat) (l1 : Int32) (l2 : Int32) (l3 : Int32) (u : CSt) (sz : Nat) {r : Int64} {w : CSt} (h : F_X1_get N l1 l2 l3 u = some (r, w)) : Met l yX1_get (Cond.code yX1_get cX1_get 7 (some .long) :: GW) { frames := 1, cells := 0, slots := 0, locals := 22 } (cPc D kA V Z [.ref (Z 209), .int l1, .int l2, .int l3] u sz) (cQl D kA Z u sz r w) 0 0 (va_A (CW kA Z u) sz) := by
  refine Met.ofW (cc := cX1_get) (maxL := 7) (ret := (some .long)) (by decide) rfl ?_
  intro p e s m args below meth c s₁ Bd hml hv
  obtain ⟨rfl, hsz, hP, hK, hD0, hE⟩ := hv
  have hts := atoms_spec (ws := Cond.code yX1_get cX1_get 7 (some .long) :: GW) Bd.pre
  have hl := lv_entry ([.ref (Z 209), .int l1, .int l2, .int l3]) (n := 7) (Nat.le_of_ble_eq_true rfl)
  rw [lg_entry_eq]
  generalize (lg_sl ([.ref (Z 209), .int l1, .int l2, .int l3]) ++ List.replicate (7 - (lg_sl ([.ref (Z 209), .int l1, .int l2, .int l3])).length) Slot.unset).toArray = ls at hl ⊢
  have hl : lv_has ls 7 [(0, .ref (Z 209)), (1, .int l1), (2, .int l2), (3, .int l3)] := hl
  subst hsz
  have X : CC p s m ([.ref (Z 209), .int l1, .int l2, .int l3]).toArray c cX1_get 7 (Cond.code yX1_get cX1_get 7 (some .long)) RX1 D kA V (va_A (CW kA Z u) s.heap.size) := ⟨⟨Bd.exec, Bd.bytes, hml, findClass_of_methodNamed Bd.named, hts⟩, hK, hE, fun q h => Or.inr h⟩
  refine b_X1_get_0 X (cend_l X Bd.returns Bd.notSynchronized) (Nat.le_refl _) (Nat.le_refl _) h  ⟨hP, hD0.self, va_S.rf⟩ (lv_sub hl [0, 1, 2, 3] rfl)
theorem kc_X1_get_RX2 {cc : ByteArray} {pc nL : Nat} {c0 : Cond} {rest : List Value} {l1 : Int32} {l2 : Int32} {l3 : Int32} {u w1 : CSt} {r : Int64} (X : CC p s m args c cc nL c0 RX2 D kA V A)  (hS : CS D kA Z A s u H locs) (h : F_X1_get N l1 l2 l3 u = some (r, w1)) (hF : 1 + 1 ≤ R.frames) (hL : 8 + (7 + 11) + 22 ≤ R.locals) (hl : ls.size = nL) (hc : (rest.map fun v => v.category).sum ≤ 8) (hdg : decode cc pc = .ok (.invokevirtual 56, 3)) (kk : ∀ H locs, CS D kA Z A s w1 H locs → W p l e R s m args below meth c H locs 0 0 Q (F0 m (pc + 3) ls (.long r :: rest))) : W p l e R s m args below meth c H locs 0 0 Q (F0 m pc ls (.int l3 :: .int l2 :: .int l1 :: .ref (Z 209) :: rest)) :=
  ccall_l (n := 3) X hS (k_X1_get l D kA V Z N l1 l2 l3  u H.size h) (gw_V gw_1447 gw_1448 gw_1449 gw_8 gw_1450) (by decide +kernel) (va_recv X.2.1 hS.1 (ci := 1) (q0 := 9) rfl (cw_lit rfl)) hF hL rfl hl hc rfl hdg kk
def B_X1_set_13 (N : Nat) (R_13 : Int64 × Int32 × Int32 × CSt → Option (Int32 × CSt)) (l3 : Int64) (l5 : Int32) (l6 : Int32) (u : CSt) : Option (Int32 × CSt) := if l5 < (0 : Int32) then (some (0, u)) else (if l6 < (0 : Int32) then (some (0, u)) else (if (64 : Int32) ≤ l6 then (some (0, u)) else (ix 8 3 <| wc 64 l6 (xA u (211 + ((3 : Int32).toNatClampNeg)) l6.toNatClampNeg (((l3 >>> (l5.toInt64 &&& 63)).toInt32) &&& 255)) fun u_6 => R_13 (l3, (l5 + (-8)), (l6 + 1), u_6))))
set_option maxHeartbeats 4000000 in
theorem b_X1_set_13 {r : Int32} (X : CC p s m args c cX1_set 7 (Cond.code yX1_set cX1_set 7 none) RX1 D kA V A) (hE : CEv p l e R s m args below meth c cX1_set D kA Z A Q w) (hF : 0 ≤ R.frames) (hL : 0 ≤ R.locals) {R_13 : Int64 × Int32 × Int32 × CSt → Option (Int32 × CSt)} {l3 : Int64} {l5 : Int32} {l6 : Int32} {u : CSt} (hR_13 : ∀ (l3 : Int64) (l5 : Int32) (l6 : Int32) (u : CSt), R_13 (l3, l5, l6, u) = some (r, w) → ∀ (H : Heap) (locs : List Loc) (ls : Array Slot), CS D kA Z A s u H locs → lv_has ls 7 [(0, .ref (Z 209)), (3, .long l3), (5, .int l5), (6, .int l6)] → W p l e R s m args below meth c H locs 0 0 Q (F0 m 13 ls [])) (h : B_X1_set_13 N R_13 l3 l5 l6 u = some (r, w))  (hS : CS D kA Z A s u H locs) (hl : lv_has ls 7 [(0, .ref (Z 209)), (3, .long l3), (5, .int l5), (6, .int l6)]) : W p l e R s m args below meth c H locs 0 0 Q (F0 m 13 ls []) := by
  obtain ⟨⟨hx, hb, hml, hown, hts⟩, hK, hEV, hA⟩ := id X
  have hG : ∀ w ∈ GW, w.before args s = true := fun w h => hts w (List.mem_cons_of_mem _ h)
  unfold B_X1_set_13 at h
  refine lv_iload hx hb dX1_set_13 (lv_at hl 2 rfl) ?_
  refine lv_if_lt (tgt := 57) hx hb dX1_set_15 (by decide) (fun c_1 => ?_) (fun c_1 => ?_)
  · have h := ip (c_1) h
    obtain ⟨-, rfl⟩ := so9 h
    exact hE _ _ _ _ hS dX1_set_57
  · have h := im (c_1) h
    refine lv_iload hx hb dX1_set_18 (lv_at hl 3 rfl) ?_
    refine lv_if_lt (tgt := 57) hx hb dX1_set_20 (by decide) (fun c_2 => ?_) (fun c_2 => ?_)
    · have h := ip (c_2) h
      obtain ⟨-, rfl⟩ := so9 h
      exact hE _ _ _ _ hS dX1_set_57
    · have h := im (c_2) h
      refine lv_iload hx hb dX1_set_23 (lv_at hl 3 rfl) ?_
      refine lv_bipush (v := 64) hx hb dX1_set_25 (by decide) ?_
      refine lv_icmp_ge (tgt := 57) hx hb dX1_set_27 (by decide) (fun c_3 => ?_) (fun c_3 => ?_)
      · have h := ip (c_3) h
        obtain ⟨-, rfl⟩ := so9 h
        exact hE _ _ _ _ hS dX1_set_57
      · have h := im (c_3) h
        refine lv_aload_n hx hb dX1_set_30 rfl (lv_at hl 0 rfl) ?_
        refine cg_X1_11 X hS dX1_set_31 ?_
        refine lv_iconst (v := 3) hx hb dX1_set_34 (by decide) ?_
        obtain ⟨i_4, h⟩ := ix_of h
        refine cq_rows X hS i_4 dX1_set_35 ?_
        refine lv_iload hx hb dX1_set_36 (lv_at hl 3 rfl) ?_
        refine lv_lload_n hx hb dX1_set_38 rfl (lv_at hl 1 rfl) ?_
        refine lv_iload hx hb dX1_set_39 (lv_at hl 2 rfl) ?_
        refine lv_lshr (v := l3 >>> (l5.toInt64 &&& 63)) hx hb dX1_set_41 rfl ?_
        refine lv_l2i (v := (l3 >>> (l5.toInt64 &&& 63)).toInt32) hx hb dX1_set_42 rfl ?_
        refine lv_sipush (v := 255) hx hb dX1_set_43 (by decide) ?_
        refine lv_iand hx hb dX1_set_46 ?_
        obtain ⟨u_6, e_u_6, i_5, h⟩ := wc_of h
        refine cs_i X (vpin_lt i_4) hS i_5 e_u_6 dX1_set_47 (fun H locs hS => ?_)
        refine lv_iinc (v := l5 + (-8)) (lv' := [(5, .int (l5 + (-8))), (0, .ref (Z 209)), (3, .long l3), (6, .int l6)]) hx hb dX1_set_48 hl (k := 2) rfl rfl (by decide) rfl (fun ls hl => ?_)
        refine lv_iinc (v := l6 + 1) (lv' := [(6, .int (l6 + 1)), (5, .int (l5 + (-8))), (0, .ref (Z 209)), (3, .long l3)]) hx hb dX1_set_51 hl (k := 3) rfl rfl (by decide) rfl (fun ls hl => ?_)
        refine lv_goto (tgt := 13) hx hb dX1_set_54 (by decide) ?_
        exact hR_13 _ _ _ _  h _ _ _ hS (lv_sub hl [2, 3, 1, 0] rfl)
def LP_X1_set_13 (N : Nat) : Nat → Int64 × Int32 × Int32 × CSt → Option (Int32 × CSt) := lp (fun R a => B_X1_set_13 N R a.1 a.2.1 a.2.2.1 a.2.2.2)
theorem bl_X1_set_13 {r : Int32} (X : CC p s m args c cX1_set 7 (Cond.code yX1_set cX1_set 7 none) RX1 D kA V A) (hE : CEv p l e R s m args below meth c cX1_set D kA Z A Q w) (hF : 0 ≤ R.frames) (hL : 0 ≤ R.locals)  : ∀ (n : Nat) (l3 : Int64) (l5 : Int32) (l6 : Int32) (u : CSt), LP_X1_set_13 N n (l3, l5, l6, u) = some (r, w) → ∀ (H : Heap) (locs : List Loc) (ls : Array Slot), CS D kA Z A s u H locs → lv_has ls 7 [(0, .ref (Z 209)), (3, .long l3), (5, .int l5), (6, .int l6)] → W p l e R s m args below meth c H locs 0 0 Q (F0 m 13 ls []) := by
  intro n
  induction n with
  | zero => intro l3 l5 l6 u h; exact nomatch h
  | succ n ih => intro l3 l5 l6 u h H locs ls hS hl; exact b_X1_set_13 (N := N) (R_13 := LP_X1_set_13 N n) X hE  hF hL  ih h  hS hl
def B_X1_set_0 (N : Nat) (l1 : Int32) (l2 : Int32) (l3 : Int64) (u : CSt) : Option (Int32 × CSt) := rd (fun j => bt_0.getD j 0) 5 l2 fun v_7 => LP_X1_set_13 N N (l3, (v_7 - 8), l1, u)
set_option maxHeartbeats 4000000 in
theorem b_X1_set_0 {r : Int32} (X : CC p s m args c cX1_set 7 (Cond.code yX1_set cX1_set 7 none) RX1 D kA V A) (hE : CEv p l e R s m args below meth c cX1_set D kA Z A Q w) (hF : 0 ≤ R.frames) (hL : 0 ≤ R.locals) {l1 : Int32} {l2 : Int32} {l3 : Int64} {u : CSt}  (h : B_X1_set_0 N l1 l2 l3 u = some (r, w))  (hS : CS D kA Z A s u H locs) (hl : lv_has ls 7 [(0, .ref (Z 209)), (1, .int l1), (2, .int l2), (3, .long l3)]) : W p l e R s m args below meth c H locs 0 0 Q (F0 m 0 ls []) := by
  obtain ⟨⟨hx, hb, hml, hown, hts⟩, hK, hEV, hA⟩ := id X
  have hG : ∀ w ∈ GW, w.before args s = true := fun w h => hts w (List.mem_cons_of_mem _ h)
  unfold B_X1_set_0 at h
  refine va_getsN hx hb hEV.2.2.2.2.2.2.2.2.2.2.2.2.2.2.2.2.2.2.1.1 hS.2.2 hown (va_Nw.use rfl (hEV.1 _ nw_1451)) (fun _ h9 => h9) dX1_set_0 ?_
  refine lv_iload_n hx hb dX1_set_3 rfl (lv_at hl 2 rfl) ?_
  obtain ⟨v_7, e_v_7, i_8, h⟩ := rd_of h
  refine va_ti hx hb hEV.2.2.2.2.2.2.2.2.2.2.2.2.2.2.2.2.2.2.1.2 hS.2.2 i_8 rfl dX1_set_4 ?_
  rw [e_v_7]
  refine lv_bipush (v := 8) hx hb dX1_set_5 (by decide) ?_
  refine lv_isub hx hb dX1_set_7 ?_
  refine lv_istore (lv' := [(5, .int (v_7 - 8)), (0, .ref (Z 209)), (1, .int l1), (2, .int l2), (3, .long l3)]) hx hb dX1_set_8 hl (by decide) rfl (fun ls hl => ?_)
  refine lv_iload_n hx hb dX1_set_10 rfl (lv_at hl 2 rfl) ?_
  refine lv_istore (lv' := [(6, .int l1), (5, .int (v_7 - 8)), (0, .ref (Z 209)), (1, .int l1), (2, .int l2), (3, .long l3)]) hx hb dX1_set_11 hl (by decide) rfl (fun ls hl => ?_)
  exact bl_X1_set_13 X hE  hF hL  _ _ _ _ _  h _ _ _ hS (lv_sub hl [2, 5, 1, 0] rfl)
def F_X1_set (N : Nat) (l1 : Int32) (l2 : Int32) (l3 : Int64) (u : CSt) : Option (Int32 × CSt) := B_X1_set_0 N l1 l2 l3 u
set_option maxHeartbeats 4000000 in
theorem k_X1_set (l : Launch) (D : va_G) (kA : Nat → ClassId) (V Z : Nat → Nat) (N : Nat) (l1 : Int32) (l2 : Int32) (l3 : Int64) (u : CSt) (sz : Nat) {r : Int32} {w : CSt} (h : F_X1_set N l1 l2 l3 u = some (r, w)) : Met l yX1_set (Cond.code yX1_set cX1_set 7 none :: GW) { frames := 0, cells := 0, slots := 0, locals := 0 } (cPc D kA V Z [.ref (Z 209), .int l1, .int l2, .long l3] u sz) (cQv D kA Z u sz w) 0 0 (va_A (CW kA Z u) sz) := by
  refine Met.ofW (cc := cX1_set) (maxL := 7) (ret := none) (by decide) rfl ?_
  intro p e s m args below meth c s₁ Bd hml hv
  obtain ⟨rfl, hsz, hP, hK, hD0, hE⟩ := hv
  have hts := atoms_spec (ws := Cond.code yX1_set cX1_set 7 none :: GW) Bd.pre
  have hl := lv_entry ([.ref (Z 209), .int l1, .int l2, .long l3]) (n := 7) (Nat.le_of_ble_eq_true rfl)
  rw [lg_entry_eq]
  generalize (lg_sl ([.ref (Z 209), .int l1, .int l2, .long l3]) ++ List.replicate (7 - (lg_sl ([.ref (Z 209), .int l1, .int l2, .long l3])).length) Slot.unset).toArray = ls at hl ⊢
  have hl : lv_has ls 7 [(0, .ref (Z 209)), (1, .int l1), (2, .int l2), (3, .long l3)] := hl
  subst hsz
  have X : CC p s m ([.ref (Z 209), .int l1, .int l2, .long l3]).toArray c cX1_set 7 (Cond.code yX1_set cX1_set 7 none) RX1 D kA V (va_A (CW kA Z u) s.heap.size) := ⟨⟨Bd.exec, Bd.bytes, hml, findClass_of_methodNamed Bd.named, hts⟩, hK, hE, fun q h => Or.inr h⟩
  refine b_X1_set_0 X (cend_v X Bd.returns Bd.notSynchronized) (Nat.le_refl _) (Nat.le_refl _) h  ⟨hP, hD0.self, va_S.rf⟩ (lv_sub hl [0, 1, 2, 3] rfl)
theorem kc_X1_set_RX2 {cc : ByteArray} {pc nL : Nat} {c0 : Cond} {rest : List Value} {l1 : Int32} {l2 : Int32} {l3 : Int64} {u w1 : CSt} {r : Int32} (X : CC p s m args c cc nL c0 RX2 D kA V A)  (hS : CS D kA Z A s u H locs) (h : F_X1_set N l1 l2 l3 u = some (r, w1)) (hF : 0 + 1 ≤ R.frames) (hL : 8 + (7 + 11) + 0 ≤ R.locals) (hl : ls.size = nL) (hc : (rest.map fun v => v.category).sum ≤ 8) (hdg : decode cc pc = .ok (.invokevirtual 66, 3)) (kk : ∀ H locs, CS D kA Z A s w1 H locs → W p l e R s m args below meth c H locs 0 0 Q (F0 m (pc + 3) ls (rest))) : W p l e R s m args below meth c H locs 0 0 Q (F0 m pc ls (.long l3 :: .int l2 :: .int l1 :: .ref (Z 209) :: rest)) :=
  ccall_v (n := 3) X hS (k_X1_set l D kA V Z N l1 l2 l3  u H.size h) (gw_V gw_1524 gw_1525 gw_1526 gw_8 gw_1527) (by decide +kernel) (va_recv X.2.1 hS.1 (ci := 1) (q0 := 9) rfl (cw_lit rfl)) hF hL rfl hl hc rfl hdg kk
end C35images
