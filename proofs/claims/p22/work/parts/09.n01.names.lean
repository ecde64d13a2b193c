theorem goodIn_r {big : List Cond} (ws : List Cond) (ps : List Nat) (hp : ws = ps.filterMap (fun i => big[i]?)) (h : ws.all goodWord = true) : GoodIn big ws := by
  intro w hw
  have h1 := List.all_eq_true.mp h w hw
  rw [hp] at hw
  obtain ⟨i, -, hi⟩ := List.mem_filterMap.mp hw
  have hm : w ∈ big := by first | exact List.mem_of_getElem? hi | exact List.getElem?_mem hi
  exact ⟨hm, good_of_word h1⟩
theorem goodIn_app {big a b : List Cond} (ha : GoodIn big a) (hb : GoodIn big b) : GoodIn big (a ++ b) := fun w h => (List.mem_append.mp h).elim (ha w) (hb w)
theorem goodIn_ca {big a b : List Cond} {c : Cond} (ha : GoodIn big (c :: a)) (hb : GoodIn big b) : GoodIn big (c :: (a ++ b)) := fun w h => (List.mem_cons.mp h).elim (fun e => ha w (List.mem_cons.mpr (Or.inl e))) (fun h => (List.mem_append.mp h).elim (fun h => ha w (List.mem_cons.mpr (Or.inr h))) (hb w))
theorem goodIn_sub {big ws : List Cond} (hm : ∀ w ∈ ws, w ∈ big) (h : ws.all goodWord = true) : GoodIn big ws := fun w hw => ⟨hm w hw, good_of_word (List.all_eq_true.mp h w hw)⟩
def RX5 : String := "SoftController$Numbers"
abbrev cX5_isKind : ByteArray := prog_7_method_2_code
def yX5_isKind : MethodName := ⟨RX5, "isKind", "(I)Z"⟩
def wsX5_isKind : List Cond := .code yX5_isKind cX5_isKind 1 (some .boolean) :: ([])
theorem dX5_isKind_0 : decode cX5_isKind 0 = .ok (.iload_n 0, 1) := by decide +kernel
theorem dX5_isKind_1 : decode cX5_isKind 1 = .ok (.ifCond .lt 12, 3) := by decide +kernel
theorem dX5_isKind_4 : decode cX5_isKind 4 = .ok (.iload_n 0, 1) := by decide +kernel
theorem dX5_isKind_5 : decode cX5_isKind 5 = .ok (.iconst 4, 1) := by decide +kernel
theorem dX5_isKind_6 : decode cX5_isKind 6 = .ok (.if_icmp .gt 7, 3) := by decide +kernel
theorem dX5_isKind_9 : decode cX5_isKind 9 = .ok (.iconst 1, 1) := by decide +kernel
theorem dX5_isKind_10 : decode cX5_isKind 10 = .ok (.goto 4, 3) := by decide +kernel
theorem dX5_isKind_13 : decode cX5_isKind 13 = .ok (.iconst 0, 1) := by decide +kernel
theorem dX5_isKind_14 : decode cX5_isKind 14 = .ok (.ireturn, 1) := by decide +kernel
abbrev cX5_cutTo : ByteArray := prog_7_method_3_code
def yX5_cutTo : MethodName := ⟨RX5, "cutTo", "(IJ)J"⟩
def wsX5_cutTo : List Cond := .code yX5_cutTo cX5_cutTo 3 (some .long) :: ([.constantLong RX5 9 (65535)])
theorem dX5_cutTo_0 : decode cX5_cutTo 0 = .ok (.iload_n 0, 1) := by decide +kernel
theorem dX5_cutTo_1 : decode cX5_cutTo 1 = .ok (.tableswitch 51 0 3 #[31, 36, 41, 47], 31) := by decide +kernel
theorem dX5_cutTo_32 : decode cX5_cutTo 32 = .ok (.lload_n 1, 1) := by decide +kernel
theorem dX5_cutTo_33 : decode cX5_cutTo 33 = .ok (.l2i, 1) := by decide +kernel
theorem dX5_cutTo_34 : decode cX5_cutTo 34 = .ok (.i2b, 1) := by decide +kernel
theorem dX5_cutTo_35 : decode cX5_cutTo 35 = .ok (.i2l, 1) := by decide +kernel
theorem dX5_cutTo_36 : decode cX5_cutTo 36 = .ok (.lreturn, 1) := by decide +kernel
theorem dX5_cutTo_37 : decode cX5_cutTo 37 = .ok (.lload_n 1, 1) := by decide +kernel
theorem dX5_cutTo_38 : decode cX5_cutTo 38 = .ok (.l2i, 1) := by decide +kernel
theorem dX5_cutTo_39 : decode cX5_cutTo 39 = .ok (.i2s, 1) := by decide +kernel
theorem dX5_cutTo_40 : decode cX5_cutTo 40 = .ok (.i2l, 1) := by decide +kernel
theorem dX5_cutTo_41 : decode cX5_cutTo 41 = .ok (.lreturn, 1) := by decide +kernel
theorem dX5_cutTo_42 : decode cX5_cutTo 42 = .ok (.lload_n 1, 1) := by decide +kernel
theorem dX5_cutTo_43 : decode cX5_cutTo 43 = .ok (.ldc2_w 9, 3) := by decide +kernel
theorem dX5_cutTo_46 : decode cX5_cutTo 46 = .ok (.land, 1) := by decide +kernel
theorem dX5_cutTo_47 : decode cX5_cutTo 47 = .ok (.lreturn, 1) := by decide +kernel
theorem dX5_cutTo_48 : decode cX5_cutTo 48 = .ok (.lload_n 1, 1) := by decide +kernel
theorem dX5_cutTo_49 : decode cX5_cutTo 49 = .ok (.l2i, 1) := by decide +kernel
theorem dX5_cutTo_50 : decode cX5_cutTo 50 = .ok (.i2l, 1) := by decide +kernel
theorem dX5_cutTo_51 : decode cX5_cutTo 51 = .ok (.lreturn, 1) := by decide +kernel
theorem dX5_cutTo_52 : decode cX5_cutTo 52 = .ok (.lload_n 1, 1) := by decide +kernel
theorem dX5_cutTo_53 : decode cX5_cutTo 53 = .ok (.lreturn, 1) := by decide +kernel
abbrev cX5_fits : ByteArray := prog_7_method_4_code
def yX5_fits : MethodName := ⟨RX5, "fits", "(IJ)Z"⟩
def wsX5_fits : List Cond := .code yX5_fits cX5_fits 3 (some .boolean) :: ([.methodLink RX5 11 yX5_cutTo, .static yX5_cutTo, .initialized RX5, .code yX5_cutTo cX5_cutTo 3 (some .long), .constantLong RX5 9 (65535)])
theorem dX5_fits_0 : decode cX5_fits 0 = .ok (.iload_n 0, 1) := by decide +kernel
theorem dX5_fits_1 : decode cX5_fits 1 = .ok (.lload_n 1, 1) := by decide +kernel
theorem dX5_fits_2 : decode cX5_fits 2 = .ok (.invokestatic 11, 3) := by decide +kernel
theorem dX5_fits_5 : decode cX5_fits 5 = .ok (.lload_n 1, 1) := by decide +kernel
theorem dX5_fits_6 : decode cX5_fits 6 = .ok (.lcmp, 1) := by decide +kernel
theorem dX5_fits_7 : decode cX5_fits 7 = .ok (.ifCond .ne 7, 3) := by decide +kernel
theorem dX5_fits_10 : decode cX5_fits 10 = .ok (.iconst 1, 1) := by decide +kernel
theorem dX5_fits_11 : decode cX5_fits 11 = .ok (.goto 4, 3) := by decide +kernel
theorem dX5_fits_14 : decode cX5_fits 14 = .ok (.iconst 0, 1) := by decide +kernel
theorem dX5_fits_15 : decode cX5_fits 15 = .ok (.ireturn, 1) := by decide +kernel
abbrev cX5_hasRoom : ByteArray := prog_7_method_5_code
def yX5_hasRoom : MethodName := ⟨RX5, "hasRoom", "(II)Z"⟩
def wsX5_hasRoom : List Cond := .code yX5_hasRoom cX5_hasRoom 2 (some .boolean) :: ([])
theorem dX5_hasRoom_0 : decode cX5_hasRoom 0 = .ok (.iload_n 0, 1) := by decide +kernel
theorem dX5_hasRoom_1 : decode cX5_hasRoom 1 = .ok (.iload_n 1, 1) := by decide +kernel
theorem dX5_hasRoom_2 : decode cX5_hasRoom 2 = .ok (.if_icmp .eq 27, 3) := by decide +kernel
theorem dX5_hasRoom_5 : decode cX5_hasRoom 5 = .ok (.iload_n 1, 1) := by decide +kernel
theorem dX5_hasRoom_6 : decode cX5_hasRoom 6 = .ok (.iconst 4, 1) := by decide +kernel
theorem dX5_hasRoom_7 : decode cX5_hasRoom 7 = .ok (.if_icmp .eq 22, 3) := by decide +kernel
theorem dX5_hasRoom_10 : decode cX5_hasRoom 10 = .ok (.iload_n 1, 1) := by decide +kernel
theorem dX5_hasRoom_11 : decode cX5_hasRoom 11 = .ok (.iconst 3, 1) := by decide +kernel
theorem dX5_hasRoom_12 : decode cX5_hasRoom 12 = .ok (.if_icmp .ne 8, 3) := by decide +kernel
theorem dX5_hasRoom_15 : decode cX5_hasRoom 15 = .ok (.iload_n 0, 1) := by decide +kernel
theorem dX5_hasRoom_16 : decode cX5_hasRoom 16 = .ok (.iconst 4, 1) := by decide +kernel
theorem dX5_hasRoom_17 : decode cX5_hasRoom 17 = .ok (.if_icmp .ne 12, 3) := by decide +kernel
theorem dX5_hasRoom_20 : decode cX5_hasRoom 20 = .ok (.iload_n 1, 1) := by decide +kernel
theorem dX5_hasRoom_21 : decode cX5_hasRoom 21 = .ok (.iconst 1, 1) := by decide +kernel
theorem dX5_hasRoom_22 : decode cX5_hasRoom 22 = .ok (.if_icmp .ne 11, 3) := by decide +kernel
theorem dX5_hasRoom_25 : decode cX5_hasRoom 25 = .ok (.iload_n 0, 1) := by decide +kernel
theorem dX5_hasRoom_26 : decode cX5_hasRoom 26 = .ok (.ifCond .ne 7, 3) := by decide +kernel
theorem dX5_hasRoom_29 : decode cX5_hasRoom 29 = .ok (.iconst 1, 1) := by decide +kernel
theorem dX5_hasRoom_30 : decode cX5_hasRoom 30 = .ok (.goto 4, 3) := by decide +kernel
theorem dX5_hasRoom_33 : decode cX5_hasRoom 33 = .ok (.iconst 0, 1) := by decide +kernel
theorem dX5_hasRoom_34 : decode cX5_hasRoom 34 = .ok (.ireturn, 1) := by decide +kernel
abbrev cX5_workedAs : ByteArray := prog_7_method_6_code
def yX5_workedAs : MethodName := ⟨RX5, "workedAs", "(II)I"⟩
def wsX5_workedAs : List Cond := .code yX5_workedAs cX5_workedAs 2 (some .int) :: ([])
theorem dX5_workedAs_0 : decode cX5_workedAs 0 = .ok (.iload_n 0, 1) := by decide +kernel
theorem dX5_workedAs_1 : decode cX5_workedAs 1 = .ok (.iconst 4, 1) := by decide +kernel
theorem dX5_workedAs_2 : decode cX5_workedAs 2 = .ok (.if_icmp .eq 8, 3) := by decide +kernel
theorem dX5_workedAs_5 : decode cX5_workedAs 5 = .ok (.iload_n 1, 1) := by decide +kernel
theorem dX5_workedAs_6 : decode cX5_workedAs 6 = .ok (.iconst 4, 1) := by decide +kernel
theorem dX5_workedAs_7 : decode cX5_workedAs 7 = .ok (.if_icmp .ne 7, 3) := by decide +kernel
theorem dX5_workedAs_10 : decode cX5_workedAs 10 = .ok (.iconst 4, 1) := by decide +kernel
theorem dX5_workedAs_11 : decode cX5_workedAs 11 = .ok (.goto 4, 3) := by decide +kernel
theorem dX5_workedAs_14 : decode cX5_workedAs 14 = .ok (.iconst 3, 1) := by decide +kernel
theorem dX5_workedAs_15 : decode cX5_workedAs 15 = .ok (.ireturn, 1) := by decide +kernel
abbrev cX5_divides : ByteArray := prog_7_method_8_code
def yX5_divides : MethodName := ⟨RX5, "divides", "(I)Z"⟩
def wsX5_divides : List Cond := .code yX5_divides cX5_divides 1 (some .boolean) :: ([])
theorem dX5_divides_0 : decode cX5_divides 0 = .ok (.iload_n 0, 1) := by decide +kernel
theorem dX5_divides_1 : decode cX5_divides 1 = .ok (.iconst 3, 1) := by decide +kernel
theorem dX5_divides_2 : decode cX5_divides 2 = .ok (.if_icmp .eq 8, 3) := by decide +kernel
theorem dX5_divides_5 : decode cX5_divides 5 = .ok (.iload_n 0, 1) := by decide +kernel
theorem dX5_divides_6 : decode cX5_divides 6 = .ok (.iconst 4, 1) := by decide +kernel
theorem dX5_divides_7 : decode cX5_divides 7 = .ok (.if_icmp .ne 7, 3) := by decide +kernel
theorem dX5_divides_10 : decode cX5_divides 10 = .ok (.iconst 1, 1) := by decide +kernel
theorem dX5_divides_11 : decode cX5_divides 11 = .ok (.goto 4, 3) := by decide +kernel
theorem dX5_divides_14 : decode cX5_divides 14 = .ok (.iconst 0, 1) := by decide +kernel
theorem dX5_divides_15 : decode cX5_divides 15 = .ok (.ireturn, 1) := by decide +kernel
abbrev cX5_isWide : ByteArray := prog_7_method_9_code
def yX5_isWide : MethodName := ⟨RX5, "isWide", "(III)Z"⟩
def wsX5_isWide : List Cond := .code yX5_isWide cX5_isWide 3 (some .boolean) :: ([])
theorem dX5_isWide_0 : decode cX5_isWide 0 = .ok (.iload_n 1, 1) := by decide +kernel
theorem dX5_isWide_1 : decode cX5_isWide 1 = .ok (.iconst 4, 1) := by decide +kernel
theorem dX5_isWide_2 : decode cX5_isWide 2 = .ok (.if_icmp .eq 14, 3) := by decide +kernel
theorem dX5_isWide_5 : decode cX5_isWide 5 = .ok (.iload_n 0, 1) := by decide +kernel
theorem dX5_isWide_6 : decode cX5_isWide 6 = .ok (.bipush 8, 2) := by decide +kernel
theorem dX5_isWide_8 : decode cX5_isWide 8 = .ok (.if_icmp .ge 12, 3) := by decide +kernel
theorem dX5_isWide_11 : decode cX5_isWide 11 = .ok (.iload_n 2, 1) := by decide +kernel
theorem dX5_isWide_12 : decode cX5_isWide 12 = .ok (.iconst 4, 1) := by decide +kernel
theorem dX5_isWide_13 : decode cX5_isWide 13 = .ok (.if_icmp .ne 7, 3) := by decide +kernel
theorem dX5_isWide_16 : decode cX5_isWide 16 = .ok (.iconst 1, 1) := by decide +kernel
theorem dX5_isWide_17 : decode cX5_isWide 17 = .ok (.goto 4, 3) := by decide +kernel
theorem dX5_isWide_20 : decode cX5_isWide 20 = .ok (.iconst 0, 1) := by decide +kernel
theorem dX5_isWide_21 : decode cX5_isWide 21 = .ok (.ireturn, 1) := by decide +kernel
abbrev cX5_wideShift : ByteArray := prog_7_method_11_code
def yX5_wideShift : MethodName := ⟨RX5, "wideShift", "(IJJ)J"⟩
def wsX5_wideShift : List Cond := .code yX5_wideShift cX5_wideShift 6 (some .long) :: ([])
theorem dX5_wideShift_0 : decode cX5_wideShift 0 = .ok (.lload_n 3, 1) := by decide +kernel
theorem dX5_wideShift_1 : decode cX5_wideShift 1 = .ok (.l2i, 1) := by decide +kernel
theorem dX5_wideShift_2 : decode cX5_wideShift 2 = .ok (.bipush 63, 2) := by decide +kernel
theorem dX5_wideShift_4 : decode cX5_wideShift 4 = .ok (.iand, 1) := by decide +kernel
theorem dX5_wideShift_5 : decode cX5_wideShift 5 = .ok (.istore 5, 2) := by decide +kernel
theorem dX5_wideShift_7 : decode cX5_wideShift 7 = .ok (.iload_n 0, 1) := by decide +kernel
theorem dX5_wideShift_8 : decode cX5_wideShift 8 = .ok (.bipush 8, 2) := by decide +kernel
theorem dX5_wideShift_10 : decode cX5_wideShift 10 = .ok (.if_icmp .ne 10, 3) := by decide +kernel
theorem dX5_wideShift_13 : decode cX5_wideShift 13 = .ok (.lload_n 1, 1) := by decide +kernel
theorem dX5_wideShift_14 : decode cX5_wideShift 14 = .ok (.iload 5, 2) := by decide +kernel
theorem dX5_wideShift_16 : decode cX5_wideShift 16 = .ok (.lshl, 1) := by decide +kernel
theorem dX5_wideShift_17 : decode cX5_wideShift 17 = .ok (.goto 20, 3) := by decide +kernel
theorem dX5_wideShift_20 : decode cX5_wideShift 20 = .ok (.iload_n 0, 1) := by decide +kernel
theorem dX5_wideShift_21 : decode cX5_wideShift 21 = .ok (.bipush 10, 2) := by decide +kernel
theorem dX5_wideShift_23 : decode cX5_wideShift 23 = .ok (.if_icmp .ne 10, 3) := by decide +kernel
theorem dX5_wideShift_26 : decode cX5_wideShift 26 = .ok (.lload_n 1, 1) := by decide +kernel
theorem dX5_wideShift_27 : decode cX5_wideShift 27 = .ok (.iload 5, 2) := by decide +kernel
theorem dX5_wideShift_29 : decode cX5_wideShift 29 = .ok (.lushr, 1) := by decide +kernel
theorem dX5_wideShift_30 : decode cX5_wideShift 30 = .ok (.goto 7, 3) := by decide +kernel
theorem dX5_wideShift_33 : decode cX5_wideShift 33 = .ok (.lload_n 1, 1) := by decide +kernel
theorem dX5_wideShift_34 : decode cX5_wideShift 34 = .ok (.iload 5, 2) := by decide +kernel
theorem dX5_wideShift_36 : decode cX5_wideShift 36 = .ok (.lshr, 1) := by decide +kernel
theorem dX5_wideShift_37 : decode cX5_wideShift 37 = .ok (.lreturn, 1) := by decide +kernel
abbrev cX5_shift : ByteArray := prog_7_method_12_code
def yX5_shift : MethodName := ⟨RX5, "shift", "(III)I"⟩
def wsX5_shift : List Cond := .code yX5_shift cX5_shift 4 (some .int) :: ([])
theorem dX5_shift_0 : decode cX5_shift 0 = .ok (.iload_n 2, 1) := by decide +kernel
theorem dX5_shift_1 : decode cX5_shift 1 = .ok (.bipush 31, 2) := by decide +kernel
theorem dX5_shift_3 : decode cX5_shift 3 = .ok (.iand, 1) := by decide +kernel
theorem dX5_shift_4 : decode cX5_shift 4 = .ok (.istore_n 3, 1) := by decide +kernel
theorem dX5_shift_5 : decode cX5_shift 5 = .ok (.iload_n 0, 1) := by decide +kernel
theorem dX5_shift_6 : decode cX5_shift 6 = .ok (.bipush 8, 2) := by decide +kernel
theorem dX5_shift_8 : decode cX5_shift 8 = .ok (.if_icmp .ne 9, 3) := by decide +kernel
theorem dX5_shift_11 : decode cX5_shift 11 = .ok (.iload_n 1, 1) := by decide +kernel
theorem dX5_shift_12 : decode cX5_shift 12 = .ok (.iload_n 3, 1) := by decide +kernel
theorem dX5_shift_13 : decode cX5_shift 13 = .ok (.ishl, 1) := by decide +kernel
theorem dX5_shift_14 : decode cX5_shift 14 = .ok (.goto 18, 3) := by decide +kernel
theorem dX5_shift_17 : decode cX5_shift 17 = .ok (.iload_n 0, 1) := by decide +kernel
theorem dX5_shift_18 : decode cX5_shift 18 = .ok (.bipush 10, 2) := by decide +kernel
theorem dX5_shift_20 : decode cX5_shift 20 = .ok (.if_icmp .ne 9, 3) := by decide +kernel
theorem dX5_shift_23 : decode cX5_shift 23 = .ok (.iload_n 1, 1) := by decide +kernel
theorem dX5_shift_24 : decode cX5_shift 24 = .ok (.iload_n 3, 1) := by decide +kernel
theorem dX5_shift_25 : decode cX5_shift 25 = .ok (.iushr, 1) := by decide +kernel
theorem dX5_shift_26 : decode cX5_shift 26 = .ok (.goto 6, 3) := by decide +kernel
theorem dX5_shift_29 : decode cX5_shift 29 = .ok (.iload_n 1, 1) := by decide +kernel
theorem dX5_shift_30 : decode cX5_shift 30 = .ok (.iload_n 3, 1) := by decide +kernel
theorem dX5_shift_31 : decode cX5_shift 31 = .ok (.ishr, 1) := by decide +kernel
theorem dX5_shift_32 : decode cX5_shift 32 = .ok (.ireturn, 1) := by decide +kernel
abbrev cX5_combine : ByteArray := prog_7_method_10_code
def yX5_combine : MethodName := ⟨RX5, "combine", "(IZJJ)J"⟩
def wsX5_combine : List Cond := .code yX5_combine cX5_combine 8 (some .long) :: ([.methodLink RX5 17 yX5_wideShift, .static yX5_wideShift, .initialized RX5, .code yX5_wideShift cX5_wideShift 6 (some .long), .methodLink RX5 21 yX5_shift, .static yX5_shift, .code yX5_shift cX5_shift 4 (some .int)])
theorem dX5_combine_0 : decode cX5_combine 0 = .ok (.iload_n 0, 1) := by decide +kernel
theorem dX5_combine_1 : decode cX5_combine 1 = .ok (.tableswitch 141 0 7 #[47, 56, 65, 74, 94, 114, 123, 132], 47) := by decide +kernel
theorem dX5_combine_48 : decode cX5_combine 48 = .ok (.lload_n 2, 1) := by decide +kernel
theorem dX5_combine_49 : decode cX5_combine 49 = .ok (.lload 4, 2) := by decide +kernel
theorem dX5_combine_51 : decode cX5_combine 51 = .ok (.ladd, 1) := by decide +kernel
theorem dX5_combine_52 : decode cX5_combine 52 = .ok (.lstore 6, 2) := by decide +kernel
theorem dX5_combine_54 : decode cX5_combine 54 = .ok (.goto 114, 3) := by decide +kernel
theorem dX5_combine_57 : decode cX5_combine 57 = .ok (.lload_n 2, 1) := by decide +kernel
theorem dX5_combine_58 : decode cX5_combine 58 = .ok (.lload 4, 2) := by decide +kernel
theorem dX5_combine_60 : decode cX5_combine 60 = .ok (.lsub, 1) := by decide +kernel
theorem dX5_combine_61 : decode cX5_combine 61 = .ok (.lstore 6, 2) := by decide +kernel
theorem dX5_combine_63 : decode cX5_combine 63 = .ok (.goto 105, 3) := by decide +kernel
theorem dX5_combine_66 : decode cX5_combine 66 = .ok (.lload_n 2, 1) := by decide +kernel
theorem dX5_combine_67 : decode cX5_combine 67 = .ok (.lload 4, 2) := by decide +kernel
theorem dX5_combine_69 : decode cX5_combine 69 = .ok (.lmul, 1) := by decide +kernel
theorem dX5_combine_70 : decode cX5_combine 70 = .ok (.lstore 6, 2) := by decide +kernel
theorem dX5_combine_72 : decode cX5_combine 72 = .ok (.goto 96, 3) := by decide +kernel
theorem dX5_combine_75 : decode cX5_combine 75 = .ok (.lload 4, 2) := by decide +kernel
theorem dX5_combine_77 : decode cX5_combine 77 = .ok (.lconst 0, 1) := by decide +kernel
theorem dX5_combine_78 : decode cX5_combine 78 = .ok (.lcmp, 1) := by decide +kernel
theorem dX5_combine_79 : decode cX5_combine 79 = .ok (.ifCond .ne 7, 3) := by decide +kernel
theorem dX5_combine_82 : decode cX5_combine 82 = .ok (.lconst 0, 1) := by decide +kernel
theorem dX5_combine_83 : decode cX5_combine 83 = .ok (.goto 7, 3) := by decide +kernel
theorem dX5_combine_86 : decode cX5_combine 86 = .ok (.lload_n 2, 1) := by decide +kernel
theorem dX5_combine_87 : decode cX5_combine 87 = .ok (.lload 4, 2) := by decide +kernel
theorem dX5_combine_89 : decode cX5_combine 89 = .ok (.ldiv, 1) := by decide +kernel
theorem dX5_combine_90 : decode cX5_combine 90 = .ok (.lstore 6, 2) := by decide +kernel
theorem dX5_combine_92 : decode cX5_combine 92 = .ok (.goto 76, 3) := by decide +kernel
theorem dX5_combine_95 : decode cX5_combine 95 = .ok (.lload 4, 2) := by decide +kernel
theorem dX5_combine_97 : decode cX5_combine 97 = .ok (.lconst 0, 1) := by decide +kernel
theorem dX5_combine_98 : decode cX5_combine 98 = .ok (.lcmp, 1) := by decide +kernel
theorem dX5_combine_99 : decode cX5_combine 99 = .ok (.ifCond .ne 7, 3) := by decide +kernel
theorem dX5_combine_102 : decode cX5_combine 102 = .ok (.lconst 0, 1) := by decide +kernel
theorem dX5_combine_103 : decode cX5_combine 103 = .ok (.goto 7, 3) := by decide +kernel
theorem dX5_combine_106 : decode cX5_combine 106 = .ok (.lload_n 2, 1) := by decide +kernel
theorem dX5_combine_107 : decode cX5_combine 107 = .ok (.lload 4, 2) := by decide +kernel
theorem dX5_combine_109 : decode cX5_combine 109 = .ok (.lrem, 1) := by decide +kernel
theorem dX5_combine_110 : decode cX5_combine 110 = .ok (.lstore 6, 2) := by decide +kernel
theorem dX5_combine_112 : decode cX5_combine 112 = .ok (.goto 56, 3) := by decide +kernel
theorem dX5_combine_115 : decode cX5_combine 115 = .ok (.lload_n 2, 1) := by decide +kernel
theorem dX5_combine_116 : decode cX5_combine 116 = .ok (.lload 4, 2) := by decide +kernel
theorem dX5_combine_118 : decode cX5_combine 118 = .ok (.land, 1) := by decide +kernel
theorem dX5_combine_119 : decode cX5_combine 119 = .ok (.lstore 6, 2) := by decide +kernel
theorem dX5_combine_121 : decode cX5_combine 121 = .ok (.goto 47, 3) := by decide +kernel
theorem dX5_combine_124 : decode cX5_combine 124 = .ok (.lload_n 2, 1) := by decide +kernel
theorem dX5_combine_125 : decode cX5_combine 125 = .ok (.lload 4, 2) := by decide +kernel
theorem dX5_combine_127 : decode cX5_combine 127 = .ok (.lor, 1) := by decide +kernel
theorem dX5_combine_128 : decode cX5_combine 128 = .ok (.lstore 6, 2) := by decide +kernel
theorem dX5_combine_130 : decode cX5_combine 130 = .ok (.goto 38, 3) := by decide +kernel
theorem dX5_combine_133 : decode cX5_combine 133 = .ok (.lload_n 2, 1) := by decide +kernel
theorem dX5_combine_134 : decode cX5_combine 134 = .ok (.lload 4, 2) := by decide +kernel
theorem dX5_combine_136 : decode cX5_combine 136 = .ok (.lxor, 1) := by decide +kernel
theorem dX5_combine_137 : decode cX5_combine 137 = .ok (.lstore 6, 2) := by decide +kernel
theorem dX5_combine_139 : decode cX5_combine 139 = .ok (.goto 29, 3) := by decide +kernel
theorem dX5_combine_142 : decode cX5_combine 142 = .ok (.iload_n 1, 1) := by decide +kernel
theorem dX5_combine_143 : decode cX5_combine 143 = .ok (.ifCond .eq 13, 3) := by decide +kernel
theorem dX5_combine_146 : decode cX5_combine 146 = .ok (.iload_n 0, 1) := by decide +kernel
theorem dX5_combine_147 : decode cX5_combine 147 = .ok (.lload_n 2, 1) := by decide +kernel
theorem dX5_combine_148 : decode cX5_combine 148 = .ok (.lload 4, 2) := by decide +kernel
theorem dX5_combine_150 : decode cX5_combine 150 = .ok (.invokestatic 17, 3) := by decide +kernel
theorem dX5_combine_153 : decode cX5_combine 153 = .ok (.goto 13, 3) := by decide +kernel
theorem dX5_combine_156 : decode cX5_combine 156 = .ok (.iload_n 0, 1) := by decide +kernel
theorem dX5_combine_157 : decode cX5_combine 157 = .ok (.lload_n 2, 1) := by decide +kernel
theorem dX5_combine_158 : decode cX5_combine 158 = .ok (.l2i, 1) := by decide +kernel
theorem dX5_combine_159 : decode cX5_combine 159 = .ok (.lload 4, 2) := by decide +kernel
theorem dX5_combine_161 : decode cX5_combine 161 = .ok (.l2i, 1) := by decide +kernel
theorem dX5_combine_162 : decode cX5_combine 162 = .ok (.invokestatic 21, 3) := by decide +kernel
theorem dX5_combine_165 : decode cX5_combine 165 = .ok (.i2l, 1) := by decide +kernel
theorem dX5_combine_166 : decode cX5_combine 166 = .ok (.lstore 6, 2) := by decide +kernel
theorem dX5_combine_168 : decode cX5_combine 168 = .ok (.iload_n 1, 1) := by decide +kernel
theorem dX5_combine_169 : decode cX5_combine 169 = .ok (.ifCond .eq 8, 3) := by decide +kernel
theorem dX5_combine_172 : decode cX5_combine 172 = .ok (.lload 6, 2) := by decide +kernel
theorem dX5_combine_174 : decode cX5_combine 174 = .ok (.goto 7, 3) := by decide +kernel
theorem dX5_combine_177 : decode cX5_combine 177 = .ok (.lload 6, 2) := by decide +kernel
theorem dX5_combine_179 : decode cX5_combine 179 = .ok (.l2i, 1) := by decide +kernel
theorem dX5_combine_180 : decode cX5_combine 180 = .ok (.i2l, 1) := by decide +kernel
theorem dX5_combine_181 : decode cX5_combine 181 = .ok (.lreturn, 1) := by decide +kernel
abbrev cX5_turnWide : ByteArray := prog_7_method_15_code
def yX5_turnWide : MethodName := ⟨RX5, "turnWide", "(JI)J"⟩
def wsX5_turnWide : List Cond := .code yX5_turnWide cX5_turnWide 3 (some .long) :: ([])
theorem dX5_turnWide_0 : decode cX5_turnWide 0 = .ok (.lload_n 0, 1) := by decide +kernel
theorem dX5_turnWide_1 : decode cX5_turnWide 1 = .ok (.iload_n 2, 1) := by decide +kernel
theorem dX5_turnWide_2 : decode cX5_turnWide 2 = .ok (.lshl, 1) := by decide +kernel
theorem dX5_turnWide_3 : decode cX5_turnWide 3 = .ok (.lload_n 0, 1) := by decide +kernel
theorem dX5_turnWide_4 : decode cX5_turnWide 4 = .ok (.iload_n 2, 1) := by decide +kernel
theorem dX5_turnWide_5 : decode cX5_turnWide 5 = .ok (.ineg, 1) := by decide +kernel
theorem dX5_turnWide_6 : decode cX5_turnWide 6 = .ok (.lushr, 1) := by decide +kernel
theorem dX5_turnWide_7 : decode cX5_turnWide 7 = .ok (.lor, 1) := by decide +kernel
theorem dX5_turnWide_8 : decode cX5_turnWide 8 = .ok (.lreturn, 1) := by decide +kernel
abbrev cX5_turn : ByteArray := prog_7_method_16_code
def yX5_turn : MethodName := ⟨RX5, "turn", "(II)I"⟩
def wsX5_turn : List Cond := .code yX5_turn cX5_turn 2 (some .int) :: ([])
theorem dX5_turn_0 : decode cX5_turn 0 = .ok (.iload_n 0, 1) := by decide +kernel
theorem dX5_turn_1 : decode cX5_turn 1 = .ok (.iload_n 1, 1) := by decide +kernel
theorem dX5_turn_2 : decode cX5_turn 2 = .ok (.ishl, 1) := by decide +kernel
theorem dX5_turn_3 : decode cX5_turn 3 = .ok (.iload_n 0, 1) := by decide +kernel
theorem dX5_turn_4 : decode cX5_turn 4 = .ok (.iload_n 1, 1) := by decide +kernel
theorem dX5_turn_5 : decode cX5_turn 5 = .ok (.ineg, 1) := by decide +kernel
theorem dX5_turn_6 : decode cX5_turn 6 = .ok (.iushr, 1) := by decide +kernel
theorem dX5_turn_7 : decode cX5_turn 7 = .ok (.ior, 1) := by decide +kernel
theorem dX5_turn_8 : decode cX5_turn 8 = .ok (.ireturn, 1) := by decide +kernel
set_option maxRecDepth 20000 in
theorem ggX5_fits_X5_cutTo : GoodIn wsX5_fits wsX5_cutTo := goodIn_r _ [4, 5] (by decide +kernel) (by decide +kernel)
set_option maxRecDepth 20000 in
theorem gX5_fits_X5_cutTo : GoodIn wsX5_fits (va_wsS RX5 11 yX5_cutTo wsX5_cutTo) := goodIn_app (goodIn_of _ (by decide +kernel)) ggX5_fits_X5_cutTo
set_option maxRecDepth 20000 in
theorem ggX5_combine_X5_wideShift : GoodIn wsX5_combine wsX5_wideShift := goodIn_r _ [4] (by decide +kernel) (by decide +kernel)
set_option maxRecDepth 20000 in
theorem gX5_combine_X5_wideShift : GoodIn wsX5_combine (va_wsS RX5 17 yX5_wideShift wsX5_wideShift) := goodIn_app (goodIn_of _ (by decide +kernel)) ggX5_combine_X5_wideShift
set_option maxRecDepth 20000 in
theorem ggX5_combine_X5_shift : GoodIn wsX5_combine wsX5_shift := goodIn_r _ [7] (by decide +kernel) (by decide +kernel)
set_option maxRecDepth 20000 in
theorem gX5_combine_X5_shift : GoodIn wsX5_combine (va_wsS RX5 21 yX5_shift wsX5_shift) := goodIn_app (goodIn_of _ (by decide +kernel)) ggX5_combine_X5_shift
